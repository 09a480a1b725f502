section MTH
variable {p : Program} {l : Launch} {e : Env} {s : State} {m : MethodId} {args : Array Value} {below : List Frame} {meth : Method} {c : Code} {Q : State → Prop} {A : Nat → Prop} {D : va_G} {G : G_} {ws0 : va_W}
def qM_addWant (a : L_) (K : S_ → Prop) (r : S_) (p0 : Int32) (p1 : Int32) : Prop :=
  vp_in (fi r 31) (ln a 75) ∧ ∀ r2 : S_, r2 = sA r 75 (upd (ar r 75) (fi r 31).toNatClampNeg p0) → vp_in (fi r2 31) (ln a 76) ∧ ∀ r4 : S_, r4 = sA r2 76 (upd (ar r2 76) (fi r2 31).toNatClampNeg p1) → ∀ r5 : S_, r5 = sF r4 31 ((fi r4 31) + 1) → K r5
set_option maxRecDepth 100000 in
set_option maxHeartbeats 4000000 in
theorem cM_addWant {a : L_} {r : S_} {K : S_ → Prop} (p0 : Int32) (p1 : Int32) (h : qM_addWant a K r p0 p1) : vx_Mv l yM_addWant (Cond.code yM_addWant prog_9_method_31_code 3 none :: wAll) { frames := 0, cells := 0, slots := 0, locals := 0 } D vwCl (tysG G) nwAll (wo G a r) [.ref (ob G 7), .int p0, .int p1] 0 0 (fun w => ∃ r1, w = wo G a r1 ∧ K r1) := by
  unfold qM_addWant at h
  refine x_metv (cc := prog_9_method_31_code) (maxL := 3) (ret := none) (lv0 := [(0, .ref (ob G 7)), (1, .int p0), (2, .int p1)]) (by decide) rfl (Nat.le_of_ble_eq_true rfl) rfl ?_
  intro p e s m args below meth c A C hA hlocks hr
  refine x_aload_n C dM_addWant_0 rfl 0 rfl ?_
  refine gf_7_54 C (List.mem_cons_of_mem _ wm770) dM_addWant_1 ?_
  refine x_aload_n C dM_addWant_4 rfl 0 rfl ?_
  refine gf_7_53 C (List.mem_cons_of_mem _ wm769) dM_addWant_5 ?_
  refine x_iload_n C dM_addWant_8 rfl 1 rfl ?_
  obtain ⟨g1, h⟩ := h
  refine y_is C 75 (by decide) g1 dM_addWant_9 (fun r2 er2 => ?_)
  have h := h r2 er2
  refine x_aload_n C dM_addWant_10 rfl 0 rfl ?_
  refine gf_7_55 C (List.mem_cons_of_mem _ wm771) dM_addWant_11 ?_
  refine x_aload_n C dM_addWant_14 rfl 0 rfl ?_
  refine gf_7_53 C (List.mem_cons_of_mem _ wm769) dM_addWant_15 ?_
  refine x_iload_n C dM_addWant_18 rfl 2 rfl ?_
  obtain ⟨g3, h⟩ := h
  refine y_is C 76 (by decide) g3 dM_addWant_19 (fun r4 er4 => ?_)
  have h := h r4 er4
  refine x_aload_n C dM_addWant_20 rfl 0 rfl ?_
  refine x_dup C dM_addWant_21 rfl ?_
  refine gf_7_53 C (List.mem_cons_of_mem _ wm769) dM_addWant_22 ?_
  refine x_iconst (v := 1) C dM_addWant_25 (by decide) ?_
  refine x_iadd C dM_addWant_26 ?_
  refine pf_7_53 C (List.mem_cons_of_mem _ wm769) dM_addWant_27 (fun r5 er5 => ?_)
  have h := h r5 er5
  exact x_vret C hA hlocks hr ⟨r5, rfl, h⟩ dM_addWant_30
set_option maxRecDepth 100000 in
set_option maxHeartbeats 4000000 in
theorem kM_addWant {p : Program} {l : Launch} {e : Env} {R : Room} {s : State} {m : MethodId} {args : Array Value} {below : List Frame} {meth : Method} {c : Code} {cells slots : Nat} {Q : State → Prop} {A : Nat → Prop} {D : va_G} {nL pc : Nat} {cc : ByteArray} {cw : Cond} {own : String} {lv : List (Nat × Value)} {st : List Value} {G : G_} {a : L_} {r : S_} {K : S_ → Prop} {p0 : Int32} {p1 : Int32} (C : vx_C p s m args c cc nL (cw :: wAll) own D vwCl (tysG G) nwAll A) {i : Nat} (hl : Cond.methodLink own i yM_addWant ∈ wAll) (hR : 0 + 1 ≤ R.frames ∧ 8 + (3 + 11) + 0 ≤ R.locals) (hst : (st.map fun v => v.category).sum ≤ 8) (hd : decode cc pc = .ok (.invokevirtual i, 3)) (hcs : cells ≤ R.cells ∧ slots ≤ R.slots) (h : qM_addWant a K r p0 p1) (k : ∀ (r1 : S_), K r1 → vx_V p l e R s m args below meth c A D vwCl nL cells slots Q (wo G a r1) (pc + 3) lv st) : vx_V p l e R s m args below meth c A D vwCl nL cells slots Q (wo G a r) pc lv (.int p1 :: .int p0 :: .ref (ob G 7) :: st) := by
  refine x_callVv C (CC := "ClassInferenceModel") (ci := 7) (q0 := 7) (fs := fl7 G a r) (As := [.int p0, .int p1]) rfl rfl (cM_addWant p0 p1 h) (cwV (C := "ClassInferenceModel") 2 C.1.2.2.2.2 (goodV hl wm1053 wp49 wm9 wm1054) rfl rfl rfl (by decide +kernel) hR) rfl hst hd hcs (fun w hw => ?_)
  obtain ⟨r1, rfl, h⟩ := hw
  exact k r1 h
def qM_drive_L19 (a : L_) (KX77 : S_ → Int32 → Prop) : Nat → S_ → Int32 → Int32 → Prop
  | 0, _, _, _ => False
  | n + 1, r, v2, v3 => (((fi r 31) ≤ v3) → KX77 r v2) ∧ ((¬ (fi r 31) ≤ v3) → vp_in v3 (ln a 75) ∧ qM_find a r (fun z5 => vp_in z5 (ln a 70) ∧ vp_in v3 (ln a 76) ∧ vp_in z5 (ln a 70) ∧ ∀ r9 : S_, r9 = sA r 70 (upd (ar r 70) z5.toNatClampNeg ((ar r 70 z5.toNatClampNeg) ||| (ar r 76 v3.toNatClampNeg))) → vp_in v2 (ln a 72) ∧ ∀ r11 : S_, r11 = sA r9 72 (upd (ar r9 72) v2.toNatClampNeg z5) → (qM_drive_L19 a KX77 n) r11 (v2 + 1) (v3 + 1)) (ar r 75 v3.toNatClampNeg))
set_option maxRecDepth 100000 in
set_option maxHeartbeats 4000000 in
theorem tM_drive_L19 (C : vx_C p s m args c prog_9_method_32_code 9 (Cond.code yM_drive prog_9_method_32_code 9 none :: wAll) "ClassInferenceModel" D vwCl (tysG G) nwAll A) {a : L_} {KX77 : S_ → Int32 → Prop} (kX77 : ∀ (r : S_) (v2 : Int32), KX77 r v2 → vx_V p l e { frames := 1, cells := 0, slots := 0, locals := 22 } s m args below meth c A D vwCl 9 0 0 Q (wo G a r) 77 [(0, .ref (ob G 7)), (2, .int v2)] []) : ∀ (n : Nat) (r : S_) (v2 : Int32) (v3 : Int32), qM_drive_L19 a KX77 n r v2 v3 → vx_V p l e { frames := 1, cells := 0, slots := 0, locals := 22 } s m args below meth c A D vwCl 9 0 0 Q (wo G a r) 19 [(0, .ref (ob G 7)), (2, .int v2), (3, .int v3)] [] := by
  intro n
  induction n with
  | zero =>
    intro r v2 v3 h
    exact (by rw [qM_drive_L19] at h; exact h : False).elim
  | succ n kB19 =>
    intro r v2 v3 h
    rw [qM_drive_L19] at h
    refine x_iload_n C dM_drive_19 rfl 2 rfl ?_
    refine x_aload_n C dM_drive_20 rfl 0 rfl ?_
    refine gf_7_53 C (List.mem_cons_of_mem _ wm769) dM_drive_21 ?_
    refine x_icmp_ge (tgt := 77) C dM_drive_24 (by decide) (fun g3 => ?_) (fun g3 => ?_)
    · have h := h.1 g3
      refine x_sub [0, 1] rfl ?_
      exact kX77 r v2 h
    · have h := h.2 g3
      refine x_aload_n C dM_drive_27 rfl 0 rfl ?_
      refine x_aload_n C dM_drive_28 rfl 0 rfl ?_
      refine gf_7_54 C (List.mem_cons_of_mem _ wm770) dM_drive_29 ?_
      refine x_iload_n C dM_drive_32 rfl 2 rfl ?_
      obtain ⟨g4, h⟩ := h
      refine y_ia C 75 (by decide) g4 dM_drive_33 ?_
      refine kM_find C wm1039 ⟨Nat.le_of_ble_eq_true rfl, Nat.le_of_ble_eq_true rfl⟩ (Nat.le_of_ble_eq_true rfl) dM_drive_34 ⟨Nat.zero_le _, Nat.zero_le _⟩ h (fun z5 h => ?_)
      refine x_istore C [(4, .int z5), (0, .ref (ob G 7)), (2, .int v2), (3, .int v3)] dM_drive_37 (by decide) rfl ?_
      refine x_aload_n C dM_drive_39 rfl 1 rfl ?_
      refine gf_7_46 C (List.mem_cons_of_mem _ wm762) dM_drive_40 ?_
      refine x_iload C dM_drive_43 0 rfl ?_
      refine x_aload_n C dM_drive_45 rfl 1 rfl ?_
      refine gf_7_46 C (List.mem_cons_of_mem _ wm762) dM_drive_46 ?_
      refine x_iload C dM_drive_49 0 rfl ?_
      obtain ⟨g6, h⟩ := h
      refine y_ia C 70 (by decide) g6 dM_drive_51 ?_
      refine x_aload_n C dM_drive_52 rfl 1 rfl ?_
      refine gf_7_55 C (List.mem_cons_of_mem _ wm771) dM_drive_53 ?_
      refine x_iload_n C dM_drive_56 rfl 3 rfl ?_
      obtain ⟨g7, h⟩ := h
      refine y_ia C 76 (by decide) g7 dM_drive_57 ?_
      refine x_ior C dM_drive_58 ?_
      obtain ⟨g8, h⟩ := h
      refine y_is C 70 (by decide) g8 dM_drive_59 (fun r9 er9 => ?_)
      have h := h r9 er9
      refine x_aload_n C dM_drive_60 rfl 1 rfl ?_
      refine gf_7_48 C (List.mem_cons_of_mem _ wm764) dM_drive_61 ?_
      refine x_iload_n C dM_drive_64 rfl 2 rfl ?_
      refine x_iload C dM_drive_65 0 rfl ?_
      obtain ⟨g10, h⟩ := h
      refine y_is C 72 (by decide) g10 dM_drive_67 (fun r11 er11 => ?_)
      have h := h r11 er11
      refine x_iinc (j := 2) (v := v2 + 1) C [(2, .int (v2 + 1)), (4, .int z5), (0, .ref (ob G 7)), (3, .int v3)] dM_drive_68 rfl rfl (by decide) rfl ?_
      refine x_iinc (j := 3) (v := v3 + 1) C [(3, .int (v3 + 1)), (2, .int (v2 + 1)), (4, .int z5), (0, .ref (ob G 7))] dM_drive_71 rfl rfl (by decide) rfl ?_
      refine x_goto (tgt := 19) C dM_drive_74 (by decide) ?_
      refine x_sub [3, 1, 0] rfl ?_
      exact kB19 r11 (v2 + 1) (v3 + 1) h
def qM_drive_J295 (a : L_) (KB172 : S_ → Int32 → Int32 → Int32 → Int32 → Int32 → Int32 → Prop) (KX301 : S_ → Int32 → Int32 → Int32 → Int32 → Prop) (r : S_) (v2 : Int32) (v3 : Int32) (v4 : Int32) (v5 : Int32) (v6 : Int32) (v7 : Int32) : Prop :=
  KB172 r v2 v3 v4 v5 v6 (v7 + 1)
set_option maxRecDepth 100000 in
set_option maxHeartbeats 4000000 in
theorem tM_drive_J295 (C : vx_C p s m args c prog_9_method_32_code 9 (Cond.code yM_drive prog_9_method_32_code 9 none :: wAll) "ClassInferenceModel" D vwCl (tysG G) nwAll A) {a : L_} {KB172 : S_ → Int32 → Int32 → Int32 → Int32 → Int32 → Int32 → Prop} {KX301 : S_ → Int32 → Int32 → Int32 → Int32 → Prop} (kB172 : ∀ (r : S_) (v2 : Int32) (v3 : Int32) (v4 : Int32) (v5 : Int32) (v6 : Int32) (v7 : Int32), KB172 r v2 v3 v4 v5 v6 v7 → vx_V p l e { frames := 1, cells := 0, slots := 0, locals := 22 } s m args below meth c A D vwCl 9 0 0 Q (wo G a r) 172 [(0, .ref (ob G 7)), (2, .int v2), (3, .int v3), (4, .int v4), (5, .int v5), (6, .int v6), (7, .int v7)] []) (kX301 : ∀ (r : S_) (v2 : Int32) (v3 : Int32) (v5 : Int32) (v6 : Int32), KX301 r v2 v3 v5 v6 → vx_V p l e { frames := 1, cells := 0, slots := 0, locals := 22 } s m args below meth c A D vwCl 9 0 0 Q (wo G a r) 301 [(0, .ref (ob G 7)), (2, .int v2), (3, .int v3), (5, .int v5), (6, .int v6)] []) (r : S_) (v2 : Int32) (v3 : Int32) (v4 : Int32) (v5 : Int32) (v6 : Int32) (v7 : Int32) (h : qM_drive_J295 a KB172 KX301 r v2 v3 v4 v5 v6 v7) : vx_V p l e { frames := 1, cells := 0, slots := 0, locals := 22 } s m args below meth c A D vwCl 9 0 0 Q (wo G a r) 295 [(0, .ref (ob G 7)), (2, .int v2), (3, .int v3), (4, .int v4), (5, .int v5), (6, .int v6), (7, .int v7)] [] := by
  unfold qM_drive_J295 at h
  refine x_iinc (j := 6) (v := v7 + 1) C [(7, .int (v7 + 1)), (0, .ref (ob G 7)), (2, .int v2), (3, .int v3), (4, .int v4), (5, .int v5), (6, .int v6)] dM_drive_295 rfl rfl (by decide) rfl ?_
  refine x_goto (tgt := 172) C dM_drive_298 (by decide) ?_
  refine x_sub [1, 2, 3, 4, 5, 6, 0] rfl ?_
  exact kB172 r v2 v3 v4 v5 v6 (v7 + 1) h
def qM_drive_J293 (a : L_) (KB172 : S_ → Int32 → Int32 → Int32 → Int32 → Int32 → Int32 → Prop) (KX301 : S_ → Int32 → Int32 → Int32 → Int32 → Prop) (r : S_) (v2 : Int32) (v3 : Int32) (v4 : Int32) (v5 : Int32) (v7 : Int32) (u0 : Int32) : Prop :=
  qM_drive_J295 a KB172 KX301 r v2 v3 v4 v5 u0 v7
set_option maxRecDepth 100000 in
set_option maxHeartbeats 4000000 in
theorem tM_drive_J293 (C : vx_C p s m args c prog_9_method_32_code 9 (Cond.code yM_drive prog_9_method_32_code 9 none :: wAll) "ClassInferenceModel" D vwCl (tysG G) nwAll A) {a : L_} {KB172 : S_ → Int32 → Int32 → Int32 → Int32 → Int32 → Int32 → Prop} {KX301 : S_ → Int32 → Int32 → Int32 → Int32 → Prop} (kB172 : ∀ (r : S_) (v2 : Int32) (v3 : Int32) (v4 : Int32) (v5 : Int32) (v6 : Int32) (v7 : Int32), KB172 r v2 v3 v4 v5 v6 v7 → vx_V p l e { frames := 1, cells := 0, slots := 0, locals := 22 } s m args below meth c A D vwCl 9 0 0 Q (wo G a r) 172 [(0, .ref (ob G 7)), (2, .int v2), (3, .int v3), (4, .int v4), (5, .int v5), (6, .int v6), (7, .int v7)] []) (kX301 : ∀ (r : S_) (v2 : Int32) (v3 : Int32) (v5 : Int32) (v6 : Int32), KX301 r v2 v3 v5 v6 → vx_V p l e { frames := 1, cells := 0, slots := 0, locals := 22 } s m args below meth c A D vwCl 9 0 0 Q (wo G a r) 301 [(0, .ref (ob G 7)), (2, .int v2), (3, .int v3), (5, .int v5), (6, .int v6)] []) (r : S_) (v2 : Int32) (v3 : Int32) (v4 : Int32) (v5 : Int32) (v7 : Int32) (u0 : Int32) (h : qM_drive_J293 a KB172 KX301 r v2 v3 v4 v5 v7 u0) : vx_V p l e { frames := 1, cells := 0, slots := 0, locals := 22 } s m args below meth c A D vwCl 9 0 0 Q (wo G a r) 293 [(0, .ref (ob G 7)), (2, .int v2), (3, .int v3), (4, .int v4), (5, .int v5), (7, .int v7)] [.int u0] := by
  unfold qM_drive_J293 at h
  refine x_istore C [(6, .int u0), (0, .ref (ob G 7)), (2, .int v2), (3, .int v3), (4, .int v4), (5, .int v5), (7, .int v7)] dM_drive_293 (by decide) rfl ?_
  refine x_sub [1, 2, 3, 4, 5, 0, 6] rfl ?_
  exact tM_drive_J295 C kB172 kX301 r v2 v3 v4 v5 u0 v7 h
def qM_drive_J266 (a : L_) (KB172 : S_ → Int32 → Int32 → Int32 → Int32 → Int32 → Int32 → Prop) (KX301 : S_ → Int32 → Int32 → Int32 → Int32 → Prop) (r : S_) (v2 : Int32) (v3 : Int32) (v4 : Int32) (v6 : Int32) (v7 : Int32) (v8 : Int32) (u0 : Int32) : Prop :=
  vp_in v8 (ln a 86) ∧ (((ar r 86 v8.toNatClampNeg) = 0) → qM_drive_J293 a KB172 KX301 r v2 v3 v4 u0 v7 v6) ∧ ((¬ (ar r 86 v8.toNatClampNeg) = 0) → vp_in v8 (ln a 44) ∧ qM_drive_J293 a KB172 KX301 r v2 v3 v4 u0 v7 (v6 ||| (ar r 44 v8.toNatClampNeg)))
set_option maxRecDepth 100000 in
set_option maxHeartbeats 4000000 in
theorem tM_drive_J266 (C : vx_C p s m args c prog_9_method_32_code 9 (Cond.code yM_drive prog_9_method_32_code 9 none :: wAll) "ClassInferenceModel" D vwCl (tysG G) nwAll A) {a : L_} {KB172 : S_ → Int32 → Int32 → Int32 → Int32 → Int32 → Int32 → Prop} {KX301 : S_ → Int32 → Int32 → Int32 → Int32 → Prop} (kB172 : ∀ (r : S_) (v2 : Int32) (v3 : Int32) (v4 : Int32) (v5 : Int32) (v6 : Int32) (v7 : Int32), KB172 r v2 v3 v4 v5 v6 v7 → vx_V p l e { frames := 1, cells := 0, slots := 0, locals := 22 } s m args below meth c A D vwCl 9 0 0 Q (wo G a r) 172 [(0, .ref (ob G 7)), (2, .int v2), (3, .int v3), (4, .int v4), (5, .int v5), (6, .int v6), (7, .int v7)] []) (kX301 : ∀ (r : S_) (v2 : Int32) (v3 : Int32) (v5 : Int32) (v6 : Int32), KX301 r v2 v3 v5 v6 → vx_V p l e { frames := 1, cells := 0, slots := 0, locals := 22 } s m args below meth c A D vwCl 9 0 0 Q (wo G a r) 301 [(0, .ref (ob G 7)), (2, .int v2), (3, .int v3), (5, .int v5), (6, .int v6)] []) (r : S_) (v2 : Int32) (v3 : Int32) (v4 : Int32) (v6 : Int32) (v7 : Int32) (v8 : Int32) (u0 : Int32) (h : qM_drive_J266 a KB172 KX301 r v2 v3 v4 v6 v7 v8 u0) : vx_V p l e { frames := 1, cells := 0, slots := 0, locals := 22 } s m args below meth c A D vwCl 9 0 0 Q (wo G a r) 266 [(0, .ref (ob G 7)), (2, .int v2), (3, .int v3), (4, .int v4), (6, .int v6), (7, .int v7), (8, .int v8)] [.int u0] := by
  unfold qM_drive_J266 at h
  refine x_istore C [(5, .int u0), (0, .ref (ob G 7)), (2, .int v2), (3, .int v3), (4, .int v4), (6, .int v6), (7, .int v7), (8, .int v8)] dM_drive_266 (by decide) rfl ?_
  refine x_aload_n C dM_drive_268 rfl 1 rfl ?_
  refine gf_7_12 C (List.mem_cons_of_mem _ wm728) dM_drive_269 ?_
  refine x_iload C dM_drive_272 7 rfl ?_
  obtain ⟨g32, h⟩ := h
  refine y_za C 86 (by decide) g32 dM_drive_274 ?_
  refine x_if_eq (tgt := 291) C dM_drive_275 (by decide) (fun g33 => ?_) (fun g33 => ?_)
  · have h := h.1 g33
    refine x_iload C dM_drive_291 5 rfl ?_
    refine x_sub [1, 2, 3, 4, 0, 6] rfl ?_
    exact tM_drive_J293 C kB172 kX301 r v2 v3 v4 u0 v7 v6 h
  · have h := h.2 g33
    refine x_iload C dM_drive_278 5 rfl ?_
    refine x_aload_n C dM_drive_280 rfl 1 rfl ?_
    refine gf_7_14 C (List.mem_cons_of_mem _ wm730) dM_drive_281 ?_
    refine x_iload C dM_drive_284 7 rfl ?_
    obtain ⟨g34, h⟩ := h
    refine y_ia C 44 (by decide) g34 dM_drive_286 ?_
    refine x_ior C dM_drive_287 ?_
    refine x_goto (tgt := 293) C dM_drive_288 (by decide) ?_
    refine x_sub [1, 2, 3, 4, 0, 6] rfl ?_
    exact tM_drive_J293 C kB172 kX301 r v2 v3 v4 u0 v7 (v6 ||| (ar r 44 v8.toNatClampNeg)) h
def qM_drive_J238 (a : L_) (KB172 : S_ → Int32 → Int32 → Int32 → Int32 → Int32 → Int32 → Prop) (KX301 : S_ → Int32 → Int32 → Int32 → Int32 → Prop) (r : S_) (v2 : Int32) (v3 : Int32) (v4 : Int32) (v5 : Int32) (v6 : Int32) (v7 : Int32) (v8 : Int32) (u0 : Int32) : Prop :=
  zb u0 ∧ ∀ r28 : S_, r28 = sF r 33 u0 → vp_in v8 (ln a 86) ∧ (((ar r28 86 v8.toNatClampNeg) = 0) → qM_drive_J266 a KB172 KX301 r28 v2 v3 v4 v6 v7 v8 v5) ∧ ((¬ (ar r28 86 v8.toNatClampNeg) = 0) → vp_in v8 (ln a 43) ∧ qM_drive_J266 a KB172 KX301 r28 v2 v3 v4 v6 v7 v8 (v5 ||| (ar r28 43 v8.toNatClampNeg)))
set_option maxRecDepth 100000 in
set_option maxHeartbeats 4000000 in
theorem tM_drive_J238 (C : vx_C p s m args c prog_9_method_32_code 9 (Cond.code yM_drive prog_9_method_32_code 9 none :: wAll) "ClassInferenceModel" D vwCl (tysG G) nwAll A) {a : L_} {KB172 : S_ → Int32 → Int32 → Int32 → Int32 → Int32 → Int32 → Prop} {KX301 : S_ → Int32 → Int32 → Int32 → Int32 → Prop} (kB172 : ∀ (r : S_) (v2 : Int32) (v3 : Int32) (v4 : Int32) (v5 : Int32) (v6 : Int32) (v7 : Int32), KB172 r v2 v3 v4 v5 v6 v7 → vx_V p l e { frames := 1, cells := 0, slots := 0, locals := 22 } s m args below meth c A D vwCl 9 0 0 Q (wo G a r) 172 [(0, .ref (ob G 7)), (2, .int v2), (3, .int v3), (4, .int v4), (5, .int v5), (6, .int v6), (7, .int v7)] []) (kX301 : ∀ (r : S_) (v2 : Int32) (v3 : Int32) (v5 : Int32) (v6 : Int32), KX301 r v2 v3 v5 v6 → vx_V p l e { frames := 1, cells := 0, slots := 0, locals := 22 } s m args below meth c A D vwCl 9 0 0 Q (wo G a r) 301 [(0, .ref (ob G 7)), (2, .int v2), (3, .int v3), (5, .int v5), (6, .int v6)] []) (r : S_) (v2 : Int32) (v3 : Int32) (v4 : Int32) (v5 : Int32) (v6 : Int32) (v7 : Int32) (v8 : Int32) (u0 : Int32) (h : qM_drive_J238 a KB172 KX301 r v2 v3 v4 v5 v6 v7 v8 u0) : vx_V p l e { frames := 1, cells := 0, slots := 0, locals := 22 } s m args below meth c A D vwCl 9 0 0 Q (wo G a r) 238 [(0, .ref (ob G 7)), (2, .int v2), (3, .int v3), (4, .int v4), (5, .int v5), (6, .int v6), (7, .int v7), (8, .int v8)] [.int u0, .ref (ob G 7)] := by
  unfold qM_drive_J238 at h
  obtain ⟨g29, h⟩ := h
  refine pf_7_57 C (List.mem_cons_of_mem _ wm773) g29 dM_drive_238 (fun r28 er28 => ?_)
  have h := h r28 er28
  refine x_aload_n C dM_drive_241 rfl 0 rfl ?_
  refine gf_7_12 C (List.mem_cons_of_mem _ wm728) dM_drive_242 ?_
  refine x_iload C dM_drive_245 7 rfl ?_
  obtain ⟨g30, h⟩ := h
  refine y_za C 86 (by decide) g30 dM_drive_247 ?_
  refine x_if_eq (tgt := 264) C dM_drive_248 (by decide) (fun g31 => ?_) (fun g31 => ?_)
  · have h := h.1 g31
    refine x_iload C dM_drive_264 4 rfl ?_
    refine x_sub [0, 1, 2, 3, 5, 6, 7] rfl ?_
    exact tM_drive_J266 C kB172 kX301 r28 v2 v3 v4 v6 v7 v8 v5 h
  · have h := h.2 g31
    refine x_iload C dM_drive_251 4 rfl ?_
    refine x_aload_n C dM_drive_253 rfl 0 rfl ?_
    refine gf_7_13 C (List.mem_cons_of_mem _ wm729) dM_drive_254 ?_
    refine x_iload C dM_drive_257 7 rfl ?_
    obtain ⟨g35, h⟩ := h
    refine y_ia C 43 (by decide) g35 dM_drive_259 ?_
    refine x_ior C dM_drive_260 ?_
    refine x_goto (tgt := 266) C dM_drive_261 (by decide) ?_
    refine x_sub [0, 1, 2, 3, 5, 6, 7] rfl ?_
    exact tM_drive_J266 C kB172 kX301 r28 v2 v3 v4 v6 v7 v8 (v5 ||| (ar r28 43 v8.toNatClampNeg)) h
def qM_drive_J233 (a : L_) (KB172 : S_ → Int32 → Int32 → Int32 → Int32 → Int32 → Int32 → Prop) (KX301 : S_ → Int32 → Int32 → Int32 → Int32 → Prop) (r : S_) (v2 : Int32) (v3 : Int32) (v4 : Int32) (v5 : Int32) (v6 : Int32) (v7 : Int32) (v8 : Int32) : Prop :=
  qM_drive_J238 a KB172 KX301 r v2 v3 v4 v5 v6 v7 v8 1
set_option maxRecDepth 100000 in
set_option maxHeartbeats 4000000 in
theorem tM_drive_J233 (C : vx_C p s m args c prog_9_method_32_code 9 (Cond.code yM_drive prog_9_method_32_code 9 none :: wAll) "ClassInferenceModel" D vwCl (tysG G) nwAll A) {a : L_} {KB172 : S_ → Int32 → Int32 → Int32 → Int32 → Int32 → Int32 → Prop} {KX301 : S_ → Int32 → Int32 → Int32 → Int32 → Prop} (kB172 : ∀ (r : S_) (v2 : Int32) (v3 : Int32) (v4 : Int32) (v5 : Int32) (v6 : Int32) (v7 : Int32), KB172 r v2 v3 v4 v5 v6 v7 → vx_V p l e { frames := 1, cells := 0, slots := 0, locals := 22 } s m args below meth c A D vwCl 9 0 0 Q (wo G a r) 172 [(0, .ref (ob G 7)), (2, .int v2), (3, .int v3), (4, .int v4), (5, .int v5), (6, .int v6), (7, .int v7)] []) (kX301 : ∀ (r : S_) (v2 : Int32) (v3 : Int32) (v5 : Int32) (v6 : Int32), KX301 r v2 v3 v5 v6 → vx_V p l e { frames := 1, cells := 0, slots := 0, locals := 22 } s m args below meth c A D vwCl 9 0 0 Q (wo G a r) 301 [(0, .ref (ob G 7)), (2, .int v2), (3, .int v3), (5, .int v5), (6, .int v6)] []) (r : S_) (v2 : Int32) (v3 : Int32) (v4 : Int32) (v5 : Int32) (v6 : Int32) (v7 : Int32) (v8 : Int32) (h : qM_drive_J233 a KB172 KX301 r v2 v3 v4 v5 v6 v7 v8) : vx_V p l e { frames := 1, cells := 0, slots := 0, locals := 22 } s m args below meth c A D vwCl 9 0 0 Q (wo G a r) 233 [(0, .ref (ob G 7)), (2, .int v2), (3, .int v3), (4, .int v4), (5, .int v5), (6, .int v6), (7, .int v7), (8, .int v8)] [.ref (ob G 7)] := by
  unfold qM_drive_J233 at h
  refine x_iconst (v := 1) C dM_drive_233 (by decide) ?_
  refine x_goto (tgt := 238) C dM_drive_234 (by decide) ?_
  refine x_sub [0, 1, 2, 3, 4, 5, 6, 7] rfl ?_
  exact tM_drive_J238 C kB172 kX301 r v2 v3 v4 v5 v6 v7 v8 1 h
def qM_drive_L172 (a : L_) (KX301 : S_ → Int32 → Int32 → Int32 → Int32 → Prop) : Nat → S_ → Int32 → Int32 → Int32 → Int32 → Int32 → Int32 → Prop
  | 0, _, _, _, _, _, _, _ => False
  | n + 1, r, v2, v3, v4, v5, v6, v7 => (((fi r 23) ≤ v7) → KX301 r v2 v3 v5 v6) ∧ ((¬ (fi r 23) ≤ v7) → vp_in v3 (ln a 65) ∧ (((ar r 65 v3.toNatClampNeg) < 0) → KX301 r v2 v3 v5 v6) ∧ ((¬ (ar r 65 v3.toNatClampNeg) < 0) → ((¬ ((v4 >>> (v7 &&& 31)) &&& 1) = 1) → qM_drive_J295 a (qM_drive_L172 a KX301 n) KX301 r v2 v3 v4 v5 v6 v7) ∧ ((((v4 >>> (v7 &&& 31)) &&& 1) = 1) → vp_in v3 (ln a 65) ∧ ((¬ (fi r 33) = 0) → qM_drive_J233 a (qM_drive_L172 a KX301 n) KX301 r v2 v3 v4 v5 v6 v7 ((8 * v7) + (ar r 65 v3.toNatClampNeg))) ∧ (((fi r 33) = 0) → vp_in ((8 * v7) + (ar r 65 v3.toNatClampNeg)) (ln a 86) ∧ ((¬ (ar r 86 ((8 * v7) + (ar r 65 v3.toNatClampNeg)).toNatClampNeg) = 0) → qM_drive_J238 a (qM_drive_L172 a KX301 n) KX301 r v2 v3 v4 v5 v6 v7 ((8 * v7) + (ar r 65 v3.toNatClampNeg)) 0) ∧ (((ar r 86 ((8 * v7) + (ar r 65 v3.toNatClampNeg)).toNatClampNeg) = 0) → qM_drive_J233 a (qM_drive_L172 a KX301 n) KX301 r v2 v3 v4 v5 v6 v7 ((8 * v7) + (ar r 65 v3.toNatClampNeg)))))))
set_option maxRecDepth 100000 in
set_option maxHeartbeats 4000000 in
theorem tM_drive_L172 (C : vx_C p s m args c prog_9_method_32_code 9 (Cond.code yM_drive prog_9_method_32_code 9 none :: wAll) "ClassInferenceModel" D vwCl (tysG G) nwAll A) {a : L_} {KX301 : S_ → Int32 → Int32 → Int32 → Int32 → Prop} (kX301 : ∀ (r : S_) (v2 : Int32) (v3 : Int32) (v5 : Int32) (v6 : Int32), KX301 r v2 v3 v5 v6 → vx_V p l e { frames := 1, cells := 0, slots := 0, locals := 22 } s m args below meth c A D vwCl 9 0 0 Q (wo G a r) 301 [(0, .ref (ob G 7)), (2, .int v2), (3, .int v3), (5, .int v5), (6, .int v6)] []) : ∀ (n : Nat) (r : S_) (v2 : Int32) (v3 : Int32) (v4 : Int32) (v5 : Int32) (v6 : Int32) (v7 : Int32), qM_drive_L172 a KX301 n r v2 v3 v4 v5 v6 v7 → vx_V p l e { frames := 1, cells := 0, slots := 0, locals := 22 } s m args below meth c A D vwCl 9 0 0 Q (wo G a r) 172 [(0, .ref (ob G 7)), (2, .int v2), (3, .int v3), (4, .int v4), (5, .int v5), (6, .int v6), (7, .int v7)] [] := by
  intro n
  induction n with
  | zero =>
    intro r v2 v3 v4 v5 v6 v7 h
    exact (by rw [qM_drive_L172] at h; exact h : False).elim
  | succ n kB172 =>
    intro r v2 v3 v4 v5 v6 v7 h
    rw [qM_drive_L172] at h
    refine x_iload C dM_drive_172 6 rfl ?_
    refine x_aload_n C dM_drive_174 rfl 0 rfl ?_
    refine gf_7_8 C (List.mem_cons_of_mem _ wm724) dM_drive_175 ?_
    refine x_icmp_ge (tgt := 301) C dM_drive_178 (by decide) (fun g22 => ?_) (fun g22 => ?_)
    · have h := h.1 g22
      refine x_sub [0, 1, 2, 4, 5] rfl ?_
      exact kX301 r v2 v3 v5 v6 h
    · have h := h.2 g22
      refine x_aload_n C dM_drive_181 rfl 0 rfl ?_
      refine gf_7_39 C (List.mem_cons_of_mem _ wm755) dM_drive_182 ?_
      refine x_iload_n C dM_drive_185 rfl 2 rfl ?_
      obtain ⟨g23, h⟩ := h
      refine y_ia C 65 (by decide) g23 dM_drive_186 ?_
      refine x_if_lt (tgt := 301) C dM_drive_187 (by decide) (fun g24 => ?_) (fun g24 => ?_)
      · have h := h.1 g24
        refine x_sub [0, 1, 2, 4, 5] rfl ?_
        exact kX301 r v2 v3 v5 v6 h
      · have h := h.2 g24
        refine x_iload C dM_drive_190 3 rfl ?_
        refine x_iload C dM_drive_192 6 rfl ?_
        refine x_ishr C dM_drive_194 ?_
        refine x_iconst (v := 1) C dM_drive_195 (by decide) ?_
        refine x_iand C dM_drive_196 ?_
        refine x_iconst (v := 1) C dM_drive_197 (by decide) ?_
        refine x_icmp_ne (tgt := 295) C dM_drive_198 (by decide) (fun g25 => ?_) (fun g25 => ?_)
        · have h := h.1 g25
          refine x_sub [0, 1, 2, 3, 4, 5, 6] rfl ?_
          exact tM_drive_J295 C kB172 kX301 r v2 v3 v4 v5 v6 v7 h
        · have h := h.2 g25
          refine x_bipush (v := 8) C dM_drive_201 (by decide) ?_
          refine x_iload C dM_drive_203 6 rfl ?_
          refine x_imul C dM_drive_205 ?_
          refine x_aload_n C dM_drive_206 rfl 0 rfl ?_
          refine gf_7_39 C (List.mem_cons_of_mem _ wm755) dM_drive_207 ?_
          refine x_iload_n C dM_drive_210 rfl 2 rfl ?_
          obtain ⟨g26, h⟩ := h
          refine y_ia C 65 (by decide) g26 dM_drive_211 ?_
          refine x_iadd C dM_drive_212 ?_
          refine x_istore C [(8, .int ((8 * v7) + (ar r 65 v3.toNatClampNeg))), (0, .ref (ob G 7)), (2, .int v2), (3, .int v3), (4, .int v4), (5, .int v5), (6, .int v6), (7, .int v7)] dM_drive_213 (by decide) rfl ?_
          refine x_aload_n C dM_drive_215 rfl 1 rfl ?_
          refine x_aload_n C dM_drive_216 rfl 1 rfl ?_
          refine gf_7_57 C (List.mem_cons_of_mem _ wm773) dM_drive_217 ?_
          refine x_if_ne (tgt := 233) C dM_drive_220 (by decide) (fun g27 => ?_) (fun g27 => ?_)
          · have h := h.1 g27
            refine x_sub [1, 2, 3, 4, 5, 6, 7, 0] rfl ?_
            exact tM_drive_J233 C kB172 kX301 r v2 v3 v4 v5 v6 v7 ((8 * v7) + (ar r 65 v3.toNatClampNeg)) h
          · have h := h.2 g27
            refine x_aload_n C dM_drive_223 rfl 1 rfl ?_
            refine gf_7_12 C (List.mem_cons_of_mem _ wm728) dM_drive_224 ?_
            refine x_iload C dM_drive_227 0 rfl ?_
            obtain ⟨g36, h⟩ := h
            refine y_za C 86 (by decide) g36 dM_drive_229 ?_
            refine x_if_ne (tgt := 237) C dM_drive_230 (by decide) (fun g37 => ?_) (fun g37 => ?_)
            · have h := h.1 g37
              refine x_iconst (v := 0) C dM_drive_237 (by decide) ?_
              refine x_sub [1, 2, 3, 4, 5, 6, 7, 0] rfl ?_
              exact tM_drive_J238 C kB172 kX301 r v2 v3 v4 v5 v6 v7 ((8 * v7) + (ar r 65 v3.toNatClampNeg)) 0 h
            · have h := h.2 g37
              refine x_sub [1, 2, 3, 4, 5, 6, 7, 0] rfl ?_
              exact tM_drive_J233 C kB172 kX301 r v2 v3 v4 v5 v6 v7 ((8 * v7) + (ar r 65 v3.toNatClampNeg)) h
def qM_drive_J391 (a : L_) (KB77 : S_ → Int32 → Prop) (KX394 : S_ → Prop) (r : S_) (v2 : Int32) : Prop :=
  KB77 r v2
set_option maxRecDepth 100000 in
set_option maxHeartbeats 4000000 in
theorem tM_drive_J391 (C : vx_C p s m args c prog_9_method_32_code 9 (Cond.code yM_drive prog_9_method_32_code 9 none :: wAll) "ClassInferenceModel" D vwCl (tysG G) nwAll A) {a : L_} {KB77 : S_ → Int32 → Prop} {KX394 : S_ → Prop} (kB77 : ∀ (r : S_) (v2 : Int32), KB77 r v2 → vx_V p l e { frames := 1, cells := 0, slots := 0, locals := 22 } s m args below meth c A D vwCl 9 0 0 Q (wo G a r) 77 [(0, .ref (ob G 7)), (2, .int v2)] []) (kX394 : ∀ (r : S_), KX394 r → vx_V p l e { frames := 1, cells := 0, slots := 0, locals := 22 } s m args below meth c A D vwCl 9 0 0 Q (wo G a r) 394 [] []) (r : S_) (v2 : Int32) (h : qM_drive_J391 a KB77 KX394 r v2) : vx_V p l e { frames := 1, cells := 0, slots := 0, locals := 22 } s m args below meth c A D vwCl 9 0 0 Q (wo G a r) 391 [(0, .ref (ob G 7)), (2, .int v2)] [] := by
  unfold qM_drive_J391 at h
  refine x_goto (tgt := 77) C dM_drive_391 (by decide) ?_
  refine x_sub [0, 1] rfl ?_
  exact kB77 r v2 h
def qM_drive_J346 (a : L_) (KB77 : S_ → Int32 → Prop) (KX394 : S_ → Prop) (r : S_) (v2 : Int32) (v3 : Int32) (v6 : Int32) : Prop :=
  ((v6 = 0) → qM_drive_J391 a KB77 KX394 r v2) ∧ ((¬ v6 = 0) → vp_in v3 (ln a 67) ∧ qM_find a r (fun z41 => vp_in z41 (ln a 70) ∧ vp_in z41 (ln a 70) ∧ ∀ r44 : S_, r44 = sA r 70 (upd (ar r 70) z41.toNatClampNeg ((ar r 70 z41.toNatClampNeg) ||| v6)) → vp_in v2 (ln a 72) ∧ ∀ r46 : S_, r46 = sA r44 72 (upd (ar r44 72) v2.toNatClampNeg z41) → qM_drive_J391 a KB77 KX394 r46 (v2 + 1)) (ar r 67 v3.toNatClampNeg))
set_option maxRecDepth 100000 in
set_option maxHeartbeats 4000000 in
theorem tM_drive_J346 (C : vx_C p s m args c prog_9_method_32_code 9 (Cond.code yM_drive prog_9_method_32_code 9 none :: wAll) "ClassInferenceModel" D vwCl (tysG G) nwAll A) {a : L_} {KB77 : S_ → Int32 → Prop} {KX394 : S_ → Prop} (kB77 : ∀ (r : S_) (v2 : Int32), KB77 r v2 → vx_V p l e { frames := 1, cells := 0, slots := 0, locals := 22 } s m args below meth c A D vwCl 9 0 0 Q (wo G a r) 77 [(0, .ref (ob G 7)), (2, .int v2)] []) (kX394 : ∀ (r : S_), KX394 r → vx_V p l e { frames := 1, cells := 0, slots := 0, locals := 22 } s m args below meth c A D vwCl 9 0 0 Q (wo G a r) 394 [] []) (r : S_) (v2 : Int32) (v3 : Int32) (v6 : Int32) (h : qM_drive_J346 a KB77 KX394 r v2 v3 v6) : vx_V p l e { frames := 1, cells := 0, slots := 0, locals := 22 } s m args below meth c A D vwCl 9 0 0 Q (wo G a r) 346 [(0, .ref (ob G 7)), (2, .int v2), (3, .int v3), (6, .int v6)] [] := by
  unfold qM_drive_J346 at h
  refine x_iload C dM_drive_346 3 rfl ?_
  refine x_if_eq (tgt := 391) C dM_drive_348 (by decide) (fun g39 => ?_) (fun g39 => ?_)
  · have h := h.1 g39
    refine x_sub [0, 1] rfl ?_
    exact tM_drive_J391 C kB77 kX394 r v2 h
  · have h := h.2 g39
    refine x_aload_n C dM_drive_351 rfl 0 rfl ?_
    refine x_aload_n C dM_drive_352 rfl 0 rfl ?_
    refine gf_7_41 C (List.mem_cons_of_mem _ wm757) dM_drive_353 ?_
    refine x_iload_n C dM_drive_356 rfl 2 rfl ?_
    obtain ⟨g40, h⟩ := h
    refine y_ia C 67 (by decide) g40 dM_drive_357 ?_
    refine kM_find C wm1039 ⟨Nat.le_of_ble_eq_true rfl, Nat.le_of_ble_eq_true rfl⟩ (Nat.le_of_ble_eq_true rfl) dM_drive_358 ⟨Nat.zero_le _, Nat.zero_le _⟩ h (fun z41 h => ?_)
    refine x_istore C [(7, .int z41), (0, .ref (ob G 7)), (2, .int v2), (3, .int v3), (6, .int v6)] dM_drive_361 (by decide) rfl ?_
    refine x_aload_n C dM_drive_363 rfl 1 rfl ?_
    refine gf_7_46 C (List.mem_cons_of_mem _ wm762) dM_drive_364 ?_
    refine x_iload C dM_drive_367 0 rfl ?_
    refine x_aload_n C dM_drive_369 rfl 1 rfl ?_
    refine gf_7_46 C (List.mem_cons_of_mem _ wm762) dM_drive_370 ?_
    refine x_iload C dM_drive_373 0 rfl ?_
    obtain ⟨g42, h⟩ := h
    refine y_ia C 70 (by decide) g42 dM_drive_375 ?_
    refine x_iload C dM_drive_376 4 rfl ?_
    refine x_ior C dM_drive_378 ?_
    obtain ⟨g43, h⟩ := h
    refine y_is C 70 (by decide) g43 dM_drive_379 (fun r44 er44 => ?_)
    have h := h r44 er44
    refine x_aload_n C dM_drive_380 rfl 1 rfl ?_
    refine gf_7_48 C (List.mem_cons_of_mem _ wm764) dM_drive_381 ?_
    refine x_iload_n C dM_drive_384 rfl 2 rfl ?_
    refine x_iload C dM_drive_385 0 rfl ?_
    obtain ⟨g45, h⟩ := h
    refine y_is C 72 (by decide) g45 dM_drive_387 (fun r46 er46 => ?_)
    have h := h r46 er46
    refine x_iinc (j := 2) (v := v2 + 1) C [(2, .int (v2 + 1)), (7, .int z41), (0, .ref (ob G 7)), (3, .int v3), (6, .int v6)] dM_drive_388 rfl rfl (by decide) rfl ?_
    refine x_sub [2, 0] rfl ?_
    exact tM_drive_J391 C kB77 kX394 r46 (v2 + 1) h
def qM_drive_J301 (a : L_) (KB77 : S_ → Int32 → Prop) (KX394 : S_ → Prop) (r : S_) (v2 : Int32) (v3 : Int32) (v5 : Int32) (v6 : Int32) : Prop :=
  ((v5 = 0) → qM_drive_J346 a KB77 KX394 r v2 v3 v6) ∧ ((¬ v5 = 0) → vp_in v3 (ln a 66) ∧ qM_find a r (fun z48 => vp_in z48 (ln a 70) ∧ vp_in z48 (ln a 70) ∧ ∀ r51 : S_, r51 = sA r 70 (upd (ar r 70) z48.toNatClampNeg ((ar r 70 z48.toNatClampNeg) ||| v5)) → vp_in v2 (ln a 72) ∧ ∀ r53 : S_, r53 = sA r51 72 (upd (ar r51 72) v2.toNatClampNeg z48) → qM_drive_J346 a KB77 KX394 r53 (v2 + 1) v3 v6) (ar r 66 v3.toNatClampNeg))
set_option maxRecDepth 100000 in
set_option maxHeartbeats 4000000 in
theorem tM_drive_J301 (C : vx_C p s m args c prog_9_method_32_code 9 (Cond.code yM_drive prog_9_method_32_code 9 none :: wAll) "ClassInferenceModel" D vwCl (tysG G) nwAll A) {a : L_} {KB77 : S_ → Int32 → Prop} {KX394 : S_ → Prop} (kB77 : ∀ (r : S_) (v2 : Int32), KB77 r v2 → vx_V p l e { frames := 1, cells := 0, slots := 0, locals := 22 } s m args below meth c A D vwCl 9 0 0 Q (wo G a r) 77 [(0, .ref (ob G 7)), (2, .int v2)] []) (kX394 : ∀ (r : S_), KX394 r → vx_V p l e { frames := 1, cells := 0, slots := 0, locals := 22 } s m args below meth c A D vwCl 9 0 0 Q (wo G a r) 394 [] []) (r : S_) (v2 : Int32) (v3 : Int32) (v5 : Int32) (v6 : Int32) (h : qM_drive_J301 a KB77 KX394 r v2 v3 v5 v6) : vx_V p l e { frames := 1, cells := 0, slots := 0, locals := 22 } s m args below meth c A D vwCl 9 0 0 Q (wo G a r) 301 [(0, .ref (ob G 7)), (2, .int v2), (3, .int v3), (5, .int v5), (6, .int v6)] [] := by
  unfold qM_drive_J301 at h
  refine x_iload C dM_drive_301 3 rfl ?_
  refine x_if_eq (tgt := 346) C dM_drive_303 (by decide) (fun g38 => ?_) (fun g38 => ?_)
  · have h := h.1 g38
    refine x_sub [0, 1, 2, 4] rfl ?_
    exact tM_drive_J346 C kB77 kX394 r v2 v3 v6 h
  · have h := h.2 g38
    refine x_aload_n C dM_drive_306 rfl 0 rfl ?_
    refine x_aload_n C dM_drive_307 rfl 0 rfl ?_
    refine gf_7_40 C (List.mem_cons_of_mem _ wm756) dM_drive_308 ?_
    refine x_iload_n C dM_drive_311 rfl 2 rfl ?_
    obtain ⟨g47, h⟩ := h
    refine y_ia C 66 (by decide) g47 dM_drive_312 ?_
    refine kM_find C wm1039 ⟨Nat.le_of_ble_eq_true rfl, Nat.le_of_ble_eq_true rfl⟩ (Nat.le_of_ble_eq_true rfl) dM_drive_313 ⟨Nat.zero_le _, Nat.zero_le _⟩ h (fun z48 h => ?_)
    refine x_istore C [(7, .int z48), (0, .ref (ob G 7)), (2, .int v2), (3, .int v3), (5, .int v5), (6, .int v6)] dM_drive_316 (by decide) rfl ?_
    refine x_aload_n C dM_drive_318 rfl 1 rfl ?_
    refine gf_7_46 C (List.mem_cons_of_mem _ wm762) dM_drive_319 ?_
    refine x_iload C dM_drive_322 0 rfl ?_
    refine x_aload_n C dM_drive_324 rfl 1 rfl ?_
    refine gf_7_46 C (List.mem_cons_of_mem _ wm762) dM_drive_325 ?_
    refine x_iload C dM_drive_328 0 rfl ?_
    obtain ⟨g49, h⟩ := h
    refine y_ia C 70 (by decide) g49 dM_drive_330 ?_
    refine x_iload C dM_drive_331 4 rfl ?_
    refine x_ior C dM_drive_333 ?_
    obtain ⟨g50, h⟩ := h
    refine y_is C 70 (by decide) g50 dM_drive_334 (fun r51 er51 => ?_)
    have h := h r51 er51
    refine x_aload_n C dM_drive_335 rfl 1 rfl ?_
    refine gf_7_48 C (List.mem_cons_of_mem _ wm764) dM_drive_336 ?_
    refine x_iload_n C dM_drive_339 rfl 2 rfl ?_
    refine x_iload C dM_drive_340 0 rfl ?_
    obtain ⟨g52, h⟩ := h
    refine y_is C 72 (by decide) g52 dM_drive_342 (fun r53 er53 => ?_)
    have h := h r53 er53
    refine x_iinc (j := 2) (v := v2 + 1) C [(2, .int (v2 + 1)), (7, .int z48), (0, .ref (ob G 7)), (3, .int v3), (5, .int v5), (6, .int v6)] dM_drive_343 rfl rfl (by decide) rfl ?_
    refine x_sub [2, 0, 3, 5] rfl ?_
    exact tM_drive_J346 C kB77 kX394 r53 (v2 + 1) v3 v6 h
def qM_drive_J134 (a : L_) (KB77 : S_ → Int32 → Prop) (KX394 : S_ → Prop) (r : S_) (v2 : Int32) (v3 : Int32) : Prop :=
  vp_in v3 (ln a 70) ∧ vp_in v3 (ln a 71) ∧ ∀ z18 : Int32, z18 = (ar r 70 v3.toNatClampNeg) &&& ((ar r 71 v3.toNatClampNeg) ^^^ (-1)) → vp_in v3 (ln a 70) ∧ vp_in v3 (ln a 71) ∧ ∀ r21 : S_, r21 = sA r 71 (upd (ar r 71) v3.toNatClampNeg (ar r 70 v3.toNatClampNeg)) → ∃ n54 : Nat, qM_drive_L172 a (fun r v2 v3 v5 v6 => qM_drive_J301 a KB77 KX394 r v2 v3 v5 v6) n54 r21 v2 v3 z18 0 0 0
set_option maxRecDepth 100000 in
set_option maxHeartbeats 4000000 in
theorem tM_drive_J134 (C : vx_C p s m args c prog_9_method_32_code 9 (Cond.code yM_drive prog_9_method_32_code 9 none :: wAll) "ClassInferenceModel" D vwCl (tysG G) nwAll A) {a : L_} {KB77 : S_ → Int32 → Prop} {KX394 : S_ → Prop} (kB77 : ∀ (r : S_) (v2 : Int32), KB77 r v2 → vx_V p l e { frames := 1, cells := 0, slots := 0, locals := 22 } s m args below meth c A D vwCl 9 0 0 Q (wo G a r) 77 [(0, .ref (ob G 7)), (2, .int v2)] []) (kX394 : ∀ (r : S_), KX394 r → vx_V p l e { frames := 1, cells := 0, slots := 0, locals := 22 } s m args below meth c A D vwCl 9 0 0 Q (wo G a r) 394 [] []) (r : S_) (v2 : Int32) (v3 : Int32) (h : qM_drive_J134 a KB77 KX394 r v2 v3) : vx_V p l e { frames := 1, cells := 0, slots := 0, locals := 22 } s m args below meth c A D vwCl 9 0 0 Q (wo G a r) 134 [(0, .ref (ob G 7)), (2, .int v2), (3, .int v3)] [] := by
  unfold qM_drive_J134 at h
  refine x_aload_n C dM_drive_134 rfl 0 rfl ?_
  refine gf_7_46 C (List.mem_cons_of_mem _ wm762) dM_drive_135 ?_
  refine x_iload_n C dM_drive_138 rfl 2 rfl ?_
  obtain ⟨g16, h⟩ := h
  refine y_ia C 70 (by decide) g16 dM_drive_139 ?_
  refine x_aload_n C dM_drive_140 rfl 0 rfl ?_
  refine gf_7_47 C (List.mem_cons_of_mem _ wm763) dM_drive_141 ?_
  refine x_iload_n C dM_drive_144 rfl 2 rfl ?_
  obtain ⟨g17, h⟩ := h
  refine y_ia C 71 (by decide) g17 dM_drive_145 ?_
  refine x_iconst (v := (-1)) C dM_drive_146 (by decide) ?_
  refine x_ixor C dM_drive_147 ?_
  refine x_iand C dM_drive_148 ?_
  refine x_topi (fun z18 ez18 => ?_)
  have h := h z18 ez18
  refine x_istore C [(4, .int z18), (0, .ref (ob G 7)), (2, .int v2), (3, .int v3)] dM_drive_149 (by decide) rfl ?_
  refine x_aload_n C dM_drive_151 rfl 1 rfl ?_
  refine gf_7_47 C (List.mem_cons_of_mem _ wm763) dM_drive_152 ?_
  refine x_iload_n C dM_drive_155 rfl 3 rfl ?_
  refine x_aload_n C dM_drive_156 rfl 1 rfl ?_
  refine gf_7_46 C (List.mem_cons_of_mem _ wm762) dM_drive_157 ?_
  refine x_iload_n C dM_drive_160 rfl 3 rfl ?_
  obtain ⟨g19, h⟩ := h
  refine y_ia C 70 (by decide) g19 dM_drive_161 ?_
  obtain ⟨g20, h⟩ := h
  refine y_is C 71 (by decide) g20 dM_drive_162 (fun r21 er21 => ?_)
  have h := h r21 er21
  refine x_iconst (v := 0) C dM_drive_163 (by decide) ?_
  refine x_istore C [(5, .int 0), (4, .int z18), (0, .ref (ob G 7)), (2, .int v2), (3, .int v3)] dM_drive_164 (by decide) rfl ?_
  refine x_iconst (v := 0) C dM_drive_166 (by decide) ?_
  refine x_istore C [(6, .int 0), (5, .int 0), (4, .int z18), (0, .ref (ob G 7)), (2, .int v2), (3, .int v3)] dM_drive_167 (by decide) rfl ?_
  refine x_iconst (v := 0) C dM_drive_169 (by decide) ?_
  refine x_istore C [(7, .int 0), (6, .int 0), (5, .int 0), (4, .int z18), (0, .ref (ob G 7)), (2, .int v2), (3, .int v3)] dM_drive_170 (by decide) rfl ?_
  obtain ⟨n54, h⟩ := h
  refine x_sub [4, 5, 6, 3, 2, 1, 0] rfl ?_
  refine tM_drive_L172 C (fun r v2 v3 v5 v6 h => ?_) n54 r21 v2 v3 z18 0 0 0 h
  · refine x_sub [0, 1, 2, 3, 4] rfl ?_
    exact tM_drive_J301 C kB77 kX394 r v2 v3 v5 v6 h
def qM_drive_L77 (a : L_) (KX394 : S_ → Prop) : Nat → S_ → Int32 → Prop
  | 0, _, _ => False
  | n + 1, r, v2 => ((v2 ≤ 0) → KX394 r) ∧ ((¬ v2 ≤ 0) → vp_in (v2 + (-1)) (ln a 72) ∧ vp_in (ar r 72 (v2 + (-1)).toNatClampNeg) (ln a 68) ∧ (((ar r 68 (ar r 72 (v2 + (-1)).toNatClampNeg).toNatClampNeg) = (fi r 29)) → qM_drive_J134 a (qM_drive_L77 a KX394 n) KX394 r (v2 + (-1)) (ar r 72 (v2 + (-1)).toNatClampNeg)) ∧ ((¬ (ar r 68 (ar r 72 (v2 + (-1)).toNatClampNeg).toNatClampNeg) = (fi r 29)) → vp_in (ar r 72 (v2 + (-1)).toNatClampNeg) (ln a 68) ∧ ∀ r56 : S_, r56 = sA r 68 (upd (ar r 68) (ar r 72 (v2 + (-1)).toNatClampNeg).toNatClampNeg (fi r 29)) → vp_in (fi r56 30) (ln a 73) ∧ ∀ r58 : S_, r58 = sA r56 73 (upd (ar r56 73) (fi r56 30).toNatClampNeg (ar r 72 (v2 + (-1)).toNatClampNeg)) → ∀ r59 : S_, r59 = sF r58 30 ((fi r58 30) + 1) → qM_drive_J134 a (qM_drive_L77 a KX394 n) KX394 r59 (v2 + (-1)) (ar r 72 (v2 + (-1)).toNatClampNeg)))
set_option maxRecDepth 100000 in
set_option maxHeartbeats 4000000 in
theorem tM_drive_L77 (C : vx_C p s m args c prog_9_method_32_code 9 (Cond.code yM_drive prog_9_method_32_code 9 none :: wAll) "ClassInferenceModel" D vwCl (tysG G) nwAll A) {a : L_} {KX394 : S_ → Prop} (kX394 : ∀ (r : S_), KX394 r → vx_V p l e { frames := 1, cells := 0, slots := 0, locals := 22 } s m args below meth c A D vwCl 9 0 0 Q (wo G a r) 394 [] []) : ∀ (n : Nat) (r : S_) (v2 : Int32), qM_drive_L77 a KX394 n r v2 → vx_V p l e { frames := 1, cells := 0, slots := 0, locals := 22 } s m args below meth c A D vwCl 9 0 0 Q (wo G a r) 77 [(0, .ref (ob G 7)), (2, .int v2)] [] := by
  intro n
  induction n with
  | zero =>
    intro r v2 h
    exact (by rw [qM_drive_L77] at h; exact h : False).elim
  | succ n kB77 =>
    intro r v2 h
    rw [qM_drive_L77] at h
    refine x_iload_n C dM_drive_77 rfl 1 rfl ?_
    refine x_if_le (tgt := 394) C dM_drive_78 (by decide) (fun g12 => ?_) (fun g12 => ?_)
    · have h := h.1 g12
      refine x_sub [] rfl ?_
      exact kX394 r h
    · have h := h.2 g12
      refine x_iinc (j := 1) (v := v2 + (-1)) C [(2, .int (v2 + (-1))), (0, .ref (ob G 7))] dM_drive_81 rfl rfl (by decide) rfl ?_
      refine x_aload_n C dM_drive_84 rfl 1 rfl ?_
      refine gf_7_48 C (List.mem_cons_of_mem _ wm764) dM_drive_85 ?_
      refine x_iload_n C dM_drive_88 rfl 0 rfl ?_
      obtain ⟨g13, h⟩ := h
      refine y_ia C 72 (by decide) g13 dM_drive_89 ?_
      refine x_istore_n C [(3, .int (ar r 72 (v2 + (-1)).toNatClampNeg)), (2, .int (v2 + (-1))), (0, .ref (ob G 7))] dM_drive_90 rfl (by decide) rfl ?_
      refine x_aload_n C dM_drive_91 rfl 2 rfl ?_
      refine gf_7_42 C (List.mem_cons_of_mem _ wm758) dM_drive_92 ?_
      refine x_iload_n C dM_drive_95 rfl 0 rfl ?_
      obtain ⟨g14, h⟩ := h
      refine y_ia C 68 (by decide) g14 dM_drive_96 ?_
      refine x_aload_n C dM_drive_97 rfl 2 rfl ?_
      refine gf_7_43 C (List.mem_cons_of_mem _ wm759) dM_drive_98 ?_
      refine x_icmp_eq (tgt := 134) C dM_drive_101 (by decide) (fun g15 => ?_) (fun g15 => ?_)
      · have h := h.1 g15
        refine x_sub [2, 1, 0] rfl ?_
        exact tM_drive_J134 C kB77 kX394 r (v2 + (-1)) (ar r 72 (v2 + (-1)).toNatClampNeg) h
      · have h := h.2 g15
        refine x_aload_n C dM_drive_104 rfl 2 rfl ?_
        refine gf_7_42 C (List.mem_cons_of_mem _ wm758) dM_drive_105 ?_
        refine x_iload_n C dM_drive_108 rfl 0 rfl ?_
        refine x_aload_n C dM_drive_109 rfl 2 rfl ?_
        refine gf_7_43 C (List.mem_cons_of_mem _ wm759) dM_drive_110 ?_
        obtain ⟨g55, h⟩ := h
        refine y_is C 68 (by decide) g55 dM_drive_113 (fun r56 er56 => ?_)
        have h := h r56 er56
        refine x_aload_n C dM_drive_114 rfl 2 rfl ?_
        refine gf_7_49 C (List.mem_cons_of_mem _ wm765) dM_drive_115 ?_
        refine x_aload_n C dM_drive_118 rfl 2 rfl ?_
        refine gf_7_50 C (List.mem_cons_of_mem _ wm766) dM_drive_119 ?_
        refine x_iload_n C dM_drive_122 rfl 0 rfl ?_
        obtain ⟨g57, h⟩ := h
        refine y_is C 73 (by decide) g57 dM_drive_123 (fun r58 er58 => ?_)
        have h := h r58 er58
        refine x_aload_n C dM_drive_124 rfl 2 rfl ?_
        refine x_dup C dM_drive_125 rfl ?_
        refine gf_7_50 C (List.mem_cons_of_mem _ wm766) dM_drive_126 ?_
        refine x_iconst (v := 1) C dM_drive_129 (by decide) ?_
        refine x_iadd C dM_drive_130 ?_
        refine pf_7_50 C (List.mem_cons_of_mem _ wm766) dM_drive_131 (fun r59 er59 => ?_)
        have h := h r59 er59
        refine x_sub [2, 1, 0] rfl ?_
        exact tM_drive_J134 C kB77 kX394 r59 (v2 + (-1)) (ar r 72 (v2 + (-1)).toNatClampNeg) h
def qM_drive (a : L_) (K : S_ → Prop) (r : S_) (p0 : Int32) : Prop :=
  ∀ r1 : S_, r1 = sF r 30 0 → ∀ r2 : S_, r2 = sF r1 29 ((fi r1 29) + 1) → ∃ n61 : Nat, qM_drive_L19 a (fun r v2 => ∃ n60 : Nat, qM_drive_L77 a (fun r => K r) n60 r v2) n61 r2 0 p0
set_option maxRecDepth 100000 in
set_option maxHeartbeats 4000000 in
theorem cM_drive {a : L_} {r : S_} {K : S_ → Prop} (p0 : Int32) (h : qM_drive a K r p0) : vx_Mv l yM_drive (Cond.code yM_drive prog_9_method_32_code 9 none :: wAll) { frames := 1, cells := 0, slots := 0, locals := 22 } D vwCl (tysG G) nwAll (wo G a r) [.ref (ob G 7), .int p0] 0 0 (fun w => ∃ r1, w = wo G a r1 ∧ K r1) := by
  unfold qM_drive at h
  refine x_metv (cc := prog_9_method_32_code) (maxL := 9) (ret := none) (lv0 := [(0, .ref (ob G 7)), (1, .int p0)]) (by decide) rfl (Nat.le_of_ble_eq_true rfl) rfl ?_
  intro p e s m args below meth c A C hA hlocks hr
  refine x_iconst (v := 0) C dM_drive_0 (by decide) ?_
  refine x_istore_n C [(2, .int 0), (0, .ref (ob G 7)), (1, .int p0)] dM_drive_1 rfl (by decide) rfl ?_
  refine x_aload_n C dM_drive_2 rfl 1 rfl ?_
  refine x_iconst (v := 0) C dM_drive_3 (by decide) ?_
  refine pf_7_50 C (List.mem_cons_of_mem _ wm766) dM_drive_4 (fun r1 er1 => ?_)
  have h := h r1 er1
  refine x_aload_n C dM_drive_7 rfl 1 rfl ?_
  refine x_dup C dM_drive_8 rfl ?_
  refine gf_7_43 C (List.mem_cons_of_mem _ wm759) dM_drive_9 ?_
  refine x_iconst (v := 1) C dM_drive_12 (by decide) ?_
  refine x_iadd C dM_drive_13 ?_
  refine pf_7_43 C (List.mem_cons_of_mem _ wm759) dM_drive_14 (fun r2 er2 => ?_)
  have h := h r2 er2
  refine x_iload_n C dM_drive_17 rfl 2 rfl ?_
  refine x_istore_n C [(3, .int p0), (2, .int 0), (0, .ref (ob G 7)), (1, .int p0)] dM_drive_18 rfl (by decide) rfl ?_
  obtain ⟨n61, h⟩ := h
  refine x_sub [2, 1, 0] rfl ?_
  refine tM_drive_L19 C (fun r v2 h => ?_) n61 r2 0 p0 h
  · obtain ⟨n60, h⟩ := h
    refine x_sub [0, 1] rfl ?_
    refine tM_drive_L77 C (fun r h => ?_) n60 r v2 h
    · exact x_vret C hA hlocks hr ⟨r, rfl, h⟩ dM_drive_394
set_option maxRecDepth 100000 in
set_option maxHeartbeats 4000000 in
theorem kM_drive {p : Program} {l : Launch} {e : Env} {R : Room} {s : State} {m : MethodId} {args : Array Value} {below : List Frame} {meth : Method} {c : Code} {cells slots : Nat} {Q : State → Prop} {A : Nat → Prop} {D : va_G} {nL pc : Nat} {cc : ByteArray} {cw : Cond} {own : String} {lv : List (Nat × Value)} {st : List Value} {G : G_} {a : L_} {r : S_} {K : S_ → Prop} {p0 : Int32} (C : vx_C p s m args c cc nL (cw :: wAll) own D vwCl (tysG G) nwAll A) {i : Nat} (hl : Cond.methodLink own i yM_drive ∈ wAll) (hR : 1 + 1 ≤ R.frames ∧ 8 + (9 + 11) + 22 ≤ R.locals) (hst : (st.map fun v => v.category).sum ≤ 8) (hd : decode cc pc = .ok (.invokevirtual i, 3)) (hcs : cells ≤ R.cells ∧ slots ≤ R.slots) (h : qM_drive a K r p0) (k : ∀ (r1 : S_), K r1 → vx_V p l e R s m args below meth c A D vwCl nL cells slots Q (wo G a r1) (pc + 3) lv st) : vx_V p l e R s m args below meth c A D vwCl nL cells slots Q (wo G a r) pc lv (.int p0 :: .ref (ob G 7) :: st) := by
  refine x_callVv C (CC := "ClassInferenceModel") (ci := 7) (q0 := 7) (fs := fl7 G a r) (As := [.int p0]) rfl rfl (cM_drive p0 h) (cwV (C := "ClassInferenceModel") 1 C.1.2.2.2.2 (goodV hl wm1084 wp56 wm9 wm1085) rfl rfl rfl (by decide +kernel) hR) rfl hst hd hcs (fun w hw => ?_)
  obtain ⟨r1, rfl, h⟩ := hw
  exact k r1 h
end MTH
