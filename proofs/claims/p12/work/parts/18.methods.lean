section MTH
variable {p : Program} {l : Launch} {e : Env} {s : State} {m : MethodId} {args : Array Value} {below : List Frame} {meth : Method} {c : Code} {Q : State → Prop} {A : Nat → Prop} {D : va_G} {G : G_} {ws0 : va_W}
def qG_unify_L13 (a : L_) (KX75 : S_ → Prop) : Nat → S_ → Int32 → Prop
  | 0, _, _ => False
  | n + 1, r, v3 => (((fi r 14) ≤ 1) → KX75 r) ∧ ((¬ (fi r 14) ≤ 1) → ((1000000 ≤ v3) → KX75 r) ∧ ((¬ 1000000 ≤ v3) → ∀ r5 : S_, r5 = sF r 14 ((fi r 14) - 2) → vp_in (fi r5 14) (ln a 31) ∧ qG_settled a (fun z7 r8 => vp_in ((fi r8 14) + 1) (ln a 31) ∧ qG_settled a (fun z10 r11 => qG_unifyTops a (fun r12 => (qG_unify_L13 a KX75 n) r12 (v3 + 1)) r11 z7 z10) r8 (ar r8 31 ((fi r8 14) + 1).toNatClampNeg)) r5 (ar r5 31 (fi r5 14).toNatClampNeg)))
set_option maxRecDepth 100000 in
set_option maxHeartbeats 4000000 in
theorem tG_unify_L13 (C : vx_C p s m args c prog_4_method_9_code 4 (Cond.code yG_unify prog_4_method_9_code 4 none :: wAll) "ClassInference$Graph" D vwCl (tysG G) nwAll A) {a : L_} {KX75 : S_ → Prop} (kX75 : ∀ (r : S_), KX75 r → vx_V p l e { frames := 3, cells := 0, slots := 0, locals := 65 } s m args below meth c A D vwCl 4 0 0 Q (wo G a r) 75 [] []) : ∀ (n : Nat) (r : S_) (v3 : Int32), qG_unify_L13 a KX75 n r v3 → vx_V p l e { frames := 3, cells := 0, slots := 0, locals := 65 } s m args below meth c A D vwCl 4 0 0 Q (wo G a r) 13 [(0, .ref (ob G 5)), (3, .int v3)] [] := by
  intro n
  induction n with
  | zero =>
    intro r v3 h
    exact (by rw [qG_unify_L13] at h; exact h : False).elim
  | succ n kB13 =>
    intro r v3 h
    rw [qG_unify_L13] at h
    refine x_aload_n C dG_unify_13 rfl 0 rfl ?_
    refine gf_5_14 C (List.mem_cons_of_mem _ wm164) dG_unify_14 ?_
    refine x_iconst (v := 1) C dG_unify_17 (by decide) ?_
    refine x_icmp_le (tgt := 75) C dG_unify_18 (by decide) (fun g3 => ?_) (fun g3 => ?_)
    · have h := h.1 g3
      refine x_sub [] rfl ?_
      exact kX75 r h
    · have h := h.2 g3
      refine x_iload_n C dG_unify_21 rfl 1 rfl ?_
      refine x_ldc (v := 1000000) C (List.mem_cons_of_mem _ wm485) dG_unify_22 ?_
      refine x_icmp_ge (tgt := 75) C dG_unify_24 (by decide) (fun g4 => ?_) (fun g4 => ?_)
      · have h := h.1 g4
        refine x_sub [] rfl ?_
        exact kX75 r h
      · have h := h.2 g4
        refine x_aload_n C dG_unify_27 rfl 0 rfl ?_
        refine x_dup C dG_unify_28 rfl ?_
        refine gf_5_14 C (List.mem_cons_of_mem _ wm164) dG_unify_29 ?_
        refine x_iconst (v := 2) C dG_unify_32 (by decide) ?_
        refine x_isub C dG_unify_33 ?_
        refine pf_5_14 C (List.mem_cons_of_mem _ wm164) dG_unify_34 (fun r5 er5 => ?_)
        have h := h r5 er5
        refine x_aload_n C dG_unify_37 rfl 0 rfl ?_
        refine x_aload_n C dG_unify_38 rfl 0 rfl ?_
        refine x_aload_n C dG_unify_39 rfl 0 rfl ?_
        refine gf_5_13 C (List.mem_cons_of_mem _ wm163) dG_unify_40 ?_
        refine x_aload_n C dG_unify_43 rfl 0 rfl ?_
        refine gf_5_14 C (List.mem_cons_of_mem _ wm164) dG_unify_44 ?_
        obtain ⟨g6, h⟩ := h
        refine y_ia C 31 (by decide) g6 dG_unify_47 ?_
        refine kG_settled C wm486 ⟨Nat.le_of_ble_eq_true rfl, Nat.le_of_ble_eq_true rfl⟩ (Nat.le_of_ble_eq_true rfl) dG_unify_48 ⟨Nat.zero_le _, Nat.zero_le _⟩ h (fun z7 r8 h => ?_)
        refine x_aload_n C dG_unify_51 rfl 0 rfl ?_
        refine x_aload_n C dG_unify_52 rfl 0 rfl ?_
        refine gf_5_13 C (List.mem_cons_of_mem _ wm163) dG_unify_53 ?_
        refine x_aload_n C dG_unify_56 rfl 0 rfl ?_
        refine gf_5_14 C (List.mem_cons_of_mem _ wm164) dG_unify_57 ?_
        refine x_iconst (v := 1) C dG_unify_60 (by decide) ?_
        refine x_iadd C dG_unify_61 ?_
        obtain ⟨g9, h⟩ := h
        refine y_ia C 31 (by decide) g9 dG_unify_62 ?_
        refine kG_settled C wm486 ⟨Nat.le_of_ble_eq_true rfl, Nat.le_of_ble_eq_true rfl⟩ (Nat.le_of_ble_eq_true rfl) dG_unify_63 ⟨Nat.zero_le _, Nat.zero_le _⟩ h (fun z10 r11 h => ?_)
        refine kG_unifyTops C wm490 ⟨Nat.le_of_ble_eq_true rfl, Nat.le_of_ble_eq_true rfl⟩ (Nat.le_of_ble_eq_true rfl) dG_unify_66 ⟨Nat.zero_le _, Nat.zero_le _⟩ h (fun r12 h => ?_)
        refine x_iinc (j := 1) (v := v3 + 1) C [(3, .int (v3 + 1)), (0, .ref (ob G 5))] dG_unify_69 rfl rfl (by decide) rfl ?_
        refine x_goto (tgt := 13) C dG_unify_72 (by decide) ?_
        refine x_sub [1, 0] rfl ?_
        exact kB13 r12 (v3 + 1) h
def qG_unify (a : L_) (K : S_ → Prop) (r : S_) (p0 : Int32) (p1 : Int32) : Prop :=
  ∀ r1 : S_, r1 = sF r 14 0 → qG_pushPair a (fun r2 => ∃ n13 : Nat, qG_unify_L13 a (fun r => K r) n13 r2 0) r1 p0 p1
set_option maxRecDepth 100000 in
set_option maxHeartbeats 4000000 in
theorem cG_unify {a : L_} {r : S_} {K : S_ → Prop} (p0 : Int32) (p1 : Int32) (h : qG_unify a K r p0 p1) : vx_Mv l yG_unify (Cond.code yG_unify prog_4_method_9_code 4 none :: wAll) { frames := 3, cells := 0, slots := 0, locals := 65 } D vwCl (tysG G) nwAll (wo G a r) [.ref (ob G 5), .int p0, .int p1] 0 0 (fun w => ∃ r1, w = wo G a r1 ∧ K r1) := by
  unfold qG_unify at h
  refine x_metv (cc := prog_4_method_9_code) (maxL := 4) (ret := none) (lv0 := [(0, .ref (ob G 5)), (1, .int p0), (2, .int p1)]) (by decide) rfl (Nat.le_of_ble_eq_true rfl) rfl ?_
  intro p e s m args below meth c A C hA hlocks hr
  refine x_aload_n C dG_unify_0 rfl 0 rfl ?_
  refine x_iconst (v := 0) C dG_unify_1 (by decide) ?_
  refine pf_5_14 C (List.mem_cons_of_mem _ wm164) dG_unify_2 (fun r1 er1 => ?_)
  have h := h r1 er1
  refine x_aload_n C dG_unify_5 rfl 0 rfl ?_
  refine x_iload_n C dG_unify_6 rfl 1 rfl ?_
  refine x_iload_n C dG_unify_7 rfl 2 rfl ?_
  refine kG_pushPair C wm477 ⟨Nat.le_of_ble_eq_true rfl, Nat.le_of_ble_eq_true rfl⟩ (Nat.le_of_ble_eq_true rfl) dG_unify_8 ⟨Nat.zero_le _, Nat.zero_le _⟩ h (fun r2 h => ?_)
  refine x_iconst (v := 0) C dG_unify_11 (by decide) ?_
  refine x_istore_n C [(3, .int 0), (0, .ref (ob G 5)), (1, .int p0), (2, .int p1)] dG_unify_12 rfl (by decide) rfl ?_
  obtain ⟨n13, h⟩ := h
  refine x_sub [1, 0] rfl ?_
  refine tG_unify_L13 C (fun r h => ?_) n13 r2 0 h
  · exact x_vret C hA hlocks hr ⟨r, rfl, h⟩ dG_unify_75
set_option maxRecDepth 100000 in
set_option maxHeartbeats 4000000 in
theorem kG_unify {p : Program} {l : Launch} {e : Env} {R : Room} {s : State} {m : MethodId} {args : Array Value} {below : List Frame} {meth : Method} {c : Code} {cells slots : Nat} {Q : State → Prop} {A : Nat → Prop} {D : va_G} {nL pc : Nat} {cc : ByteArray} {cw : Cond} {own : String} {lv : List (Nat × Value)} {st : List Value} {G : G_} {a : L_} {r : S_} {K : S_ → Prop} {p0 : Int32} {p1 : Int32} (C : vx_C p s m args c cc nL (cw :: wAll) own D vwCl (tysG G) nwAll A) {i : Nat} (hl : Cond.methodLink own i yG_unify ∈ wAll) (hR : 3 + 1 ≤ R.frames ∧ 8 + (4 + 11) + 65 ≤ R.locals) (hst : (st.map fun v => v.category).sum ≤ 8) (hd : decode cc pc = .ok (.invokevirtual i, 3)) (hcs : cells ≤ R.cells ∧ slots ≤ R.slots) (h : qG_unify a K r p0 p1) (k : ∀ (r1 : S_), K r1 → vx_V p l e R s m args below meth c A D vwCl nL cells slots Q (wo G a r1) (pc + 3) lv st) : vx_V p l e R s m args below meth c A D vwCl nL cells slots Q (wo G a r) pc lv (.int p1 :: .int p0 :: .ref (ob G 5) :: st) := by
  refine x_callVv C (CC := "ClassInference$Graph") (ci := 5) (q0 := 5) (fs := fl5 G a r) (As := [.int p0, .int p1]) rfl rfl (cG_unify p0 p1 h) (cwV (C := "ClassInference$Graph") 2 C.1.2.2.2.2 (goodV hl wm474 wm475 wm7 wm476) rfl rfl rfl (by decide +kernel) hR) rfl hst hd hcs (fun w hw => ?_)
  obtain ⟨r1, rfl, h⟩ := hw
  exact k r1 h
def qG_valueOf (a : L_) (K : Int32 → S_ → Prop) (r : S_) (p0 : Int32) : Prop :=
  ((¬ p0 = (-1)) → qG_settled a (fun z2 r3 => vp_in z2 (ln a 29) ∧ K (ar r3 29 z2.toNatClampNeg) r3) r p0) ∧ ((p0 = (-1)) → K (-1) r)
set_option maxRecDepth 100000 in
set_option maxHeartbeats 4000000 in
theorem cG_valueOf {a : L_} {r : S_} {K : Int32 → S_ → Prop} (p0 : Int32) (h : qG_valueOf a K r p0) : vx_Mi l yG_valueOf (Cond.code yG_valueOf prog_4_method_17_code 2 (some .int) :: wAll) { frames := 1, cells := 0, slots := 0, locals := 23 } D vwCl (tysG G) nwAll (wo G a r) [.ref (ob G 5), .int p0] 0 0 (fun v w => ∃ r1, w = wo G a r1 ∧ K v r1) := by
  unfold qG_valueOf at h
  refine x_meti (cc := prog_4_method_17_code) (maxL := 2) (ret := (some .int)) (lv0 := [(0, .ref (ob G 5)), (1, .int p0)]) (by decide) rfl (Nat.le_of_ble_eq_true rfl) rfl ?_
  intro p e s m args below meth c A C hA hlocks hr
  refine x_iload_n C dG_valueOf_0 rfl 1 rfl ?_
  refine x_iconst (v := (-1)) C dG_valueOf_1 (by decide) ?_
  refine x_icmp_ne (tgt := 9) C dG_valueOf_2 (by decide) (fun g1 => ?_) (fun g1 => ?_)
  · have h := h.1 g1
    refine x_aload_n C dG_valueOf_9 rfl 0 rfl ?_
    refine gf_5_9 C (List.mem_cons_of_mem _ wm156) dG_valueOf_10 ?_
    refine x_aload_n C dG_valueOf_13 rfl 0 rfl ?_
    refine x_iload_n C dG_valueOf_14 rfl 1 rfl ?_
    refine kG_settled C wm486 ⟨Nat.le_of_ble_eq_true rfl, Nat.le_of_ble_eq_true rfl⟩ (Nat.le_of_ble_eq_true rfl) dG_valueOf_15 ⟨Nat.zero_le _, Nat.zero_le _⟩ h (fun z2 r3 h => ?_)
    obtain ⟨g4, h⟩ := h
    refine y_ia C 29 (by decide) g4 dG_valueOf_18 ?_
    exact x_iret C hA hlocks hr ⟨r3, rfl, h⟩ dG_valueOf_19
  · have h := h.2 g1
    refine x_iconst (v := (-1)) C dG_valueOf_5 (by decide) ?_
    refine x_goto (tgt := 19) C dG_valueOf_6 (by decide) ?_
    exact x_iret C hA hlocks hr ⟨r, rfl, h⟩ dG_valueOf_19
set_option maxRecDepth 100000 in
set_option maxHeartbeats 4000000 in
theorem kG_valueOf {p : Program} {l : Launch} {e : Env} {R : Room} {s : State} {m : MethodId} {args : Array Value} {below : List Frame} {meth : Method} {c : Code} {cells slots : Nat} {Q : State → Prop} {A : Nat → Prop} {D : va_G} {nL pc : Nat} {cc : ByteArray} {cw : Cond} {own : String} {lv : List (Nat × Value)} {st : List Value} {G : G_} {a : L_} {r : S_} {K : Int32 → S_ → Prop} {p0 : Int32} (C : vx_C p s m args c cc nL (cw :: wAll) own D vwCl (tysG G) nwAll A) {i : Nat} (hl : Cond.methodLink own i yG_valueOf ∈ wAll) (hR : 1 + 1 ≤ R.frames ∧ 8 + (2 + 11) + 23 ≤ R.locals) (hst : (st.map fun v => v.category).sum ≤ 8) (hd : decode cc pc = .ok (.invokevirtual i, 3)) (hcs : cells ≤ R.cells ∧ slots ≤ R.slots) (h : qG_valueOf a K r p0) (k : ∀ (v : Int32) (r1 : S_), K v r1 → vx_V p l e R s m args below meth c A D vwCl nL cells slots Q (wo G a r1) (pc + 3) lv (.int v :: st)) : vx_V p l e R s m args below meth c A D vwCl nL cells slots Q (wo G a r) pc lv (.int p0 :: .ref (ob G 5) :: st) := by
  refine x_callVi C (CC := "ClassInference$Graph") (ci := 5) (q0 := 5) (fs := fl5 G a r) (As := [.int p0]) rfl rfl (cG_valueOf p0 h) (cwV (C := "ClassInference$Graph") 1 C.1.2.2.2.2 (goodV hl wm595 wm596 wm7 wm597) rfl rfl rfl (by decide +kernel) hR) rfl hst hd hcs (fun v w hw => ?_)
  obtain ⟨r1, rfl, h⟩ := hw
  exact k v r1 h
def qG_comesLater (a : L_) (r : S_) (K : Int32 → Prop) (p0 : Int32) (p1 : Int32) : Prop :=
  ((p0 = (-1)) → zb 0 ∧ K 0) ∧ ((¬ p0 = (-1)) → vp_in p0 (ln a 29) ∧ (((ar r 29 p0.toNatClampNeg) < p1) → zb 0 ∧ K 0) ∧ ((¬ (ar r 29 p0.toNatClampNeg) < p1) → zb 1 ∧ K 1))
set_option maxRecDepth 100000 in
set_option maxHeartbeats 4000000 in
theorem cG_comesLater {a : L_} {r : S_} {K : Int32 → Prop} (p0 : Int32) (p1 : Int32) (h : qG_comesLater a r K p0 p1) : vx_Mi l yG_comesLater (Cond.code yG_comesLater prog_4_method_19_code 3 (some .boolean) :: wAll) { frames := 0, cells := 0, slots := 0, locals := 0 } D vwCl (tysG G) nwAll (wo G a r) [.ref (ob G 5), .int p0, .int p1] 0 0 (fun v w => w = wo G a r ∧ zb v ∧ K v) := by
  unfold qG_comesLater at h
  refine x_meti (cc := prog_4_method_19_code) (maxL := 3) (ret := (some .boolean)) (lv0 := [(0, .ref (ob G 5)), (1, .int p0), (2, .int p1)]) (by decide) rfl (Nat.le_of_ble_eq_true rfl) rfl ?_
  intro p e s m args below meth c A C hA hlocks hr
  refine x_iload_n C dG_comesLater_0 rfl 1 rfl ?_
  refine x_iconst (v := (-1)) C dG_comesLater_1 (by decide) ?_
  refine x_icmp_eq (tgt := 19) C dG_comesLater_2 (by decide) (fun g1 => ?_) (fun g1 => ?_)
  · have h := h.1 g1
    refine x_iconst (v := 0) C dG_comesLater_19 (by decide) ?_
    obtain ⟨g2, h⟩ := h
    exact x_zret C hA hlocks hr (zb_n g2) ⟨rfl, g2, h⟩ dG_comesLater_20
  · have h := h.2 g1
    refine x_aload_n C dG_comesLater_5 rfl 0 rfl ?_
    refine gf_5_9 C (List.mem_cons_of_mem _ wm156) dG_comesLater_6 ?_
    refine x_iload_n C dG_comesLater_9 rfl 1 rfl ?_
    obtain ⟨g3, h⟩ := h
    refine y_ia C 29 (by decide) g3 dG_comesLater_10 ?_
    refine x_iload_n C dG_comesLater_11 rfl 2 rfl ?_
    refine x_icmp_lt (tgt := 19) C dG_comesLater_12 (by decide) (fun g4 => ?_) (fun g4 => ?_)
    · have h := h.1 g4
      refine x_iconst (v := 0) C dG_comesLater_19 (by decide) ?_
      obtain ⟨g5, h⟩ := h
      exact x_zret C hA hlocks hr (zb_n g5) ⟨rfl, g5, h⟩ dG_comesLater_20
    · have h := h.2 g4
      refine x_iconst (v := 1) C dG_comesLater_15 (by decide) ?_
      refine x_goto (tgt := 20) C dG_comesLater_16 (by decide) ?_
      obtain ⟨g6, h⟩ := h
      exact x_zret C hA hlocks hr (zb_n g6) ⟨rfl, g6, h⟩ dG_comesLater_20
set_option maxRecDepth 100000 in
set_option maxHeartbeats 4000000 in
theorem kG_comesLater {p : Program} {l : Launch} {e : Env} {R : Room} {s : State} {m : MethodId} {args : Array Value} {below : List Frame} {meth : Method} {c : Code} {cells slots : Nat} {Q : State → Prop} {A : Nat → Prop} {D : va_G} {nL pc : Nat} {cc : ByteArray} {cw : Cond} {own : String} {lv : List (Nat × Value)} {st : List Value} {G : G_} {a : L_} {r : S_} {K : Int32 → Prop} {p0 : Int32} {p1 : Int32} (C : vx_C p s m args c cc nL (cw :: wAll) own D vwCl (tysG G) nwAll A) {i : Nat} (hl : Cond.methodLink own i yG_comesLater ∈ wAll) (hR : 0 + 1 ≤ R.frames ∧ 8 + (3 + 11) + 0 ≤ R.locals) (hst : (st.map fun v => v.category).sum ≤ 8) (hd : decode cc pc = .ok (.invokevirtual i, 3)) (hcs : cells ≤ R.cells ∧ slots ≤ R.slots) (h : qG_comesLater a r K p0 p1) (k : ∀ (v : Int32), zb v → K v → vx_V p l e R s m args below meth c A D vwCl nL cells slots Q (wo G a r) (pc + 3) lv (.int v :: st)) : vx_V p l e R s m args below meth c A D vwCl nL cells slots Q (wo G a r) pc lv (.int p1 :: .int p0 :: .ref (ob G 5) :: st) := by
  refine x_callVi C (CC := "ClassInference$Graph") (ci := 5) (q0 := 5) (fs := fl5 G a r) (As := [.int p0, .int p1]) rfl rfl (cG_comesLater p0 p1 h) (cwV (C := "ClassInference$Graph") 2 C.1.2.2.2.2 (goodV hl wm606 wp27 wm7 wm607) rfl rfl rfl (by decide +kernel) hR) rfl hst hd hcs (fun v w hw => ?_)
  obtain ⟨rfl, h⟩ := hw
  exact k v h.1 h.2
def qG_isCircular_L6 (a : L_) (KX25 : S_ → Prop) : Nat → S_ → Int32 → Prop
  | 0, _, _ => False
  | n + 1, r, v1 => (((fi r 11) ≤ v1) → KX25 r) ∧ ((¬ (fi r 11) ≤ v1) → qG_walk a (fun r3 => (qG_isCircular_L6 a KX25 n) r3 (v1 + 1)) r v1)
set_option maxRecDepth 100000 in
set_option maxHeartbeats 4000000 in
theorem tG_isCircular_L6 (C : vx_C p s m args c prog_4_method_18_code 2 (Cond.code yG_isCircular prog_4_method_18_code 2 (some .boolean) :: wAll) "ClassInference$Graph" D vwCl (tysG G) nwAll A) {a : L_} {KX25 : S_ → Prop} (kX25 : ∀ (r : S_), KX25 r → vx_V p l e { frames := 2, cells := 0, slots := 0, locals := 46 } s m args below meth c A D vwCl 2 0 0 Q (wo G a r) 25 [(0, .ref (ob G 5))] []) : ∀ (n : Nat) (r : S_) (v1 : Int32), qG_isCircular_L6 a KX25 n r v1 → vx_V p l e { frames := 2, cells := 0, slots := 0, locals := 46 } s m args below meth c A D vwCl 2 0 0 Q (wo G a r) 6 [(0, .ref (ob G 5)), (1, .int v1)] [] := by
  intro n
  induction n with
  | zero =>
    intro r v1 h
    exact (by rw [qG_isCircular_L6] at h; exact h : False).elim
  | succ n kB6 =>
    intro r v1 h
    rw [qG_isCircular_L6] at h
    refine x_iload_n C dG_isCircular_6 rfl 1 rfl ?_
    refine x_aload_n C dG_isCircular_7 rfl 0 rfl ?_
    refine gf_5_7 C (List.mem_cons_of_mem _ wm153) dG_isCircular_8 ?_
    refine x_icmp_ge (tgt := 25) C dG_isCircular_11 (by decide) (fun g2 => ?_) (fun g2 => ?_)
    · have h := h.1 g2
      refine x_sub [0] rfl ?_
      exact kX25 r h
    · have h := h.2 g2
      refine x_aload_n C dG_isCircular_14 rfl 0 rfl ?_
      refine x_iload_n C dG_isCircular_15 rfl 1 rfl ?_
      refine kG_walk C wm593 ⟨Nat.le_of_ble_eq_true rfl, Nat.le_of_ble_eq_true rfl⟩ (Nat.le_of_ble_eq_true rfl) dG_isCircular_16 ⟨Nat.zero_le _, Nat.zero_le _⟩ h (fun r3 h => ?_)
      refine x_iinc (j := 1) (v := v1 + 1) C [(1, .int (v1 + 1)), (0, .ref (ob G 5))] dG_isCircular_19 rfl rfl (by decide) rfl ?_
      refine x_goto (tgt := 6) C dG_isCircular_22 (by decide) ?_
      refine x_sub [1, 0] rfl ?_
      exact kB6 r3 (v1 + 1) h
def qG_isCircular_L27 (a : L_) (KX53 : S_ → Prop) : Nat → S_ → Int32 → Prop
  | 0, _, _ => False
  | n + 1, r, v1 => (((fi r 12) ≤ v1) → KX53 r) ∧ ((¬ (fi r 12) ≤ v1) → vp_in v1 (ln a 30) ∧ vp_in (ar r 30 v1.toNatClampNeg) (ln a 29) ∧ ∀ r7 : S_, r7 = sA r 29 (upd (ar r 29) (ar r 30 v1.toNatClampNeg).toNatClampNeg v1) → (qG_isCircular_L27 a KX53 n) r7 (v1 + 1))
set_option maxRecDepth 100000 in
set_option maxHeartbeats 4000000 in
theorem tG_isCircular_L27 (C : vx_C p s m args c prog_4_method_18_code 2 (Cond.code yG_isCircular prog_4_method_18_code 2 (some .boolean) :: wAll) "ClassInference$Graph" D vwCl (tysG G) nwAll A) {a : L_} {KX53 : S_ → Prop} (kX53 : ∀ (r : S_), KX53 r → vx_V p l e { frames := 2, cells := 0, slots := 0, locals := 46 } s m args below meth c A D vwCl 2 0 0 Q (wo G a r) 53 [(0, .ref (ob G 5))] []) : ∀ (n : Nat) (r : S_) (v1 : Int32), qG_isCircular_L27 a KX53 n r v1 → vx_V p l e { frames := 2, cells := 0, slots := 0, locals := 46 } s m args below meth c A D vwCl 2 0 0 Q (wo G a r) 27 [(0, .ref (ob G 5)), (1, .int v1)] [] := by
  intro n
  induction n with
  | zero =>
    intro r v1 h
    exact (by rw [qG_isCircular_L27] at h; exact h : False).elim
  | succ n kB27 =>
    intro r v1 h
    rw [qG_isCircular_L27] at h
    refine x_iload_n C dG_isCircular_27 rfl 1 rfl ?_
    refine x_aload_n C dG_isCircular_28 rfl 0 rfl ?_
    refine gf_5_11 C (List.mem_cons_of_mem _ wm161) dG_isCircular_29 ?_
    refine x_icmp_ge (tgt := 53) C dG_isCircular_32 (by decide) (fun g4 => ?_) (fun g4 => ?_)
    · have h := h.1 g4
      refine x_sub [0] rfl ?_
      exact kX53 r h
    · have h := h.2 g4
      refine x_aload_n C dG_isCircular_35 rfl 0 rfl ?_
      refine gf_5_9 C (List.mem_cons_of_mem _ wm156) dG_isCircular_36 ?_
      refine x_aload_n C dG_isCircular_39 rfl 0 rfl ?_
      refine gf_5_10 C (List.mem_cons_of_mem _ wm158) dG_isCircular_40 ?_
      refine x_iload_n C dG_isCircular_43 rfl 1 rfl ?_
      obtain ⟨g5, h⟩ := h
      refine y_ia C 30 (by decide) g5 dG_isCircular_44 ?_
      refine x_iload_n C dG_isCircular_45 rfl 1 rfl ?_
      obtain ⟨g6, h⟩ := h
      refine y_is C 29 (by decide) g6 dG_isCircular_46 (fun r7 er7 => ?_)
      have h := h r7 er7
      refine x_iinc (j := 1) (v := v1 + 1) C [(1, .int (v1 + 1)), (0, .ref (ob G 5))] dG_isCircular_47 rfl rfl (by decide) rfl ?_
      refine x_goto (tgt := 27) C dG_isCircular_50 (by decide) ?_
      refine x_sub [1, 0] rfl ?_
      exact kB27 r7 (v1 + 1) h
def qG_isCircular_L55 (a : L_) (KX99 : S_ → Prop) (KX107 : S_ → Prop) : Nat → S_ → Int32 → Prop
  | 0, _, _ => False
  | n + 1, r, v1 => (((fi r 12) ≤ v1) → KX107 r) ∧ ((¬ (fi r 12) ≤ v1) → vp_in v1 (ln a 30) ∧ qG_firstOf a (fun z10 r11 => qG_comesLater a r11 (fun z12 => zb z12 → ((¬ z12 = 0) → KX99 r11) ∧ ((z12 = 0) → vp_in v1 (ln a 30) ∧ qG_secondOf a (fun z15 r16 => qG_comesLater a r16 (fun z17 => zb z17 → ((z17 = 0) → (qG_isCircular_L55 a KX99 KX107 n) r16 (v1 + 1)) ∧ ((¬ z17 = 0) → KX99 r16)) z15 v1) r11 (ar r11 30 v1.toNatClampNeg))) z10 v1) r (ar r 30 v1.toNatClampNeg))
set_option maxRecDepth 100000 in
set_option maxHeartbeats 4000000 in
theorem tG_isCircular_L55 (C : vx_C p s m args c prog_4_method_18_code 2 (Cond.code yG_isCircular prog_4_method_18_code 2 (some .boolean) :: wAll) "ClassInference$Graph" D vwCl (tysG G) nwAll A) {a : L_} {KX99 : S_ → Prop} {KX107 : S_ → Prop} (kX99 : ∀ (r : S_), KX99 r → vx_V p l e { frames := 2, cells := 0, slots := 0, locals := 46 } s m args below meth c A D vwCl 2 0 0 Q (wo G a r) 99 [] []) (kX107 : ∀ (r : S_), KX107 r → vx_V p l e { frames := 2, cells := 0, slots := 0, locals := 46 } s m args below meth c A D vwCl 2 0 0 Q (wo G a r) 107 [] []) : ∀ (n : Nat) (r : S_) (v1 : Int32), qG_isCircular_L55 a KX99 KX107 n r v1 → vx_V p l e { frames := 2, cells := 0, slots := 0, locals := 46 } s m args below meth c A D vwCl 2 0 0 Q (wo G a r) 55 [(0, .ref (ob G 5)), (1, .int v1)] [] := by
  intro n
  induction n with
  | zero =>
    intro r v1 h
    exact (by rw [qG_isCircular_L55] at h; exact h : False).elim
  | succ n kB55 =>
    intro r v1 h
    rw [qG_isCircular_L55] at h
    refine x_iload_n C dG_isCircular_55 rfl 1 rfl ?_
    refine x_aload_n C dG_isCircular_56 rfl 0 rfl ?_
    refine gf_5_11 C (List.mem_cons_of_mem _ wm161) dG_isCircular_57 ?_
    refine x_icmp_ge (tgt := 107) C dG_isCircular_60 (by decide) (fun g8 => ?_) (fun g8 => ?_)
    · have h := h.1 g8
      refine x_sub [] rfl ?_
      exact kX107 r h
    · have h := h.2 g8
      refine x_aload_n C dG_isCircular_63 rfl 0 rfl ?_
      refine x_aload_n C dG_isCircular_64 rfl 0 rfl ?_
      refine x_aload_n C dG_isCircular_65 rfl 0 rfl ?_
      refine gf_5_10 C (List.mem_cons_of_mem _ wm158) dG_isCircular_66 ?_
      refine x_iload_n C dG_isCircular_69 rfl 1 rfl ?_
      obtain ⟨g9, h⟩ := h
      refine y_ia C 30 (by decide) g9 dG_isCircular_70 ?_
      refine kG_firstOf C wm603 ⟨Nat.le_of_ble_eq_true rfl, Nat.le_of_ble_eq_true rfl⟩ (Nat.le_of_ble_eq_true rfl) dG_isCircular_71 ⟨Nat.zero_le _, Nat.zero_le _⟩ h (fun z10 r11 h => ?_)
      refine x_iload_n C dG_isCircular_74 rfl 1 rfl ?_
      refine kG_comesLater C wm604 ⟨Nat.le_of_ble_eq_true rfl, Nat.le_of_ble_eq_true rfl⟩ (Nat.le_of_ble_eq_true rfl) dG_isCircular_75 ⟨Nat.zero_le _, Nat.zero_le _⟩ h (fun z12 hzz12 h => ?_)
      have h := h hzz12
      refine x_if_ne (tgt := 99) C dG_isCircular_78 (by decide) (fun g13 => ?_) (fun g13 => ?_)
      · have h := h.1 g13
        refine x_sub [] rfl ?_
        exact kX99 r11 h
      · have h := h.2 g13
        refine x_aload_n C dG_isCircular_81 rfl 0 rfl ?_
        refine x_aload_n C dG_isCircular_82 rfl 0 rfl ?_
        refine x_aload_n C dG_isCircular_83 rfl 0 rfl ?_
        refine gf_5_10 C (List.mem_cons_of_mem _ wm158) dG_isCircular_84 ?_
        refine x_iload_n C dG_isCircular_87 rfl 1 rfl ?_
        obtain ⟨g14, h⟩ := h
        refine y_ia C 30 (by decide) g14 dG_isCircular_88 ?_
        refine kG_secondOf C wm608 ⟨Nat.le_of_ble_eq_true rfl, Nat.le_of_ble_eq_true rfl⟩ (Nat.le_of_ble_eq_true rfl) dG_isCircular_89 ⟨Nat.zero_le _, Nat.zero_le _⟩ h (fun z15 r16 h => ?_)
        refine x_iload_n C dG_isCircular_92 rfl 1 rfl ?_
        refine kG_comesLater C wm604 ⟨Nat.le_of_ble_eq_true rfl, Nat.le_of_ble_eq_true rfl⟩ (Nat.le_of_ble_eq_true rfl) dG_isCircular_93 ⟨Nat.zero_le _, Nat.zero_le _⟩ h (fun z17 hzz17 h => ?_)
        have h := h hzz17
        refine x_if_eq (tgt := 101) C dG_isCircular_96 (by decide) (fun g18 => ?_) (fun g18 => ?_)
        · have h := h.1 g18
          refine x_iinc (j := 1) (v := v1 + 1) C [(1, .int (v1 + 1)), (0, .ref (ob G 5))] dG_isCircular_101 rfl rfl (by decide) rfl ?_
          refine x_goto (tgt := 55) C dG_isCircular_104 (by decide) ?_
          refine x_sub [1, 0] rfl ?_
          exact kB55 r16 (v1 + 1) h
        · have h := h.2 g18
          refine x_sub [] rfl ?_
          exact kX99 r16 h
def qG_isCircular (a : L_) (K : Int32 → S_ → Prop) (r : S_) : Prop :=
  qG_startWalk a (fun r1 => ∃ n23 : Nat, qG_isCircular_L6 a (fun r => ∃ n22 : Nat, qG_isCircular_L27 a (fun r => ∃ n21 : Nat, qG_isCircular_L55 a (fun r => zb 1 ∧ K 1 r) (fun r => zb 0 ∧ K 0 r) n21 r 0) n22 r 0) n23 r1 0) r
set_option maxRecDepth 100000 in
set_option maxHeartbeats 4000000 in
theorem cG_isCircular {a : L_} {r : S_} {K : Int32 → S_ → Prop} (h : qG_isCircular a K r ) : vx_Mi l yG_isCircular (Cond.code yG_isCircular prog_4_method_18_code 2 (some .boolean) :: wAll) { frames := 2, cells := 0, slots := 0, locals := 46 } D vwCl (tysG G) nwAll (wo G a r) [.ref (ob G 5)] 0 0 (fun v w => ∃ r1, w = wo G a r1 ∧ zb v ∧ K v r1) := by
  unfold qG_isCircular at h
  refine x_meti (cc := prog_4_method_18_code) (maxL := 2) (ret := (some .boolean)) (lv0 := [(0, .ref (ob G 5))]) (by decide) rfl (Nat.le_of_ble_eq_true rfl) rfl ?_
  intro p e s m args below meth c A C hA hlocks hr
  refine x_aload_n C dG_isCircular_0 rfl 0 rfl ?_
  refine kG_startWalk C wm592 ⟨Nat.le_of_ble_eq_true rfl, Nat.le_of_ble_eq_true rfl⟩ (Nat.le_of_ble_eq_true rfl) dG_isCircular_1 ⟨Nat.zero_le _, Nat.zero_le _⟩ h (fun r1 h => ?_)
  refine x_iconst (v := 0) C dG_isCircular_4 (by decide) ?_
  refine x_istore_n C [(1, .int 0), (0, .ref (ob G 5))] dG_isCircular_5 rfl (by decide) rfl ?_
  obtain ⟨n23, h⟩ := h
  refine x_sub [1, 0] rfl ?_
  refine tG_isCircular_L6 C (fun r h => ?_) n23 r1 0 h
  · refine x_iconst (v := 0) C dG_isCircular_25 (by decide) ?_
    refine x_istore_n C [(1, .int 0), (0, .ref (ob G 5))] dG_isCircular_26 rfl (by decide) rfl ?_
    obtain ⟨n22, h⟩ := h
    refine x_sub [1, 0] rfl ?_
    refine tG_isCircular_L27 C (fun r h => ?_) n22 r 0 h
    · refine x_iconst (v := 0) C dG_isCircular_53 (by decide) ?_
      refine x_istore_n C [(1, .int 0), (0, .ref (ob G 5))] dG_isCircular_54 rfl (by decide) rfl ?_
      obtain ⟨n21, h⟩ := h
      refine x_sub [1, 0] rfl ?_
      refine tG_isCircular_L55 C (fun r h => ?_) (fun r h => ?_) n21 r 0 h
      · refine x_iconst (v := 1) C dG_isCircular_99 (by decide) ?_
        obtain ⟨g19, h⟩ := h
        exact x_zret C hA hlocks hr (zb_n g19) ⟨r, rfl, g19, h⟩ dG_isCircular_100
      · refine x_iconst (v := 0) C dG_isCircular_107 (by decide) ?_
        obtain ⟨g20, h⟩ := h
        exact x_zret C hA hlocks hr (zb_n g20) ⟨r, rfl, g20, h⟩ dG_isCircular_108
set_option maxRecDepth 100000 in
set_option maxHeartbeats 4000000 in
theorem kG_isCircular {p : Program} {l : Launch} {e : Env} {R : Room} {s : State} {m : MethodId} {args : Array Value} {below : List Frame} {meth : Method} {c : Code} {cells slots : Nat} {Q : State → Prop} {A : Nat → Prop} {D : va_G} {nL pc : Nat} {cc : ByteArray} {cw : Cond} {own : String} {lv : List (Nat × Value)} {st : List Value} {G : G_} {a : L_} {r : S_} {K : Int32 → S_ → Prop} (C : vx_C p s m args c cc nL (cw :: wAll) own D vwCl (tysG G) nwAll A) {i : Nat} (hl : Cond.methodLink own i yG_isCircular ∈ wAll) (hR : 2 + 1 ≤ R.frames ∧ 8 + (2 + 11) + 46 ≤ R.locals) (hst : (st.map fun v => v.category).sum ≤ 8) (hd : decode cc pc = .ok (.invokevirtual i, 3)) (hcs : cells ≤ R.cells ∧ slots ≤ R.slots) (h : qG_isCircular a K r ) (k : ∀ (v : Int32) (r1 : S_), zb v → K v r1 → vx_V p l e R s m args below meth c A D vwCl nL cells slots Q (wo G a r1) (pc + 3) lv (.int v :: st)) : vx_V p l e R s m args below meth c A D vwCl nL cells slots Q (wo G a r) pc lv (.ref (ob G 5) :: st) := by
  refine x_callVi C (CC := "ClassInference$Graph") (ci := 5) (q0 := 5) (fs := fl5 G a r) (As := []) rfl rfl (cG_isCircular  h) (cwV (C := "ClassInference$Graph") 0 C.1.2.2.2.2 (goodV hl wm600 wm601 wm7 wm602) rfl rfl rfl (by decide +kernel) hR) rfl hst hd hcs (fun v w hw => ?_)
  obtain ⟨r1, rfl, h⟩ := hw
  exact k v r1 h.1 h.2
def qD_addBuilt (a : L_) (K : S_ → Prop) (r : S_) (p0 : Int32) (p1 : Int32) (p2 : Int32) : Prop :=
  (((Int32.ofNat (ln a 32)) ≤ (fi r 16)) → K r) ∧ ((¬ (Int32.ofNat (ln a 32)) ≤ (fi r 16)) → vp_in (fi r 16) (ln a 32) ∧ ∀ r3 : S_, r3 = sA r 32 (upd (ar r 32) (fi r 16).toNatClampNeg p0) → vp_in (fi r3 16) (ln a 33) ∧ ∀ r5 : S_, r5 = sA r3 33 (upd (ar r3 33) (fi r3 16).toNatClampNeg p1) → vp_in (fi r5 16) (ln a 34) ∧ ∀ r7 : S_, r7 = sA r5 34 (upd (ar r5 34) (fi r5 16).toNatClampNeg p2) → qD_sizeOf a r7 (fun z8 => qD_sizeOf a r7 (fun z9 => vp_in (fi r7 16) (ln a 89) ∧ ∀ r11 : S_, r11 = sL r7 0 (vp_updL (la r7 0) (fi r7 16).toNatClampNeg (if 1099511627776 < ((1 + z8) + z9) then 1099511627776 else ((1 + z8) + z9))) → ∀ r12 : S_, r12 = sF r11 16 ((fi r11 16) + 1) → K r12) p2) p1)
set_option maxRecDepth 100000 in
set_option maxHeartbeats 4000000 in
theorem cD_addBuilt {a : L_} {r : S_} {K : S_ → Prop} (p0 : Int32) (p1 : Int32) (p2 : Int32) (h : qD_addBuilt a K r p0 p1 p2) : vx_Mv l yD_addBuilt (Cond.code yD_addBuilt prog_5_method_4_code 4 none :: wAll) { frames := 1, cells := 0, slots := 0, locals := 27 } D vwCl (tysG G) nwAll (wo G a r) [.ref (ob G 6), .int p0, .int p1, .int p2] 0 0 (fun w => ∃ r1, w = wo G a r1 ∧ K r1) := by
  unfold qD_addBuilt at h
  refine x_metv (cc := prog_5_method_4_code) (maxL := 4) (ret := none) (lv0 := [(0, .ref (ob G 6)), (1, .int p0), (2, .int p1), (3, .int p2)]) (by decide) rfl (Nat.le_of_ble_eq_true rfl) rfl ?_
  intro p e s m args below meth c A C hA hlocks hr
  refine x_aload_n C dD_addBuilt_0 rfl 0 rfl ?_
  refine gf_6_4 C (List.mem_cons_of_mem _ wm253) dD_addBuilt_1 ?_
  refine x_aload_n C dD_addBuilt_4 rfl 0 rfl ?_
  refine gf_6_0 C (List.mem_cons_of_mem _ wm249) dD_addBuilt_5 ?_
  refine y_alen C 32 (by decide) dD_addBuilt_8 ?_
  refine x_icmp_ge (tgt := 80) C dD_addBuilt_9 (by decide) (fun g1 => ?_) (fun g1 => ?_)
  · have h := h.1 g1
    exact x_vret C hA hlocks hr ⟨r, rfl, h⟩ dD_addBuilt_80
  · have h := h.2 g1
    refine x_aload_n C dD_addBuilt_12 rfl 0 rfl ?_
    refine gf_6_0 C (List.mem_cons_of_mem _ wm249) dD_addBuilt_13 ?_
    refine x_aload_n C dD_addBuilt_16 rfl 0 rfl ?_
    refine gf_6_4 C (List.mem_cons_of_mem _ wm253) dD_addBuilt_17 ?_
    refine x_iload_n C dD_addBuilt_20 rfl 1 rfl ?_
    obtain ⟨g2, h⟩ := h
    refine y_is C 32 (by decide) g2 dD_addBuilt_21 (fun r3 er3 => ?_)
    have h := h r3 er3
    refine x_aload_n C dD_addBuilt_22 rfl 0 rfl ?_
    refine gf_6_1 C (List.mem_cons_of_mem _ wm250) dD_addBuilt_23 ?_
    refine x_aload_n C dD_addBuilt_26 rfl 0 rfl ?_
    refine gf_6_4 C (List.mem_cons_of_mem _ wm253) dD_addBuilt_27 ?_
    refine x_iload_n C dD_addBuilt_30 rfl 2 rfl ?_
    obtain ⟨g4, h⟩ := h
    refine y_is C 33 (by decide) g4 dD_addBuilt_31 (fun r5 er5 => ?_)
    have h := h r5 er5
    refine x_aload_n C dD_addBuilt_32 rfl 0 rfl ?_
    refine gf_6_2 C (List.mem_cons_of_mem _ wm251) dD_addBuilt_33 ?_
    refine x_aload_n C dD_addBuilt_36 rfl 0 rfl ?_
    refine gf_6_4 C (List.mem_cons_of_mem _ wm253) dD_addBuilt_37 ?_
    refine x_iload_n C dD_addBuilt_40 rfl 3 rfl ?_
    obtain ⟨g6, h⟩ := h
    refine y_is C 34 (by decide) g6 dD_addBuilt_41 (fun r7 er7 => ?_)
    have h := h r7 er7
    refine x_aload_n C dD_addBuilt_42 rfl 0 rfl ?_
    refine gf_6_3 C (List.mem_cons_of_mem _ wm252) dD_addBuilt_43 ?_
    refine x_aload_n C dD_addBuilt_46 rfl 0 rfl ?_
    refine gf_6_4 C (List.mem_cons_of_mem _ wm253) dD_addBuilt_47 ?_
    refine x_lconst (v := 1) C dD_addBuilt_50 (by decide) ?_
    refine x_aload_n C dD_addBuilt_51 rfl 0 rfl ?_
    refine x_iload_n C dD_addBuilt_52 rfl 2 rfl ?_
    refine kD_sizeOf C wm626 ⟨Nat.le_of_ble_eq_true rfl, Nat.le_of_ble_eq_true rfl⟩ (Nat.le_of_ble_eq_true rfl) dD_addBuilt_53 ⟨Nat.zero_le _, Nat.zero_le _⟩ h (fun z8 h => ?_)
    refine x_ladd C dD_addBuilt_56 ?_
    refine x_aload_n C dD_addBuilt_57 rfl 0 rfl ?_
    refine x_iload_n C dD_addBuilt_58 rfl 3 rfl ?_
    refine kD_sizeOf C wm626 ⟨Nat.le_of_ble_eq_true rfl, Nat.le_of_ble_eq_true rfl⟩ (Nat.le_of_ble_eq_true rfl) dD_addBuilt_59 ⟨Nat.zero_le _, Nat.zero_le _⟩ h (fun z9 h => ?_)
    refine x_ladd C dD_addBuilt_62 ?_
    refine x_ldc2 (v := 1099511627776) C (List.mem_cons_of_mem _ wm630) dD_addBuilt_63 ?_
    refine x_mminL C wm631 (Nat.le_of_ble_eq_true rfl) (Nat.le_of_ble_eq_true rfl) ⟨Nat.zero_le _, Nat.zero_le _⟩ dD_addBuilt_66 ?_
    obtain ⟨g10, h⟩ := h
    refine y_ls C g10 dD_addBuilt_69 (fun r11 er11 => ?_)
    have h := h r11 er11
    refine x_aload_n C dD_addBuilt_70 rfl 0 rfl ?_
    refine x_dup C dD_addBuilt_71 rfl ?_
    refine gf_6_4 C (List.mem_cons_of_mem _ wm253) dD_addBuilt_72 ?_
    refine x_iconst (v := 1) C dD_addBuilt_75 (by decide) ?_
    refine x_iadd C dD_addBuilt_76 ?_
    refine pf_6_4 C (List.mem_cons_of_mem _ wm253) dD_addBuilt_77 (fun r12 er12 => ?_)
    have h := h r12 er12
    exact x_vret C hA hlocks hr ⟨r12, rfl, h⟩ dD_addBuilt_80
set_option maxRecDepth 100000 in
set_option maxHeartbeats 4000000 in
theorem kD_addBuilt {p : Program} {l : Launch} {e : Env} {R : Room} {s : State} {m : MethodId} {args : Array Value} {below : List Frame} {meth : Method} {c : Code} {cells slots : Nat} {Q : State → Prop} {A : Nat → Prop} {D : va_G} {nL pc : Nat} {cc : ByteArray} {cw : Cond} {own : String} {lv : List (Nat × Value)} {st : List Value} {G : G_} {a : L_} {r : S_} {K : S_ → Prop} {p0 : Int32} {p1 : Int32} {p2 : Int32} (C : vx_C p s m args c cc nL (cw :: wAll) own D vwCl (tysG G) nwAll A) {i : Nat} (hl : Cond.methodLink own i yD_addBuilt ∈ wAll) (hR : 1 + 1 ≤ R.frames ∧ 8 + (4 + 11) + 27 ≤ R.locals) (hst : (st.map fun v => v.category).sum ≤ 8) (hd : decode cc pc = .ok (.invokevirtual i, 3)) (hcs : cells ≤ R.cells ∧ slots ≤ R.slots) (h : qD_addBuilt a K r p0 p1 p2) (k : ∀ (r1 : S_), K r1 → vx_V p l e R s m args below meth c A D vwCl nL cells slots Q (wo G a r1) (pc + 3) lv st) : vx_V p l e R s m args below meth c A D vwCl nL cells slots Q (wo G a r) pc lv (.int p2 :: .int p1 :: .int p0 :: .ref (ob G 6) :: st) := by
  refine x_callVv C (CC := "ClassInference$Told") (ci := 6) (q0 := 6) (fs := fl6 G a r) (As := [.int p0, .int p1, .int p2]) rfl rfl (cD_addBuilt p0 p1 p2 h) (cwV (C := "ClassInference$Told") 3 C.1.2.2.2.2 (goodV hl wm623 wm624 wm8 wm625) rfl rfl rfl (by decide +kernel) hR) rfl hst hd hcs (fun w hw => ?_)
  obtain ⟨r1, rfl, h⟩ := hw
  exact k r1 h
def qD_addVariable (a : L_) (K : S_ → Prop) (r : S_) (p0 : Int32) : Prop :=
  (((Int32.ofNat (ln a 35)) ≤ (fi r 17)) → K r) ∧ ((¬ (Int32.ofNat (ln a 35)) ≤ (fi r 17)) → vp_in (fi r 17) (ln a 35) ∧ ∀ r3 : S_, r3 = sA r 35 (upd (ar r 35) (fi r 17).toNatClampNeg p0) → ∀ r4 : S_, r4 = sF r3 17 ((fi r3 17) + 1) → qJ_bitCount a r4 (fun z5 => ∀ r6 : S_, r6 = sF r4 18 ((fi r4 18) + z5) → qD_addBuilt a (fun r7 => K r7) r6 (-(fi r6 17)) (-1) (-1)) p0)
set_option maxRecDepth 100000 in
set_option maxHeartbeats 4000000 in
theorem cD_addVariable {a : L_} {r : S_} {K : S_ → Prop} (p0 : Int32) (h : qD_addVariable a K r p0) : vx_Mv l yD_addVariable (Cond.code yD_addVariable prog_5_method_3_code 2 none :: wAll) { frames := 2, cells := 0, slots := 0, locals := 50 } D vwCl (tysG G) nwAll (wo G a r) [.ref (ob G 6), .int p0] 0 0 (fun w => ∃ r1, w = wo G a r1 ∧ K r1) := by
  unfold qD_addVariable at h
  refine x_metv (cc := prog_5_method_3_code) (maxL := 2) (ret := none) (lv0 := [(0, .ref (ob G 6)), (1, .int p0)]) (by decide) rfl (Nat.le_of_ble_eq_true rfl) rfl ?_
  intro p e s m args below meth c A C hA hlocks hr
  refine x_aload_n C dD_addVariable_0 rfl 0 rfl ?_
  refine gf_6_6 C (List.mem_cons_of_mem _ wm255) dD_addVariable_1 ?_
  refine x_aload_n C dD_addVariable_4 rfl 0 rfl ?_
  refine gf_6_5 C (List.mem_cons_of_mem _ wm254) dD_addVariable_5 ?_
  refine y_alen C 35 (by decide) dD_addVariable_8 ?_
  refine x_icmp_ge (tgt := 56) C dD_addVariable_9 (by decide) (fun g1 => ?_) (fun g1 => ?_)
  · have h := h.1 g1
    exact x_vret C hA hlocks hr ⟨r, rfl, h⟩ dD_addVariable_56
  · have h := h.2 g1
    refine x_aload_n C dD_addVariable_12 rfl 0 rfl ?_
    refine gf_6_5 C (List.mem_cons_of_mem _ wm254) dD_addVariable_13 ?_
    refine x_aload_n C dD_addVariable_16 rfl 0 rfl ?_
    refine gf_6_6 C (List.mem_cons_of_mem _ wm255) dD_addVariable_17 ?_
    refine x_iload_n C dD_addVariable_20 rfl 1 rfl ?_
    obtain ⟨g2, h⟩ := h
    refine y_is C 35 (by decide) g2 dD_addVariable_21 (fun r3 er3 => ?_)
    have h := h r3 er3
    refine x_aload_n C dD_addVariable_22 rfl 0 rfl ?_
    refine x_dup C dD_addVariable_23 rfl ?_
    refine gf_6_6 C (List.mem_cons_of_mem _ wm255) dD_addVariable_24 ?_
    refine x_iconst (v := 1) C dD_addVariable_27 (by decide) ?_
    refine x_iadd C dD_addVariable_28 ?_
    refine pf_6_6 C (List.mem_cons_of_mem _ wm255) dD_addVariable_29 (fun r4 er4 => ?_)
    have h := h r4 er4
    refine x_aload_n C dD_addVariable_32 rfl 0 rfl ?_
    refine x_dup C dD_addVariable_33 rfl ?_
    refine gf_6_7 C (List.mem_cons_of_mem _ wm256) dD_addVariable_34 ?_
    refine x_iload_n C dD_addVariable_37 rfl 1 rfl ?_
    refine kJ_bitCount C wm621 ⟨Nat.le_of_ble_eq_true rfl, Nat.le_of_ble_eq_true rfl⟩ (Nat.le_of_ble_eq_true rfl) dD_addVariable_38 ⟨Nat.zero_le _, Nat.zero_le _⟩ h (fun z5 h => ?_)
    refine x_iadd C dD_addVariable_41 ?_
    refine pf_6_7 C (List.mem_cons_of_mem _ wm256) dD_addVariable_42 (fun r6 er6 => ?_)
    have h := h r6 er6
    refine x_aload_n C dD_addVariable_45 rfl 0 rfl ?_
    refine x_aload_n C dD_addVariable_46 rfl 0 rfl ?_
    refine gf_6_6 C (List.mem_cons_of_mem _ wm255) dD_addVariable_47 ?_
    refine x_ineg C dD_addVariable_50 ?_
    refine x_iconst (v := (-1)) C dD_addVariable_51 (by decide) ?_
    refine x_iconst (v := (-1)) C dD_addVariable_52 (by decide) ?_
    refine kD_addBuilt C wm622 ⟨Nat.le_of_ble_eq_true rfl, Nat.le_of_ble_eq_true rfl⟩ (Nat.le_of_ble_eq_true rfl) dD_addVariable_53 ⟨Nat.zero_le _, Nat.zero_le _⟩ h (fun r7 h => ?_)
    exact x_vret C hA hlocks hr ⟨r7, rfl, h⟩ dD_addVariable_56
set_option maxRecDepth 100000 in
set_option maxHeartbeats 4000000 in
theorem kD_addVariable {p : Program} {l : Launch} {e : Env} {R : Room} {s : State} {m : MethodId} {args : Array Value} {below : List Frame} {meth : Method} {c : Code} {cells slots : Nat} {Q : State → Prop} {A : Nat → Prop} {D : va_G} {nL pc : Nat} {cc : ByteArray} {cw : Cond} {own : String} {lv : List (Nat × Value)} {st : List Value} {G : G_} {a : L_} {r : S_} {K : S_ → Prop} {p0 : Int32} (C : vx_C p s m args c cc nL (cw :: wAll) own D vwCl (tysG G) nwAll A) {i : Nat} (hl : Cond.methodLink own i yD_addVariable ∈ wAll) (hR : 2 + 1 ≤ R.frames ∧ 8 + (2 + 11) + 50 ≤ R.locals) (hst : (st.map fun v => v.category).sum ≤ 8) (hd : decode cc pc = .ok (.invokevirtual i, 3)) (hcs : cells ≤ R.cells ∧ slots ≤ R.slots) (h : qD_addVariable a K r p0) (k : ∀ (r1 : S_), K r1 → vx_V p l e R s m args below meth c A D vwCl nL cells slots Q (wo G a r1) (pc + 3) lv st) : vx_V p l e R s m args below meth c A D vwCl nL cells slots Q (wo G a r) pc lv (.int p0 :: .ref (ob G 6) :: st) := by
  refine x_callVv C (CC := "ClassInference$Told") (ci := 6) (q0 := 6) (fs := fl6 G a r) (As := [.int p0]) rfl rfl (cD_addVariable p0 h) (cwV (C := "ClassInference$Told") 1 C.1.2.2.2.2 (goodV hl wm618 wm619 wm8 wm620) rfl rfl rfl (by decide +kernel) hR) rfl hst hd hcs (fun w hw => ?_)
  obtain ⟨r1, rfl, h⟩ := hw
  exact k r1 h
def qD_nodes (a : L_) (r : S_) (K : Int32 → Prop) : Prop :=
  ((¬ (fi r 16) = 0) → vp_in ((fi r 16) - 1) (ln a 89) ∧ K ((if 1000000000 < (la r 0 ((fi r 16) - 1).toNatClampNeg) then 1000000000 else (la r 0 ((fi r 16) - 1).toNatClampNeg)).toInt32)) ∧ (((fi r 16) = 0) → K 0)
set_option maxRecDepth 100000 in
set_option maxHeartbeats 4000000 in
theorem cD_nodes {a : L_} {r : S_} {K : Int32 → Prop} (h : qD_nodes a r K ) : vx_Mi l yD_nodes (Cond.code yD_nodes prog_5_method_6_code 1 (some .int) :: wAll) { frames := 1, cells := 0, slots := 0, locals := 27 } D vwCl (tysG G) nwAll (wo G a r) [.ref (ob G 6)] 0 0 (fun v w => w = wo G a r ∧ K v) := by
  unfold qD_nodes at h
  refine x_meti (cc := prog_5_method_6_code) (maxL := 1) (ret := (some .int)) (lv0 := [(0, .ref (ob G 6))]) (by decide) rfl (Nat.le_of_ble_eq_true rfl) rfl ?_
  intro p e s m args below meth c A C hA hlocks hr
  refine x_aload_n C dD_nodes_0 rfl 0 rfl ?_
  refine gf_6_4 C (List.mem_cons_of_mem _ wm253) dD_nodes_1 ?_
  refine x_if_ne (tgt := 11) C dD_nodes_4 (by decide) (fun g1 => ?_) (fun g1 => ?_)
  · have h := h.1 g1
    refine x_aload_n C dD_nodes_11 rfl 0 rfl ?_
    refine gf_6_3 C (List.mem_cons_of_mem _ wm252) dD_nodes_12 ?_
    refine x_aload_n C dD_nodes_15 rfl 0 rfl ?_
    refine gf_6_4 C (List.mem_cons_of_mem _ wm253) dD_nodes_16 ?_
    refine x_iconst (v := 1) C dD_nodes_19 (by decide) ?_
    refine x_isub C dD_nodes_20 ?_
    obtain ⟨g2, h⟩ := h
    refine y_la C g2 dD_nodes_21 ?_
    refine x_ldc2 (v := 1000000000) C (List.mem_cons_of_mem _ wm640) dD_nodes_22 ?_
    refine x_mminL C wm631 (Nat.le_of_ble_eq_true rfl) (Nat.le_of_ble_eq_true rfl) ⟨Nat.zero_le _, Nat.zero_le _⟩ dD_nodes_25 ?_
    refine x_l2i C dD_nodes_28 rfl ?_
    exact x_iret C hA hlocks hr ⟨rfl, h⟩ dD_nodes_29
  · have h := h.2 g1
    refine x_iconst (v := 0) C dD_nodes_7 (by decide) ?_
    refine x_goto (tgt := 29) C dD_nodes_8 (by decide) ?_
    exact x_iret C hA hlocks hr ⟨rfl, h⟩ dD_nodes_29
set_option maxRecDepth 100000 in
set_option maxHeartbeats 4000000 in
theorem kD_nodes {p : Program} {l : Launch} {e : Env} {R : Room} {s : State} {m : MethodId} {args : Array Value} {below : List Frame} {meth : Method} {c : Code} {cells slots : Nat} {Q : State → Prop} {A : Nat → Prop} {D : va_G} {nL pc : Nat} {cc : ByteArray} {cw : Cond} {own : String} {lv : List (Nat × Value)} {st : List Value} {G : G_} {a : L_} {r : S_} {K : Int32 → Prop} (C : vx_C p s m args c cc nL (cw :: wAll) own D vwCl (tysG G) nwAll A) {i : Nat} (hl : Cond.methodLink own i yD_nodes ∈ wAll) (hR : 1 + 1 ≤ R.frames ∧ 8 + (1 + 11) + 27 ≤ R.locals) (hst : (st.map fun v => v.category).sum ≤ 8) (hd : decode cc pc = .ok (.invokevirtual i, 3)) (hcs : cells ≤ R.cells ∧ slots ≤ R.slots) (h : qD_nodes a r K ) (k : ∀ (v : Int32), K v → vx_V p l e R s m args below meth c A D vwCl nL cells slots Q (wo G a r) (pc + 3) lv (.int v :: st)) : vx_V p l e R s m args below meth c A D vwCl nL cells slots Q (wo G a r) pc lv (.ref (ob G 6) :: st) := by
  refine x_callVi C (CC := "ClassInference$Told") (ci := 6) (q0 := 6) (fs := fl6 G a r) (As := []) rfl rfl (cD_nodes  h) (cwV (C := "ClassInference$Told") 0 C.1.2.2.2.2 (goodV hl wm637 wm638 wm8 wm639) rfl rfl rfl (by decide +kernel) hR) rfl hst hd hcs (fun v w hw => ?_)
  obtain ⟨rfl, h⟩ := hw
  exact k v h
def qM_in (a : L_) (r : S_) (K : Int32 → Prop) (p0 : Int32) (p1 : Int32) (p2 : Int32) : Prop :=
  ((p0 < p1) → zb 0 ∧ K 0) ∧ ((¬ p0 < p1) → ((p2 < p0) → zb 0 ∧ K 0) ∧ ((¬ p2 < p0) → zb 1 ∧ K 1))
set_option maxRecDepth 100000 in
set_option maxHeartbeats 4000000 in
theorem cM_in {a : L_} {r : S_} {K : Int32 → Prop} (p0 : Int32) (p1 : Int32) (p2 : Int32) (h : qM_in a r K p0 p1 p2) : vx_Mi l yM_in (Cond.code yM_in prog_9_method_3_code 3 (some .boolean) :: wAll) { frames := 0, cells := 0, slots := 0, locals := 0 } D vwCl (tysG G) nwAll (wo G a r) [.int p0, .int p1, .int p2] 0 0 (fun v w => w = wo G a r ∧ zb v ∧ K v) := by
  unfold qM_in at h
  refine x_meti (cc := prog_9_method_3_code) (maxL := 3) (ret := (some .boolean)) (lv0 := [(0, .int p0), (1, .int p1), (2, .int p2)]) (by decide) rfl (Nat.le_of_ble_eq_true rfl) rfl ?_
  intro p e s m args below meth c A C hA hlocks hr
  refine x_iload_n C dM_in_0 rfl 0 rfl ?_
  refine x_iload_n C dM_in_1 rfl 1 rfl ?_
  refine x_icmp_lt (tgt := 14) C dM_in_2 (by decide) (fun g1 => ?_) (fun g1 => ?_)
  · have h := h.1 g1
    refine x_iconst (v := 0) C dM_in_14 (by decide) ?_
    obtain ⟨g2, h⟩ := h
    exact x_zret C hA hlocks hr (zb_n g2) ⟨rfl, g2, h⟩ dM_in_15
  · have h := h.2 g1
    refine x_iload_n C dM_in_5 rfl 0 rfl ?_
    refine x_iload_n C dM_in_6 rfl 2 rfl ?_
    refine x_icmp_gt (tgt := 14) C dM_in_7 (by decide) (fun g3 => ?_) (fun g3 => ?_)
    · have h := h.1 g3
      refine x_iconst (v := 0) C dM_in_14 (by decide) ?_
      obtain ⟨g4, h⟩ := h
      exact x_zret C hA hlocks hr (zb_n g4) ⟨rfl, g4, h⟩ dM_in_15
    · have h := h.2 g3
      refine x_iconst (v := 1) C dM_in_10 (by decide) ?_
      refine x_goto (tgt := 15) C dM_in_11 (by decide) ?_
      obtain ⟨g5, h⟩ := h
      exact x_zret C hA hlocks hr (zb_n g5) ⟨rfl, g5, h⟩ dM_in_15
set_option maxRecDepth 100000 in
set_option maxHeartbeats 4000000 in
theorem kM_in {p : Program} {l : Launch} {e : Env} {R : Room} {s : State} {m : MethodId} {args : Array Value} {below : List Frame} {meth : Method} {c : Code} {cells slots : Nat} {Q : State → Prop} {A : Nat → Prop} {D : va_G} {nL pc : Nat} {cc : ByteArray} {cw : Cond} {own : String} {lv : List (Nat × Value)} {st : List Value} {G : G_} {a : L_} {r : S_} {K : Int32 → Prop} {p0 : Int32} {p1 : Int32} {p2 : Int32} (C : vx_C p s m args c cc nL (cw :: wAll) own D vwCl (tysG G) nwAll A) {i : Nat} (hl : Cond.methodLink own i yM_in ∈ wAll) (hR : 0 + 1 ≤ R.frames ∧ 8 + (3 + 11) + 0 ≤ R.locals) (hst : (st.map fun v => v.category).sum ≤ 8) (hd : decode cc pc = .ok (.invokestatic i, 3)) (hcs : cells ≤ R.cells ∧ slots ≤ R.slots) (h : qM_in a r K p0 p1 p2) (k : ∀ (v : Int32), zb v → K v → vx_V p l e R s m args below meth c A D vwCl nL cells slots Q (wo G a r) (pc + 3) lv (.int v :: st)) : vx_V p l e R s m args below meth c A D vwCl nL cells slots Q (wo G a r) pc lv (.int p2 :: .int p1 :: .int p0 :: st) := by
  refine x_callSi C (As := [.int p0, .int p1, .int p2]) (cM_in p0 p1 p2 h) (va_cwS 3 C.1.2.2.2.2 (goodS hl wm945 wm9 wm946) rfl rfl rfl (by decide +kernel) hR) rfl hst hd hcs (fun v w hw => ?_)
  obtain ⟨rfl, h⟩ := hw
  exact k v h.1 h.2
end MTH
