section MTH
variable {p : Program} {l : Launch} {e : Env} {s : State} {m : MethodId} {args : Array Value} {below : List Frame} {meth : Method} {c : Code} {Q : State → Prop} {A : Nat → Prop} {D : va_G} {G : G_} {ws0 : va_W}
def qM_constructor (a : L_) (K : Int32 → S_ → Prop) (r : S_) (p0 : Int32) : Prop :=
  ∀ r1 : S_, r1 = sF r 20 0 → qM_in a r1 (fun z2 => zb z2 → ((¬ z2 = 0) → ((¬ (fi r1 21) = 8) → vp_in (fi r1 21) (ln a 36) ∧ ∀ r6 : S_, r6 = sA r1 36 (upd (ar r1 36) (fi r1 21).toNatClampNeg p0) → ∀ r7 : S_, r7 = sF r6 21 ((fi r6 21) + 1) → K ((fi r7 21) - 1) r7) ∧ (((fi r1 21) = 8) → K (-3) r1)) ∧ ((z2 = 0) → K (-1) r1)) p0 0 2
set_option maxRecDepth 100000 in
set_option maxHeartbeats 4000000 in
theorem cM_constructor {a : L_} {r : S_} {K : Int32 → S_ → Prop} (p0 : Int32) (h : qM_constructor a K r p0) : vx_Mi l yM_constructor (Cond.code yM_constructor prog_9_method_4_code 2 (some .int) :: wAll) { frames := 1, cells := 0, slots := 0, locals := 22 } D vwCl (tysG G) nwAll (wo G a r) [.ref (ob G 7), .int p0] 0 0 (fun v w => ∃ r1, w = wo G a r1 ∧ K v r1) := by
  unfold qM_constructor at h
  refine x_meti (cc := prog_9_method_4_code) (maxL := 2) (ret := (some .int)) (lv0 := [(0, .ref (ob G 7)), (1, .int p0)]) (by decide) rfl (Nat.le_of_ble_eq_true rfl) rfl ?_
  intro p e s m args below meth c A C hA hlocks hr
  refine x_aload_n C dM_constructor_0 rfl 0 rfl ?_
  refine x_iconst (v := 0) C dM_constructor_1 (by decide) ?_
  refine pf_7_0 C (List.mem_cons_of_mem _ wm716) dM_constructor_2 (fun r1 er1 => ?_)
  have h := h r1 er1
  refine x_iload_n C dM_constructor_5 rfl 1 rfl ?_
  refine x_iconst (v := 0) C dM_constructor_6 (by decide) ?_
  refine x_iconst (v := 2) C dM_constructor_7 (by decide) ?_
  refine kM_in C wm944 ⟨Nat.le_of_ble_eq_true rfl, Nat.le_of_ble_eq_true rfl⟩ (Nat.le_of_ble_eq_true rfl) dM_constructor_8 ⟨Nat.zero_le _, Nat.zero_le _⟩ h (fun z2 hzz2 h => ?_)
  have h := h hzz2
  refine x_if_ne (tgt := 16) C dM_constructor_11 (by decide) (fun g3 => ?_) (fun g3 => ?_)
  · have h := h.1 g3
    refine x_aload_n C dM_constructor_16 rfl 0 rfl ?_
    refine gf_7_1 C (List.mem_cons_of_mem _ wm717) dM_constructor_17 ?_
    refine x_bipush (v := 8) C dM_constructor_20 (by decide) ?_
    refine x_icmp_ne (tgt := 28) C dM_constructor_22 (by decide) (fun g4 => ?_) (fun g4 => ?_)
    · have h := h.1 g4
      refine x_aload_n C dM_constructor_28 rfl 0 rfl ?_
      refine gf_7_2 C (List.mem_cons_of_mem _ wm718) dM_constructor_29 ?_
      refine x_aload_n C dM_constructor_32 rfl 0 rfl ?_
      refine gf_7_1 C (List.mem_cons_of_mem _ wm717) dM_constructor_33 ?_
      refine x_iload_n C dM_constructor_36 rfl 1 rfl ?_
      obtain ⟨g5, h⟩ := h
      refine y_is C 36 (by decide) g5 dM_constructor_37 (fun r6 er6 => ?_)
      have h := h r6 er6
      refine x_aload_n C dM_constructor_38 rfl 0 rfl ?_
      refine x_dup C dM_constructor_39 rfl ?_
      refine gf_7_1 C (List.mem_cons_of_mem _ wm717) dM_constructor_40 ?_
      refine x_iconst (v := 1) C dM_constructor_43 (by decide) ?_
      refine x_iadd C dM_constructor_44 ?_
      refine pf_7_1 C (List.mem_cons_of_mem _ wm717) dM_constructor_45 (fun r7 er7 => ?_)
      have h := h r7 er7
      refine x_aload_n C dM_constructor_48 rfl 0 rfl ?_
      refine gf_7_1 C (List.mem_cons_of_mem _ wm717) dM_constructor_49 ?_
      refine x_iconst (v := 1) C dM_constructor_52 (by decide) ?_
      refine x_isub C dM_constructor_53 ?_
      exact x_iret C hA hlocks hr ⟨r7, rfl, h⟩ dM_constructor_54
    · have h := h.2 g4
      refine x_bipush (v := (-3)) C dM_constructor_25 (by decide) ?_
      exact x_iret C hA hlocks hr ⟨r1, rfl, h⟩ dM_constructor_27
  · have h := h.2 g3
    refine x_iconst (v := (-1)) C dM_constructor_14 (by decide) ?_
    exact x_iret C hA hlocks hr ⟨r1, rfl, h⟩ dM_constructor_15
set_option maxRecDepth 100000 in
set_option maxHeartbeats 4000000 in
theorem kM_constructor {p : Program} {l : Launch} {e : Env} {R : Room} {s : State} {m : MethodId} {args : Array Value} {below : List Frame} {meth : Method} {c : Code} {cells slots : Nat} {Q : State → Prop} {A : Nat → Prop} {D : va_G} {nL pc : Nat} {cc : ByteArray} {cw : Cond} {own : String} {lv : List (Nat × Value)} {st : List Value} {G : G_} {a : L_} {r : S_} {K : Int32 → S_ → Prop} {p0 : Int32} (C : vx_C p s m args c cc nL (cw :: wAll) own D vwCl (tysG G) nwAll A) {i : Nat} (hl : Cond.methodLink own i yM_constructor ∈ wAll) (hR : 1 + 1 ≤ R.frames ∧ 8 + (2 + 11) + 22 ≤ R.locals) (hst : (st.map fun v => v.category).sum ≤ 8) (hd : decode cc pc = .ok (.invokevirtual i, 3)) (hcs : cells ≤ R.cells ∧ slots ≤ R.slots) (h : qM_constructor a K r p0) (k : ∀ (v : Int32) (r1 : S_), K v r1 → vx_V p l e R s m args below meth c A D vwCl nL cells slots Q (wo G a r1) (pc + 3) lv (.int v :: st)) : vx_V p l e R s m args below meth c A D vwCl nL cells slots Q (wo G a r) pc lv (.int p0 :: .ref (ob G 7) :: st) := by
  refine x_callVi C (CC := "ClassInferenceModel") (ci := 7) (q0 := 7) (fs := fl7 G a r) (As := [.int p0]) rfl rfl (cM_constructor p0 h) (cwV (C := "ClassInferenceModel") 1 C.1.2.2.2.2 (goodV hl wm941 wm942 wm9 wm943) rfl rfl rfl (by decide +kernel) hR) rfl hst hd hcs (fun v w hw => ?_)
  obtain ⟨r1, rfl, h⟩ := hw
  exact k v r1 h
def qM_keepType_J48 (a : L_) (KB3 : S_ → Int32 → Int32 → Int32 → Int32 → Int32 → Prop) (KX45 : S_ → Int32 → Prop) (KX54 : S_ → Int32 → Int32 → Int32 → Int32 → Prop) (r : S_) (v1 : Int32) (v2 : Int32) (v3 : Int32) (v4 : Int32) (v5 : Int32) : Prop :=
  KB3 r v1 v2 v3 v4 (v5 + 1)
set_option maxRecDepth 100000 in
set_option maxHeartbeats 4000000 in
theorem tM_keepType_J48 (C : vx_C p s m args c prog_9_method_5_code 6 (Cond.code yM_keepType prog_9_method_5_code 6 (some .int) :: wAll) "ClassInferenceModel" D vwCl (tysG G) nwAll A) {a : L_} {KB3 : S_ → Int32 → Int32 → Int32 → Int32 → Int32 → Prop} {KX45 : S_ → Int32 → Prop} {KX54 : S_ → Int32 → Int32 → Int32 → Int32 → Prop} (kB3 : ∀ (r : S_) (v1 : Int32) (v2 : Int32) (v3 : Int32) (v4 : Int32) (v5 : Int32), KB3 r v1 v2 v3 v4 v5 → vx_V p l e { frames := 0, cells := 0, slots := 0, locals := 0 } s m args below meth c A D vwCl 6 0 0 Q (wo G a r) 3 [(0, .ref (ob G 7)), (1, .int v1), (2, .int v2), (3, .int v3), (4, .int v4), (5, .int v5)] []) (kX45 : ∀ (r : S_) (v5 : Int32), KX45 r v5 → vx_V p l e { frames := 0, cells := 0, slots := 0, locals := 0 } s m args below meth c A D vwCl 6 0 0 Q (wo G a r) 45 [(5, .int v5)] []) (kX54 : ∀ (r : S_) (v1 : Int32) (v2 : Int32) (v3 : Int32) (v4 : Int32), KX54 r v1 v2 v3 v4 → vx_V p l e { frames := 0, cells := 0, slots := 0, locals := 0 } s m args below meth c A D vwCl 6 0 0 Q (wo G a r) 54 [(0, .ref (ob G 7)), (1, .int v1), (2, .int v2), (3, .int v3), (4, .int v4)] []) (r : S_) (v1 : Int32) (v2 : Int32) (v3 : Int32) (v4 : Int32) (v5 : Int32) (h : qM_keepType_J48 a KB3 KX45 KX54 r v1 v2 v3 v4 v5) : vx_V p l e { frames := 0, cells := 0, slots := 0, locals := 0 } s m args below meth c A D vwCl 6 0 0 Q (wo G a r) 48 [(0, .ref (ob G 7)), (1, .int v1), (2, .int v2), (3, .int v3), (4, .int v4), (5, .int v5)] [] := by
  unfold qM_keepType_J48 at h
  refine x_iinc (j := 5) (v := v5 + 1) C [(5, .int (v5 + 1)), (0, .ref (ob G 7)), (1, .int v1), (2, .int v2), (3, .int v3), (4, .int v4)] dM_keepType_48 rfl rfl (by decide) rfl ?_
  refine x_goto (tgt := 3) C dM_keepType_51 (by decide) ?_
  refine x_sub [1, 2, 3, 4, 5, 0] rfl ?_
  exact kB3 r v1 v2 v3 v4 (v5 + 1) h
def qM_keepType_L3 (a : L_) (KX45 : S_ → Int32 → Prop) (KX54 : S_ → Int32 → Int32 → Int32 → Int32 → Prop) : Nat → S_ → Int32 → Int32 → Int32 → Int32 → Int32 → Prop
  | 0, _, _, _, _, _, _ => False
  | n + 1, r, v1, v2, v3, v4, v5 => (((fi r 22) ≤ v5) → KX54 r v1 v2 v3 v4) ∧ ((¬ (fi r 22) ≤ v5) → vp_in v5 (ln a 37) ∧ ((¬ (ar r 37 v5.toNatClampNeg) = v1) → qM_keepType_J48 a (qM_keepType_L3 a KX45 KX54 n) KX45 KX54 r v1 v2 v3 v4 v5) ∧ (((ar r 37 v5.toNatClampNeg) = v1) → vp_in v5 (ln a 38) ∧ ((¬ (ar r 38 v5.toNatClampNeg) = v2) → qM_keepType_J48 a (qM_keepType_L3 a KX45 KX54 n) KX45 KX54 r v1 v2 v3 v4 v5) ∧ (((ar r 38 v5.toNatClampNeg) = v2) → vp_in v5 (ln a 39) ∧ ((¬ (ar r 39 v5.toNatClampNeg) = v3) → qM_keepType_J48 a (qM_keepType_L3 a KX45 KX54 n) KX45 KX54 r v1 v2 v3 v4 v5) ∧ (((ar r 39 v5.toNatClampNeg) = v3) → KX45 r v5))))
set_option maxRecDepth 100000 in
set_option maxHeartbeats 4000000 in
theorem tM_keepType_L3 (C : vx_C p s m args c prog_9_method_5_code 6 (Cond.code yM_keepType prog_9_method_5_code 6 (some .int) :: wAll) "ClassInferenceModel" D vwCl (tysG G) nwAll A) {a : L_} {KX45 : S_ → Int32 → Prop} {KX54 : S_ → Int32 → Int32 → Int32 → Int32 → Prop} (kX45 : ∀ (r : S_) (v5 : Int32), KX45 r v5 → vx_V p l e { frames := 0, cells := 0, slots := 0, locals := 0 } s m args below meth c A D vwCl 6 0 0 Q (wo G a r) 45 [(5, .int v5)] []) (kX54 : ∀ (r : S_) (v1 : Int32) (v2 : Int32) (v3 : Int32) (v4 : Int32), KX54 r v1 v2 v3 v4 → vx_V p l e { frames := 0, cells := 0, slots := 0, locals := 0 } s m args below meth c A D vwCl 6 0 0 Q (wo G a r) 54 [(0, .ref (ob G 7)), (1, .int v1), (2, .int v2), (3, .int v3), (4, .int v4)] []) : ∀ (n : Nat) (r : S_) (v1 : Int32) (v2 : Int32) (v3 : Int32) (v4 : Int32) (v5 : Int32), qM_keepType_L3 a KX45 KX54 n r v1 v2 v3 v4 v5 → vx_V p l e { frames := 0, cells := 0, slots := 0, locals := 0 } s m args below meth c A D vwCl 6 0 0 Q (wo G a r) 3 [(0, .ref (ob G 7)), (1, .int v1), (2, .int v2), (3, .int v3), (4, .int v4), (5, .int v5)] [] := by
  intro n
  induction n with
  | zero =>
    intro r v1 v2 v3 v4 v5 h
    exact (by rw [qM_keepType_L3] at h; exact h : False).elim
  | succ n kB3 =>
    intro r v1 v2 v3 v4 v5 h
    rw [qM_keepType_L3] at h
    refine x_iload C dM_keepType_3 5 rfl ?_
    refine x_aload_n C dM_keepType_5 rfl 0 rfl ?_
    refine gf_7_3 C (List.mem_cons_of_mem _ wm719) dM_keepType_6 ?_
    refine x_icmp_ge (tgt := 54) C dM_keepType_9 (by decide) (fun g1 => ?_) (fun g1 => ?_)
    · have h := h.1 g1
      refine x_sub [0, 1, 2, 3, 4] rfl ?_
      exact kX54 r v1 v2 v3 v4 h
    · have h := h.2 g1
      refine x_aload_n C dM_keepType_12 rfl 0 rfl ?_
      refine gf_7_4 C (List.mem_cons_of_mem _ wm720) dM_keepType_13 ?_
      refine x_iload C dM_keepType_16 5 rfl ?_
      obtain ⟨g2, h⟩ := h
      refine y_ia C 37 (by decide) g2 dM_keepType_18 ?_
      refine x_iload_n C dM_keepType_19 rfl 1 rfl ?_
      refine x_icmp_ne (tgt := 48) C dM_keepType_20 (by decide) (fun g3 => ?_) (fun g3 => ?_)
      · have h := h.1 g3
        refine x_sub [0, 1, 2, 3, 4, 5] rfl ?_
        exact tM_keepType_J48 C kB3 kX45 kX54 r v1 v2 v3 v4 v5 h
      · have h := h.2 g3
        refine x_aload_n C dM_keepType_23 rfl 0 rfl ?_
        refine gf_7_5 C (List.mem_cons_of_mem _ wm721) dM_keepType_24 ?_
        refine x_iload C dM_keepType_27 5 rfl ?_
        obtain ⟨g4, h⟩ := h
        refine y_ia C 38 (by decide) g4 dM_keepType_29 ?_
        refine x_iload_n C dM_keepType_30 rfl 2 rfl ?_
        refine x_icmp_ne (tgt := 48) C dM_keepType_31 (by decide) (fun g5 => ?_) (fun g5 => ?_)
        · have h := h.1 g5
          refine x_sub [0, 1, 2, 3, 4, 5] rfl ?_
          exact tM_keepType_J48 C kB3 kX45 kX54 r v1 v2 v3 v4 v5 h
        · have h := h.2 g5
          refine x_aload_n C dM_keepType_34 rfl 0 rfl ?_
          refine gf_7_6 C (List.mem_cons_of_mem _ wm722) dM_keepType_35 ?_
          refine x_iload C dM_keepType_38 5 rfl ?_
          obtain ⟨g6, h⟩ := h
          refine y_ia C 39 (by decide) g6 dM_keepType_40 ?_
          refine x_iload_n C dM_keepType_41 rfl 3 rfl ?_
          refine x_icmp_ne (tgt := 48) C dM_keepType_42 (by decide) (fun g7 => ?_) (fun g7 => ?_)
          · have h := h.1 g7
            refine x_sub [0, 1, 2, 3, 4, 5] rfl ?_
            exact tM_keepType_J48 C kB3 kX45 kX54 r v1 v2 v3 v4 v5 h
          · have h := h.2 g7
            refine x_sub [5] rfl ?_
            exact kX45 r v5 h
def qM_keepType (a : L_) (K : Int32 → S_ → Prop) (r : S_) (p0 : Int32) (p1 : Int32) (p2 : Int32) (p3 : Int32) : Prop :=
  ∃ n19 : Nat, qM_keepType_L3 a (fun r v5 => K v5 r) (fun r v1 v2 v3 v4 => (((fi r 22) = 60) → K (-3) r) ∧ ((¬ (fi r 22) = 60) → ((v4 ≤ 16) → vp_in (fi r 22) (ln a 37) ∧ ∀ r11 : S_, r11 = sA r 37 (upd (ar r 37) (fi r 22).toNatClampNeg v1) → vp_in (fi r11 22) (ln a 38) ∧ ∀ r13 : S_, r13 = sA r11 38 (upd (ar r11 38) (fi r11 22).toNatClampNeg v2) → vp_in (fi r13 22) (ln a 39) ∧ ∀ r15 : S_, r15 = sA r13 39 (upd (ar r13 39) (fi r13 22).toNatClampNeg v3) → vp_in (fi r15 22) (ln a 40) ∧ ∀ r17 : S_, r17 = sA r15 40 (upd (ar r15 40) (fi r15 22).toNatClampNeg v4) → ∀ r18 : S_, r18 = sF r17 22 ((fi r17 22) + 1) → K ((fi r18 22) - 1) r18) ∧ ((¬ v4 ≤ 16) → K (-3) r))) n19 r p0 p1 p2 p3 0
set_option maxRecDepth 100000 in
set_option maxHeartbeats 4000000 in
theorem cM_keepType {a : L_} {r : S_} {K : Int32 → S_ → Prop} (p0 : Int32) (p1 : Int32) (p2 : Int32) (p3 : Int32) (h : qM_keepType a K r p0 p1 p2 p3) : vx_Mi l yM_keepType (Cond.code yM_keepType prog_9_method_5_code 6 (some .int) :: wAll) { frames := 0, cells := 0, slots := 0, locals := 0 } D vwCl (tysG G) nwAll (wo G a r) [.ref (ob G 7), .int p0, .int p1, .int p2, .int p3] 0 0 (fun v w => ∃ r1, w = wo G a r1 ∧ K v r1) := by
  unfold qM_keepType at h
  refine x_meti (cc := prog_9_method_5_code) (maxL := 6) (ret := (some .int)) (lv0 := [(0, .ref (ob G 7)), (1, .int p0), (2, .int p1), (3, .int p2), (4, .int p3)]) (by decide) rfl (Nat.le_of_ble_eq_true rfl) rfl ?_
  intro p e s m args below meth c A C hA hlocks hr
  refine x_iconst (v := 0) C dM_keepType_0 (by decide) ?_
  refine x_istore C [(5, .int 0), (0, .ref (ob G 7)), (1, .int p0), (2, .int p1), (3, .int p2), (4, .int p3)] dM_keepType_1 (by decide) rfl ?_
  obtain ⟨n19, h⟩ := h
  refine x_sub [1, 2, 3, 4, 5, 0] rfl ?_
  refine tM_keepType_L3 C (fun r v5 h => ?_) (fun r v1 v2 v3 v4 h => ?_) n19 r p0 p1 p2 p3 0 h
  · refine x_iload C dM_keepType_45 0 rfl ?_
    exact x_iret C hA hlocks hr ⟨r, rfl, h⟩ dM_keepType_47
  · refine x_aload_n C dM_keepType_54 rfl 0 rfl ?_
    refine gf_7_3 C (List.mem_cons_of_mem _ wm719) dM_keepType_55 ?_
    refine x_bipush (v := 60) C dM_keepType_58 (by decide) ?_
    refine x_icmp_eq (tgt := 70) C dM_keepType_60 (by decide) (fun g8 => ?_) (fun g8 => ?_)
    · have h := h.1 g8
      refine x_bipush (v := (-3)) C dM_keepType_70 (by decide) ?_
      exact x_iret C hA hlocks hr ⟨r, rfl, h⟩ dM_keepType_72
    · have h := h.2 g8
      refine x_iload C dM_keepType_63 4 rfl ?_
      refine x_bipush (v := 16) C dM_keepType_65 (by decide) ?_
      refine x_icmp_le (tgt := 73) C dM_keepType_67 (by decide) (fun g9 => ?_) (fun g9 => ?_)
      · have h := h.1 g9
        refine x_aload_n C dM_keepType_73 rfl 0 rfl ?_
        refine gf_7_4 C (List.mem_cons_of_mem _ wm720) dM_keepType_74 ?_
        refine x_aload_n C dM_keepType_77 rfl 0 rfl ?_
        refine gf_7_3 C (List.mem_cons_of_mem _ wm719) dM_keepType_78 ?_
        refine x_iload_n C dM_keepType_81 rfl 1 rfl ?_
        obtain ⟨g10, h⟩ := h
        refine y_is C 37 (by decide) g10 dM_keepType_82 (fun r11 er11 => ?_)
        have h := h r11 er11
        refine x_aload_n C dM_keepType_83 rfl 0 rfl ?_
        refine gf_7_5 C (List.mem_cons_of_mem _ wm721) dM_keepType_84 ?_
        refine x_aload_n C dM_keepType_87 rfl 0 rfl ?_
        refine gf_7_3 C (List.mem_cons_of_mem _ wm719) dM_keepType_88 ?_
        refine x_iload_n C dM_keepType_91 rfl 2 rfl ?_
        obtain ⟨g12, h⟩ := h
        refine y_is C 38 (by decide) g12 dM_keepType_92 (fun r13 er13 => ?_)
        have h := h r13 er13
        refine x_aload_n C dM_keepType_93 rfl 0 rfl ?_
        refine gf_7_6 C (List.mem_cons_of_mem _ wm722) dM_keepType_94 ?_
        refine x_aload_n C dM_keepType_97 rfl 0 rfl ?_
        refine gf_7_3 C (List.mem_cons_of_mem _ wm719) dM_keepType_98 ?_
        refine x_iload_n C dM_keepType_101 rfl 3 rfl ?_
        obtain ⟨g14, h⟩ := h
        refine y_is C 39 (by decide) g14 dM_keepType_102 (fun r15 er15 => ?_)
        have h := h r15 er15
        refine x_aload_n C dM_keepType_103 rfl 0 rfl ?_
        refine gf_7_7 C (List.mem_cons_of_mem _ wm723) dM_keepType_104 ?_
        refine x_aload_n C dM_keepType_107 rfl 0 rfl ?_
        refine gf_7_3 C (List.mem_cons_of_mem _ wm719) dM_keepType_108 ?_
        refine x_iload C dM_keepType_111 4 rfl ?_
        obtain ⟨g16, h⟩ := h
        refine y_is C 40 (by decide) g16 dM_keepType_113 (fun r17 er17 => ?_)
        have h := h r17 er17
        refine x_aload_n C dM_keepType_114 rfl 0 rfl ?_
        refine x_dup C dM_keepType_115 rfl ?_
        refine gf_7_3 C (List.mem_cons_of_mem _ wm719) dM_keepType_116 ?_
        refine x_iconst (v := 1) C dM_keepType_119 (by decide) ?_
        refine x_iadd C dM_keepType_120 ?_
        refine pf_7_3 C (List.mem_cons_of_mem _ wm719) dM_keepType_121 (fun r18 er18 => ?_)
        have h := h r18 er18
        refine x_aload_n C dM_keepType_124 rfl 0 rfl ?_
        refine gf_7_3 C (List.mem_cons_of_mem _ wm719) dM_keepType_125 ?_
        refine x_iconst (v := 1) C dM_keepType_128 (by decide) ?_
        refine x_isub C dM_keepType_129 ?_
        exact x_iret C hA hlocks hr ⟨r18, rfl, h⟩ dM_keepType_130
      · have h := h.2 g9
        refine x_bipush (v := (-3)) C dM_keepType_70 (by decide) ?_
        exact x_iret C hA hlocks hr ⟨r, rfl, h⟩ dM_keepType_72
set_option maxRecDepth 100000 in
set_option maxHeartbeats 4000000 in
theorem kM_keepType {p : Program} {l : Launch} {e : Env} {R : Room} {s : State} {m : MethodId} {args : Array Value} {below : List Frame} {meth : Method} {c : Code} {cells slots : Nat} {Q : State → Prop} {A : Nat → Prop} {D : va_G} {nL pc : Nat} {cc : ByteArray} {cw : Cond} {own : String} {lv : List (Nat × Value)} {st : List Value} {G : G_} {a : L_} {r : S_} {K : Int32 → S_ → Prop} {p0 : Int32} {p1 : Int32} {p2 : Int32} {p3 : Int32} (C : vx_C p s m args c cc nL (cw :: wAll) own D vwCl (tysG G) nwAll A) {i : Nat} (hl : Cond.methodLink own i yM_keepType ∈ wAll) (hR : 0 + 1 ≤ R.frames ∧ 8 + (6 + 11) + 0 ≤ R.locals) (hst : (st.map fun v => v.category).sum ≤ 8) (hd : decode cc pc = .ok (.invokevirtual i, 3)) (hcs : cells ≤ R.cells ∧ slots ≤ R.slots) (h : qM_keepType a K r p0 p1 p2 p3) (k : ∀ (v : Int32) (r1 : S_), K v r1 → vx_V p l e R s m args below meth c A D vwCl nL cells slots Q (wo G a r1) (pc + 3) lv (.int v :: st)) : vx_V p l e R s m args below meth c A D vwCl nL cells slots Q (wo G a r) pc lv (.int p3 :: .int p2 :: .int p1 :: .int p0 :: .ref (ob G 7) :: st) := by
  refine x_callVi C (CC := "ClassInferenceModel") (ci := 7) (q0 := 7) (fs := fl7 G a r) (As := [.int p0, .int p1, .int p2, .int p3]) rfl rfl (cM_keepType p0 p1 p2 p3 h) (cwV (C := "ClassInferenceModel") 4 C.1.2.2.2.2 (goodV hl wm953 wp30 wm9 wm954) rfl rfl rfl (by decide +kernel) hR) rfl hst hd hcs (fun v w hw => ?_)
  obtain ⟨r1, rfl, h⟩ := hw
  exact k v r1 h
def qM_variable (a : L_) (K : Int32 → S_ → Prop) (r : S_) (p0 : Int32) : Prop :=
  ∀ r1 : S_, r1 = sF r 20 0 → qM_in a r1 (fun z2 => zb z2 → ((z2 = 0) → K (-1) r1) ∧ ((¬ z2 = 0) → qM_keepType a (fun z4 r5 => K z4 r5) r1 ((-1) - p0) (-1) (-1) 1)) p0 0 7
set_option maxRecDepth 100000 in
set_option maxHeartbeats 4000000 in
theorem cM_variable {a : L_} {r : S_} {K : Int32 → S_ → Prop} (p0 : Int32) (h : qM_variable a K r p0) : vx_Mi l yM_variable (Cond.code yM_variable prog_9_method_6_code 2 (some .int) :: wAll) { frames := 1, cells := 0, slots := 0, locals := 25 } D vwCl (tysG G) nwAll (wo G a r) [.ref (ob G 7), .int p0] 0 0 (fun v w => ∃ r1, w = wo G a r1 ∧ K v r1) := by
  unfold qM_variable at h
  refine x_meti (cc := prog_9_method_6_code) (maxL := 2) (ret := (some .int)) (lv0 := [(0, .ref (ob G 7)), (1, .int p0)]) (by decide) rfl (Nat.le_of_ble_eq_true rfl) rfl ?_
  intro p e s m args below meth c A C hA hlocks hr
  refine x_aload_n C dM_variable_0 rfl 0 rfl ?_
  refine x_iconst (v := 0) C dM_variable_1 (by decide) ?_
  refine pf_7_0 C (List.mem_cons_of_mem _ wm716) dM_variable_2 (fun r1 er1 => ?_)
  have h := h r1 er1
  refine x_iload_n C dM_variable_5 rfl 1 rfl ?_
  refine x_iconst (v := 0) C dM_variable_6 (by decide) ?_
  refine x_bipush (v := 7) C dM_variable_7 (by decide) ?_
  refine kM_in C wm944 ⟨Nat.le_of_ble_eq_true rfl, Nat.le_of_ble_eq_true rfl⟩ (Nat.le_of_ble_eq_true rfl) dM_variable_9 ⟨Nat.zero_le _, Nat.zero_le _⟩ h (fun z2 hzz2 h => ?_)
  have h := h hzz2
  refine x_if_eq (tgt := 28) C dM_variable_12 (by decide) (fun g3 => ?_) (fun g3 => ?_)
  · have h := h.1 g3
    refine x_iconst (v := (-1)) C dM_variable_28 (by decide) ?_
    exact x_iret C hA hlocks hr ⟨r1, rfl, h⟩ dM_variable_29
  · have h := h.2 g3
    refine x_aload_n C dM_variable_15 rfl 0 rfl ?_
    refine x_iconst (v := (-1)) C dM_variable_16 (by decide) ?_
    refine x_iload_n C dM_variable_17 rfl 1 rfl ?_
    refine x_isub C dM_variable_18 ?_
    refine x_iconst (v := (-1)) C dM_variable_19 (by decide) ?_
    refine x_iconst (v := (-1)) C dM_variable_20 (by decide) ?_
    refine x_iconst (v := 1) C dM_variable_21 (by decide) ?_
    refine kM_keepType C wm951 ⟨Nat.le_of_ble_eq_true rfl, Nat.le_of_ble_eq_true rfl⟩ (Nat.le_of_ble_eq_true rfl) dM_variable_22 ⟨Nat.zero_le _, Nat.zero_le _⟩ h (fun z4 r5 h => ?_)
    refine x_goto (tgt := 29) C dM_variable_25 (by decide) ?_
    exact x_iret C hA hlocks hr ⟨r5, rfl, h⟩ dM_variable_29
set_option maxRecDepth 100000 in
set_option maxHeartbeats 4000000 in
theorem kM_variable {p : Program} {l : Launch} {e : Env} {R : Room} {s : State} {m : MethodId} {args : Array Value} {below : List Frame} {meth : Method} {c : Code} {cells slots : Nat} {Q : State → Prop} {A : Nat → Prop} {D : va_G} {nL pc : Nat} {cc : ByteArray} {cw : Cond} {own : String} {lv : List (Nat × Value)} {st : List Value} {G : G_} {a : L_} {r : S_} {K : Int32 → S_ → Prop} {p0 : Int32} (C : vx_C p s m args c cc nL (cw :: wAll) own D vwCl (tysG G) nwAll A) {i : Nat} (hl : Cond.methodLink own i yM_variable ∈ wAll) (hR : 1 + 1 ≤ R.frames ∧ 8 + (2 + 11) + 25 ≤ R.locals) (hst : (st.map fun v => v.category).sum ≤ 8) (hd : decode cc pc = .ok (.invokevirtual i, 3)) (hcs : cells ≤ R.cells ∧ slots ≤ R.slots) (h : qM_variable a K r p0) (k : ∀ (v : Int32) (r1 : S_), K v r1 → vx_V p l e R s m args below meth c A D vwCl nL cells slots Q (wo G a r1) (pc + 3) lv (.int v :: st)) : vx_V p l e R s m args below meth c A D vwCl nL cells slots Q (wo G a r) pc lv (.int p0 :: .ref (ob G 7) :: st) := by
  refine x_callVi C (CC := "ClassInferenceModel") (ci := 7) (q0 := 7) (fs := fl7 G a r) (As := [.int p0]) rfl rfl (cM_variable p0 h) (cwV (C := "ClassInferenceModel") 1 C.1.2.2.2.2 (goodV hl wm948 wm949 wm9 wm950) rfl rfl rfl (by decide +kernel) hR) rfl hst hd hcs (fun v w hw => ?_)
  obtain ⟨r1, rfl, h⟩ := hw
  exact k v r1 h
def qM_type_J129 (a : L_) (K : Int32 → S_ → Prop) (r : S_) (v5 : Int32) (u0 : Int32) (u1 : Int32) (u2 : Int32) : Prop :=
  qM_keepType a (fun z11 r12 => K z11 r12) r u2 u1 u0 v5
set_option maxRecDepth 100000 in
set_option maxHeartbeats 4000000 in
theorem tM_type_J129 (C : vx_C p s m args c prog_9_method_7_code 6 (Cond.code yM_type prog_9_method_7_code 6 (some .int) :: wAll) "ClassInferenceModel" D vwCl (tysG G) nwAll A) (hA : A = va_A ws0 s.heap.size) (hlocks : meth.locks = false) (hr : meth.sig.returnType = (some .int)) {a : L_} {K : Int32 → S_ → Prop} (r : S_) (v5 : Int32) (u0 : Int32) (u1 : Int32) (u2 : Int32) (h : qM_type_J129 a K r v5 u0 u1 u2) : vx_V p l e { frames := 1, cells := 0, slots := 0, locals := 25 } s m args below meth c A D vwCl 6 0 0 (MQ below (va_Qi (fun v w => ∃ r1, w = wo G a r1 ∧ K v r1) (vx_B D vwCl (tysG G) A) A) args s 0 0 A) (wo G a r) 129 [(5, .int v5)] [.int u0, .int u1, .int u2, .ref (ob G 7)] := by
  unfold qM_type_J129 at h
  refine x_iload C dM_type_129 0 rfl ?_
  refine kM_keepType C wm951 ⟨Nat.le_of_ble_eq_true rfl, Nat.le_of_ble_eq_true rfl⟩ (Nat.le_of_ble_eq_true rfl) dM_type_131 ⟨Nat.zero_le _, Nat.zero_le _⟩ h (fun z11 r12 h => ?_)
  exact x_iret C hA hlocks hr ⟨r12, rfl, h⟩ dM_type_134
def qM_type_J118 (a : L_) (K : Int32 → S_ → Prop) (r : S_) (v3 : Int32) (v4 : Int32) (v5 : Int32) (u0 : Int32) (u1 : Int32) : Prop :=
  ((v4 ≤ 1) → qM_type_J129 a K r v5 (-1) u0 u1) ∧ ((¬ v4 ≤ 1) → qM_type_J129 a K r v5 v3 u0 u1)
set_option maxRecDepth 100000 in
set_option maxHeartbeats 4000000 in
theorem tM_type_J118 (C : vx_C p s m args c prog_9_method_7_code 6 (Cond.code yM_type prog_9_method_7_code 6 (some .int) :: wAll) "ClassInferenceModel" D vwCl (tysG G) nwAll A) (hA : A = va_A ws0 s.heap.size) (hlocks : meth.locks = false) (hr : meth.sig.returnType = (some .int)) {a : L_} {K : Int32 → S_ → Prop} (r : S_) (v3 : Int32) (v4 : Int32) (v5 : Int32) (u0 : Int32) (u1 : Int32) (h : qM_type_J118 a K r v3 v4 v5 u0 u1) : vx_V p l e { frames := 1, cells := 0, slots := 0, locals := 25 } s m args below meth c A D vwCl 6 0 0 (MQ below (va_Qi (fun v w => ∃ r1, w = wo G a r1 ∧ K v r1) (vx_B D vwCl (tysG G) A) A) args s 0 0 A) (wo G a r) 118 [(3, .int v3), (4, .int v4), (5, .int v5)] [.int u0, .int u1, .ref (ob G 7)] := by
  unfold qM_type_J118 at h
  refine x_iload C dM_type_118 1 rfl ?_
  refine x_iconst (v := 1) C dM_type_120 (by decide) ?_
  refine x_icmp_le (tgt := 128) C dM_type_121 (by decide) (fun g10 => ?_) (fun g10 => ?_)
  · have h := h.1 g10
    refine x_iconst (v := (-1)) C dM_type_128 (by decide) ?_
    refine x_sub [2] rfl ?_
    exact tM_type_J129 C hA hlocks hr r v5 (-1) u0 u1 h
  · have h := h.2 g10
    refine x_iload_n C dM_type_124 rfl 0 rfl ?_
    refine x_goto (tgt := 129) C dM_type_125 (by decide) ?_
    refine x_sub [2] rfl ?_
    exact tM_type_J129 C hA hlocks hr r v5 v3 u0 u1 h
def qM_type_J103 (a : L_) (K : Int32 → S_ → Prop) (r : S_) (v1 : Int32) (v2 : Int32) (v3 : Int32) (v4 : Int32) (u0 : Int32) (u1 : Int32) : Prop :=
  ((v4 ≤ 0) → qM_type_J118 a K r v3 v4 (u1 + u0) (-1) v1) ∧ ((¬ v4 ≤ 0) → qM_type_J118 a K r v3 v4 (u1 + u0) v2 v1)
set_option maxRecDepth 100000 in
set_option maxHeartbeats 4000000 in
theorem tM_type_J103 (C : vx_C p s m args c prog_9_method_7_code 6 (Cond.code yM_type prog_9_method_7_code 6 (some .int) :: wAll) "ClassInferenceModel" D vwCl (tysG G) nwAll A) (hA : A = va_A ws0 s.heap.size) (hlocks : meth.locks = false) (hr : meth.sig.returnType = (some .int)) {a : L_} {K : Int32 → S_ → Prop} (r : S_) (v1 : Int32) (v2 : Int32) (v3 : Int32) (v4 : Int32) (u0 : Int32) (u1 : Int32) (h : qM_type_J103 a K r v1 v2 v3 v4 u0 u1) : vx_V p l e { frames := 1, cells := 0, slots := 0, locals := 25 } s m args below meth c A D vwCl 6 0 0 (MQ below (va_Qi (fun v w => ∃ r1, w = wo G a r1 ∧ K v r1) (vx_B D vwCl (tysG G) A) A) args s 0 0 A) (wo G a r) 103 [(0, .ref (ob G 7)), (1, .int v1), (2, .int v2), (3, .int v3), (4, .int v4)] [.int u0, .int u1] := by
  unfold qM_type_J103 at h
  refine x_iadd C dM_type_103 ?_
  refine x_istore C [(5, .int (u1 + u0)), (0, .ref (ob G 7)), (1, .int v1), (2, .int v2), (3, .int v3), (4, .int v4)] dM_type_104 (by decide) rfl ?_
  refine x_aload_n C dM_type_106 rfl 1 rfl ?_
  refine x_iload_n C dM_type_107 rfl 2 rfl ?_
  refine x_iload C dM_type_108 5 rfl ?_
  refine x_if_le (tgt := 117) C dM_type_110 (by decide) (fun g9 => ?_) (fun g9 => ?_)
  · have h := h.1 g9
    refine x_iconst (v := (-1)) C dM_type_117 (by decide) ?_
    refine x_sub [4, 5, 0] rfl ?_
    exact tM_type_J118 C hA hlocks hr r v3 v4 (u1 + u0) (-1) v1 h
  · have h := h.2 g9
    refine x_iload_n C dM_type_113 rfl 3 rfl ?_
    refine x_goto (tgt := 118) C dM_type_114 (by decide) ?_
    refine x_sub [4, 5, 0] rfl ?_
    exact tM_type_J118 C hA hlocks hr r v3 v4 (u1 + u0) v2 v1 h
def qM_type_J86 (a : L_) (K : Int32 → S_ → Prop) (r : S_) (v1 : Int32) (v2 : Int32) (v3 : Int32) (v4 : Int32) (u0 : Int32) (u1 : Int32) : Prop :=
  ((v4 ≤ 1) → qM_type_J103 a K r v1 v2 v3 v4 0 (u1 + u0)) ∧ ((¬ v4 ≤ 1) → vp_in v3 (ln a 40) ∧ qM_type_J103 a K r v1 v2 v3 v4 (ar r 40 v3.toNatClampNeg) (u1 + u0))
set_option maxRecDepth 100000 in
set_option maxHeartbeats 4000000 in
theorem tM_type_J86 (C : vx_C p s m args c prog_9_method_7_code 6 (Cond.code yM_type prog_9_method_7_code 6 (some .int) :: wAll) "ClassInferenceModel" D vwCl (tysG G) nwAll A) (hA : A = va_A ws0 s.heap.size) (hlocks : meth.locks = false) (hr : meth.sig.returnType = (some .int)) {a : L_} {K : Int32 → S_ → Prop} (r : S_) (v1 : Int32) (v2 : Int32) (v3 : Int32) (v4 : Int32) (u0 : Int32) (u1 : Int32) (h : qM_type_J86 a K r v1 v2 v3 v4 u0 u1) : vx_V p l e { frames := 1, cells := 0, slots := 0, locals := 25 } s m args below meth c A D vwCl 6 0 0 (MQ below (va_Qi (fun v w => ∃ r1, w = wo G a r1 ∧ K v r1) (vx_B D vwCl (tysG G) A) A) args s 0 0 A) (wo G a r) 86 [(0, .ref (ob G 7)), (1, .int v1), (2, .int v2), (3, .int v3), (4, .int v4)] [.int u0, .int u1] := by
  unfold qM_type_J86 at h
  refine x_iadd C dM_type_86 ?_
  refine x_iload C dM_type_87 4 rfl ?_
  refine x_iconst (v := 1) C dM_type_89 (by decide) ?_
  refine x_icmp_le (tgt := 102) C dM_type_90 (by decide) (fun g8 => ?_) (fun g8 => ?_)
  · have h := h.1 g8
    refine x_iconst (v := 0) C dM_type_102 (by decide) ?_
    refine x_sub [0, 1, 2, 3, 4] rfl ?_
    exact tM_type_J103 C hA hlocks hr r v1 v2 v3 v4 0 (u1 + u0) h
  · have h := h.2 g8
    refine x_aload_n C dM_type_93 rfl 0 rfl ?_
    refine gf_7_7 C (List.mem_cons_of_mem _ wm723) dM_type_94 ?_
    refine x_iload_n C dM_type_97 rfl 3 rfl ?_
    obtain ⟨g13, h⟩ := h
    refine y_ia C 40 (by decide) g13 dM_type_98 ?_
    refine x_goto (tgt := 103) C dM_type_99 (by decide) ?_
    refine x_sub [0, 1, 2, 3, 4] rfl ?_
    exact tM_type_J103 C hA hlocks hr r v1 v2 v3 v4 (ar r 40 v3.toNatClampNeg) (u1 + u0) h
def qM_type_J70 (a : L_) (K : Int32 → S_ → Prop) (r : S_) (v1 : Int32) (v2 : Int32) (v3 : Int32) (v4 : Int32) : Prop :=
  ((v4 ≤ 0) → qM_type_J86 a K r v1 v2 v3 v4 0 1) ∧ ((¬ v4 ≤ 0) → vp_in v2 (ln a 40) ∧ qM_type_J86 a K r v1 v2 v3 v4 (ar r 40 v2.toNatClampNeg) 1)
set_option maxRecDepth 100000 in
set_option maxHeartbeats 4000000 in
theorem tM_type_J70 (C : vx_C p s m args c prog_9_method_7_code 6 (Cond.code yM_type prog_9_method_7_code 6 (some .int) :: wAll) "ClassInferenceModel" D vwCl (tysG G) nwAll A) (hA : A = va_A ws0 s.heap.size) (hlocks : meth.locks = false) (hr : meth.sig.returnType = (some .int)) {a : L_} {K : Int32 → S_ → Prop} (r : S_) (v1 : Int32) (v2 : Int32) (v3 : Int32) (v4 : Int32) (h : qM_type_J70 a K r v1 v2 v3 v4) : vx_V p l e { frames := 1, cells := 0, slots := 0, locals := 25 } s m args below meth c A D vwCl 6 0 0 (MQ below (va_Qi (fun v w => ∃ r1, w = wo G a r1 ∧ K v r1) (vx_B D vwCl (tysG G) A) A) args s 0 0 A) (wo G a r) 70 [(0, .ref (ob G 7)), (1, .int v1), (2, .int v2), (3, .int v3), (4, .int v4)] [] := by
  unfold qM_type_J70 at h
  refine x_iconst (v := 1) C dM_type_70 (by decide) ?_
  refine x_iload C dM_type_71 4 rfl ?_
  refine x_if_le (tgt := 85) C dM_type_73 (by decide) (fun g7 => ?_) (fun g7 => ?_)
  · have h := h.1 g7
    refine x_iconst (v := 0) C dM_type_85 (by decide) ?_
    refine x_sub [0, 1, 2, 3, 4] rfl ?_
    exact tM_type_J86 C hA hlocks hr r v1 v2 v3 v4 0 1 h
  · have h := h.2 g7
    refine x_aload_n C dM_type_76 rfl 0 rfl ?_
    refine gf_7_7 C (List.mem_cons_of_mem _ wm723) dM_type_77 ?_
    refine x_iload_n C dM_type_80 rfl 2 rfl ?_
    obtain ⟨g14, h⟩ := h
    refine y_ia C 40 (by decide) g14 dM_type_81 ?_
    refine x_goto (tgt := 86) C dM_type_82 (by decide) ?_
    refine x_sub [0, 1, 2, 3, 4] rfl ?_
    exact tM_type_J86 C hA hlocks hr r v1 v2 v3 v4 (ar r 40 v2.toNatClampNeg) 1 h
def qM_type_J48 (a : L_) (K : Int32 → S_ → Prop) (r : S_) (v1 : Int32) (v2 : Int32) (v3 : Int32) (v4 : Int32) : Prop :=
  ((v4 ≤ 1) → qM_type_J70 a K r v1 v2 v3 v4) ∧ ((¬ v4 ≤ 1) → qM_in a r (fun z15 => zb z15 → ((¬ z15 = 0) → qM_type_J70 a K r v1 v2 v3 v4) ∧ ((z15 = 0) → K (-1) r)) v3 0 ((fi r 22) - 1))
set_option maxRecDepth 100000 in
set_option maxHeartbeats 4000000 in
theorem tM_type_J48 (C : vx_C p s m args c prog_9_method_7_code 6 (Cond.code yM_type prog_9_method_7_code 6 (some .int) :: wAll) "ClassInferenceModel" D vwCl (tysG G) nwAll A) (hA : A = va_A ws0 s.heap.size) (hlocks : meth.locks = false) (hr : meth.sig.returnType = (some .int)) {a : L_} {K : Int32 → S_ → Prop} (r : S_) (v1 : Int32) (v2 : Int32) (v3 : Int32) (v4 : Int32) (h : qM_type_J48 a K r v1 v2 v3 v4) : vx_V p l e { frames := 1, cells := 0, slots := 0, locals := 25 } s m args below meth c A D vwCl 6 0 0 (MQ below (va_Qi (fun v w => ∃ r1, w = wo G a r1 ∧ K v r1) (vx_B D vwCl (tysG G) A) A) args s 0 0 A) (wo G a r) 48 [(0, .ref (ob G 7)), (1, .int v1), (2, .int v2), (3, .int v3), (4, .int v4)] [] := by
  unfold qM_type_J48 at h
  refine x_iload C dM_type_48 4 rfl ?_
  refine x_iconst (v := 1) C dM_type_50 (by decide) ?_
  refine x_icmp_le (tgt := 70) C dM_type_51 (by decide) (fun g6 => ?_) (fun g6 => ?_)
  · have h := h.1 g6
    refine x_sub [0, 1, 2, 3, 4] rfl ?_
    exact tM_type_J70 C hA hlocks hr r v1 v2 v3 v4 h
  · have h := h.2 g6
    refine x_iload_n C dM_type_54 rfl 3 rfl ?_
    refine x_iconst (v := 0) C dM_type_55 (by decide) ?_
    refine x_aload_n C dM_type_56 rfl 0 rfl ?_
    refine gf_7_3 C (List.mem_cons_of_mem _ wm719) dM_type_57 ?_
    refine x_iconst (v := 1) C dM_type_60 (by decide) ?_
    refine x_isub C dM_type_61 ?_
    refine kM_in C wm944 ⟨Nat.le_of_ble_eq_true rfl, Nat.le_of_ble_eq_true rfl⟩ (Nat.le_of_ble_eq_true rfl) dM_type_62 ⟨Nat.zero_le _, Nat.zero_le _⟩ h (fun z15 hzz15 h => ?_)
    have h := h hzz15
    refine x_if_ne (tgt := 70) C dM_type_65 (by decide) (fun g16 => ?_) (fun g16 => ?_)
    · have h := h.1 g16
      refine x_sub [0, 1, 2, 3, 4] rfl ?_
      exact tM_type_J70 C hA hlocks hr r v1 v2 v3 v4 h
    · have h := h.2 g16
      refine x_iconst (v := (-1)) C dM_type_68 (by decide) ?_
      exact x_iret C hA hlocks hr ⟨r, rfl, h⟩ dM_type_69
def qM_type (a : L_) (K : Int32 → S_ → Prop) (r : S_) (p0 : Int32) (p1 : Int32) (p2 : Int32) : Prop :=
  ∀ r1 : S_, r1 = sF r 20 0 → qM_in a r1 (fun z2 => zb z2 → ((¬ z2 = 0) → vp_in p0 (ln a 36) ∧ (((ar r1 36 p0.toNatClampNeg) ≤ 0) → qM_type_J48 a K r1 p0 p1 p2 (ar r1 36 p0.toNatClampNeg)) ∧ ((¬ (ar r1 36 p0.toNatClampNeg) ≤ 0) → qM_in a r1 (fun z17 => zb z17 → ((z17 = 0) → K (-1) r1) ∧ ((¬ z17 = 0) → qM_type_J48 a K r1 p0 p1 p2 (ar r1 36 p0.toNatClampNeg))) p1 0 ((fi r1 22) - 1))) ∧ ((z2 = 0) → K (-1) r1)) p0 0 ((fi r1 21) - 1)
set_option maxRecDepth 100000 in
set_option maxHeartbeats 4000000 in
theorem cM_type {a : L_} {r : S_} {K : Int32 → S_ → Prop} (p0 : Int32) (p1 : Int32) (p2 : Int32) (h : qM_type a K r p0 p1 p2) : vx_Mi l yM_type (Cond.code yM_type prog_9_method_7_code 6 (some .int) :: wAll) { frames := 1, cells := 0, slots := 0, locals := 25 } D vwCl (tysG G) nwAll (wo G a r) [.ref (ob G 7), .int p0, .int p1, .int p2] 0 0 (fun v w => ∃ r1, w = wo G a r1 ∧ K v r1) := by
  unfold qM_type at h
  refine x_meti (cc := prog_9_method_7_code) (maxL := 6) (ret := (some .int)) (lv0 := [(0, .ref (ob G 7)), (1, .int p0), (2, .int p1), (3, .int p2)]) (by decide) rfl (Nat.le_of_ble_eq_true rfl) rfl ?_
  intro p e s m args below meth c A C hA hlocks hr
  refine x_aload_n C dM_type_0 rfl 0 rfl ?_
  refine x_iconst (v := 0) C dM_type_1 (by decide) ?_
  refine pf_7_0 C (List.mem_cons_of_mem _ wm716) dM_type_2 (fun r1 er1 => ?_)
  have h := h r1 er1
  refine x_iload_n C dM_type_5 rfl 1 rfl ?_
  refine x_iconst (v := 0) C dM_type_6 (by decide) ?_
  refine x_aload_n C dM_type_7 rfl 0 rfl ?_
  refine gf_7_1 C (List.mem_cons_of_mem _ wm717) dM_type_8 ?_
  refine x_iconst (v := 1) C dM_type_11 (by decide) ?_
  refine x_isub C dM_type_12 ?_
  refine kM_in C wm944 ⟨Nat.le_of_ble_eq_true rfl, Nat.le_of_ble_eq_true rfl⟩ (Nat.le_of_ble_eq_true rfl) dM_type_13 ⟨Nat.zero_le _, Nat.zero_le _⟩ h (fun z2 hzz2 h => ?_)
  have h := h hzz2
  refine x_if_ne (tgt := 21) C dM_type_16 (by decide) (fun g3 => ?_) (fun g3 => ?_)
  · have h := h.1 g3
    refine x_aload_n C dM_type_21 rfl 0 rfl ?_
    refine gf_7_2 C (List.mem_cons_of_mem _ wm718) dM_type_22 ?_
    refine x_iload_n C dM_type_25 rfl 1 rfl ?_
    obtain ⟨g4, h⟩ := h
    refine y_ia C 36 (by decide) g4 dM_type_26 ?_
    refine x_istore C [(4, .int (ar r1 36 p0.toNatClampNeg)), (0, .ref (ob G 7)), (1, .int p0), (2, .int p1), (3, .int p2)] dM_type_27 (by decide) rfl ?_
    refine x_iload C dM_type_29 0 rfl ?_
    refine x_if_le (tgt := 48) C dM_type_31 (by decide) (fun g5 => ?_) (fun g5 => ?_)
    · have h := h.1 g5
      refine x_sub [1, 2, 3, 4, 0] rfl ?_
      exact tM_type_J48 C hA hlocks hr r1 p0 p1 p2 (ar r1 36 p0.toNatClampNeg) h
    · have h := h.2 g5
      refine x_iload_n C dM_type_34 rfl 3 rfl ?_
      refine x_iconst (v := 0) C dM_type_35 (by decide) ?_
      refine x_aload_n C dM_type_36 rfl 1 rfl ?_
      refine gf_7_3 C (List.mem_cons_of_mem _ wm719) dM_type_37 ?_
      refine x_iconst (v := 1) C dM_type_40 (by decide) ?_
      refine x_isub C dM_type_41 ?_
      refine kM_in C wm944 ⟨Nat.le_of_ble_eq_true rfl, Nat.le_of_ble_eq_true rfl⟩ (Nat.le_of_ble_eq_true rfl) dM_type_42 ⟨Nat.zero_le _, Nat.zero_le _⟩ h (fun z17 hzz17 h => ?_)
      have h := h hzz17
      refine x_if_eq (tgt := 68) C dM_type_45 (by decide) (fun g18 => ?_) (fun g18 => ?_)
      · have h := h.1 g18
        refine x_iconst (v := (-1)) C dM_type_68 (by decide) ?_
        exact x_iret C hA hlocks hr ⟨r1, rfl, h⟩ dM_type_69
      · have h := h.2 g18
        refine x_sub [1, 2, 3, 4, 0] rfl ?_
        exact tM_type_J48 C hA hlocks hr r1 p0 p1 p2 (ar r1 36 p0.toNatClampNeg) h
  · have h := h.2 g3
    refine x_iconst (v := (-1)) C dM_type_19 (by decide) ?_
    exact x_iret C hA hlocks hr ⟨r1, rfl, h⟩ dM_type_20
set_option maxRecDepth 100000 in
set_option maxHeartbeats 4000000 in
theorem kM_type {p : Program} {l : Launch} {e : Env} {R : Room} {s : State} {m : MethodId} {args : Array Value} {below : List Frame} {meth : Method} {c : Code} {cells slots : Nat} {Q : State → Prop} {A : Nat → Prop} {D : va_G} {nL pc : Nat} {cc : ByteArray} {cw : Cond} {own : String} {lv : List (Nat × Value)} {st : List Value} {G : G_} {a : L_} {r : S_} {K : Int32 → S_ → Prop} {p0 : Int32} {p1 : Int32} {p2 : Int32} (C : vx_C p s m args c cc nL (cw :: wAll) own D vwCl (tysG G) nwAll A) {i : Nat} (hl : Cond.methodLink own i yM_type ∈ wAll) (hR : 1 + 1 ≤ R.frames ∧ 8 + (6 + 11) + 25 ≤ R.locals) (hst : (st.map fun v => v.category).sum ≤ 8) (hd : decode cc pc = .ok (.invokevirtual i, 3)) (hcs : cells ≤ R.cells ∧ slots ≤ R.slots) (h : qM_type a K r p0 p1 p2) (k : ∀ (v : Int32) (r1 : S_), K v r1 → vx_V p l e R s m args below meth c A D vwCl nL cells slots Q (wo G a r1) (pc + 3) lv (.int v :: st)) : vx_V p l e R s m args below meth c A D vwCl nL cells slots Q (wo G a r) pc lv (.int p2 :: .int p1 :: .int p0 :: .ref (ob G 7) :: st) := by
  refine x_callVi C (CC := "ClassInferenceModel") (ci := 7) (q0 := 7) (fs := fl7 G a r) (As := [.int p0, .int p1, .int p2]) rfl rfl (cM_type p0 p1 p2 h) (cwV (C := "ClassInferenceModel") 3 C.1.2.2.2.2 (goodV hl wm956 wm957 wm9 wm958) rfl rfl rfl (by decide +kernel) hR) rfl hst hd hcs (fun v w hw => ?_)
  obtain ⟨r1, rfl, h⟩ := hw
  exact k v r1 h
def qM_isClass (a : L_) (r : S_) (K : Int32 → Prop) (p0 : Int32) : Prop :=
  ((p0 < 0) → zb 0 ∧ K 0) ∧ ((¬ p0 < 0) → (((fi r 23) ≤ p0) → zb 0 ∧ K 0) ∧ ((¬ (fi r 23) ≤ p0) → zb 1 ∧ K 1))
set_option maxRecDepth 100000 in
set_option maxHeartbeats 4000000 in
theorem cM_isClass {a : L_} {r : S_} {K : Int32 → Prop} (p0 : Int32) (h : qM_isClass a r K p0) : vx_Mi l yM_isClass (Cond.code yM_isClass prog_9_method_8_code 2 (some .boolean) :: wAll) { frames := 0, cells := 0, slots := 0, locals := 0 } D vwCl (tysG G) nwAll (wo G a r) [.ref (ob G 7), .int p0] 0 0 (fun v w => w = wo G a r ∧ zb v ∧ K v) := by
  unfold qM_isClass at h
  refine x_meti (cc := prog_9_method_8_code) (maxL := 2) (ret := (some .boolean)) (lv0 := [(0, .ref (ob G 7)), (1, .int p0)]) (by decide) rfl (Nat.le_of_ble_eq_true rfl) rfl ?_
  intro p e s m args below meth c A C hA hlocks hr
  refine x_iload_n C dM_isClass_0 rfl 1 rfl ?_
  refine x_if_lt (tgt := 16) C dM_isClass_1 (by decide) (fun g1 => ?_) (fun g1 => ?_)
  · have h := h.1 g1
    refine x_iconst (v := 0) C dM_isClass_16 (by decide) ?_
    obtain ⟨g2, h⟩ := h
    exact x_zret C hA hlocks hr (zb_n g2) ⟨rfl, g2, h⟩ dM_isClass_17
  · have h := h.2 g1
    refine x_iload_n C dM_isClass_4 rfl 1 rfl ?_
    refine x_aload_n C dM_isClass_5 rfl 0 rfl ?_
    refine gf_7_8 C (List.mem_cons_of_mem _ wm724) dM_isClass_6 ?_
    refine x_icmp_ge (tgt := 16) C dM_isClass_9 (by decide) (fun g3 => ?_) (fun g3 => ?_)
    · have h := h.1 g3
      refine x_iconst (v := 0) C dM_isClass_16 (by decide) ?_
      obtain ⟨g4, h⟩ := h
      exact x_zret C hA hlocks hr (zb_n g4) ⟨rfl, g4, h⟩ dM_isClass_17
    · have h := h.2 g3
      refine x_iconst (v := 1) C dM_isClass_12 (by decide) ?_
      refine x_goto (tgt := 17) C dM_isClass_13 (by decide) ?_
      obtain ⟨g5, h⟩ := h
      exact x_zret C hA hlocks hr (zb_n g5) ⟨rfl, g5, h⟩ dM_isClass_17
set_option maxRecDepth 100000 in
set_option maxHeartbeats 4000000 in
theorem kM_isClass {p : Program} {l : Launch} {e : Env} {R : Room} {s : State} {m : MethodId} {args : Array Value} {below : List Frame} {meth : Method} {c : Code} {cells slots : Nat} {Q : State → Prop} {A : Nat → Prop} {D : va_G} {nL pc : Nat} {cc : ByteArray} {cw : Cond} {own : String} {lv : List (Nat × Value)} {st : List Value} {G : G_} {a : L_} {r : S_} {K : Int32 → Prop} {p0 : Int32} (C : vx_C p s m args c cc nL (cw :: wAll) own D vwCl (tysG G) nwAll A) {i : Nat} (hl : Cond.methodLink own i yM_isClass ∈ wAll) (hR : 0 + 1 ≤ R.frames ∧ 8 + (2 + 11) + 0 ≤ R.locals) (hst : (st.map fun v => v.category).sum ≤ 8) (hd : decode cc pc = .ok (.invokevirtual i, 3)) (hcs : cells ≤ R.cells ∧ slots ≤ R.slots) (h : qM_isClass a r K p0) (k : ∀ (v : Int32), zb v → K v → vx_V p l e R s m args below meth c A D vwCl nL cells slots Q (wo G a r) (pc + 3) lv (.int v :: st)) : vx_V p l e R s m args below meth c A D vwCl nL cells slots Q (wo G a r) pc lv (.int p0 :: .ref (ob G 7) :: st) := by
  refine x_callVi C (CC := "ClassInferenceModel") (ci := 7) (q0 := 7) (fs := fl7 G a r) (As := [.int p0]) rfl rfl (cM_isClass p0 h) (cwV (C := "ClassInferenceModel") 1 C.1.2.2.2.2 (goodV hl wm965 wp31 wm9 wm966) rfl rfl rfl (by decide +kernel) hR) rfl hst hd hcs (fun v w hw => ?_)
  obtain ⟨rfl, h⟩ := hw
  exact k v h.1 h.2
def qM_class0_J20 (a : L_) (K : Int32 → S_ → Prop) (r : S_) (v1 : Int32) : Prop :=
  ((¬ (fi r 23) = 8) → vp_in (fi r 23) (ln a 41) ∧ ∀ r5 : S_, r5 = sA r 41 (upd (ar r 41) (fi r 23).toNatClampNeg v1) → ∀ r6 : S_, r6 = sF r5 23 ((fi r5 23) + 1) → K ((fi r6 23) - 1) r6) ∧ (((fi r 23) = 8) → K (-3) r)
set_option maxRecDepth 100000 in
set_option maxHeartbeats 4000000 in
theorem tM_class0_J20 (C : vx_C p s m args c prog_9_method_9_code 2 (Cond.code yM_class0 prog_9_method_9_code 2 (some .int) :: wAll) "ClassInferenceModel" D vwCl (tysG G) nwAll A) (hA : A = va_A ws0 s.heap.size) (hlocks : meth.locks = false) (hr : meth.sig.returnType = (some .int)) {a : L_} {K : Int32 → S_ → Prop} (r : S_) (v1 : Int32) (h : qM_class0_J20 a K r v1) : vx_V p l e { frames := 1, cells := 0, slots := 0, locals := 21 } s m args below meth c A D vwCl 2 0 0 (MQ below (va_Qi (fun v w => ∃ r1, w = wo G a r1 ∧ K v r1) (vx_B D vwCl (tysG G) A) A) args s 0 0 A) (wo G a r) 20 [(0, .ref (ob G 7)), (1, .int v1)] [] := by
  unfold qM_class0_J20 at h
  refine x_aload_n C dM_class0_20 rfl 0 rfl ?_
  refine gf_7_8 C (List.mem_cons_of_mem _ wm724) dM_class0_21 ?_
  refine x_bipush (v := 8) C dM_class0_24 (by decide) ?_
  refine x_icmp_ne (tgt := 32) C dM_class0_26 (by decide) (fun g3 => ?_) (fun g3 => ?_)
  · have h := h.1 g3
    refine x_aload_n C dM_class0_32 rfl 0 rfl ?_
    refine gf_7_9 C (List.mem_cons_of_mem _ wm725) dM_class0_33 ?_
    refine x_aload_n C dM_class0_36 rfl 0 rfl ?_
    refine gf_7_8 C (List.mem_cons_of_mem _ wm724) dM_class0_37 ?_
    refine x_iload_n C dM_class0_40 rfl 1 rfl ?_
    obtain ⟨g4, h⟩ := h
    refine y_is C 41 (by decide) g4 dM_class0_41 (fun r5 er5 => ?_)
    have h := h r5 er5
    refine x_aload_n C dM_class0_42 rfl 0 rfl ?_
    refine x_dup C dM_class0_43 rfl ?_
    refine gf_7_8 C (List.mem_cons_of_mem _ wm724) dM_class0_44 ?_
    refine x_iconst (v := 1) C dM_class0_47 (by decide) ?_
    refine x_iadd C dM_class0_48 ?_
    refine pf_7_8 C (List.mem_cons_of_mem _ wm724) dM_class0_49 (fun r6 er6 => ?_)
    have h := h r6 er6
    refine x_aload_n C dM_class0_52 rfl 0 rfl ?_
    refine gf_7_8 C (List.mem_cons_of_mem _ wm724) dM_class0_53 ?_
    refine x_iconst (v := 1) C dM_class0_56 (by decide) ?_
    refine x_isub C dM_class0_57 ?_
    exact x_iret C hA hlocks hr ⟨r6, rfl, h⟩ dM_class0_58
  · have h := h.2 g3
    refine x_bipush (v := (-3)) C dM_class0_29 (by decide) ?_
    exact x_iret C hA hlocks hr ⟨r, rfl, h⟩ dM_class0_31
def qM_class0 (a : L_) (K : Int32 → S_ → Prop) (r : S_) (p0 : Int32) : Prop :=
  ∀ r1 : S_, r1 = sF r 20 0 → ((p0 = (-1)) → qM_class0_J20 a K r1 p0) ∧ ((¬ p0 = (-1)) → qM_isClass a r1 (fun z7 => zb z7 → ((¬ z7 = 0) → qM_class0_J20 a K r1 p0) ∧ ((z7 = 0) → K (-1) r1)) p0)
set_option maxRecDepth 100000 in
set_option maxHeartbeats 4000000 in
theorem cM_class0 {a : L_} {r : S_} {K : Int32 → S_ → Prop} (p0 : Int32) (h : qM_class0 a K r p0) : vx_Mi l yM_class0 (Cond.code yM_class0 prog_9_method_9_code 2 (some .int) :: wAll) { frames := 1, cells := 0, slots := 0, locals := 21 } D vwCl (tysG G) nwAll (wo G a r) [.ref (ob G 7), .int p0] 0 0 (fun v w => ∃ r1, w = wo G a r1 ∧ K v r1) := by
  unfold qM_class0 at h
  refine x_meti (cc := prog_9_method_9_code) (maxL := 2) (ret := (some .int)) (lv0 := [(0, .ref (ob G 7)), (1, .int p0)]) (by decide) rfl (Nat.le_of_ble_eq_true rfl) rfl ?_
  intro p e s m args below meth c A C hA hlocks hr
  refine x_aload_n C dM_class0_0 rfl 0 rfl ?_
  refine x_iconst (v := 0) C dM_class0_1 (by decide) ?_
  refine pf_7_0 C (List.mem_cons_of_mem _ wm716) dM_class0_2 (fun r1 er1 => ?_)
  have h := h r1 er1
  refine x_iload_n C dM_class0_5 rfl 1 rfl ?_
  refine x_iconst (v := (-1)) C dM_class0_6 (by decide) ?_
  refine x_icmp_eq (tgt := 20) C dM_class0_7 (by decide) (fun g2 => ?_) (fun g2 => ?_)
  · have h := h.1 g2
    refine x_sub [0, 1] rfl ?_
    exact tM_class0_J20 C hA hlocks hr r1 p0 h
  · have h := h.2 g2
    refine x_aload_n C dM_class0_10 rfl 0 rfl ?_
    refine x_iload_n C dM_class0_11 rfl 1 rfl ?_
    refine kM_isClass C wm963 ⟨Nat.le_of_ble_eq_true rfl, Nat.le_of_ble_eq_true rfl⟩ (Nat.le_of_ble_eq_true rfl) dM_class0_12 ⟨Nat.zero_le _, Nat.zero_le _⟩ h (fun z7 hzz7 h => ?_)
    have h := h hzz7
    refine x_if_ne (tgt := 20) C dM_class0_15 (by decide) (fun g8 => ?_) (fun g8 => ?_)
    · have h := h.1 g8
      refine x_sub [0, 1] rfl ?_
      exact tM_class0_J20 C hA hlocks hr r1 p0 h
    · have h := h.2 g8
      refine x_iconst (v := (-1)) C dM_class0_18 (by decide) ?_
      exact x_iret C hA hlocks hr ⟨r1, rfl, h⟩ dM_class0_19
set_option maxRecDepth 100000 in
set_option maxHeartbeats 4000000 in
theorem kM_class0 {p : Program} {l : Launch} {e : Env} {R : Room} {s : State} {m : MethodId} {args : Array Value} {below : List Frame} {meth : Method} {c : Code} {cells slots : Nat} {Q : State → Prop} {A : Nat → Prop} {D : va_G} {nL pc : Nat} {cc : ByteArray} {cw : Cond} {own : String} {lv : List (Nat × Value)} {st : List Value} {G : G_} {a : L_} {r : S_} {K : Int32 → S_ → Prop} {p0 : Int32} (C : vx_C p s m args c cc nL (cw :: wAll) own D vwCl (tysG G) nwAll A) {i : Nat} (hl : Cond.methodLink own i yM_class0 ∈ wAll) (hR : 1 + 1 ≤ R.frames ∧ 8 + (2 + 11) + 21 ≤ R.locals) (hst : (st.map fun v => v.category).sum ≤ 8) (hd : decode cc pc = .ok (.invokevirtual i, 3)) (hcs : cells ≤ R.cells ∧ slots ≤ R.slots) (h : qM_class0 a K r p0) (k : ∀ (v : Int32) (r1 : S_), K v r1 → vx_V p l e R s m args below meth c A D vwCl nL cells slots Q (wo G a r1) (pc + 3) lv (.int v :: st)) : vx_V p l e R s m args below meth c A D vwCl nL cells slots Q (wo G a r) pc lv (.int p0 :: .ref (ob G 7) :: st) := by
  refine x_callVi C (CC := "ClassInferenceModel") (ci := 7) (q0 := 7) (fs := fl7 G a r) (As := [.int p0]) rfl rfl (cM_class0 p0 h) (cwV (C := "ClassInferenceModel") 1 C.1.2.2.2.2 (goodV hl wm960 wm961 wm9 wm962) rfl rfl rfl (by decide +kernel) hR) rfl hst hd hcs (fun v w hw => ?_)
  obtain ⟨r1, rfl, h⟩ := hw
  exact k v r1 h
end MTH
