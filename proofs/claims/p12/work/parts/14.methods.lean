section MTH
variable {p : Program} {l : Launch} {e : Env} {s : State} {m : MethodId} {args : Array Value} {below : List Frame} {meth : Method} {c : Code} {Q : State → Prop} {A : Nat → Prop} {D : va_G} {G : G_} {ws0 : va_W}
def qI_want (a : L_) (r : S_) (K : Int32 → Prop) (p0 : Int32) (p1 : Int32) : Prop :=
  ((p0 < 0) → K (-1)) ∧ ((¬ p0 < 0) → qD_wantCount a r (fun z2 => ((z2 ≤ p0) → K (-1)) ∧ ((¬ z2 ≤ p0) → ((p1 < 0) → K (-1)) ∧ ((¬ p1 < 0) → ((p1 ≤ 1) → qD_wantAt a r (fun z6 => K z6) p0 p1) ∧ ((¬ p1 ≤ 1) → K (-1))))))
set_option maxRecDepth 100000 in
set_option maxHeartbeats 4000000 in
theorem cI_want {a : L_} {r : S_} {K : Int32 → Prop} (p0 : Int32) (p1 : Int32) (h : qI_want a r K p0 p1) : vx_Mi l yI_want (Cond.code yI_want prog_1_method_14_code 3 (some .int) :: wAll) { frames := 1, cells := 0, slots := 0, locals := 25 } D vwCl (tysG G) nwAll (wo G a r) [.ref (ob G 0), .int p0, .int p1] 0 0 (fun v w => w = wo G a r ∧ K v) := by
  unfold qI_want at h
  refine x_meti (cc := prog_1_method_14_code) (maxL := 3) (ret := (some .int)) (lv0 := [(0, .ref (ob G 0)), (1, .int p0), (2, .int p1)]) (by decide) rfl (Nat.le_of_ble_eq_true rfl) rfl ?_
  intro p e s m args below meth c A C hA hlocks hr
  refine x_iload_n C dI_want_0 rfl 1 rfl ?_
  refine x_if_lt (tgt := 24) C dI_want_1 (by decide) (fun g1 => ?_) (fun g1 => ?_)
  · have h := h.1 g1
    refine x_iconst (v := (-1)) C dI_want_24 (by decide) ?_
    exact x_iret C hA hlocks hr ⟨rfl, h⟩ dI_want_25
  · have h := h.2 g1
    refine x_iload_n C dI_want_4 rfl 1 rfl ?_
    refine x_aload_n C dI_want_5 rfl 0 rfl ?_
    refine gf_0_4 C (List.mem_cons_of_mem _ wm282) dI_want_6 ?_
    refine kD_wantCount C wm653 ⟨Nat.le_of_ble_eq_true rfl, Nat.le_of_ble_eq_true rfl⟩ (Nat.le_of_ble_eq_true rfl) dI_want_9 ⟨Nat.zero_le _, Nat.zero_le _⟩ h (fun z2 h => ?_)
    refine x_icmp_ge (tgt := 24) C dI_want_12 (by decide) (fun g3 => ?_) (fun g3 => ?_)
    · have h := h.1 g3
      refine x_iconst (v := (-1)) C dI_want_24 (by decide) ?_
      exact x_iret C hA hlocks hr ⟨rfl, h⟩ dI_want_25
    · have h := h.2 g3
      refine x_iload_n C dI_want_15 rfl 2 rfl ?_
      refine x_if_lt (tgt := 24) C dI_want_16 (by decide) (fun g4 => ?_) (fun g4 => ?_)
      · have h := h.1 g4
        refine x_iconst (v := (-1)) C dI_want_24 (by decide) ?_
        exact x_iret C hA hlocks hr ⟨rfl, h⟩ dI_want_25
      · have h := h.2 g4
        refine x_iload_n C dI_want_19 rfl 2 rfl ?_
        refine x_iconst (v := 1) C dI_want_20 (by decide) ?_
        refine x_icmp_le (tgt := 26) C dI_want_21 (by decide) (fun g5 => ?_) (fun g5 => ?_)
        · have h := h.1 g5
          refine x_aload_n C dI_want_26 rfl 0 rfl ?_
          refine gf_0_4 C (List.mem_cons_of_mem _ wm282) dI_want_27 ?_
          refine x_iload_n C dI_want_30 rfl 1 rfl ?_
          refine x_iload_n C dI_want_31 rfl 2 rfl ?_
          refine kD_wantAt C wm661 ⟨Nat.le_of_ble_eq_true rfl, Nat.le_of_ble_eq_true rfl⟩ (Nat.le_of_ble_eq_true rfl) dI_want_32 ⟨Nat.zero_le _, Nat.zero_le _⟩ h (fun z6 h => ?_)
          exact x_iret C hA hlocks hr ⟨rfl, h⟩ dI_want_35
        · have h := h.2 g5
          refine x_iconst (v := (-1)) C dI_want_24 (by decide) ?_
          exact x_iret C hA hlocks hr ⟨rfl, h⟩ dI_want_25
set_option maxRecDepth 100000 in
set_option maxHeartbeats 4000000 in
theorem kI_want {p : Program} {l : Launch} {e : Env} {R : Room} {s : State} {m : MethodId} {args : Array Value} {below : List Frame} {meth : Method} {c : Code} {cells slots : Nat} {Q : State → Prop} {A : Nat → Prop} {D : va_G} {nL pc : Nat} {cc : ByteArray} {cw : Cond} {own : String} {lv : List (Nat × Value)} {st : List Value} {G : G_} {a : L_} {r : S_} {K : Int32 → Prop} {p0 : Int32} {p1 : Int32} (C : vx_C p s m args c cc nL (cw :: wAll) own D vwCl (tysG G) nwAll A) {i : Nat} (hl : Cond.methodLink own i yI_want ∈ wAll) (hR : 1 + 1 ≤ R.frames ∧ 8 + (3 + 11) + 25 ≤ R.locals) (hst : (st.map fun v => v.category).sum ≤ 8) (hd : decode cc pc = .ok (.invokevirtual i, 3)) (hcs : cells ≤ R.cells ∧ slots ≤ R.slots) (h : qI_want a r K p0 p1) (k : ∀ (v : Int32), K v → vx_V p l e R s m args below meth c A D vwCl nL cells slots Q (wo G a r) (pc + 3) lv (.int v :: st)) : vx_V p l e R s m args below meth c A D vwCl nL cells slots Q (wo G a r) pc lv (.int p1 :: .int p0 :: .ref (ob G 0) :: st) := by
  refine x_callVi C (CC := "ClassInference") (ci := 0) (q0 := 0) (fs := fl0 G a r) (As := [.int p0, .int p1]) rfl rfl (cI_want p0 p1 h) (cwV (C := "ClassInference") 2 C.1.2.2.2.2 (goodV hl wm658 wm659 wm1 wm660) rfl rfl rfl (by decide +kernel) hR) rfl hst hd hcs (fun v w hw => ?_)
  obtain ⟨rfl, h⟩ := hw
  exact k v h
def qD_handedOver (a : L_) (r : S_) (K : Int32 → Prop) : Prop :=
  K (fi r 19)
set_option maxRecDepth 100000 in
set_option maxHeartbeats 4000000 in
theorem cD_handedOver {a : L_} {r : S_} {K : Int32 → Prop} (h : qD_handedOver a r K ) : vx_Mi l yD_handedOver (Cond.code yD_handedOver prog_5_method_9_code 1 (some .int) :: wAll) { frames := 0, cells := 0, slots := 0, locals := 0 } D vwCl (tysG G) nwAll (wo G a r) [.ref (ob G 6)] 0 0 (fun v w => w = wo G a r ∧ K v) := by
  unfold qD_handedOver at h
  refine x_meti (cc := prog_5_method_9_code) (maxL := 1) (ret := (some .int)) (lv0 := [(0, .ref (ob G 6))]) (by decide) rfl (Nat.le_of_ble_eq_true rfl) rfl ?_
  intro p e s m args below meth c A C hA hlocks hr
  refine x_aload_n C dD_handedOver_0 rfl 0 rfl ?_
  refine gf_6_8 C (List.mem_cons_of_mem _ wm257) dD_handedOver_1 ?_
  exact x_iret C hA hlocks hr ⟨rfl, h⟩ dD_handedOver_4
set_option maxRecDepth 100000 in
set_option maxHeartbeats 4000000 in
theorem kD_handedOver {p : Program} {l : Launch} {e : Env} {R : Room} {s : State} {m : MethodId} {args : Array Value} {below : List Frame} {meth : Method} {c : Code} {cells slots : Nat} {Q : State → Prop} {A : Nat → Prop} {D : va_G} {nL pc : Nat} {cc : ByteArray} {cw : Cond} {own : String} {lv : List (Nat × Value)} {st : List Value} {G : G_} {a : L_} {r : S_} {K : Int32 → Prop} (C : vx_C p s m args c cc nL (cw :: wAll) own D vwCl (tysG G) nwAll A) {i : Nat} (hl : Cond.methodLink own i yD_handedOver ∈ wAll) (hR : 0 + 1 ≤ R.frames ∧ 8 + (1 + 11) + 0 ≤ R.locals) (hst : (st.map fun v => v.category).sum ≤ 8) (hd : decode cc pc = .ok (.invokevirtual i, 3)) (hcs : cells ≤ R.cells ∧ slots ≤ R.slots) (h : qD_handedOver a r K ) (k : ∀ (v : Int32), K v → vx_V p l e R s m args below meth c A D vwCl nL cells slots Q (wo G a r) (pc + 3) lv (.int v :: st)) : vx_V p l e R s m args below meth c A D vwCl nL cells slots Q (wo G a r) pc lv (.ref (ob G 6) :: st) := by
  refine x_callVi C (CC := "ClassInference$Told") (ci := 6) (q0 := 6) (fs := fl6 G a r) (As := []) rfl rfl (cD_handedOver  h) (cwV (C := "ClassInference$Told") 0 C.1.2.2.2.2 (goodV hl wm670 wm671 wm8 wm672) rfl rfl rfl (by decide +kernel) hR) rfl hst hd hcs (fun v w hw => ?_)
  obtain ⟨rfl, h⟩ := hw
  exact k v h
def qI_passes (a : L_) (r : S_) (K : Int32 → Prop) : Prop :=
  qD_handedOver a r (fun z1 => K z1)
set_option maxRecDepth 100000 in
set_option maxHeartbeats 4000000 in
theorem cI_passes {a : L_} {r : S_} {K : Int32 → Prop} (h : qI_passes a r K ) : vx_Mi l yI_passes (Cond.code yI_passes prog_1_method_15_code 1 (some .int) :: wAll) { frames := 1, cells := 0, slots := 0, locals := 20 } D vwCl (tysG G) nwAll (wo G a r) [.ref (ob G 0)] 0 0 (fun v w => w = wo G a r ∧ K v) := by
  unfold qI_passes at h
  refine x_meti (cc := prog_1_method_15_code) (maxL := 1) (ret := (some .int)) (lv0 := [(0, .ref (ob G 0))]) (by decide) rfl (Nat.le_of_ble_eq_true rfl) rfl ?_
  intro p e s m args below meth c A C hA hlocks hr
  refine x_aload_n C dI_passes_0 rfl 0 rfl ?_
  refine gf_0_4 C (List.mem_cons_of_mem _ wm282) dI_passes_1 ?_
  refine kD_handedOver C wm669 ⟨Nat.le_of_ble_eq_true rfl, Nat.le_of_ble_eq_true rfl⟩ (Nat.le_of_ble_eq_true rfl) dI_passes_4 ⟨Nat.zero_le _, Nat.zero_le _⟩ h (fun z1 h => ?_)
  exact x_iret C hA hlocks hr ⟨rfl, h⟩ dI_passes_7
set_option maxRecDepth 100000 in
set_option maxHeartbeats 4000000 in
theorem kI_passes {p : Program} {l : Launch} {e : Env} {R : Room} {s : State} {m : MethodId} {args : Array Value} {below : List Frame} {meth : Method} {c : Code} {cells slots : Nat} {Q : State → Prop} {A : Nat → Prop} {D : va_G} {nL pc : Nat} {cc : ByteArray} {cw : Cond} {own : String} {lv : List (Nat × Value)} {st : List Value} {G : G_} {a : L_} {r : S_} {K : Int32 → Prop} (C : vx_C p s m args c cc nL (cw :: wAll) own D vwCl (tysG G) nwAll A) {i : Nat} (hl : Cond.methodLink own i yI_passes ∈ wAll) (hR : 1 + 1 ≤ R.frames ∧ 8 + (1 + 11) + 20 ≤ R.locals) (hst : (st.map fun v => v.category).sum ≤ 8) (hd : decode cc pc = .ok (.invokevirtual i, 3)) (hcs : cells ≤ R.cells ∧ slots ≤ R.slots) (h : qI_passes a r K ) (k : ∀ (v : Int32), K v → vx_V p l e R s m args below meth c A D vwCl nL cells slots Q (wo G a r) (pc + 3) lv (.int v :: st)) : vx_V p l e R s m args below meth c A D vwCl nL cells slots Q (wo G a r) pc lv (.ref (ob G 0) :: st) := by
  refine x_callVi C (CC := "ClassInference") (ci := 0) (q0 := 0) (fs := fl0 G a r) (As := []) rfl rfl (cI_passes  h) (cwV (C := "ClassInference") 0 C.1.2.2.2.2 (goodV hl wm666 wm667 wm1 wm668) rfl rfl rfl (by decide +kernel) hR) rfl hst hd hcs (fun v w hw => ?_)
  obtain ⟨rfl, h⟩ := hw
  exact k v h
def qI_under (a : L_) (r : S_) (K : Int32 → Prop) (p0 : Int32) (p1 : Int32) : Prop :=
  qK_hasClass a r (fun z1 => zb z1 → ((z1 = 0) → K (-1)) ∧ ((¬ z1 = 0) → qK_hasClass a r (fun z3 => zb z3 → ((¬ z3 = 0) → qK_reaches a r (fun z5 => zb z5 → ((z5 = 0) → K 0) ∧ ((¬ z5 = 0) → K 1)) (1 <<< (p0 &&& 31)) (1 <<< (p1 &&& 31))) ∧ ((z3 = 0) → K (-1))) p1)) p0
set_option maxRecDepth 100000 in
set_option maxHeartbeats 4000000 in
theorem cI_under {a : L_} {r : S_} {K : Int32 → Prop} (p0 : Int32) (p1 : Int32) (h : qI_under a r K p0 p1) : vx_Mi l yI_under (Cond.code yI_under prog_1_method_17_code 3 (some .int) :: wAll) { frames := 1, cells := 0, slots := 0, locals := 24 } D vwCl (tysG G) nwAll (wo G a r) [.ref (ob G 0), .int p0, .int p1] 0 0 (fun v w => w = wo G a r ∧ K v) := by
  unfold qI_under at h
  refine x_meti (cc := prog_1_method_17_code) (maxL := 3) (ret := (some .int)) (lv0 := [(0, .ref (ob G 0)), (1, .int p0), (2, .int p1)]) (by decide) rfl (Nat.le_of_ble_eq_true rfl) rfl ?_
  intro p e s m args below meth c A C hA hlocks hr
  refine x_aload_n C dI_under_0 rfl 0 rfl ?_
  refine gf_0_1 C (List.mem_cons_of_mem _ wm279) dI_under_1 ?_
  refine x_iload_n C dI_under_4 rfl 1 rfl ?_
  refine kK_hasClass C wm342 ⟨Nat.le_of_ble_eq_true rfl, Nat.le_of_ble_eq_true rfl⟩ (Nat.le_of_ble_eq_true rfl) dI_under_5 ⟨Nat.zero_le _, Nat.zero_le _⟩ h (fun z1 hzz1 h => ?_)
  have h := h hzz1
  refine x_if_eq (tgt := 22) C dI_under_8 (by decide) (fun g2 => ?_) (fun g2 => ?_)
  · have h := h.1 g2
    refine x_iconst (v := (-1)) C dI_under_22 (by decide) ?_
    exact x_iret C hA hlocks hr ⟨rfl, h⟩ dI_under_23
  · have h := h.2 g2
    refine x_aload_n C dI_under_11 rfl 0 rfl ?_
    refine gf_0_1 C (List.mem_cons_of_mem _ wm279) dI_under_12 ?_
    refine x_iload_n C dI_under_15 rfl 2 rfl ?_
    refine kK_hasClass C wm342 ⟨Nat.le_of_ble_eq_true rfl, Nat.le_of_ble_eq_true rfl⟩ (Nat.le_of_ble_eq_true rfl) dI_under_16 ⟨Nat.zero_le _, Nat.zero_le _⟩ h (fun z3 hzz3 h => ?_)
    have h := h hzz3
    refine x_if_ne (tgt := 24) C dI_under_19 (by decide) (fun g4 => ?_) (fun g4 => ?_)
    · have h := h.1 g4
      refine x_aload_n C dI_under_24 rfl 0 rfl ?_
      refine gf_0_1 C (List.mem_cons_of_mem _ wm279) dI_under_25 ?_
      refine x_iconst (v := 1) C dI_under_28 (by decide) ?_
      refine x_iload_n C dI_under_29 rfl 1 rfl ?_
      refine x_ishl C dI_under_30 ?_
      refine x_iconst (v := 1) C dI_under_31 (by decide) ?_
      refine x_iload_n C dI_under_32 rfl 2 rfl ?_
      refine x_ishl C dI_under_33 ?_
      refine kK_reaches C wm695 ⟨Nat.le_of_ble_eq_true rfl, Nat.le_of_ble_eq_true rfl⟩ (Nat.le_of_ble_eq_true rfl) dI_under_34 ⟨Nat.zero_le _, Nat.zero_le _⟩ h (fun z5 hzz5 h => ?_)
      have h := h hzz5
      refine x_if_eq (tgt := 44) C dI_under_37 (by decide) (fun g6 => ?_) (fun g6 => ?_)
      · have h := h.1 g6
        refine x_iconst (v := 0) C dI_under_44 (by decide) ?_
        exact x_iret C hA hlocks hr ⟨rfl, h⟩ dI_under_45
      · have h := h.2 g6
        refine x_iconst (v := 1) C dI_under_40 (by decide) ?_
        refine x_goto (tgt := 45) C dI_under_41 (by decide) ?_
        exact x_iret C hA hlocks hr ⟨rfl, h⟩ dI_under_45
    · have h := h.2 g4
      refine x_iconst (v := (-1)) C dI_under_22 (by decide) ?_
      exact x_iret C hA hlocks hr ⟨rfl, h⟩ dI_under_23
set_option maxRecDepth 100000 in
set_option maxHeartbeats 4000000 in
theorem kI_under {p : Program} {l : Launch} {e : Env} {R : Room} {s : State} {m : MethodId} {args : Array Value} {below : List Frame} {meth : Method} {c : Code} {cells slots : Nat} {Q : State → Prop} {A : Nat → Prop} {D : va_G} {nL pc : Nat} {cc : ByteArray} {cw : Cond} {own : String} {lv : List (Nat × Value)} {st : List Value} {G : G_} {a : L_} {r : S_} {K : Int32 → Prop} {p0 : Int32} {p1 : Int32} (C : vx_C p s m args c cc nL (cw :: wAll) own D vwCl (tysG G) nwAll A) {i : Nat} (hl : Cond.methodLink own i yI_under ∈ wAll) (hR : 1 + 1 ≤ R.frames ∧ 8 + (3 + 11) + 24 ≤ R.locals) (hst : (st.map fun v => v.category).sum ≤ 8) (hd : decode cc pc = .ok (.invokevirtual i, 3)) (hcs : cells ≤ R.cells ∧ slots ≤ R.slots) (h : qI_under a r K p0 p1) (k : ∀ (v : Int32), K v → vx_V p l e R s m args below meth c A D vwCl nL cells slots Q (wo G a r) (pc + 3) lv (.int v :: st)) : vx_V p l e R s m args below meth c A D vwCl nL cells slots Q (wo G a r) pc lv (.int p1 :: .int p0 :: .ref (ob G 0) :: st) := by
  refine x_callVi C (CC := "ClassInference") (ci := 0) (q0 := 0) (fs := fl0 G a r) (As := [.int p0, .int p1]) rfl rfl (cI_under p0 p1 h) (cwV (C := "ClassInference") 2 C.1.2.2.2.2 (goodV hl wm692 wm693 wm1 wm694) rfl rfl rfl (by decide +kernel) hR) rfl hst hd hcs (fun v w hw => ?_)
  obtain ⟨rfl, h⟩ := hw
  exact k v h
def qI_types (a : L_) (r : S_) (K : Int32 → Prop) : Prop :=
  K (fi r 1)
set_option maxRecDepth 100000 in
set_option maxHeartbeats 4000000 in
theorem cI_types {a : L_} {r : S_} {K : Int32 → Prop} (h : qI_types a r K ) : vx_Mi l yI_types (Cond.code yI_types prog_1_method_18_code 1 (some .int) :: wAll) { frames := 0, cells := 0, slots := 0, locals := 0 } D vwCl (tysG G) nwAll (wo G a r) [.ref (ob G 0)] 0 0 (fun v w => w = wo G a r ∧ K v) := by
  unfold qI_types at h
  refine x_meti (cc := prog_1_method_18_code) (maxL := 1) (ret := (some .int)) (lv0 := [(0, .ref (ob G 0))]) (by decide) rfl (Nat.le_of_ble_eq_true rfl) rfl ?_
  intro p e s m args below meth c A C hA hlocks hr
  refine x_aload_n C dI_types_0 rfl 0 rfl ?_
  refine gf_0_0 C (List.mem_cons_of_mem _ wm278) dI_types_1 ?_
  refine gn_1_7 C wn41 dI_types_4 ?_
  exact x_iret C hA hlocks hr ⟨rfl, h⟩ dI_types_7
set_option maxRecDepth 100000 in
set_option maxHeartbeats 4000000 in
theorem kI_types {p : Program} {l : Launch} {e : Env} {R : Room} {s : State} {m : MethodId} {args : Array Value} {below : List Frame} {meth : Method} {c : Code} {cells slots : Nat} {Q : State → Prop} {A : Nat → Prop} {D : va_G} {nL pc : Nat} {cc : ByteArray} {cw : Cond} {own : String} {lv : List (Nat × Value)} {st : List Value} {G : G_} {a : L_} {r : S_} {K : Int32 → Prop} (C : vx_C p s m args c cc nL (cw :: wAll) own D vwCl (tysG G) nwAll A) {i : Nat} (hl : Cond.methodLink own i yI_types ∈ wAll) (hR : 0 + 1 ≤ R.frames ∧ 8 + (1 + 11) + 0 ≤ R.locals) (hst : (st.map fun v => v.category).sum ≤ 8) (hd : decode cc pc = .ok (.invokevirtual i, 3)) (hcs : cells ≤ R.cells ∧ slots ≤ R.slots) (h : qI_types a r K ) (k : ∀ (v : Int32), K v → vx_V p l e R s m args below meth c A D vwCl nL cells slots Q (wo G a r) (pc + 3) lv (.int v :: st)) : vx_V p l e R s m args below meth c A D vwCl nL cells slots Q (wo G a r) pc lv (.ref (ob G 0) :: st) := by
  refine x_callVi C (CC := "ClassInference") (ci := 0) (q0 := 0) (fs := fl0 G a r) (As := []) rfl rfl (cI_types  h) (cwV (C := "ClassInference") 0 C.1.2.2.2.2 (goodV hl wm697 wm698 wm1 wm699) rfl rfl rfl (by decide +kernel) hR) rfl hst hd hcs (fun v w hw => ?_)
  obtain ⟨rfl, h⟩ := hw
  exact k v h
def qI_classes (a : L_) (r : S_) (K : Int32 → Prop) : Prop :=
  K (fi r 2)
set_option maxRecDepth 100000 in
set_option maxHeartbeats 4000000 in
theorem cI_classes {a : L_} {r : S_} {K : Int32 → Prop} (h : qI_classes a r K ) : vx_Mi l yI_classes (Cond.code yI_classes prog_1_method_19_code 1 (some .int) :: wAll) { frames := 0, cells := 0, slots := 0, locals := 0 } D vwCl (tysG G) nwAll (wo G a r) [.ref (ob G 0)] 0 0 (fun v w => w = wo G a r ∧ K v) := by
  unfold qI_classes at h
  refine x_meti (cc := prog_1_method_19_code) (maxL := 1) (ret := (some .int)) (lv0 := [(0, .ref (ob G 0))]) (by decide) rfl (Nat.le_of_ble_eq_true rfl) rfl ?_
  intro p e s m args below meth c A C hA hlocks hr
  refine x_aload_n C dI_classes_0 rfl 0 rfl ?_
  refine gf_0_1 C (List.mem_cons_of_mem _ wm279) dI_classes_1 ?_
  refine gn_2_3 C wn73 dI_classes_4 ?_
  exact x_iret C hA hlocks hr ⟨rfl, h⟩ dI_classes_7
set_option maxRecDepth 100000 in
set_option maxHeartbeats 4000000 in
theorem kI_classes {p : Program} {l : Launch} {e : Env} {R : Room} {s : State} {m : MethodId} {args : Array Value} {below : List Frame} {meth : Method} {c : Code} {cells slots : Nat} {Q : State → Prop} {A : Nat → Prop} {D : va_G} {nL pc : Nat} {cc : ByteArray} {cw : Cond} {own : String} {lv : List (Nat × Value)} {st : List Value} {G : G_} {a : L_} {r : S_} {K : Int32 → Prop} (C : vx_C p s m args c cc nL (cw :: wAll) own D vwCl (tysG G) nwAll A) {i : Nat} (hl : Cond.methodLink own i yI_classes ∈ wAll) (hR : 0 + 1 ≤ R.frames ∧ 8 + (1 + 11) + 0 ≤ R.locals) (hst : (st.map fun v => v.category).sum ≤ 8) (hd : decode cc pc = .ok (.invokevirtual i, 3)) (hcs : cells ≤ R.cells ∧ slots ≤ R.slots) (h : qI_classes a r K ) (k : ∀ (v : Int32), K v → vx_V p l e R s m args below meth c A D vwCl nL cells slots Q (wo G a r) (pc + 3) lv (.int v :: st)) : vx_V p l e R s m args below meth c A D vwCl nL cells slots Q (wo G a r) pc lv (.ref (ob G 0) :: st) := by
  refine x_callVi C (CC := "ClassInference") (ci := 0) (q0 := 0) (fs := fl0 G a r) (As := []) rfl rfl (cI_classes  h) (cwV (C := "ClassInference") 0 C.1.2.2.2.2 (goodV hl wm701 wm702 wm1 wm703) rfl rfl rfl (by decide +kernel) hR) rfl hst hd hcs (fun v w hw => ?_)
  obtain ⟨rfl, h⟩ := hw
  exact k v h
def qI_expressions (a : L_) (r : S_) (K : Int32 → Prop) : Prop :=
  K (fi r 4)
set_option maxRecDepth 100000 in
set_option maxHeartbeats 4000000 in
theorem cI_expressions {a : L_} {r : S_} {K : Int32 → Prop} (h : qI_expressions a r K ) : vx_Mi l yI_expressions (Cond.code yI_expressions prog_1_method_20_code 1 (some .int) :: wAll) { frames := 0, cells := 0, slots := 0, locals := 0 } D vwCl (tysG G) nwAll (wo G a r) [.ref (ob G 0)] 0 0 (fun v w => w = wo G a r ∧ K v) := by
  unfold qI_expressions at h
  refine x_meti (cc := prog_1_method_20_code) (maxL := 1) (ret := (some .int)) (lv0 := [(0, .ref (ob G 0))]) (by decide) rfl (Nat.le_of_ble_eq_true rfl) rfl ?_
  intro p e s m args below meth c A C hA hlocks hr
  refine x_aload_n C dI_expressions_0 rfl 0 rfl ?_
  refine gf_0_2 C (List.mem_cons_of_mem _ wm280) dI_expressions_1 ?_
  refine gn_3_5 C wn113 dI_expressions_4 ?_
  exact x_iret C hA hlocks hr ⟨rfl, h⟩ dI_expressions_7
set_option maxRecDepth 100000 in
set_option maxHeartbeats 4000000 in
theorem kI_expressions {p : Program} {l : Launch} {e : Env} {R : Room} {s : State} {m : MethodId} {args : Array Value} {below : List Frame} {meth : Method} {c : Code} {cells slots : Nat} {Q : State → Prop} {A : Nat → Prop} {D : va_G} {nL pc : Nat} {cc : ByteArray} {cw : Cond} {own : String} {lv : List (Nat × Value)} {st : List Value} {G : G_} {a : L_} {r : S_} {K : Int32 → Prop} (C : vx_C p s m args c cc nL (cw :: wAll) own D vwCl (tysG G) nwAll A) {i : Nat} (hl : Cond.methodLink own i yI_expressions ∈ wAll) (hR : 0 + 1 ≤ R.frames ∧ 8 + (1 + 11) + 0 ≤ R.locals) (hst : (st.map fun v => v.category).sum ≤ 8) (hd : decode cc pc = .ok (.invokevirtual i, 3)) (hcs : cells ≤ R.cells ∧ slots ≤ R.slots) (h : qI_expressions a r K ) (k : ∀ (v : Int32), K v → vx_V p l e R s m args below meth c A D vwCl nL cells slots Q (wo G a r) (pc + 3) lv (.int v :: st)) : vx_V p l e R s m args below meth c A D vwCl nL cells slots Q (wo G a r) pc lv (.ref (ob G 0) :: st) := by
  refine x_callVi C (CC := "ClassInference") (ci := 0) (q0 := 0) (fs := fl0 G a r) (As := []) rfl rfl (cI_expressions  h) (cwV (C := "ClassInference") 0 C.1.2.2.2.2 (goodV hl wm705 wm706 wm1 wm707) rfl rfl rfl (by decide +kernel) hR) rfl hst hd hcs (fun v w hw => ?_)
  obtain ⟨rfl, h⟩ := hw
  exact k v h
def qT_holdsVariables (a : L_) (r : S_) (K : Int32 → Prop) (p0 : Int32) : Prop :=
  vp_in p0 (ln a 5) ∧ (((ar r 5 p0.toNatClampNeg) = 0) → zb 0 ∧ K 0) ∧ ((¬ (ar r 5 p0.toNatClampNeg) = 0) → zb 1 ∧ K 1)
set_option maxRecDepth 100000 in
set_option maxHeartbeats 4000000 in
theorem cT_holdsVariables {a : L_} {r : S_} {K : Int32 → Prop} (p0 : Int32) (h : qT_holdsVariables a r K p0) : vx_Mi l yT_holdsVariables (Cond.code yT_holdsVariables prog_6_method_5_code 2 (some .boolean) :: wAll) { frames := 0, cells := 0, slots := 0, locals := 0 } D vwCl (tysG G) nwAll (wo G a r) [.ref (ob G 1), .int p0] 0 0 (fun v w => w = wo G a r ∧ zb v ∧ K v) := by
  unfold qT_holdsVariables at h
  refine x_meti (cc := prog_6_method_5_code) (maxL := 2) (ret := (some .boolean)) (lv0 := [(0, .ref (ob G 1)), (1, .int p0)]) (by decide) rfl (Nat.le_of_ble_eq_true rfl) rfl ?_
  intro p e s m args below meth c A C hA hlocks hr
  refine x_aload_n C dT_holdsVariables_0 rfl 0 rfl ?_
  refine gf_1_6 C (List.mem_cons_of_mem _ wm39) dT_holdsVariables_1 ?_
  refine x_iload_n C dT_holdsVariables_4 rfl 1 rfl ?_
  obtain ⟨g1, h⟩ := h
  refine y_ia C 5 (by decide) g1 dT_holdsVariables_5 ?_
  refine x_if_eq (tgt := 13) C dT_holdsVariables_6 (by decide) (fun g2 => ?_) (fun g2 => ?_)
  · have h := h.1 g2
    refine x_iconst (v := 0) C dT_holdsVariables_13 (by decide) ?_
    obtain ⟨g3, h⟩ := h
    exact x_zret C hA hlocks hr (zb_n g3) ⟨rfl, g3, h⟩ dT_holdsVariables_14
  · have h := h.2 g2
    refine x_iconst (v := 1) C dT_holdsVariables_9 (by decide) ?_
    refine x_goto (tgt := 14) C dT_holdsVariables_10 (by decide) ?_
    obtain ⟨g4, h⟩ := h
    exact x_zret C hA hlocks hr (zb_n g4) ⟨rfl, g4, h⟩ dT_holdsVariables_14
set_option maxRecDepth 100000 in
set_option maxHeartbeats 4000000 in
theorem kT_holdsVariables {p : Program} {l : Launch} {e : Env} {R : Room} {s : State} {m : MethodId} {args : Array Value} {below : List Frame} {meth : Method} {c : Code} {cells slots : Nat} {Q : State → Prop} {A : Nat → Prop} {D : va_G} {nL pc : Nat} {cc : ByteArray} {cw : Cond} {own : String} {lv : List (Nat × Value)} {st : List Value} {G : G_} {a : L_} {r : S_} {K : Int32 → Prop} {p0 : Int32} (C : vx_C p s m args c cc nL (cw :: wAll) own D vwCl (tysG G) nwAll A) {i : Nat} (hl : Cond.methodLink own i yT_holdsVariables ∈ wAll) (hR : 0 + 1 ≤ R.frames ∧ 8 + (2 + 11) + 0 ≤ R.locals) (hst : (st.map fun v => v.category).sum ≤ 8) (hd : decode cc pc = .ok (.invokevirtual i, 3)) (hcs : cells ≤ R.cells ∧ slots ≤ R.slots) (h : qT_holdsVariables a r K p0) (k : ∀ (v : Int32), zb v → K v → vx_V p l e R s m args below meth c A D vwCl nL cells slots Q (wo G a r) (pc + 3) lv (.int v :: st)) : vx_V p l e R s m args below meth c A D vwCl nL cells slots Q (wo G a r) pc lv (.int p0 :: .ref (ob G 1) :: st) := by
  refine x_callVi C (CC := "ClassInference$TypeTable") (ci := 1) (q0 := 1) (fs := fl1 G a r) (As := [.int p0]) rfl rfl (cT_holdsVariables p0 h) (cwV (C := "ClassInference$TypeTable") 1 C.1.2.2.2.2 (goodV hl wm678 wm679 wm2 wm680) rfl rfl rfl (by decide +kernel) hR) rfl hst hd hcs (fun v w hw => ?_)
  obtain ⟨rfl, h⟩ := hw
  exact k v h.1 h.2
def qK_lowest_J35 (a : L_) (r : S_) (KB4 : Int32 → Int32 → Int32 → Prop) (KX41 : Int32 → Int32 → Prop) (v1 : Int32) (v2 : Int32) (v3 : Int32) : Prop :=
  KB4 v1 v2 (v3 + 1)
set_option maxRecDepth 100000 in
set_option maxHeartbeats 4000000 in
theorem tK_lowest_J35 (C : vx_C p s m args c prog_2_method_11_code 4 (Cond.code yK_lowest prog_2_method_11_code 4 (some .int) :: wAll) "ClassInference$ClassTable" D vwCl (tysG G) nwAll A) {a : L_} {r : S_} {KB4 : Int32 → Int32 → Int32 → Prop} {KX41 : Int32 → Int32 → Prop} (kB4 : ∀ (v1 : Int32) (v2 : Int32) (v3 : Int32), KB4 v1 v2 v3 → vx_V p l e { frames := 0, cells := 0, slots := 0, locals := 0 } s m args below meth c A D vwCl 4 0 0 Q (wo G a r) 4 [(0, .ref (ob G 2)), (1, .int v1), (2, .int v2), (3, .int v3)] []) (kX41 : ∀ (v1 : Int32) (v2 : Int32), KX41 v1 v2 → vx_V p l e { frames := 0, cells := 0, slots := 0, locals := 0 } s m args below meth c A D vwCl 4 0 0 Q (wo G a r) 41 [(1, .int v1), (2, .int v2)] []) (v1 : Int32) (v2 : Int32) (v3 : Int32) (h : qK_lowest_J35 a r KB4 KX41 v1 v2 v3) : vx_V p l e { frames := 0, cells := 0, slots := 0, locals := 0 } s m args below meth c A D vwCl 4 0 0 Q (wo G a r) 35 [(0, .ref (ob G 2)), (1, .int v1), (2, .int v2), (3, .int v3)] [] := by
  unfold qK_lowest_J35 at h
  refine x_iinc (j := 3) (v := v3 + 1) C [(3, .int (v3 + 1)), (0, .ref (ob G 2)), (1, .int v1), (2, .int v2)] dK_lowest_35 rfl rfl (by decide) rfl ?_
  refine x_goto (tgt := 4) C dK_lowest_38 (by decide) ?_
  refine x_sub [1, 2, 3, 0] rfl ?_
  exact kB4 v1 v2 (v3 + 1) h
def qK_lowest_L4 (a : L_) (r : S_) (KX41 : Int32 → Int32 → Prop) : Nat → Int32 → Int32 → Int32 → Prop
  | 0, _, _, _ => False
  | n + 1, v1, v2, v3 => (((fi r 2) ≤ v3) → KX41 v1 v2) ∧ ((¬ (fi r 2) ≤ v3) → (((v1 &&& (1 <<< (v3 &&& 31))) = 0) → qK_lowest_J35 a r (qK_lowest_L4 a r KX41 n) KX41 v1 v2 v3) ∧ ((¬ (v1 &&& (1 <<< (v3 &&& 31))) = 0) → vp_in v3 (ln a 7) ∧ ∀ z4 : Int32, z4 = v2 ||| ((ar r 7 v3.toNatClampNeg) &&& ((1 <<< (v3 &&& 31)) ^^^ (-1))) → qK_lowest_J35 a r (qK_lowest_L4 a r KX41 n) KX41 v1 z4 v3))
set_option maxRecDepth 100000 in
set_option maxHeartbeats 4000000 in
theorem tK_lowest_L4 (C : vx_C p s m args c prog_2_method_11_code 4 (Cond.code yK_lowest prog_2_method_11_code 4 (some .int) :: wAll) "ClassInference$ClassTable" D vwCl (tysG G) nwAll A) {a : L_} {r : S_} {KX41 : Int32 → Int32 → Prop} (kX41 : ∀ (v1 : Int32) (v2 : Int32), KX41 v1 v2 → vx_V p l e { frames := 0, cells := 0, slots := 0, locals := 0 } s m args below meth c A D vwCl 4 0 0 Q (wo G a r) 41 [(1, .int v1), (2, .int v2)] []) : ∀ (n : Nat) (v1 : Int32) (v2 : Int32) (v3 : Int32), qK_lowest_L4 a r KX41 n v1 v2 v3 → vx_V p l e { frames := 0, cells := 0, slots := 0, locals := 0 } s m args below meth c A D vwCl 4 0 0 Q (wo G a r) 4 [(0, .ref (ob G 2)), (1, .int v1), (2, .int v2), (3, .int v3)] [] := by
  intro n
  induction n with
  | zero =>
    intro v1 v2 v3 h
    exact (by rw [qK_lowest_L4] at h; exact h : False).elim
  | succ n kB4 =>
    intro v1 v2 v3 h
    rw [qK_lowest_L4] at h
    refine x_iload_n C dK_lowest_4 rfl 3 rfl ?_
    refine x_aload_n C dK_lowest_5 rfl 0 rfl ?_
    refine gf_2_3 C (List.mem_cons_of_mem _ wm72) dK_lowest_6 ?_
    refine x_icmp_ge (tgt := 41) C dK_lowest_9 (by decide) (fun g1 => ?_) (fun g1 => ?_)
    · have h := h.1 g1
      refine x_sub [1, 2] rfl ?_
      exact kX41 v1 v2 h
    · have h := h.2 g1
      refine x_iload_n C dK_lowest_12 rfl 1 rfl ?_
      refine x_iconst (v := 1) C dK_lowest_13 (by decide) ?_
      refine x_iload_n C dK_lowest_14 rfl 3 rfl ?_
      refine x_ishl C dK_lowest_15 ?_
      refine x_iand C dK_lowest_16 ?_
      refine x_if_eq (tgt := 35) C dK_lowest_17 (by decide) (fun g2 => ?_) (fun g2 => ?_)
      · have h := h.1 g2
        refine x_sub [0, 1, 2, 3] rfl ?_
        exact tK_lowest_J35 C kB4 kX41 v1 v2 v3 h
      · have h := h.2 g2
        refine x_iload_n C dK_lowest_20 rfl 2 rfl ?_
        refine x_aload_n C dK_lowest_21 rfl 0 rfl ?_
        refine gf_2_1 C (List.mem_cons_of_mem _ wm70) dK_lowest_22 ?_
        refine x_iload_n C dK_lowest_25 rfl 3 rfl ?_
        obtain ⟨g3, h⟩ := h
        refine y_ia C 7 (by decide) g3 dK_lowest_26 ?_
        refine x_iconst (v := 1) C dK_lowest_27 (by decide) ?_
        refine x_iload_n C dK_lowest_28 rfl 3 rfl ?_
        refine x_ishl C dK_lowest_29 ?_
        refine x_iconst (v := (-1)) C dK_lowest_30 (by decide) ?_
        refine x_ixor C dK_lowest_31 ?_
        refine x_iand C dK_lowest_32 ?_
        refine x_ior C dK_lowest_33 ?_
        refine x_topi (fun z4 ez4 => ?_)
        have h := h z4 ez4
        refine x_istore_n C [(2, .int z4), (0, .ref (ob G 2)), (1, .int v1), (3, .int v3)] dK_lowest_34 rfl (by decide) rfl ?_
        refine x_sub [1, 2, 0, 3] rfl ?_
        exact tK_lowest_J35 C kB4 kX41 v1 z4 v3 h
def qK_lowest (a : L_) (r : S_) (K : Int32 → Prop) (p0 : Int32) : Prop :=
  ∃ n5 : Nat, qK_lowest_L4 a r (fun v1 v2 => K (v1 &&& (v2 ^^^ (-1)))) n5 p0 0 0
set_option maxRecDepth 100000 in
set_option maxHeartbeats 4000000 in
theorem cK_lowest {a : L_} {r : S_} {K : Int32 → Prop} (p0 : Int32) (h : qK_lowest a r K p0) : vx_Mi l yK_lowest (Cond.code yK_lowest prog_2_method_11_code 4 (some .int) :: wAll) { frames := 0, cells := 0, slots := 0, locals := 0 } D vwCl (tysG G) nwAll (wo G a r) [.ref (ob G 2), .int p0] 0 0 (fun v w => w = wo G a r ∧ K v) := by
  unfold qK_lowest at h
  refine x_meti (cc := prog_2_method_11_code) (maxL := 4) (ret := (some .int)) (lv0 := [(0, .ref (ob G 2)), (1, .int p0)]) (by decide) rfl (Nat.le_of_ble_eq_true rfl) rfl ?_
  intro p e s m args below meth c A C hA hlocks hr
  refine x_iconst (v := 0) C dK_lowest_0 (by decide) ?_
  refine x_istore_n C [(2, .int 0), (0, .ref (ob G 2)), (1, .int p0)] dK_lowest_1 rfl (by decide) rfl ?_
  refine x_iconst (v := 0) C dK_lowest_2 (by decide) ?_
  refine x_istore_n C [(3, .int 0), (2, .int 0), (0, .ref (ob G 2)), (1, .int p0)] dK_lowest_3 rfl (by decide) rfl ?_
  obtain ⟨n5, h⟩ := h
  refine x_sub [2, 3, 1, 0] rfl ?_
  refine tK_lowest_L4 C (fun v1 v2 h => ?_) n5 p0 0 0 h
  · refine x_iload_n C dK_lowest_41 rfl 0 rfl ?_
    refine x_iload_n C dK_lowest_42 rfl 1 rfl ?_
    refine x_iconst (v := (-1)) C dK_lowest_43 (by decide) ?_
    refine x_ixor C dK_lowest_44 ?_
    refine x_iand C dK_lowest_45 ?_
    exact x_iret C hA hlocks hr ⟨rfl, h⟩ dK_lowest_46
set_option maxRecDepth 100000 in
set_option maxHeartbeats 4000000 in
theorem kK_lowest {p : Program} {l : Launch} {e : Env} {R : Room} {s : State} {m : MethodId} {args : Array Value} {below : List Frame} {meth : Method} {c : Code} {cells slots : Nat} {Q : State → Prop} {A : Nat → Prop} {D : va_G} {nL pc : Nat} {cc : ByteArray} {cw : Cond} {own : String} {lv : List (Nat × Value)} {st : List Value} {G : G_} {a : L_} {r : S_} {K : Int32 → Prop} {p0 : Int32} (C : vx_C p s m args c cc nL (cw :: wAll) own D vwCl (tysG G) nwAll A) {i : Nat} (hl : Cond.methodLink own i yK_lowest ∈ wAll) (hR : 0 + 1 ≤ R.frames ∧ 8 + (4 + 11) + 0 ≤ R.locals) (hst : (st.map fun v => v.category).sum ≤ 8) (hd : decode cc pc = .ok (.invokevirtual i, 3)) (hcs : cells ≤ R.cells ∧ slots ≤ R.slots) (h : qK_lowest a r K p0) (k : ∀ (v : Int32), K v → vx_V p l e R s m args below meth c A D vwCl nL cells slots Q (wo G a r) (pc + 3) lv (.int v :: st)) : vx_V p l e R s m args below meth c A D vwCl nL cells slots Q (wo G a r) pc lv (.int p0 :: .ref (ob G 2) :: st) := by
  refine x_callVi C (CC := "ClassInference$ClassTable") (ci := 2) (q0 := 2) (fs := fl2 G a r) (As := [.int p0]) rfl rfl (cK_lowest p0 h) (cwV (C := "ClassInference$ClassTable") 1 C.1.2.2.2.2 (goodV hl wm549 wm550 wm3 wm551) rfl rfl rfl (by decide +kernel) hR) rfl hst hd hcs (fun v w hw => ?_)
  obtain ⟨rfl, h⟩ := hw
  exact k v h
def qK_haveInstances_J34 (a : L_) (r : S_) (KB2 : Int32 → Int32 → Int32 → Prop) (KX32 : Prop) (KX40 : Prop) (v1 : Int32) (v2 : Int32) (v3 : Int32) : Prop :=
  KB2 v1 v2 (v3 + 1)
set_option maxRecDepth 100000 in
set_option maxHeartbeats 4000000 in
theorem tK_haveInstances_J34 (C : vx_C p s m args c prog_2_method_12_code 4 (Cond.code yK_haveInstances prog_2_method_12_code 4 (some .boolean) :: wAll) "ClassInference$ClassTable" D vwCl (tysG G) nwAll A) {a : L_} {r : S_} {KB2 : Int32 → Int32 → Int32 → Prop} {KX32 : Prop} {KX40 : Prop} (kB2 : ∀ (v1 : Int32) (v2 : Int32) (v3 : Int32), KB2 v1 v2 v3 → vx_V p l e { frames := 1, cells := 0, slots := 0, locals := 21 } s m args below meth c A D vwCl 4 0 0 Q (wo G a r) 2 [(0, .ref (ob G 2)), (1, .int v1), (2, .int v2), (3, .int v3)] []) (kX32 : KX32 → vx_V p l e { frames := 1, cells := 0, slots := 0, locals := 21 } s m args below meth c A D vwCl 4 0 0 Q (wo G a r) 32 [] []) (kX40 : KX40 → vx_V p l e { frames := 1, cells := 0, slots := 0, locals := 21 } s m args below meth c A D vwCl 4 0 0 Q (wo G a r) 40 [] []) (v1 : Int32) (v2 : Int32) (v3 : Int32) (h : qK_haveInstances_J34 a r KB2 KX32 KX40 v1 v2 v3) : vx_V p l e { frames := 1, cells := 0, slots := 0, locals := 21 } s m args below meth c A D vwCl 4 0 0 Q (wo G a r) 34 [(0, .ref (ob G 2)), (1, .int v1), (2, .int v2), (3, .int v3)] [] := by
  unfold qK_haveInstances_J34 at h
  refine x_iinc (j := 3) (v := v3 + 1) C [(3, .int (v3 + 1)), (0, .ref (ob G 2)), (1, .int v1), (2, .int v2)] dK_haveInstances_34 rfl rfl (by decide) rfl ?_
  refine x_goto (tgt := 2) C dK_haveInstances_37 (by decide) ?_
  refine x_sub [1, 2, 3, 0] rfl ?_
  exact kB2 v1 v2 (v3 + 1) h
def qK_haveInstances_L2 (a : L_) (r : S_) (KX32 : Prop) (KX40 : Prop) : Nat → Int32 → Int32 → Int32 → Prop
  | 0, _, _, _ => False
  | n + 1, v1, v2, v3 => (((fi r 2) ≤ v3) → KX40) ∧ ((¬ (fi r 2) ≤ v3) → (((v1 &&& (1 <<< (v3 &&& 31))) = 0) → qK_haveInstances_J34 a r (qK_haveInstances_L2 a r KX32 KX40 n) KX32 KX40 v1 v2 v3) ∧ ((¬ (v1 &&& (1 <<< (v3 &&& 31))) = 0) → qK_slot a r (fun z3 => vp_in z3 (ln a 9) ∧ ((¬ (ar r 9 z3.toNatClampNeg) = (-1)) → qK_haveInstances_J34 a r (qK_haveInstances_L2 a r KX32 KX40 n) KX32 KX40 v1 v2 v3) ∧ (((ar r 9 z3.toNatClampNeg) = (-1)) → KX32)) v3 v2))
set_option maxRecDepth 100000 in
set_option maxHeartbeats 4000000 in
theorem tK_haveInstances_L2 (C : vx_C p s m args c prog_2_method_12_code 4 (Cond.code yK_haveInstances prog_2_method_12_code 4 (some .boolean) :: wAll) "ClassInference$ClassTable" D vwCl (tysG G) nwAll A) {a : L_} {r : S_} {KX32 : Prop} {KX40 : Prop} (kX32 : KX32 → vx_V p l e { frames := 1, cells := 0, slots := 0, locals := 21 } s m args below meth c A D vwCl 4 0 0 Q (wo G a r) 32 [] []) (kX40 : KX40 → vx_V p l e { frames := 1, cells := 0, slots := 0, locals := 21 } s m args below meth c A D vwCl 4 0 0 Q (wo G a r) 40 [] []) : ∀ (n : Nat) (v1 : Int32) (v2 : Int32) (v3 : Int32), qK_haveInstances_L2 a r KX32 KX40 n v1 v2 v3 → vx_V p l e { frames := 1, cells := 0, slots := 0, locals := 21 } s m args below meth c A D vwCl 4 0 0 Q (wo G a r) 2 [(0, .ref (ob G 2)), (1, .int v1), (2, .int v2), (3, .int v3)] [] := by
  intro n
  induction n with
  | zero =>
    intro v1 v2 v3 h
    exact (by rw [qK_haveInstances_L2] at h; exact h : False).elim
  | succ n kB2 =>
    intro v1 v2 v3 h
    rw [qK_haveInstances_L2] at h
    refine x_iload_n C dK_haveInstances_2 rfl 3 rfl ?_
    refine x_aload_n C dK_haveInstances_3 rfl 0 rfl ?_
    refine gf_2_3 C (List.mem_cons_of_mem _ wm72) dK_haveInstances_4 ?_
    refine x_icmp_ge (tgt := 40) C dK_haveInstances_7 (by decide) (fun g1 => ?_) (fun g1 => ?_)
    · have h := h.1 g1
      refine x_sub [] rfl ?_
      exact kX40 h
    · have h := h.2 g1
      refine x_iload_n C dK_haveInstances_10 rfl 1 rfl ?_
      refine x_iconst (v := 1) C dK_haveInstances_11 (by decide) ?_
      refine x_iload_n C dK_haveInstances_12 rfl 3 rfl ?_
      refine x_ishl C dK_haveInstances_13 ?_
      refine x_iand C dK_haveInstances_14 ?_
      refine x_if_eq (tgt := 34) C dK_haveInstances_15 (by decide) (fun g2 => ?_) (fun g2 => ?_)
      · have h := h.1 g2
        refine x_sub [0, 1, 2, 3] rfl ?_
        exact tK_haveInstances_J34 C kB2 kX32 kX40 v1 v2 v3 h
      · have h := h.2 g2
        refine x_aload_n C dK_haveInstances_18 rfl 0 rfl ?_
        refine gf_2_4 C (List.mem_cons_of_mem _ wm74) dK_haveInstances_19 ?_
        refine x_iload_n C dK_haveInstances_22 rfl 3 rfl ?_
        refine x_iload_n C dK_haveInstances_23 rfl 2 rfl ?_
        refine kK_slot C wm382 ⟨Nat.le_of_ble_eq_true rfl, Nat.le_of_ble_eq_true rfl⟩ (Nat.le_of_ble_eq_true rfl) dK_haveInstances_24 ⟨Nat.zero_le _, Nat.zero_le _⟩ h (fun z3 h => ?_)
        obtain ⟨g4, h⟩ := h
        refine y_ia C 9 (by decide) g4 dK_haveInstances_27 ?_
        refine x_iconst (v := (-1)) C dK_haveInstances_28 (by decide) ?_
        refine x_icmp_ne (tgt := 34) C dK_haveInstances_29 (by decide) (fun g5 => ?_) (fun g5 => ?_)
        · have h := h.1 g5
          refine x_sub [0, 1, 2, 3] rfl ?_
          exact tK_haveInstances_J34 C kB2 kX32 kX40 v1 v2 v3 h
        · have h := h.2 g5
          refine x_sub [] rfl ?_
          exact kX32 h
def qK_haveInstances (a : L_) (r : S_) (K : Int32 → Prop) (p0 : Int32) (p1 : Int32) : Prop :=
  ∃ n8 : Nat, qK_haveInstances_L2 a r (zb 0 ∧ K 0) (zb 1 ∧ K 1) n8 p0 p1 0
set_option maxRecDepth 100000 in
set_option maxHeartbeats 4000000 in
theorem cK_haveInstances {a : L_} {r : S_} {K : Int32 → Prop} (p0 : Int32) (p1 : Int32) (h : qK_haveInstances a r K p0 p1) : vx_Mi l yK_haveInstances (Cond.code yK_haveInstances prog_2_method_12_code 4 (some .boolean) :: wAll) { frames := 1, cells := 0, slots := 0, locals := 21 } D vwCl (tysG G) nwAll (wo G a r) [.ref (ob G 2), .int p0, .int p1] 0 0 (fun v w => w = wo G a r ∧ zb v ∧ K v) := by
  unfold qK_haveInstances at h
  refine x_meti (cc := prog_2_method_12_code) (maxL := 4) (ret := (some .boolean)) (lv0 := [(0, .ref (ob G 2)), (1, .int p0), (2, .int p1)]) (by decide) rfl (Nat.le_of_ble_eq_true rfl) rfl ?_
  intro p e s m args below meth c A C hA hlocks hr
  refine x_iconst (v := 0) C dK_haveInstances_0 (by decide) ?_
  refine x_istore_n C [(3, .int 0), (0, .ref (ob G 2)), (1, .int p0), (2, .int p1)] dK_haveInstances_1 rfl (by decide) rfl ?_
  obtain ⟨n8, h⟩ := h
  refine x_sub [1, 2, 3, 0] rfl ?_
  refine tK_haveInstances_L2 C (fun h => ?_) (fun h => ?_) n8 p0 p1 0 h
  · refine x_iconst (v := 0) C dK_haveInstances_32 (by decide) ?_
    obtain ⟨g6, h⟩ := h
    exact x_zret C hA hlocks hr (zb_n g6) ⟨rfl, g6, h⟩ dK_haveInstances_33
  · refine x_iconst (v := 1) C dK_haveInstances_40 (by decide) ?_
    obtain ⟨g7, h⟩ := h
    exact x_zret C hA hlocks hr (zb_n g7) ⟨rfl, g7, h⟩ dK_haveInstances_41
set_option maxRecDepth 100000 in
set_option maxHeartbeats 4000000 in
theorem kK_haveInstances {p : Program} {l : Launch} {e : Env} {R : Room} {s : State} {m : MethodId} {args : Array Value} {below : List Frame} {meth : Method} {c : Code} {cells slots : Nat} {Q : State → Prop} {A : Nat → Prop} {D : va_G} {nL pc : Nat} {cc : ByteArray} {cw : Cond} {own : String} {lv : List (Nat × Value)} {st : List Value} {G : G_} {a : L_} {r : S_} {K : Int32 → Prop} {p0 : Int32} {p1 : Int32} (C : vx_C p s m args c cc nL (cw :: wAll) own D vwCl (tysG G) nwAll A) {i : Nat} (hl : Cond.methodLink own i yK_haveInstances ∈ wAll) (hR : 1 + 1 ≤ R.frames ∧ 8 + (4 + 11) + 21 ≤ R.locals) (hst : (st.map fun v => v.category).sum ≤ 8) (hd : decode cc pc = .ok (.invokevirtual i, 3)) (hcs : cells ≤ R.cells ∧ slots ≤ R.slots) (h : qK_haveInstances a r K p0 p1) (k : ∀ (v : Int32), zb v → K v → vx_V p l e R s m args below meth c A D vwCl nL cells slots Q (wo G a r) (pc + 3) lv (.int v :: st)) : vx_V p l e R s m args below meth c A D vwCl nL cells slots Q (wo G a r) pc lv (.int p1 :: .int p0 :: .ref (ob G 2) :: st) := by
  refine x_callVi C (CC := "ClassInference$ClassTable") (ci := 2) (q0 := 2) (fs := fl2 G a r) (As := [.int p0, .int p1]) rfl rfl (cK_haveInstances p0 p1 h) (cwV (C := "ClassInference$ClassTable") 2 C.1.2.2.2.2 (goodV hl wm563 wm564 wm3 wm565) rfl rfl rfl (by decide +kernel) hR) rfl hst hd hcs (fun v w hw => ?_)
  obtain ⟨rfl, h⟩ := hw
  exact k v h.1 h.2
def qK_joined_J37 (a : L_) (r : S_) (m0 : Nat) (KB6 : Int32 → Int32 → Int32 → Int32 → Prop) (KX43 : Int32 → Prop) (v2 : Int32) (v3 : Int32) (v4 : Int32) (v5 : Int32) : Prop :=
  KB6 v2 v3 v4 (v5 + 1)
set_option maxRecDepth 100000 in
set_option maxHeartbeats 4000000 in
theorem tK_joined_J37 (C : vx_C p s m args c prog_2_method_13_code 6 (Cond.code yK_joined prog_2_method_13_code 6 (some .int) :: wAll) "ClassInference$ClassTable" D vwCl (tysG G) nwAll A) {a : L_} {r : S_} {m0 : Nat} (hm0 : m0 < 86) {KB6 : Int32 → Int32 → Int32 → Int32 → Prop} {KX43 : Int32 → Prop} (kB6 : ∀ (v2 : Int32) (v3 : Int32) (v4 : Int32) (v5 : Int32), KB6 v2 v3 v4 v5 → vx_V p l e { frames := 1, cells := 0, slots := 0, locals := 21 } s m args below meth c A D vwCl 6 0 0 Q (wo G a r) 6 [(0, .ref (ob G 2)), (1, .ref (ad a m0)), (2, .int v2), (3, .int v3), (4, .int v4), (5, .int v5)] []) (kX43 : ∀ (v4 : Int32), KX43 v4 → vx_V p l e { frames := 1, cells := 0, slots := 0, locals := 21 } s m args below meth c A D vwCl 6 0 0 Q (wo G a r) 43 [(4, .int v4)] []) (v2 : Int32) (v3 : Int32) (v4 : Int32) (v5 : Int32) (h : qK_joined_J37 a r m0 KB6 KX43 v2 v3 v4 v5) : vx_V p l e { frames := 1, cells := 0, slots := 0, locals := 21 } s m args below meth c A D vwCl 6 0 0 Q (wo G a r) 37 [(0, .ref (ob G 2)), (1, .ref (ad a m0)), (2, .int v2), (3, .int v3), (4, .int v4), (5, .int v5)] [] := by
  unfold qK_joined_J37 at h
  refine x_iinc (j := 5) (v := v5 + 1) C [(5, .int (v5 + 1)), (0, .ref (ob G 2)), (1, .ref (ad a m0)), (2, .int v2), (3, .int v3), (4, .int v4)] dK_joined_37 rfl rfl (by decide) rfl ?_
  refine x_goto (tgt := 6) C dK_joined_40 (by decide) ?_
  refine x_sub [1, 2, 3, 4, 5, 0] rfl ?_
  exact kB6 v2 v3 v4 (v5 + 1) h
def qK_joined_L6 (a : L_) (r : S_) (m0 : Nat) (KX43 : Int32 → Prop) : Nat → Int32 → Int32 → Int32 → Int32 → Prop
  | 0, _, _, _, _ => False
  | n + 1, v2, v3, v4, v5 => (((fi r 2) ≤ v5) → KX43 v4) ∧ ((¬ (fi r 2) ≤ v5) → (((v2 &&& (1 <<< (v5 &&& 31))) = 0) → qK_joined_J37 a r m0 (qK_joined_L6 a r m0 KX43 n) KX43 v2 v3 v4 v5) ∧ ((¬ (v2 &&& (1 <<< (v5 &&& 31))) = 0) → qK_slot a r (fun z3 => vp_in z3 (ln a m0) ∧ qK_joined_J37 a r m0 (qK_joined_L6 a r m0 KX43 n) KX43 v2 v3 (v4 ||| (ar r m0 z3.toNatClampNeg)) v5) v5 v3))
set_option maxRecDepth 100000 in
set_option maxHeartbeats 4000000 in
theorem tK_joined_L6 (C : vx_C p s m args c prog_2_method_13_code 6 (Cond.code yK_joined prog_2_method_13_code 6 (some .int) :: wAll) "ClassInference$ClassTable" D vwCl (tysG G) nwAll A) {a : L_} {r : S_} {m0 : Nat} (hm0 : m0 < 86) {KX43 : Int32 → Prop} (kX43 : ∀ (v4 : Int32), KX43 v4 → vx_V p l e { frames := 1, cells := 0, slots := 0, locals := 21 } s m args below meth c A D vwCl 6 0 0 Q (wo G a r) 43 [(4, .int v4)] []) : ∀ (n : Nat) (v2 : Int32) (v3 : Int32) (v4 : Int32) (v5 : Int32), qK_joined_L6 a r m0 KX43 n v2 v3 v4 v5 → vx_V p l e { frames := 1, cells := 0, slots := 0, locals := 21 } s m args below meth c A D vwCl 6 0 0 Q (wo G a r) 6 [(0, .ref (ob G 2)), (1, .ref (ad a m0)), (2, .int v2), (3, .int v3), (4, .int v4), (5, .int v5)] [] := by
  intro n
  induction n with
  | zero =>
    intro v2 v3 v4 v5 h
    exact (by rw [qK_joined_L6] at h; exact h : False).elim
  | succ n kB6 =>
    intro v2 v3 v4 v5 h
    rw [qK_joined_L6] at h
    refine x_iload C dK_joined_6 5 rfl ?_
    refine x_aload_n C dK_joined_8 rfl 0 rfl ?_
    refine gf_2_3 C (List.mem_cons_of_mem _ wm72) dK_joined_9 ?_
    refine x_icmp_ge (tgt := 43) C dK_joined_12 (by decide) (fun g1 => ?_) (fun g1 => ?_)
    · have h := h.1 g1
      refine x_sub [4] rfl ?_
      exact kX43 v4 h
    · have h := h.2 g1
      refine x_iload_n C dK_joined_15 rfl 2 rfl ?_
      refine x_iconst (v := 1) C dK_joined_16 (by decide) ?_
      refine x_iload C dK_joined_17 5 rfl ?_
      refine x_ishl C dK_joined_19 ?_
      refine x_iand C dK_joined_20 ?_
      refine x_if_eq (tgt := 37) C dK_joined_21 (by decide) (fun g2 => ?_) (fun g2 => ?_)
      · have h := h.1 g2
        refine x_sub [0, 1, 2, 3, 4, 5] rfl ?_
        exact tK_joined_J37 C hm0 kB6 kX43 v2 v3 v4 v5 h
      · have h := h.2 g2
        refine x_iload C dK_joined_24 4 rfl ?_
        refine x_aload_n C dK_joined_26 rfl 1 rfl ?_
        refine x_iload C dK_joined_27 5 rfl ?_
        refine x_iload_n C dK_joined_29 rfl 3 rfl ?_
        refine kK_slot C wm382 ⟨Nat.le_of_ble_eq_true rfl, Nat.le_of_ble_eq_true rfl⟩ (Nat.le_of_ble_eq_true rfl) dK_joined_30 ⟨Nat.zero_le _, Nat.zero_le _⟩ h (fun z3 h => ?_)
        obtain ⟨g4, h⟩ := h
        refine y_ia C m0 hm0 g4 dK_joined_33 ?_
        refine x_ior C dK_joined_34 ?_
        refine x_istore C [(4, .int (v4 ||| (ar r m0 z3.toNatClampNeg))), (0, .ref (ob G 2)), (1, .ref (ad a m0)), (2, .int v2), (3, .int v3), (5, .int v5)] dK_joined_35 (by decide) rfl ?_
        refine x_sub [1, 2, 3, 4, 0, 5] rfl ?_
        exact tK_joined_J37 C hm0 kB6 kX43 v2 v3 (v4 ||| (ar r m0 z3.toNatClampNeg)) v5 h
def qK_joined (a : L_) (r : S_) (m0 : Nat) (K : Int32 → Prop) (p1 : Int32) (p2 : Int32) : Prop :=
  ∃ n5 : Nat, qK_joined_L6 a r m0 (fun v4 => K v4) n5 p1 p2 0 0
set_option maxRecDepth 100000 in
set_option maxHeartbeats 4000000 in
theorem cK_joined {a : L_} {r : S_} {m0 : Nat} {K : Int32 → Prop} (hm0 : m0 < 86) (p1 : Int32) (p2 : Int32) (h : qK_joined a r m0 K p1 p2) : vx_Mi l yK_joined (Cond.code yK_joined prog_2_method_13_code 6 (some .int) :: wAll) { frames := 1, cells := 0, slots := 0, locals := 21 } D vwCl (tysG G) nwAll (wo G a r) [.ref (ob G 2), .ref (ad a m0), .int p1, .int p2] 0 0 (fun v w => w = wo G a r ∧ K v) := by
  unfold qK_joined at h
  refine x_meti (cc := prog_2_method_13_code) (maxL := 6) (ret := (some .int)) (lv0 := [(0, .ref (ob G 2)), (1, .ref (ad a m0)), (2, .int p1), (3, .int p2)]) (by decide) rfl (Nat.le_of_ble_eq_true rfl) rfl ?_
  intro p e s m args below meth c A C hA hlocks hr
  refine x_iconst (v := 0) C dK_joined_0 (by decide) ?_
  refine x_istore C [(4, .int 0), (0, .ref (ob G 2)), (1, .ref (ad a m0)), (2, .int p1), (3, .int p2)] dK_joined_1 (by decide) rfl ?_
  refine x_iconst (v := 0) C dK_joined_3 (by decide) ?_
  refine x_istore C [(5, .int 0), (4, .int 0), (0, .ref (ob G 2)), (1, .ref (ad a m0)), (2, .int p1), (3, .int p2)] dK_joined_4 (by decide) rfl ?_
  obtain ⟨n5, h⟩ := h
  refine x_sub [2, 3, 4, 5, 1, 0] rfl ?_
  refine tK_joined_L6 C hm0 (fun v4 h => ?_) n5 p1 p2 0 0 h
  · refine x_iload C dK_joined_43 0 rfl ?_
    exact x_iret C hA hlocks hr ⟨rfl, h⟩ dK_joined_45
set_option maxRecDepth 100000 in
set_option maxHeartbeats 4000000 in
theorem kK_joined {p : Program} {l : Launch} {e : Env} {R : Room} {s : State} {m : MethodId} {args : Array Value} {below : List Frame} {meth : Method} {c : Code} {cells slots : Nat} {Q : State → Prop} {A : Nat → Prop} {D : va_G} {nL pc : Nat} {cc : ByteArray} {cw : Cond} {own : String} {lv : List (Nat × Value)} {st : List Value} {G : G_} {a : L_} {r : S_} {m0 : Nat} {K : Int32 → Prop} {p1 : Int32} {p2 : Int32} (C : vx_C p s m args c cc nL (cw :: wAll) own D vwCl (tysG G) nwAll A) (hm0 : m0 < 86) {i : Nat} (hl : Cond.methodLink own i yK_joined ∈ wAll) (hR : 1 + 1 ≤ R.frames ∧ 8 + (6 + 11) + 21 ≤ R.locals) (hst : (st.map fun v => v.category).sum ≤ 8) (hd : decode cc pc = .ok (.invokevirtual i, 3)) (hcs : cells ≤ R.cells ∧ slots ≤ R.slots) (h : qK_joined a r m0 K p1 p2) (k : ∀ (v : Int32), K v → vx_V p l e R s m args below meth c A D vwCl nL cells slots Q (wo G a r) (pc + 3) lv (.int v :: st)) : vx_V p l e R s m args below meth c A D vwCl nL cells slots Q (wo G a r) pc lv (.int p2 :: .int p1 :: .ref (ad a m0) :: .ref (ob G 2) :: st) := by
  refine x_callVi C (CC := "ClassInference$ClassTable") (ci := 2) (q0 := 2) (fs := fl2 G a r) (As := [.ref (ad a m0), .int p1, .int p2]) rfl rfl (cK_joined hm0 p1 p2 h) (cwV (C := "ClassInference$ClassTable") 3 C.1.2.2.2.2 (goodV hl wm567 wm568 wm3 wm569) rfl rfl rfl (by decide +kernel) hR) rfl hst hd hcs (fun v w hw => ?_)
  obtain ⟨rfl, h⟩ := hw
  exact k v h
def qE_nodesOf (a : L_) (r : S_) (K : Int32 → Prop) (p0 : Int32) : Prop :=
  vp_in p0 (ln a 16) ∧ K (ar r 16 p0.toNatClampNeg)
set_option maxRecDepth 100000 in
set_option maxHeartbeats 4000000 in
theorem cE_nodesOf {a : L_} {r : S_} {K : Int32 → Prop} (p0 : Int32) (h : qE_nodesOf a r K p0) : vx_Mi l yE_nodesOf (Cond.code yE_nodesOf prog_3_method_3_code 2 (some .int) :: wAll) { frames := 0, cells := 0, slots := 0, locals := 0 } D vwCl (tysG G) nwAll (wo G a r) [.ref (ob G 3), .int p0] 0 0 (fun v w => w = wo G a r ∧ K v) := by
  unfold qE_nodesOf at h
  refine x_meti (cc := prog_3_method_3_code) (maxL := 2) (ret := (some .int)) (lv0 := [(0, .ref (ob G 3)), (1, .int p0)]) (by decide) rfl (Nat.le_of_ble_eq_true rfl) rfl ?_
  intro p e s m args below meth c A C hA hlocks hr
  refine x_aload_n C dE_nodesOf_0 rfl 0 rfl ?_
  refine gf_3_4 C (List.mem_cons_of_mem _ wm111) dE_nodesOf_1 ?_
  refine x_iload_n C dE_nodesOf_4 rfl 1 rfl ?_
  obtain ⟨g1, h⟩ := h
  refine y_ia C 16 (by decide) g1 dE_nodesOf_5 ?_
  exact x_iret C hA hlocks hr ⟨rfl, h⟩ dE_nodesOf_6
set_option maxRecDepth 100000 in
set_option maxHeartbeats 4000000 in
theorem kE_nodesOf {p : Program} {l : Launch} {e : Env} {R : Room} {s : State} {m : MethodId} {args : Array Value} {below : List Frame} {meth : Method} {c : Code} {cells slots : Nat} {Q : State → Prop} {A : Nat → Prop} {D : va_G} {nL pc : Nat} {cc : ByteArray} {cw : Cond} {own : String} {lv : List (Nat × Value)} {st : List Value} {G : G_} {a : L_} {r : S_} {K : Int32 → Prop} {p0 : Int32} (C : vx_C p s m args c cc nL (cw :: wAll) own D vwCl (tysG G) nwAll A) {i : Nat} (hl : Cond.methodLink own i yE_nodesOf ∈ wAll) (hR : 0 + 1 ≤ R.frames ∧ 8 + (2 + 11) + 0 ≤ R.locals) (hst : (st.map fun v => v.category).sum ≤ 8) (hd : decode cc pc = .ok (.invokevirtual i, 3)) (hcs : cells ≤ R.cells ∧ slots ≤ R.slots) (h : qE_nodesOf a r K p0) (k : ∀ (v : Int32), K v → vx_V p l e R s m args below meth c A D vwCl nL cells slots Q (wo G a r) (pc + 3) lv (.int v :: st)) : vx_V p l e R s m args below meth c A D vwCl nL cells slots Q (wo G a r) pc lv (.int p0 :: .ref (ob G 3) :: st) := by
  refine x_callVi C (CC := "ClassInference$ExpressionTable") (ci := 3) (q0 := 3) (fs := fl3 G a r) (As := [.int p0]) rfl rfl (cE_nodesOf p0 h) (cwV (C := "ClassInference$ExpressionTable") 1 C.1.2.2.2.2 (goodV hl wm420 wm421 wm5 wm422) rfl rfl rfl (by decide +kernel) hR) rfl hst hd hcs (fun v w hw => ?_)
  obtain ⟨rfl, h⟩ := hw
  exact k v h
def qY_enter (a : L_) (K : S_ → Prop) (r : S_) (p0 : Int32) (p1 : Int32) (p2 : Int32) : Prop :=
  ((24 ≤ (fi r 5)) → K r) ∧ ((¬ 24 ≤ (fi r 5)) → vp_in (fi r 5) (ln a 17) ∧ ∀ r3 : S_, r3 = sA r 17 (upd (ar r 17) (fi r 5).toNatClampNeg p0) → vp_in (fi r3 5) (ln a 18) ∧ ∀ r5 : S_, r5 = sA r3 18 (upd (ar r3 18) (fi r3 5).toNatClampNeg p1) → vp_in (fi r5 5) (ln a 19) ∧ ∀ r7 : S_, r7 = sA r5 19 (upd (ar r5 19) (fi r5 5).toNatClampNeg p2) → ∀ r8 : S_, r8 = sF r7 5 ((fi r7 5) + 1) → K r8)
set_option maxRecDepth 100000 in
set_option maxHeartbeats 4000000 in
theorem cY_enter {a : L_} {r : S_} {K : S_ → Prop} (p0 : Int32) (p1 : Int32) (p2 : Int32) (h : qY_enter a K r p0 p1 p2) : vx_Mv l yY_enter (Cond.code yY_enter prog_7_method_9_code 4 none :: wAll) { frames := 0, cells := 0, slots := 0, locals := 0 } D vwCl (tysG G) nwAll (wo G a r) [.ref (ob G 4), .int p0, .int p1, .int p2] 0 0 (fun w => ∃ r1, w = wo G a r1 ∧ K r1) := by
  unfold qY_enter at h
  refine x_metv (cc := prog_7_method_9_code) (maxL := 4) (ret := none) (lv0 := [(0, .ref (ob G 4)), (1, .int p0), (2, .int p1), (3, .int p2)]) (by decide) rfl (Nat.le_of_ble_eq_true rfl) rfl ?_
  intro p e s m args below meth c A C hA hlocks hr
  refine x_aload_n C dY_enter_0 rfl 0 rfl ?_
  refine gf_4_7 C (List.mem_cons_of_mem _ wm207) dY_enter_1 ?_
  refine x_bipush (v := 24) C dY_enter_4 (by decide) ?_
  refine x_icmp_ge (tgt := 49) C dY_enter_6 (by decide) (fun g1 => ?_) (fun g1 => ?_)
  · have h := h.1 g1
    exact x_vret C hA hlocks hr ⟨r, rfl, h⟩ dY_enter_49
  · have h := h.2 g1
    refine x_aload_n C dY_enter_9 rfl 0 rfl ?_
    refine gf_4_4 C (List.mem_cons_of_mem _ wm204) dY_enter_10 ?_
    refine x_aload_n C dY_enter_13 rfl 0 rfl ?_
    refine gf_4_7 C (List.mem_cons_of_mem _ wm207) dY_enter_14 ?_
    refine x_iload_n C dY_enter_17 rfl 1 rfl ?_
    obtain ⟨g2, h⟩ := h
    refine y_is C 17 (by decide) g2 dY_enter_18 (fun r3 er3 => ?_)
    have h := h r3 er3
    refine x_aload_n C dY_enter_19 rfl 0 rfl ?_
    refine gf_4_5 C (List.mem_cons_of_mem _ wm205) dY_enter_20 ?_
    refine x_aload_n C dY_enter_23 rfl 0 rfl ?_
    refine gf_4_7 C (List.mem_cons_of_mem _ wm207) dY_enter_24 ?_
    refine x_iload_n C dY_enter_27 rfl 2 rfl ?_
    obtain ⟨g4, h⟩ := h
    refine y_is C 18 (by decide) g4 dY_enter_28 (fun r5 er5 => ?_)
    have h := h r5 er5
    refine x_aload_n C dY_enter_29 rfl 0 rfl ?_
    refine gf_4_6 C (List.mem_cons_of_mem _ wm206) dY_enter_30 ?_
    refine x_aload_n C dY_enter_33 rfl 0 rfl ?_
    refine gf_4_7 C (List.mem_cons_of_mem _ wm207) dY_enter_34 ?_
    refine x_iload_n C dY_enter_37 rfl 3 rfl ?_
    obtain ⟨g6, h⟩ := h
    refine y_is C 19 (by decide) g6 dY_enter_38 (fun r7 er7 => ?_)
    have h := h r7 er7
    refine x_aload_n C dY_enter_39 rfl 0 rfl ?_
    refine x_dup C dY_enter_40 rfl ?_
    refine gf_4_7 C (List.mem_cons_of_mem _ wm207) dY_enter_41 ?_
    refine x_iconst (v := 1) C dY_enter_44 (by decide) ?_
    refine x_iadd C dY_enter_45 ?_
    refine pf_4_7 C (List.mem_cons_of_mem _ wm207) dY_enter_46 (fun r8 er8 => ?_)
    have h := h r8 er8
    exact x_vret C hA hlocks hr ⟨r8, rfl, h⟩ dY_enter_49
set_option maxRecDepth 100000 in
set_option maxHeartbeats 4000000 in
theorem kY_enter {p : Program} {l : Launch} {e : Env} {R : Room} {s : State} {m : MethodId} {args : Array Value} {below : List Frame} {meth : Method} {c : Code} {cells slots : Nat} {Q : State → Prop} {A : Nat → Prop} {D : va_G} {nL pc : Nat} {cc : ByteArray} {cw : Cond} {own : String} {lv : List (Nat × Value)} {st : List Value} {G : G_} {a : L_} {r : S_} {K : S_ → Prop} {p0 : Int32} {p1 : Int32} {p2 : Int32} (C : vx_C p s m args c cc nL (cw :: wAll) own D vwCl (tysG G) nwAll A) {i : Nat} (hl : Cond.methodLink own i yY_enter ∈ wAll) (hR : 0 + 1 ≤ R.frames ∧ 8 + (4 + 11) + 0 ≤ R.locals) (hst : (st.map fun v => v.category).sum ≤ 8) (hd : decode cc pc = .ok (.invokevirtual i, 3)) (hcs : cells ≤ R.cells ∧ slots ≤ R.slots) (h : qY_enter a K r p0 p1 p2) (k : ∀ (r1 : S_), K r1 → vx_V p l e R s m args below meth c A D vwCl nL cells slots Q (wo G a r1) (pc + 3) lv st) : vx_V p l e R s m args below meth c A D vwCl nL cells slots Q (wo G a r) pc lv (.int p2 :: .int p1 :: .int p0 :: .ref (ob G 4) :: st) := by
  refine x_callVv C (CC := "ClassInference$Typer") (ci := 4) (q0 := 4) (fs := fl4 G a r) (As := [.int p0, .int p1, .int p2]) rfl rfl (cY_enter p0 p1 p2 h) (cwV (C := "ClassInference$Typer") 3 C.1.2.2.2.2 (goodV hl wm463 wp8 wm6 wm464) rfl rfl rfl (by decide +kernel) hR) rfl hst hd hcs (fun w hw => ?_)
  obtain ⟨r1, rfl, h⟩ := hw
  exact k r1 h
def qY_leave (a : L_) (K : S_ → Prop) (r : S_) : Prop :=
  (((fi r 5) ≤ 0) → K r) ∧ ((¬ (fi r 5) ≤ 0) → ∀ r2 : S_, r2 = sF r 5 ((fi r 5) - 1) → K r2)
set_option maxRecDepth 100000 in
set_option maxHeartbeats 4000000 in
theorem cY_leave {a : L_} {r : S_} {K : S_ → Prop} (h : qY_leave a K r ) : vx_Mv l yY_leave (Cond.code yY_leave prog_7_method_10_code 1 none :: wAll) { frames := 0, cells := 0, slots := 0, locals := 0 } D vwCl (tysG G) nwAll (wo G a r) [.ref (ob G 4)] 0 0 (fun w => ∃ r1, w = wo G a r1 ∧ K r1) := by
  unfold qY_leave at h
  refine x_metv (cc := prog_7_method_10_code) (maxL := 1) (ret := none) (lv0 := [(0, .ref (ob G 4))]) (by decide) rfl (Nat.le_of_ble_eq_true rfl) rfl ?_
  intro p e s m args below meth c A C hA hlocks hr
  refine x_aload_n C dY_leave_0 rfl 0 rfl ?_
  refine gf_4_7 C (List.mem_cons_of_mem _ wm207) dY_leave_1 ?_
  refine x_if_le (tgt := 17) C dY_leave_4 (by decide) (fun g1 => ?_) (fun g1 => ?_)
  · have h := h.1 g1
    exact x_vret C hA hlocks hr ⟨r, rfl, h⟩ dY_leave_17
  · have h := h.2 g1
    refine x_aload_n C dY_leave_7 rfl 0 rfl ?_
    refine x_dup C dY_leave_8 rfl ?_
    refine gf_4_7 C (List.mem_cons_of_mem _ wm207) dY_leave_9 ?_
    refine x_iconst (v := 1) C dY_leave_12 (by decide) ?_
    refine x_isub C dY_leave_13 ?_
    refine pf_4_7 C (List.mem_cons_of_mem _ wm207) dY_leave_14 (fun r2 er2 => ?_)
    have h := h r2 er2
    exact x_vret C hA hlocks hr ⟨r2, rfl, h⟩ dY_leave_17
set_option maxRecDepth 100000 in
set_option maxHeartbeats 4000000 in
theorem kY_leave {p : Program} {l : Launch} {e : Env} {R : Room} {s : State} {m : MethodId} {args : Array Value} {below : List Frame} {meth : Method} {c : Code} {cells slots : Nat} {Q : State → Prop} {A : Nat → Prop} {D : va_G} {nL pc : Nat} {cc : ByteArray} {cw : Cond} {own : String} {lv : List (Nat × Value)} {st : List Value} {G : G_} {a : L_} {r : S_} {K : S_ → Prop} (C : vx_C p s m args c cc nL (cw :: wAll) own D vwCl (tysG G) nwAll A) {i : Nat} (hl : Cond.methodLink own i yY_leave ∈ wAll) (hR : 0 + 1 ≤ R.frames ∧ 8 + (1 + 11) + 0 ≤ R.locals) (hst : (st.map fun v => v.category).sum ≤ 8) (hd : decode cc pc = .ok (.invokevirtual i, 3)) (hcs : cells ≤ R.cells ∧ slots ≤ R.slots) (h : qY_leave a K r ) (k : ∀ (r1 : S_), K r1 → vx_V p l e R s m args below meth c A D vwCl nL cells slots Q (wo G a r1) (pc + 3) lv st) : vx_V p l e R s m args below meth c A D vwCl nL cells slots Q (wo G a r) pc lv (.ref (ob G 4) :: st) := by
  refine x_callVv C (CC := "ClassInference$Typer") (ci := 4) (q0 := 4) (fs := fl4 G a r) (As := []) rfl rfl (cY_leave  h) (cwV (C := "ClassInference$Typer") 0 C.1.2.2.2.2 (goodV hl wm467 wp9 wm6 wm468) rfl rfl rfl (by decide +kernel) hR) rfl hst hd hcs (fun w hw => ?_)
  obtain ⟨r1, rfl, h⟩ := hw
  exact k r1 h
def qG_startWalk (a : L_) (K : S_ → Prop) (r : S_) : Prop :=
  ∀ r1 : S_, r1 = sF r 13 ((fi r 13) + 1) → ∀ r2 : S_, r2 = sF r1 12 0 → K r2
set_option maxRecDepth 100000 in
set_option maxHeartbeats 4000000 in
theorem cG_startWalk {a : L_} {r : S_} {K : S_ → Prop} (h : qG_startWalk a K r ) : vx_Mv l yG_startWalk (Cond.code yG_startWalk prog_4_method_14_code 1 none :: wAll) { frames := 0, cells := 0, slots := 0, locals := 0 } D vwCl (tysG G) nwAll (wo G a r) [.ref (ob G 5)] 0 0 (fun w => ∃ r1, w = wo G a r1 ∧ K r1) := by
  unfold qG_startWalk at h
  refine x_metv (cc := prog_4_method_14_code) (maxL := 1) (ret := none) (lv0 := [(0, .ref (ob G 5))]) (by decide) rfl (Nat.le_of_ble_eq_true rfl) rfl ?_
  intro p e s m args below meth c A C hA hlocks hr
  refine x_aload_n C dG_startWalk_0 rfl 0 rfl ?_
  refine x_dup C dG_startWalk_1 rfl ?_
  refine gf_5_12 C (List.mem_cons_of_mem _ wm162) dG_startWalk_2 ?_
  refine x_iconst (v := 1) C dG_startWalk_5 (by decide) ?_
  refine x_iadd C dG_startWalk_6 ?_
  refine pf_5_12 C (List.mem_cons_of_mem _ wm162) dG_startWalk_7 (fun r1 er1 => ?_)
  have h := h r1 er1
  refine x_aload_n C dG_startWalk_10 rfl 0 rfl ?_
  refine x_iconst (v := 0) C dG_startWalk_11 (by decide) ?_
  refine pf_5_11 C (List.mem_cons_of_mem _ wm161) dG_startWalk_12 (fun r2 er2 => ?_)
  have h := h r2 er2
  exact x_vret C hA hlocks hr ⟨r2, rfl, h⟩ dG_startWalk_15
set_option maxRecDepth 100000 in
set_option maxHeartbeats 4000000 in
theorem kG_startWalk {p : Program} {l : Launch} {e : Env} {R : Room} {s : State} {m : MethodId} {args : Array Value} {below : List Frame} {meth : Method} {c : Code} {cells slots : Nat} {Q : State → Prop} {A : Nat → Prop} {D : va_G} {nL pc : Nat} {cc : ByteArray} {cw : Cond} {own : String} {lv : List (Nat × Value)} {st : List Value} {G : G_} {a : L_} {r : S_} {K : S_ → Prop} (C : vx_C p s m args c cc nL (cw :: wAll) own D vwCl (tysG G) nwAll A) {i : Nat} (hl : Cond.methodLink own i yG_startWalk ∈ wAll) (hR : 0 + 1 ≤ R.frames ∧ 8 + (1 + 11) + 0 ≤ R.locals) (hst : (st.map fun v => v.category).sum ≤ 8) (hd : decode cc pc = .ok (.invokevirtual i, 3)) (hcs : cells ≤ R.cells ∧ slots ≤ R.slots) (h : qG_startWalk a K r ) (k : ∀ (r1 : S_), K r1 → vx_V p l e R s m args below meth c A D vwCl nL cells slots Q (wo G a r1) (pc + 3) lv st) : vx_V p l e R s m args below meth c A D vwCl nL cells slots Q (wo G a r) pc lv (.ref (ob G 5) :: st) := by
  refine x_callVv C (CC := "ClassInference$Graph") (ci := 5) (q0 := 5) (fs := fl5 G a r) (As := []) rfl rfl (cG_startWalk  h) (cwV (C := "ClassInference$Graph") 0 C.1.2.2.2.2 (goodV hl wm515 wm516 wm7 wm517) rfl rfl rfl (by decide +kernel) hR) rfl hst hd hcs (fun w hw => ?_)
  obtain ⟨r1, rfl, h⟩ := hw
  exact k r1 h
def qG_settled_L4 (a : L_) (KX36 : S_ → Int32 → Int32 → Prop) : Nat → S_ → Int32 → Int32 → Int32 → Prop
  | 0, _, _, _, _ => False
  | n + 1, r, v1, v2, v3 => vp_in v2 (ln a 21) ∧ ((¬ (ar r 21 v2.toNatClampNeg) = (-2)) → KX36 r v1 v2) ∧ (((ar r 21 v2.toNatClampNeg) = (-2)) → (((fi r 11) ≤ v3) → KX36 r v1 v2) ∧ ((¬ (fi r 11) ≤ v3) → vp_in v2 (ln a 22) ∧ (qG_settled_L4 a KX36 n) r v1 (ar r 22 v2.toNatClampNeg) (v3 + 1)))
set_option maxRecDepth 100000 in
set_option maxHeartbeats 4000000 in
theorem tG_settled_L4 (C : vx_C p s m args c prog_4_method_6_code 4 (Cond.code yG_settled prog_4_method_6_code 4 (some .int) :: wAll) "ClassInference$Graph" D vwCl (tysG G) nwAll A) {a : L_} {KX36 : S_ → Int32 → Int32 → Prop} (kX36 : ∀ (r : S_) (v1 : Int32) (v2 : Int32), KX36 r v1 v2 → vx_V p l e { frames := 0, cells := 0, slots := 0, locals := 0 } s m args below meth c A D vwCl 4 0 0 Q (wo G a r) 36 [(0, .ref (ob G 5)), (1, .int v1), (2, .int v2)] []) : ∀ (n : Nat) (r : S_) (v1 : Int32) (v2 : Int32) (v3 : Int32), qG_settled_L4 a KX36 n r v1 v2 v3 → vx_V p l e { frames := 0, cells := 0, slots := 0, locals := 0 } s m args below meth c A D vwCl 4 0 0 Q (wo G a r) 4 [(0, .ref (ob G 5)), (1, .int v1), (2, .int v2), (3, .int v3)] [] := by
  intro n
  induction n with
  | zero =>
    intro r v1 v2 v3 h
    exact (by rw [qG_settled_L4] at h; exact h : False).elim
  | succ n kB4 =>
    intro r v1 v2 v3 h
    rw [qG_settled_L4] at h
    refine x_aload_n C dG_settled_4 rfl 0 rfl ?_
    refine gf_5_0 C (List.mem_cons_of_mem _ wm139) dG_settled_5 ?_
    refine x_iload_n C dG_settled_8 rfl 2 rfl ?_
    obtain ⟨g1, h⟩ := h
    refine y_ia C 21 (by decide) g1 dG_settled_9 ?_
    refine x_bipush (v := (-2)) C dG_settled_10 (by decide) ?_
    refine x_icmp_ne (tgt := 36) C dG_settled_12 (by decide) (fun g2 => ?_) (fun g2 => ?_)
    · have h := h.1 g2
      refine x_sub [0, 1, 2] rfl ?_
      exact kX36 r v1 v2 h
    · have h := h.2 g2
      refine x_iload_n C dG_settled_15 rfl 3 rfl ?_
      refine x_aload_n C dG_settled_16 rfl 0 rfl ?_
      refine gf_5_7 C (List.mem_cons_of_mem _ wm153) dG_settled_17 ?_
      refine x_icmp_ge (tgt := 36) C dG_settled_20 (by decide) (fun g3 => ?_) (fun g3 => ?_)
      · have h := h.1 g3
        refine x_sub [0, 1, 2] rfl ?_
        exact kX36 r v1 v2 h
      · have h := h.2 g3
        refine x_aload_n C dG_settled_23 rfl 0 rfl ?_
        refine gf_5_1 C (List.mem_cons_of_mem _ wm141) dG_settled_24 ?_
        refine x_iload_n C dG_settled_27 rfl 2 rfl ?_
        obtain ⟨g4, h⟩ := h
        refine y_ia C 22 (by decide) g4 dG_settled_28 ?_
        refine x_istore_n C [(2, .int (ar r 22 v2.toNatClampNeg)), (0, .ref (ob G 5)), (1, .int v1), (3, .int v3)] dG_settled_29 rfl (by decide) rfl ?_
        refine x_iinc (j := 3) (v := v3 + 1) C [(3, .int (v3 + 1)), (2, .int (ar r 22 v2.toNatClampNeg)), (0, .ref (ob G 5)), (1, .int v1)] dG_settled_30 rfl rfl (by decide) rfl ?_
        refine x_goto (tgt := 4) C dG_settled_33 (by decide) ?_
        refine x_sub [2, 3, 1, 0] rfl ?_
        exact kB4 r v1 (ar r 22 v2.toNatClampNeg) (v3 + 1) h
def qG_settled_J36 (a : L_) (K : Int32 → S_ → Prop) (r : S_) (v1 : Int32) (v2 : Int32) : Prop :=
  ((v2 = v1) → K v2 r) ∧ ((¬ v2 = v1) → vp_in v1 (ln a 22) ∧ ∀ r7 : S_, r7 = sA r 22 (upd (ar r 22) v1.toNatClampNeg v2) → K v2 r7)
set_option maxRecDepth 100000 in
set_option maxHeartbeats 4000000 in
theorem tG_settled_J36 (C : vx_C p s m args c prog_4_method_6_code 4 (Cond.code yG_settled prog_4_method_6_code 4 (some .int) :: wAll) "ClassInference$Graph" D vwCl (tysG G) nwAll A) (hA : A = va_A ws0 s.heap.size) (hlocks : meth.locks = false) (hr : meth.sig.returnType = (some .int)) {a : L_} {K : Int32 → S_ → Prop} (r : S_) (v1 : Int32) (v2 : Int32) (h : qG_settled_J36 a K r v1 v2) : vx_V p l e { frames := 0, cells := 0, slots := 0, locals := 0 } s m args below meth c A D vwCl 4 0 0 (MQ below (va_Qi (fun v w => ∃ r1, w = wo G a r1 ∧ K v r1) (vx_B D vwCl (tysG G) A) A) args s 0 0 A) (wo G a r) 36 [(0, .ref (ob G 5)), (1, .int v1), (2, .int v2)] [] := by
  unfold qG_settled_J36 at h
  refine x_iload_n C dG_settled_36 rfl 2 rfl ?_
  refine x_iload_n C dG_settled_37 rfl 1 rfl ?_
  refine x_icmp_eq (tgt := 48) C dG_settled_38 (by decide) (fun g5 => ?_) (fun g5 => ?_)
  · have h := h.1 g5
    refine x_iload_n C dG_settled_48 rfl 2 rfl ?_
    exact x_iret C hA hlocks hr ⟨r, rfl, h⟩ dG_settled_49
  · have h := h.2 g5
    refine x_aload_n C dG_settled_41 rfl 0 rfl ?_
    refine gf_5_1 C (List.mem_cons_of_mem _ wm141) dG_settled_42 ?_
    refine x_iload_n C dG_settled_45 rfl 1 rfl ?_
    refine x_iload_n C dG_settled_46 rfl 2 rfl ?_
    obtain ⟨g6, h⟩ := h
    refine y_is C 22 (by decide) g6 dG_settled_47 (fun r7 er7 => ?_)
    have h := h r7 er7
    refine x_iload_n C dG_settled_48 rfl 2 rfl ?_
    exact x_iret C hA hlocks hr ⟨r7, rfl, h⟩ dG_settled_49
def qG_settled (a : L_) (K : Int32 → S_ → Prop) (r : S_) (p0 : Int32) : Prop :=
  ∃ n8 : Nat, qG_settled_L4 a (fun r v1 v2 => qG_settled_J36 a K r v1 v2) n8 r p0 p0 0
set_option maxRecDepth 100000 in
set_option maxHeartbeats 4000000 in
theorem cG_settled {a : L_} {r : S_} {K : Int32 → S_ → Prop} (p0 : Int32) (h : qG_settled a K r p0) : vx_Mi l yG_settled (Cond.code yG_settled prog_4_method_6_code 4 (some .int) :: wAll) { frames := 0, cells := 0, slots := 0, locals := 0 } D vwCl (tysG G) nwAll (wo G a r) [.ref (ob G 5), .int p0] 0 0 (fun v w => ∃ r1, w = wo G a r1 ∧ K v r1) := by
  unfold qG_settled at h
  refine x_meti (cc := prog_4_method_6_code) (maxL := 4) (ret := (some .int)) (lv0 := [(0, .ref (ob G 5)), (1, .int p0)]) (by decide) rfl (Nat.le_of_ble_eq_true rfl) rfl ?_
  intro p e s m args below meth c A C hA hlocks hr
  refine x_iload_n C dG_settled_0 rfl 1 rfl ?_
  refine x_istore_n C [(2, .int p0), (0, .ref (ob G 5)), (1, .int p0)] dG_settled_1 rfl (by decide) rfl ?_
  refine x_iconst (v := 0) C dG_settled_2 (by decide) ?_
  refine x_istore_n C [(3, .int 0), (2, .int p0), (0, .ref (ob G 5)), (1, .int p0)] dG_settled_3 rfl (by decide) rfl ?_
  obtain ⟨n8, h⟩ := h
  refine x_sub [2, 3, 1, 0] rfl ?_
  refine tG_settled_L4 C (fun r v1 v2 h => ?_) n8 r p0 p0 0 h
  · refine x_sub [0, 1, 2] rfl ?_
    exact tG_settled_J36 C hA hlocks hr r v1 v2 h
set_option maxRecDepth 100000 in
set_option maxHeartbeats 4000000 in
theorem kG_settled {p : Program} {l : Launch} {e : Env} {R : Room} {s : State} {m : MethodId} {args : Array Value} {below : List Frame} {meth : Method} {c : Code} {cells slots : Nat} {Q : State → Prop} {A : Nat → Prop} {D : va_G} {nL pc : Nat} {cc : ByteArray} {cw : Cond} {own : String} {lv : List (Nat × Value)} {st : List Value} {G : G_} {a : L_} {r : S_} {K : Int32 → S_ → Prop} {p0 : Int32} (C : vx_C p s m args c cc nL (cw :: wAll) own D vwCl (tysG G) nwAll A) {i : Nat} (hl : Cond.methodLink own i yG_settled ∈ wAll) (hR : 0 + 1 ≤ R.frames ∧ 8 + (4 + 11) + 0 ≤ R.locals) (hst : (st.map fun v => v.category).sum ≤ 8) (hd : decode cc pc = .ok (.invokevirtual i, 3)) (hcs : cells ≤ R.cells ∧ slots ≤ R.slots) (h : qG_settled a K r p0) (k : ∀ (v : Int32) (r1 : S_), K v r1 → vx_V p l e R s m args below meth c A D vwCl nL cells slots Q (wo G a r1) (pc + 3) lv (.int v :: st)) : vx_V p l e R s m args below meth c A D vwCl nL cells slots Q (wo G a r) pc lv (.int p0 :: .ref (ob G 5) :: st) := by
  refine x_callVi C (CC := "ClassInference$Graph") (ci := 5) (q0 := 5) (fs := fl5 G a r) (As := [.int p0]) rfl rfl (cG_settled p0 h) (cwV (C := "ClassInference$Graph") 1 C.1.2.2.2.2 (goodV hl wm487 wm488 wm7 wm489) rfl rfl rfl (by decide +kernel) hR) rfl hst hd hcs (fun v w hw => ?_)
  obtain ⟨r1, rfl, h⟩ := hw
  exact k v r1 h
end MTH
