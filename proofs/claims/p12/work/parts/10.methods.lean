section MTH
variable {p : Program} {l : Launch} {e : Env} {s : State} {m : MethodId} {args : Array Value} {below : List Frame} {meth : Method} {c : Code} {Q : State → Prop} {A : Nat → Prop} {D : va_G} {G : G_} {ws0 : va_W}
def qT_addConstructor (a : L_) (K : Int32 → S_ → Prop) (r : S_) (p0 : Int32) : Prop :=
  (((fi r 0) < 8) → vp_in (fi r 0) (ln a 0) ∧ ∀ r3 : S_, r3 = sA r 0 (upd (ar r 0) (fi r 0).toNatClampNeg p0) → ∀ r4 : S_, r4 = sF r3 0 ((fi r3 0) + 1) → K ((fi r4 0) - 1) r4) ∧ ((¬ (fi r 0) < 8) → K (-3) r)
set_option maxRecDepth 100000 in
set_option maxHeartbeats 4000000 in
theorem cT_addConstructor {a : L_} {r : S_} {K : Int32 → S_ → Prop} (p0 : Int32) (h : qT_addConstructor a K r p0) : vx_Mi l yT_addConstructor (Cond.code yT_addConstructor prog_6_method_7_code 2 (some .int) :: wAll) { frames := 0, cells := 0, slots := 0, locals := 0 } D vwCl (tysG G) nwAll (wo G a r) [.ref (ob G 1), .int p0] 0 0 (fun v w => ∃ r1, w = wo G a r1 ∧ K v r1) := by
  unfold qT_addConstructor at h
  refine x_meti (cc := prog_6_method_7_code) (maxL := 2) (ret := (some .int)) (lv0 := [(0, .ref (ob G 1)), (1, .int p0)]) (by decide) rfl (Nat.le_of_ble_eq_true rfl) rfl ?_
  intro p e s m args below meth c A C hA hlocks hr
  refine x_aload_n C dT_addConstructor_0 rfl 0 rfl ?_
  refine gf_1_1 C (List.mem_cons_of_mem _ wm28) dT_addConstructor_1 ?_
  refine x_bipush (v := 8) C dT_addConstructor_4 (by decide) ?_
  refine x_icmp_lt (tgt := 12) C dT_addConstructor_6 (by decide) (fun g1 => ?_) (fun g1 => ?_)
  · have h := h.1 g1
    refine x_aload_n C dT_addConstructor_12 rfl 0 rfl ?_
    refine gf_1_0 C (List.mem_cons_of_mem _ wm27) dT_addConstructor_13 ?_
    refine x_aload_n C dT_addConstructor_16 rfl 0 rfl ?_
    refine gf_1_1 C (List.mem_cons_of_mem _ wm28) dT_addConstructor_17 ?_
    refine x_iload_n C dT_addConstructor_20 rfl 1 rfl ?_
    obtain ⟨g2, h⟩ := h
    refine y_is C 0 (by decide) g2 dT_addConstructor_21 (fun r3 er3 => ?_)
    have h := h r3 er3
    refine x_aload_n C dT_addConstructor_22 rfl 0 rfl ?_
    refine x_dup C dT_addConstructor_23 rfl ?_
    refine gf_1_1 C (List.mem_cons_of_mem _ wm28) dT_addConstructor_24 ?_
    refine x_iconst (v := 1) C dT_addConstructor_27 (by decide) ?_
    refine x_iadd C dT_addConstructor_28 ?_
    refine pf_1_1 C (List.mem_cons_of_mem _ wm28) dT_addConstructor_29 (fun r4 er4 => ?_)
    have h := h r4 er4
    refine x_aload_n C dT_addConstructor_32 rfl 0 rfl ?_
    refine gf_1_1 C (List.mem_cons_of_mem _ wm28) dT_addConstructor_33 ?_
    refine x_iconst (v := 1) C dT_addConstructor_36 (by decide) ?_
    refine x_isub C dT_addConstructor_37 ?_
    exact x_iret C hA hlocks hr ⟨r4, rfl, h⟩ dT_addConstructor_38
  · have h := h.2 g1
    refine x_bipush (v := (-3)) C dT_addConstructor_9 (by decide) ?_
    exact x_iret C hA hlocks hr ⟨r, rfl, h⟩ dT_addConstructor_11
set_option maxRecDepth 100000 in
set_option maxHeartbeats 4000000 in
theorem kT_addConstructor {p : Program} {l : Launch} {e : Env} {R : Room} {s : State} {m : MethodId} {args : Array Value} {below : List Frame} {meth : Method} {c : Code} {cells slots : Nat} {Q : State → Prop} {A : Nat → Prop} {D : va_G} {nL pc : Nat} {cc : ByteArray} {cw : Cond} {own : String} {lv : List (Nat × Value)} {st : List Value} {G : G_} {a : L_} {r : S_} {K : Int32 → S_ → Prop} {p0 : Int32} (C : vx_C p s m args c cc nL (cw :: wAll) own D vwCl (tysG G) nwAll A) {i : Nat} (hl : Cond.methodLink own i yT_addConstructor ∈ wAll) (hR : 0 + 1 ≤ R.frames ∧ 8 + (2 + 11) + 0 ≤ R.locals) (hst : (st.map fun v => v.category).sum ≤ 8) (hd : decode cc pc = .ok (.invokevirtual i, 3)) (hcs : cells ≤ R.cells ∧ slots ≤ R.slots) (h : qT_addConstructor a K r p0) (k : ∀ (v : Int32) (r1 : S_), K v r1 → vx_V p l e R s m args below meth c A D vwCl nL cells slots Q (wo G a r1) (pc + 3) lv (.int v :: st)) : vx_V p l e R s m args below meth c A D vwCl nL cells slots Q (wo G a r) pc lv (.int p0 :: .ref (ob G 1) :: st) := by
  refine x_callVi C (CC := "ClassInference$TypeTable") (ci := 1) (q0 := 1) (fs := fl1 G a r) (As := [.int p0]) rfl rfl (cT_addConstructor p0 h) (cwV (C := "ClassInference$TypeTable") 1 C.1.2.2.2.2 (goodV hl wm299 wm300 wm2 wm301) rfl rfl rfl (by decide +kernel) hR) rfl hst hd hcs (fun v w hw => ?_)
  obtain ⟨r1, rfl, h⟩ := hw
  exact k v r1 h
def qI_constructor (a : L_) (K : Int32 → S_ → Prop) (r : S_) (p0 : Int32) : Prop :=
  ((p0 < 0) → K (-1) r) ∧ ((¬ p0 < 0) → ((p0 ≤ 2) → qT_addConstructor a (fun z3 r4 => K z3 r4) r p0) ∧ ((¬ p0 ≤ 2) → K (-1) r))
set_option maxRecDepth 100000 in
set_option maxHeartbeats 4000000 in
theorem cI_constructor {a : L_} {r : S_} {K : Int32 → S_ → Prop} (p0 : Int32) (h : qI_constructor a K r p0) : vx_Mi l yI_constructor (Cond.code yI_constructor prog_1_method_2_code 2 (some .int) :: wAll) { frames := 1, cells := 0, slots := 0, locals := 21 } D vwCl (tysG G) nwAll (wo G a r) [.ref (ob G 0), .int p0] 0 0 (fun v w => ∃ r1, w = wo G a r1 ∧ K v r1) := by
  unfold qI_constructor at h
  refine x_meti (cc := prog_1_method_2_code) (maxL := 2) (ret := (some .int)) (lv0 := [(0, .ref (ob G 0)), (1, .int p0)]) (by decide) rfl (Nat.le_of_ble_eq_true rfl) rfl ?_
  intro p e s m args below meth c A C hA hlocks hr
  refine x_iload_n C dI_constructor_0 rfl 1 rfl ?_
  refine x_if_lt (tgt := 9) C dI_constructor_1 (by decide) (fun g1 => ?_) (fun g1 => ?_)
  · have h := h.1 g1
    refine x_iconst (v := (-1)) C dI_constructor_9 (by decide) ?_
    exact x_iret C hA hlocks hr ⟨r, rfl, h⟩ dI_constructor_10
  · have h := h.2 g1
    refine x_iload_n C dI_constructor_4 rfl 1 rfl ?_
    refine x_iconst (v := 2) C dI_constructor_5 (by decide) ?_
    refine x_icmp_le (tgt := 11) C dI_constructor_6 (by decide) (fun g2 => ?_) (fun g2 => ?_)
    · have h := h.1 g2
      refine x_aload_n C dI_constructor_11 rfl 0 rfl ?_
      refine gf_0_0 C (List.mem_cons_of_mem _ wm278) dI_constructor_12 ?_
      refine x_iload_n C dI_constructor_15 rfl 1 rfl ?_
      refine kT_addConstructor C wm298 ⟨Nat.le_of_ble_eq_true rfl, Nat.le_of_ble_eq_true rfl⟩ (Nat.le_of_ble_eq_true rfl) dI_constructor_16 ⟨Nat.zero_le _, Nat.zero_le _⟩ h (fun z3 r4 h => ?_)
      exact x_iret C hA hlocks hr ⟨r4, rfl, h⟩ dI_constructor_19
    · have h := h.2 g2
      refine x_iconst (v := (-1)) C dI_constructor_9 (by decide) ?_
      exact x_iret C hA hlocks hr ⟨r, rfl, h⟩ dI_constructor_10
set_option maxRecDepth 100000 in
set_option maxHeartbeats 4000000 in
theorem kI_constructor {p : Program} {l : Launch} {e : Env} {R : Room} {s : State} {m : MethodId} {args : Array Value} {below : List Frame} {meth : Method} {c : Code} {cells slots : Nat} {Q : State → Prop} {A : Nat → Prop} {D : va_G} {nL pc : Nat} {cc : ByteArray} {cw : Cond} {own : String} {lv : List (Nat × Value)} {st : List Value} {G : G_} {a : L_} {r : S_} {K : Int32 → S_ → Prop} {p0 : Int32} (C : vx_C p s m args c cc nL (cw :: wAll) own D vwCl (tysG G) nwAll A) {i : Nat} (hl : Cond.methodLink own i yI_constructor ∈ wAll) (hR : 1 + 1 ≤ R.frames ∧ 8 + (2 + 11) + 21 ≤ R.locals) (hst : (st.map fun v => v.category).sum ≤ 8) (hd : decode cc pc = .ok (.invokevirtual i, 3)) (hcs : cells ≤ R.cells ∧ slots ≤ R.slots) (h : qI_constructor a K r p0) (k : ∀ (v : Int32) (r1 : S_), K v r1 → vx_V p l e R s m args below meth c A D vwCl nL cells slots Q (wo G a r1) (pc + 3) lv (.int v :: st)) : vx_V p l e R s m args below meth c A D vwCl nL cells slots Q (wo G a r) pc lv (.int p0 :: .ref (ob G 0) :: st) := by
  refine x_callVi C (CC := "ClassInference") (ci := 0) (q0 := 0) (fs := fl0 G a r) (As := [.int p0]) rfl rfl (cI_constructor p0 h) (cwV (C := "ClassInference") 1 C.1.2.2.2.2 (goodV hl wm295 wm296 wm1 wm297) rfl rfl rfl (by decide +kernel) hR) rfl hst hd hcs (fun v w hw => ?_)
  obtain ⟨r1, rfl, h⟩ := hw
  exact k v r1 h
def qT_search_J48 (a : L_) (r : S_) (KB3 : Int32 → Int32 → Int32 → Int32 → Prop) (KX45 : Int32 → Prop) (KX54 : Prop) (v1 : Int32) (v2 : Int32) (v3 : Int32) (v4 : Int32) : Prop :=
  KB3 v1 v2 v3 (v4 + 1)
set_option maxRecDepth 100000 in
set_option maxHeartbeats 4000000 in
theorem tT_search_J48 (C : vx_C p s m args c prog_6_method_10_code 5 (Cond.code yT_search prog_6_method_10_code 5 (some .int) :: wAll) "ClassInference$TypeTable" D vwCl (tysG G) nwAll A) {a : L_} {r : S_} {KB3 : Int32 → Int32 → Int32 → Int32 → Prop} {KX45 : Int32 → Prop} {KX54 : Prop} (kB3 : ∀ (v1 : Int32) (v2 : Int32) (v3 : Int32) (v4 : Int32), KB3 v1 v2 v3 v4 → vx_V p l e { frames := 0, cells := 0, slots := 0, locals := 0 } s m args below meth c A D vwCl 5 0 0 Q (wo G a r) 3 [(0, .ref (ob G 1)), (1, .int v1), (2, .int v2), (3, .int v3), (4, .int v4)] []) (kX45 : ∀ (v4 : Int32), KX45 v4 → vx_V p l e { frames := 0, cells := 0, slots := 0, locals := 0 } s m args below meth c A D vwCl 5 0 0 Q (wo G a r) 45 [(4, .int v4)] []) (kX54 : KX54 → vx_V p l e { frames := 0, cells := 0, slots := 0, locals := 0 } s m args below meth c A D vwCl 5 0 0 Q (wo G a r) 54 [] []) (v1 : Int32) (v2 : Int32) (v3 : Int32) (v4 : Int32) (h : qT_search_J48 a r KB3 KX45 KX54 v1 v2 v3 v4) : vx_V p l e { frames := 0, cells := 0, slots := 0, locals := 0 } s m args below meth c A D vwCl 5 0 0 Q (wo G a r) 48 [(0, .ref (ob G 1)), (1, .int v1), (2, .int v2), (3, .int v3), (4, .int v4)] [] := by
  unfold qT_search_J48 at h
  refine x_iinc (j := 4) (v := v4 + 1) C [(4, .int (v4 + 1)), (0, .ref (ob G 1)), (1, .int v1), (2, .int v2), (3, .int v3)] dT_search_48 rfl rfl (by decide) rfl ?_
  refine x_goto (tgt := 3) C dT_search_51 (by decide) ?_
  refine x_sub [1, 2, 3, 4, 0] rfl ?_
  exact kB3 v1 v2 v3 (v4 + 1) h
def qT_search_L3 (a : L_) (r : S_) (KX45 : Int32 → Prop) (KX54 : Prop) : Nat → Int32 → Int32 → Int32 → Int32 → Prop
  | 0, _, _, _, _ => False
  | n + 1, v1, v2, v3, v4 => (((fi r 1) ≤ v4) → KX54) ∧ ((¬ (fi r 1) ≤ v4) → vp_in v4 (ln a 1) ∧ ((¬ (ar r 1 v4.toNatClampNeg) = v1) → qT_search_J48 a r (qT_search_L3 a r KX45 KX54 n) KX45 KX54 v1 v2 v3 v4) ∧ (((ar r 1 v4.toNatClampNeg) = v1) → vp_in v4 (ln a 2) ∧ ((¬ (ar r 2 v4.toNatClampNeg) = v2) → qT_search_J48 a r (qT_search_L3 a r KX45 KX54 n) KX45 KX54 v1 v2 v3 v4) ∧ (((ar r 2 v4.toNatClampNeg) = v2) → vp_in v4 (ln a 3) ∧ ((¬ (ar r 3 v4.toNatClampNeg) = v3) → qT_search_J48 a r (qT_search_L3 a r KX45 KX54 n) KX45 KX54 v1 v2 v3 v4) ∧ (((ar r 3 v4.toNatClampNeg) = v3) → KX45 v4))))
set_option maxRecDepth 100000 in
set_option maxHeartbeats 4000000 in
theorem tT_search_L3 (C : vx_C p s m args c prog_6_method_10_code 5 (Cond.code yT_search prog_6_method_10_code 5 (some .int) :: wAll) "ClassInference$TypeTable" D vwCl (tysG G) nwAll A) {a : L_} {r : S_} {KX45 : Int32 → Prop} {KX54 : Prop} (kX45 : ∀ (v4 : Int32), KX45 v4 → vx_V p l e { frames := 0, cells := 0, slots := 0, locals := 0 } s m args below meth c A D vwCl 5 0 0 Q (wo G a r) 45 [(4, .int v4)] []) (kX54 : KX54 → vx_V p l e { frames := 0, cells := 0, slots := 0, locals := 0 } s m args below meth c A D vwCl 5 0 0 Q (wo G a r) 54 [] []) : ∀ (n : Nat) (v1 : Int32) (v2 : Int32) (v3 : Int32) (v4 : Int32), qT_search_L3 a r KX45 KX54 n v1 v2 v3 v4 → vx_V p l e { frames := 0, cells := 0, slots := 0, locals := 0 } s m args below meth c A D vwCl 5 0 0 Q (wo G a r) 3 [(0, .ref (ob G 1)), (1, .int v1), (2, .int v2), (3, .int v3), (4, .int v4)] [] := by
  intro n
  induction n with
  | zero =>
    intro v1 v2 v3 v4 h
    exact (by rw [qT_search_L3] at h; exact h : False).elim
  | succ n kB3 =>
    intro v1 v2 v3 v4 h
    rw [qT_search_L3] at h
    refine x_iload C dT_search_3 4 rfl ?_
    refine x_aload_n C dT_search_5 rfl 0 rfl ?_
    refine gf_1_7 C (List.mem_cons_of_mem _ wm40) dT_search_6 ?_
    refine x_icmp_ge (tgt := 54) C dT_search_9 (by decide) (fun g1 => ?_) (fun g1 => ?_)
    · have h := h.1 g1
      refine x_sub [] rfl ?_
      exact kX54 h
    · have h := h.2 g1
      refine x_aload_n C dT_search_12 rfl 0 rfl ?_
      refine gf_1_2 C (List.mem_cons_of_mem _ wm29) dT_search_13 ?_
      refine x_iload C dT_search_16 4 rfl ?_
      obtain ⟨g2, h⟩ := h
      refine y_ia C 1 (by decide) g2 dT_search_18 ?_
      refine x_iload_n C dT_search_19 rfl 1 rfl ?_
      refine x_icmp_ne (tgt := 48) C dT_search_20 (by decide) (fun g3 => ?_) (fun g3 => ?_)
      · have h := h.1 g3
        refine x_sub [0, 1, 2, 3, 4] rfl ?_
        exact tT_search_J48 C kB3 kX45 kX54 v1 v2 v3 v4 h
      · have h := h.2 g3
        refine x_aload_n C dT_search_23 rfl 0 rfl ?_
        refine gf_1_3 C (List.mem_cons_of_mem _ wm32) dT_search_24 ?_
        refine x_iload C dT_search_27 4 rfl ?_
        obtain ⟨g4, h⟩ := h
        refine y_ia C 2 (by decide) g4 dT_search_29 ?_
        refine x_iload_n C dT_search_30 rfl 2 rfl ?_
        refine x_icmp_ne (tgt := 48) C dT_search_31 (by decide) (fun g5 => ?_) (fun g5 => ?_)
        · have h := h.1 g5
          refine x_sub [0, 1, 2, 3, 4] rfl ?_
          exact tT_search_J48 C kB3 kX45 kX54 v1 v2 v3 v4 h
        · have h := h.2 g5
          refine x_aload_n C dT_search_34 rfl 0 rfl ?_
          refine gf_1_4 C (List.mem_cons_of_mem _ wm35) dT_search_35 ?_
          refine x_iload C dT_search_38 4 rfl ?_
          obtain ⟨g6, h⟩ := h
          refine y_ia C 3 (by decide) g6 dT_search_40 ?_
          refine x_iload_n C dT_search_41 rfl 3 rfl ?_
          refine x_icmp_ne (tgt := 48) C dT_search_42 (by decide) (fun g7 => ?_) (fun g7 => ?_)
          · have h := h.1 g7
            refine x_sub [0, 1, 2, 3, 4] rfl ?_
            exact tT_search_J48 C kB3 kX45 kX54 v1 v2 v3 v4 h
          · have h := h.2 g7
            refine x_sub [4] rfl ?_
            exact kX45 v4 h
def qT_search (a : L_) (r : S_) (K : Int32 → Prop) (p0 : Int32) (p1 : Int32) (p2 : Int32) : Prop :=
  ∃ n8 : Nat, qT_search_L3 a r (fun v4 => K v4) (K (-1)) n8 p0 p1 p2 0
set_option maxRecDepth 100000 in
set_option maxHeartbeats 4000000 in
theorem cT_search {a : L_} {r : S_} {K : Int32 → Prop} (p0 : Int32) (p1 : Int32) (p2 : Int32) (h : qT_search a r K p0 p1 p2) : vx_Mi l yT_search (Cond.code yT_search prog_6_method_10_code 5 (some .int) :: wAll) { frames := 0, cells := 0, slots := 0, locals := 0 } D vwCl (tysG G) nwAll (wo G a r) [.ref (ob G 1), .int p0, .int p1, .int p2] 0 0 (fun v w => w = wo G a r ∧ K v) := by
  unfold qT_search at h
  refine x_meti (cc := prog_6_method_10_code) (maxL := 5) (ret := (some .int)) (lv0 := [(0, .ref (ob G 1)), (1, .int p0), (2, .int p1), (3, .int p2)]) (by decide) rfl (Nat.le_of_ble_eq_true rfl) rfl ?_
  intro p e s m args below meth c A C hA hlocks hr
  refine x_iconst (v := 0) C dT_search_0 (by decide) ?_
  refine x_istore C [(4, .int 0), (0, .ref (ob G 1)), (1, .int p0), (2, .int p1), (3, .int p2)] dT_search_1 (by decide) rfl ?_
  obtain ⟨n8, h⟩ := h
  refine x_sub [1, 2, 3, 4, 0] rfl ?_
  refine tT_search_L3 C (fun v4 h => ?_) (fun h => ?_) n8 p0 p1 p2 0 h
  · refine x_iload C dT_search_45 0 rfl ?_
    exact x_iret C hA hlocks hr ⟨rfl, h⟩ dT_search_47
  · refine x_iconst (v := (-1)) C dT_search_54 (by decide) ?_
    exact x_iret C hA hlocks hr ⟨rfl, h⟩ dT_search_55
set_option maxRecDepth 100000 in
set_option maxHeartbeats 4000000 in
theorem kT_search {p : Program} {l : Launch} {e : Env} {R : Room} {s : State} {m : MethodId} {args : Array Value} {below : List Frame} {meth : Method} {c : Code} {cells slots : Nat} {Q : State → Prop} {A : Nat → Prop} {D : va_G} {nL pc : Nat} {cc : ByteArray} {cw : Cond} {own : String} {lv : List (Nat × Value)} {st : List Value} {G : G_} {a : L_} {r : S_} {K : Int32 → Prop} {p0 : Int32} {p1 : Int32} {p2 : Int32} (C : vx_C p s m args c cc nL (cw :: wAll) own D vwCl (tysG G) nwAll A) {i : Nat} (hl : Cond.methodLink own i yT_search ∈ wAll) (hR : 0 + 1 ≤ R.frames ∧ 8 + (5 + 11) + 0 ≤ R.locals) (hst : (st.map fun v => v.category).sum ≤ 8) (hd : decode cc pc = .ok (.invokevirtual i, 3)) (hcs : cells ≤ R.cells ∧ slots ≤ R.slots) (h : qT_search a r K p0 p1 p2) (k : ∀ (v : Int32), K v → vx_V p l e R s m args below meth c A D vwCl nL cells slots Q (wo G a r) (pc + 3) lv (.int v :: st)) : vx_V p l e R s m args below meth c A D vwCl nL cells slots Q (wo G a r) pc lv (.int p2 :: .int p1 :: .int p0 :: .ref (ob G 1) :: st) := by
  refine x_callVi C (CC := "ClassInference$TypeTable") (ci := 1) (q0 := 1) (fs := fl1 G a r) (As := [.int p0, .int p1, .int p2]) rfl rfl (cT_search p0 p1 p2 h) (cwV (C := "ClassInference$TypeTable") 3 C.1.2.2.2.2 (goodV hl wm312 wp0 wm2 wm313) rfl rfl rfl (by decide +kernel) hR) rfl hst hd hcs (fun v w hw => ?_)
  obtain ⟨rfl, h⟩ := hw
  exact k v h
def qT_keep (a : L_) (K : Int32 → S_ → Prop) (r : S_) (p0 : Int32) (p1 : Int32) (p2 : Int32) (p3 : Int32) (p4 : Int32) : Prop :=
  (((fi r 1) < 60) → vp_in (fi r 1) (ln a 1) ∧ ∀ r3 : S_, r3 = sA r 1 (upd (ar r 1) (fi r 1).toNatClampNeg p0) → vp_in (fi r3 1) (ln a 2) ∧ ∀ r5 : S_, r5 = sA r3 2 (upd (ar r3 2) (fi r3 1).toNatClampNeg p1) → vp_in (fi r5 1) (ln a 3) ∧ ∀ r7 : S_, r7 = sA r5 3 (upd (ar r5 3) (fi r5 1).toNatClampNeg p2) → vp_in (fi r7 1) (ln a 4) ∧ ∀ r9 : S_, r9 = sA r7 4 (upd (ar r7 4) (fi r7 1).toNatClampNeg p3) → vp_in (fi r9 1) (ln a 5) ∧ ∀ r11 : S_, r11 = sA r9 5 (upd (ar r9 5) (fi r9 1).toNatClampNeg p4) → ∀ r12 : S_, r12 = sF r11 1 ((fi r11 1) + 1) → K ((fi r12 1) - 1) r12) ∧ ((¬ (fi r 1) < 60) → K (-3) r)
set_option maxRecDepth 100000 in
set_option maxHeartbeats 4000000 in
theorem cT_keep {a : L_} {r : S_} {K : Int32 → S_ → Prop} (p0 : Int32) (p1 : Int32) (p2 : Int32) (p3 : Int32) (p4 : Int32) (h : qT_keep a K r p0 p1 p2 p3 p4) : vx_Mi l yT_keep (Cond.code yT_keep prog_6_method_11_code 6 (some .int) :: wAll) { frames := 0, cells := 0, slots := 0, locals := 0 } D vwCl (tysG G) nwAll (wo G a r) [.ref (ob G 1), .int p0, .int p1, .int p2, .int p3, .int p4] 0 0 (fun v w => ∃ r1, w = wo G a r1 ∧ K v r1) := by
  unfold qT_keep at h
  refine x_meti (cc := prog_6_method_11_code) (maxL := 6) (ret := (some .int)) (lv0 := [(0, .ref (ob G 1)), (1, .int p0), (2, .int p1), (3, .int p2), (4, .int p3), (5, .int p4)]) (by decide) rfl (Nat.le_of_ble_eq_true rfl) rfl ?_
  intro p e s m args below meth c A C hA hlocks hr
  refine x_aload_n C dT_keep_0 rfl 0 rfl ?_
  refine gf_1_7 C (List.mem_cons_of_mem _ wm40) dT_keep_1 ?_
  refine x_bipush (v := 60) C dT_keep_4 (by decide) ?_
  refine x_icmp_lt (tgt := 12) C dT_keep_6 (by decide) (fun g1 => ?_) (fun g1 => ?_)
  · have h := h.1 g1
    refine x_aload_n C dT_keep_12 rfl 0 rfl ?_
    refine gf_1_2 C (List.mem_cons_of_mem _ wm29) dT_keep_13 ?_
    refine x_aload_n C dT_keep_16 rfl 0 rfl ?_
    refine gf_1_7 C (List.mem_cons_of_mem _ wm40) dT_keep_17 ?_
    refine x_iload_n C dT_keep_20 rfl 1 rfl ?_
    obtain ⟨g2, h⟩ := h
    refine y_is C 1 (by decide) g2 dT_keep_21 (fun r3 er3 => ?_)
    have h := h r3 er3
    refine x_aload_n C dT_keep_22 rfl 0 rfl ?_
    refine gf_1_3 C (List.mem_cons_of_mem _ wm32) dT_keep_23 ?_
    refine x_aload_n C dT_keep_26 rfl 0 rfl ?_
    refine gf_1_7 C (List.mem_cons_of_mem _ wm40) dT_keep_27 ?_
    refine x_iload_n C dT_keep_30 rfl 2 rfl ?_
    obtain ⟨g4, h⟩ := h
    refine y_is C 2 (by decide) g4 dT_keep_31 (fun r5 er5 => ?_)
    have h := h r5 er5
    refine x_aload_n C dT_keep_32 rfl 0 rfl ?_
    refine gf_1_4 C (List.mem_cons_of_mem _ wm35) dT_keep_33 ?_
    refine x_aload_n C dT_keep_36 rfl 0 rfl ?_
    refine gf_1_7 C (List.mem_cons_of_mem _ wm40) dT_keep_37 ?_
    refine x_iload_n C dT_keep_40 rfl 3 rfl ?_
    obtain ⟨g6, h⟩ := h
    refine y_is C 3 (by decide) g6 dT_keep_41 (fun r7 er7 => ?_)
    have h := h r7 er7
    refine x_aload_n C dT_keep_42 rfl 0 rfl ?_
    refine gf_1_5 C (List.mem_cons_of_mem _ wm38) dT_keep_43 ?_
    refine x_aload_n C dT_keep_46 rfl 0 rfl ?_
    refine gf_1_7 C (List.mem_cons_of_mem _ wm40) dT_keep_47 ?_
    refine x_iload C dT_keep_50 4 rfl ?_
    obtain ⟨g8, h⟩ := h
    refine y_is C 4 (by decide) g8 dT_keep_52 (fun r9 er9 => ?_)
    have h := h r9 er9
    refine x_aload_n C dT_keep_53 rfl 0 rfl ?_
    refine gf_1_6 C (List.mem_cons_of_mem _ wm39) dT_keep_54 ?_
    refine x_aload_n C dT_keep_57 rfl 0 rfl ?_
    refine gf_1_7 C (List.mem_cons_of_mem _ wm40) dT_keep_58 ?_
    refine x_iload C dT_keep_61 5 rfl ?_
    obtain ⟨g10, h⟩ := h
    refine y_is C 5 (by decide) g10 dT_keep_63 (fun r11 er11 => ?_)
    have h := h r11 er11
    refine x_aload_n C dT_keep_64 rfl 0 rfl ?_
    refine x_dup C dT_keep_65 rfl ?_
    refine gf_1_7 C (List.mem_cons_of_mem _ wm40) dT_keep_66 ?_
    refine x_iconst (v := 1) C dT_keep_69 (by decide) ?_
    refine x_iadd C dT_keep_70 ?_
    refine pf_1_7 C (List.mem_cons_of_mem _ wm40) dT_keep_71 (fun r12 er12 => ?_)
    have h := h r12 er12
    refine x_aload_n C dT_keep_74 rfl 0 rfl ?_
    refine gf_1_7 C (List.mem_cons_of_mem _ wm40) dT_keep_75 ?_
    refine x_iconst (v := 1) C dT_keep_78 (by decide) ?_
    refine x_isub C dT_keep_79 ?_
    exact x_iret C hA hlocks hr ⟨r12, rfl, h⟩ dT_keep_80
  · have h := h.2 g1
    refine x_bipush (v := (-3)) C dT_keep_9 (by decide) ?_
    exact x_iret C hA hlocks hr ⟨r, rfl, h⟩ dT_keep_11
set_option maxRecDepth 100000 in
set_option maxHeartbeats 4000000 in
theorem kT_keep {p : Program} {l : Launch} {e : Env} {R : Room} {s : State} {m : MethodId} {args : Array Value} {below : List Frame} {meth : Method} {c : Code} {cells slots : Nat} {Q : State → Prop} {A : Nat → Prop} {D : va_G} {nL pc : Nat} {cc : ByteArray} {cw : Cond} {own : String} {lv : List (Nat × Value)} {st : List Value} {G : G_} {a : L_} {r : S_} {K : Int32 → S_ → Prop} {p0 : Int32} {p1 : Int32} {p2 : Int32} {p3 : Int32} {p4 : Int32} (C : vx_C p s m args c cc nL (cw :: wAll) own D vwCl (tysG G) nwAll A) {i : Nat} (hl : Cond.methodLink own i yT_keep ∈ wAll) (hR : 0 + 1 ≤ R.frames ∧ 8 + (6 + 11) + 0 ≤ R.locals) (hst : (st.map fun v => v.category).sum ≤ 8) (hd : decode cc pc = .ok (.invokevirtual i, 3)) (hcs : cells ≤ R.cells ∧ slots ≤ R.slots) (h : qT_keep a K r p0 p1 p2 p3 p4) (k : ∀ (v : Int32) (r1 : S_), K v r1 → vx_V p l e R s m args below meth c A D vwCl nL cells slots Q (wo G a r1) (pc + 3) lv (.int v :: st)) : vx_V p l e R s m args below meth c A D vwCl nL cells slots Q (wo G a r) pc lv (.int p4 :: .int p3 :: .int p2 :: .int p1 :: .int p0 :: .ref (ob G 1) :: st) := by
  refine x_callVi C (CC := "ClassInference$TypeTable") (ci := 1) (q0 := 1) (fs := fl1 G a r) (As := [.int p0, .int p1, .int p2, .int p3, .int p4]) rfl rfl (cT_keep p0 p1 p2 p3 p4 h) (cwV (C := "ClassInference$TypeTable") 5 C.1.2.2.2.2 (goodV hl wm316 wp1 wm2 wm317) rfl rfl rfl (by decide +kernel) hR) rfl hst hd hcs (fun v w hw => ?_)
  obtain ⟨r1, rfl, h⟩ := hw
  exact k v r1 h
def qT_addVariable (a : L_) (K : Int32 → S_ → Prop) (r : S_) (p0 : Int32) : Prop :=
  qT_search a r (fun z1 => ((z1 = (-1)) → qT_keep a (fun z3 r4 => K z3 r4) r ((-1) - p0) (-1) (-1) 1 (1 <<< (p0 &&& 31))) ∧ ((¬ z1 = (-1)) → K z1 r)) ((-1) - p0) (-1) (-1)
set_option maxRecDepth 100000 in
set_option maxHeartbeats 4000000 in
theorem cT_addVariable {a : L_} {r : S_} {K : Int32 → S_ → Prop} (p0 : Int32) (h : qT_addVariable a K r p0) : vx_Mi l yT_addVariable (Cond.code yT_addVariable prog_6_method_8_code 3 (some .int) :: wAll) { frames := 1, cells := 0, slots := 0, locals := 25 } D vwCl (tysG G) nwAll (wo G a r) [.ref (ob G 1), .int p0] 0 0 (fun v w => ∃ r1, w = wo G a r1 ∧ K v r1) := by
  unfold qT_addVariable at h
  refine x_meti (cc := prog_6_method_8_code) (maxL := 3) (ret := (some .int)) (lv0 := [(0, .ref (ob G 1)), (1, .int p0)]) (by decide) rfl (Nat.le_of_ble_eq_true rfl) rfl ?_
  intro p e s m args below meth c A C hA hlocks hr
  refine x_aload_n C dT_addVariable_0 rfl 0 rfl ?_
  refine x_iconst (v := (-1)) C dT_addVariable_1 (by decide) ?_
  refine x_iload_n C dT_addVariable_2 rfl 1 rfl ?_
  refine x_isub C dT_addVariable_3 ?_
  refine x_iconst (v := (-1)) C dT_addVariable_4 (by decide) ?_
  refine x_iconst (v := (-1)) C dT_addVariable_5 (by decide) ?_
  refine kT_search C wm310 ⟨Nat.le_of_ble_eq_true rfl, Nat.le_of_ble_eq_true rfl⟩ (Nat.le_of_ble_eq_true rfl) dT_addVariable_6 ⟨Nat.zero_le _, Nat.zero_le _⟩ h (fun z1 h => ?_)
  refine x_istore_n C [(2, .int z1), (0, .ref (ob G 1)), (1, .int p0)] dT_addVariable_9 rfl (by decide) rfl ?_
  refine x_iload_n C dT_addVariable_10 rfl 0 rfl ?_
  refine x_iconst (v := (-1)) C dT_addVariable_11 (by decide) ?_
  refine x_icmp_eq (tgt := 17) C dT_addVariable_12 (by decide) (fun g2 => ?_) (fun g2 => ?_)
  · have h := h.1 g2
    refine x_aload_n C dT_addVariable_17 rfl 1 rfl ?_
    refine x_iconst (v := (-1)) C dT_addVariable_18 (by decide) ?_
    refine x_iload_n C dT_addVariable_19 rfl 2 rfl ?_
    refine x_isub C dT_addVariable_20 ?_
    refine x_iconst (v := (-1)) C dT_addVariable_21 (by decide) ?_
    refine x_iconst (v := (-1)) C dT_addVariable_22 (by decide) ?_
    refine x_iconst (v := 1) C dT_addVariable_23 (by decide) ?_
    refine x_iconst (v := 1) C dT_addVariable_24 (by decide) ?_
    refine x_iload_n C dT_addVariable_25 rfl 2 rfl ?_
    refine x_ishl C dT_addVariable_26 ?_
    refine kT_keep C wm314 ⟨Nat.le_of_ble_eq_true rfl, Nat.le_of_ble_eq_true rfl⟩ (Nat.le_of_ble_eq_true rfl) dT_addVariable_27 ⟨Nat.zero_le _, Nat.zero_le _⟩ h (fun z3 r4 h => ?_)
    exact x_iret C hA hlocks hr ⟨r4, rfl, h⟩ dT_addVariable_30
  · have h := h.2 g2
    refine x_iload_n C dT_addVariable_15 rfl 0 rfl ?_
    exact x_iret C hA hlocks hr ⟨r, rfl, h⟩ dT_addVariable_16
set_option maxRecDepth 100000 in
set_option maxHeartbeats 4000000 in
theorem kT_addVariable {p : Program} {l : Launch} {e : Env} {R : Room} {s : State} {m : MethodId} {args : Array Value} {below : List Frame} {meth : Method} {c : Code} {cells slots : Nat} {Q : State → Prop} {A : Nat → Prop} {D : va_G} {nL pc : Nat} {cc : ByteArray} {cw : Cond} {own : String} {lv : List (Nat × Value)} {st : List Value} {G : G_} {a : L_} {r : S_} {K : Int32 → S_ → Prop} {p0 : Int32} (C : vx_C p s m args c cc nL (cw :: wAll) own D vwCl (tysG G) nwAll A) {i : Nat} (hl : Cond.methodLink own i yT_addVariable ∈ wAll) (hR : 1 + 1 ≤ R.frames ∧ 8 + (3 + 11) + 25 ≤ R.locals) (hst : (st.map fun v => v.category).sum ≤ 8) (hd : decode cc pc = .ok (.invokevirtual i, 3)) (hcs : cells ≤ R.cells ∧ slots ≤ R.slots) (h : qT_addVariable a K r p0) (k : ∀ (v : Int32) (r1 : S_), K v r1 → vx_V p l e R s m args below meth c A D vwCl nL cells slots Q (wo G a r1) (pc + 3) lv (.int v :: st)) : vx_V p l e R s m args below meth c A D vwCl nL cells slots Q (wo G a r) pc lv (.int p0 :: .ref (ob G 1) :: st) := by
  refine x_callVi C (CC := "ClassInference$TypeTable") (ci := 1) (q0 := 1) (fs := fl1 G a r) (As := [.int p0]) rfl rfl (cT_addVariable p0 h) (cwV (C := "ClassInference$TypeTable") 1 C.1.2.2.2.2 (goodV hl wm307 wm308 wm2 wm309) rfl rfl rfl (by decide +kernel) hR) rfl hst hd hcs (fun v w hw => ?_)
  obtain ⟨r1, rfl, h⟩ := hw
  exact k v r1 h
def qI_variable (a : L_) (K : Int32 → S_ → Prop) (r : S_) (p0 : Int32) : Prop :=
  ((p0 < 0) → K (-1) r) ∧ ((¬ p0 < 0) → ((p0 < 8) → qT_addVariable a (fun z3 r4 => K z3 r4) r p0) ∧ ((¬ p0 < 8) → K (-1) r))
set_option maxRecDepth 100000 in
set_option maxHeartbeats 4000000 in
theorem cI_variable {a : L_} {r : S_} {K : Int32 → S_ → Prop} (p0 : Int32) (h : qI_variable a K r p0) : vx_Mi l yI_variable (Cond.code yI_variable prog_1_method_3_code 2 (some .int) :: wAll) { frames := 2, cells := 0, slots := 0, locals := 47 } D vwCl (tysG G) nwAll (wo G a r) [.ref (ob G 0), .int p0] 0 0 (fun v w => ∃ r1, w = wo G a r1 ∧ K v r1) := by
  unfold qI_variable at h
  refine x_meti (cc := prog_1_method_3_code) (maxL := 2) (ret := (some .int)) (lv0 := [(0, .ref (ob G 0)), (1, .int p0)]) (by decide) rfl (Nat.le_of_ble_eq_true rfl) rfl ?_
  intro p e s m args below meth c A C hA hlocks hr
  refine x_iload_n C dI_variable_0 rfl 1 rfl ?_
  refine x_if_lt (tgt := 10) C dI_variable_1 (by decide) (fun g1 => ?_) (fun g1 => ?_)
  · have h := h.1 g1
    refine x_iconst (v := (-1)) C dI_variable_10 (by decide) ?_
    exact x_iret C hA hlocks hr ⟨r, rfl, h⟩ dI_variable_11
  · have h := h.2 g1
    refine x_iload_n C dI_variable_4 rfl 1 rfl ?_
    refine x_bipush (v := 8) C dI_variable_5 (by decide) ?_
    refine x_icmp_lt (tgt := 12) C dI_variable_7 (by decide) (fun g2 => ?_) (fun g2 => ?_)
    · have h := h.1 g2
      refine x_aload_n C dI_variable_12 rfl 0 rfl ?_
      refine gf_0_0 C (List.mem_cons_of_mem _ wm278) dI_variable_13 ?_
      refine x_iload_n C dI_variable_16 rfl 1 rfl ?_
      refine kT_addVariable C wm306 ⟨Nat.le_of_ble_eq_true rfl, Nat.le_of_ble_eq_true rfl⟩ (Nat.le_of_ble_eq_true rfl) dI_variable_17 ⟨Nat.zero_le _, Nat.zero_le _⟩ h (fun z3 r4 h => ?_)
      exact x_iret C hA hlocks hr ⟨r4, rfl, h⟩ dI_variable_20
    · have h := h.2 g2
      refine x_iconst (v := (-1)) C dI_variable_10 (by decide) ?_
      exact x_iret C hA hlocks hr ⟨r, rfl, h⟩ dI_variable_11
set_option maxRecDepth 100000 in
set_option maxHeartbeats 4000000 in
theorem kI_variable {p : Program} {l : Launch} {e : Env} {R : Room} {s : State} {m : MethodId} {args : Array Value} {below : List Frame} {meth : Method} {c : Code} {cells slots : Nat} {Q : State → Prop} {A : Nat → Prop} {D : va_G} {nL pc : Nat} {cc : ByteArray} {cw : Cond} {own : String} {lv : List (Nat × Value)} {st : List Value} {G : G_} {a : L_} {r : S_} {K : Int32 → S_ → Prop} {p0 : Int32} (C : vx_C p s m args c cc nL (cw :: wAll) own D vwCl (tysG G) nwAll A) {i : Nat} (hl : Cond.methodLink own i yI_variable ∈ wAll) (hR : 2 + 1 ≤ R.frames ∧ 8 + (2 + 11) + 47 ≤ R.locals) (hst : (st.map fun v => v.category).sum ≤ 8) (hd : decode cc pc = .ok (.invokevirtual i, 3)) (hcs : cells ≤ R.cells ∧ slots ≤ R.slots) (h : qI_variable a K r p0) (k : ∀ (v : Int32) (r1 : S_), K v r1 → vx_V p l e R s m args below meth c A D vwCl nL cells slots Q (wo G a r1) (pc + 3) lv (.int v :: st)) : vx_V p l e R s m args below meth c A D vwCl nL cells slots Q (wo G a r) pc lv (.int p0 :: .ref (ob G 0) :: st) := by
  refine x_callVi C (CC := "ClassInference") (ci := 0) (q0 := 0) (fs := fl0 G a r) (As := [.int p0]) rfl rfl (cI_variable p0 h) (cwV (C := "ClassInference") 1 C.1.2.2.2.2 (goodV hl wm303 wm304 wm1 wm305) rfl rfl rfl (by decide +kernel) hR) rfl hst hd hcs (fun v w hw => ?_)
  obtain ⟨r1, rfl, h⟩ := hw
  exact k v r1 h
def qT_hasConstructor (a : L_) (r : S_) (K : Int32 → Prop) (p0 : Int32) : Prop :=
  ((p0 < 0) → zb 0 ∧ K 0) ∧ ((¬ p0 < 0) → (((fi r 0) ≤ p0) → zb 0 ∧ K 0) ∧ ((¬ (fi r 0) ≤ p0) → zb 1 ∧ K 1))
set_option maxRecDepth 100000 in
set_option maxHeartbeats 4000000 in
theorem cT_hasConstructor {a : L_} {r : S_} {K : Int32 → Prop} (p0 : Int32) (h : qT_hasConstructor a r K p0) : vx_Mi l yT_hasConstructor (Cond.code yT_hasConstructor prog_6_method_2_code 2 (some .boolean) :: wAll) { frames := 0, cells := 0, slots := 0, locals := 0 } D vwCl (tysG G) nwAll (wo G a r) [.ref (ob G 1), .int p0] 0 0 (fun v w => w = wo G a r ∧ zb v ∧ K v) := by
  unfold qT_hasConstructor at h
  refine x_meti (cc := prog_6_method_2_code) (maxL := 2) (ret := (some .boolean)) (lv0 := [(0, .ref (ob G 1)), (1, .int p0)]) (by decide) rfl (Nat.le_of_ble_eq_true rfl) rfl ?_
  intro p e s m args below meth c A C hA hlocks hr
  refine x_iload_n C dT_hasConstructor_0 rfl 1 rfl ?_
  refine x_if_lt (tgt := 16) C dT_hasConstructor_1 (by decide) (fun g1 => ?_) (fun g1 => ?_)
  · have h := h.1 g1
    refine x_iconst (v := 0) C dT_hasConstructor_16 (by decide) ?_
    obtain ⟨g2, h⟩ := h
    exact x_zret C hA hlocks hr (zb_n g2) ⟨rfl, g2, h⟩ dT_hasConstructor_17
  · have h := h.2 g1
    refine x_iload_n C dT_hasConstructor_4 rfl 1 rfl ?_
    refine x_aload_n C dT_hasConstructor_5 rfl 0 rfl ?_
    refine gf_1_1 C (List.mem_cons_of_mem _ wm28) dT_hasConstructor_6 ?_
    refine x_icmp_ge (tgt := 16) C dT_hasConstructor_9 (by decide) (fun g3 => ?_) (fun g3 => ?_)
    · have h := h.1 g3
      refine x_iconst (v := 0) C dT_hasConstructor_16 (by decide) ?_
      obtain ⟨g4, h⟩ := h
      exact x_zret C hA hlocks hr (zb_n g4) ⟨rfl, g4, h⟩ dT_hasConstructor_17
    · have h := h.2 g3
      refine x_iconst (v := 1) C dT_hasConstructor_12 (by decide) ?_
      refine x_goto (tgt := 17) C dT_hasConstructor_13 (by decide) ?_
      obtain ⟨g5, h⟩ := h
      exact x_zret C hA hlocks hr (zb_n g5) ⟨rfl, g5, h⟩ dT_hasConstructor_17
set_option maxRecDepth 100000 in
set_option maxHeartbeats 4000000 in
theorem kT_hasConstructor {p : Program} {l : Launch} {e : Env} {R : Room} {s : State} {m : MethodId} {args : Array Value} {below : List Frame} {meth : Method} {c : Code} {cells slots : Nat} {Q : State → Prop} {A : Nat → Prop} {D : va_G} {nL pc : Nat} {cc : ByteArray} {cw : Cond} {own : String} {lv : List (Nat × Value)} {st : List Value} {G : G_} {a : L_} {r : S_} {K : Int32 → Prop} {p0 : Int32} (C : vx_C p s m args c cc nL (cw :: wAll) own D vwCl (tysG G) nwAll A) {i : Nat} (hl : Cond.methodLink own i yT_hasConstructor ∈ wAll) (hR : 0 + 1 ≤ R.frames ∧ 8 + (2 + 11) + 0 ≤ R.locals) (hst : (st.map fun v => v.category).sum ≤ 8) (hd : decode cc pc = .ok (.invokevirtual i, 3)) (hcs : cells ≤ R.cells ∧ slots ≤ R.slots) (h : qT_hasConstructor a r K p0) (k : ∀ (v : Int32), zb v → K v → vx_V p l e R s m args below meth c A D vwCl nL cells slots Q (wo G a r) (pc + 3) lv (.int v :: st)) : vx_V p l e R s m args below meth c A D vwCl nL cells slots Q (wo G a r) pc lv (.int p0 :: .ref (ob G 1) :: st) := by
  refine x_callVi C (CC := "ClassInference$TypeTable") (ci := 1) (q0 := 1) (fs := fl1 G a r) (As := [.int p0]) rfl rfl (cT_hasConstructor p0 h) (cwV (C := "ClassInference$TypeTable") 1 C.1.2.2.2.2 (goodV hl wm323 wm324 wm2 wm325) rfl rfl rfl (by decide +kernel) hR) rfl hst hd hcs (fun v w hw => ?_)
  obtain ⟨rfl, h⟩ := hw
  exact k v h.1 h.2
def qT_partsOf (a : L_) (r : S_) (K : Int32 → Prop) (p0 : Int32) : Prop :=
  vp_in p0 (ln a 0) ∧ K (ar r 0 p0.toNatClampNeg)
set_option maxRecDepth 100000 in
set_option maxHeartbeats 4000000 in
theorem cT_partsOf {a : L_} {r : S_} {K : Int32 → Prop} (p0 : Int32) (h : qT_partsOf a r K p0) : vx_Mi l yT_partsOf (Cond.code yT_partsOf prog_6_method_3_code 2 (some .int) :: wAll) { frames := 0, cells := 0, slots := 0, locals := 0 } D vwCl (tysG G) nwAll (wo G a r) [.ref (ob G 1), .int p0] 0 0 (fun v w => w = wo G a r ∧ K v) := by
  unfold qT_partsOf at h
  refine x_meti (cc := prog_6_method_3_code) (maxL := 2) (ret := (some .int)) (lv0 := [(0, .ref (ob G 1)), (1, .int p0)]) (by decide) rfl (Nat.le_of_ble_eq_true rfl) rfl ?_
  intro p e s m args below meth c A C hA hlocks hr
  refine x_aload_n C dT_partsOf_0 rfl 0 rfl ?_
  refine gf_1_0 C (List.mem_cons_of_mem _ wm27) dT_partsOf_1 ?_
  refine x_iload_n C dT_partsOf_4 rfl 1 rfl ?_
  obtain ⟨g1, h⟩ := h
  refine y_ia C 0 (by decide) g1 dT_partsOf_5 ?_
  exact x_iret C hA hlocks hr ⟨rfl, h⟩ dT_partsOf_6
set_option maxRecDepth 100000 in
set_option maxHeartbeats 4000000 in
theorem kT_partsOf {p : Program} {l : Launch} {e : Env} {R : Room} {s : State} {m : MethodId} {args : Array Value} {below : List Frame} {meth : Method} {c : Code} {cells slots : Nat} {Q : State → Prop} {A : Nat → Prop} {D : va_G} {nL pc : Nat} {cc : ByteArray} {cw : Cond} {own : String} {lv : List (Nat × Value)} {st : List Value} {G : G_} {a : L_} {r : S_} {K : Int32 → Prop} {p0 : Int32} (C : vx_C p s m args c cc nL (cw :: wAll) own D vwCl (tysG G) nwAll A) {i : Nat} (hl : Cond.methodLink own i yT_partsOf ∈ wAll) (hR : 0 + 1 ≤ R.frames ∧ 8 + (2 + 11) + 0 ≤ R.locals) (hst : (st.map fun v => v.category).sum ≤ 8) (hd : decode cc pc = .ok (.invokevirtual i, 3)) (hcs : cells ≤ R.cells ∧ slots ≤ R.slots) (h : qT_partsOf a r K p0) (k : ∀ (v : Int32), K v → vx_V p l e R s m args below meth c A D vwCl nL cells slots Q (wo G a r) (pc + 3) lv (.int v :: st)) : vx_V p l e R s m args below meth c A D vwCl nL cells slots Q (wo G a r) pc lv (.int p0 :: .ref (ob G 1) :: st) := by
  refine x_callVi C (CC := "ClassInference$TypeTable") (ci := 1) (q0 := 1) (fs := fl1 G a r) (As := [.int p0]) rfl rfl (cT_partsOf p0 h) (cwV (C := "ClassInference$TypeTable") 1 C.1.2.2.2.2 (goodV hl wm327 wm328 wm2 wm329) rfl rfl rfl (by decide +kernel) hR) rfl hst hd hcs (fun v w hw => ?_)
  obtain ⟨rfl, h⟩ := hw
  exact k v h
def qT_hasType (a : L_) (r : S_) (K : Int32 → Prop) (p0 : Int32) : Prop :=
  ((p0 < 0) → zb 0 ∧ K 0) ∧ ((¬ p0 < 0) → (((fi r 1) ≤ p0) → zb 0 ∧ K 0) ∧ ((¬ (fi r 1) ≤ p0) → zb 1 ∧ K 1))
set_option maxRecDepth 100000 in
set_option maxHeartbeats 4000000 in
theorem cT_hasType {a : L_} {r : S_} {K : Int32 → Prop} (p0 : Int32) (h : qT_hasType a r K p0) : vx_Mi l yT_hasType (Cond.code yT_hasType prog_6_method_4_code 2 (some .boolean) :: wAll) { frames := 0, cells := 0, slots := 0, locals := 0 } D vwCl (tysG G) nwAll (wo G a r) [.ref (ob G 1), .int p0] 0 0 (fun v w => w = wo G a r ∧ zb v ∧ K v) := by
  unfold qT_hasType at h
  refine x_meti (cc := prog_6_method_4_code) (maxL := 2) (ret := (some .boolean)) (lv0 := [(0, .ref (ob G 1)), (1, .int p0)]) (by decide) rfl (Nat.le_of_ble_eq_true rfl) rfl ?_
  intro p e s m args below meth c A C hA hlocks hr
  refine x_iload_n C dT_hasType_0 rfl 1 rfl ?_
  refine x_if_lt (tgt := 16) C dT_hasType_1 (by decide) (fun g1 => ?_) (fun g1 => ?_)
  · have h := h.1 g1
    refine x_iconst (v := 0) C dT_hasType_16 (by decide) ?_
    obtain ⟨g2, h⟩ := h
    exact x_zret C hA hlocks hr (zb_n g2) ⟨rfl, g2, h⟩ dT_hasType_17
  · have h := h.2 g1
    refine x_iload_n C dT_hasType_4 rfl 1 rfl ?_
    refine x_aload_n C dT_hasType_5 rfl 0 rfl ?_
    refine gf_1_7 C (List.mem_cons_of_mem _ wm40) dT_hasType_6 ?_
    refine x_icmp_ge (tgt := 16) C dT_hasType_9 (by decide) (fun g3 => ?_) (fun g3 => ?_)
    · have h := h.1 g3
      refine x_iconst (v := 0) C dT_hasType_16 (by decide) ?_
      obtain ⟨g4, h⟩ := h
      exact x_zret C hA hlocks hr (zb_n g4) ⟨rfl, g4, h⟩ dT_hasType_17
    · have h := h.2 g3
      refine x_iconst (v := 1) C dT_hasType_12 (by decide) ?_
      refine x_goto (tgt := 17) C dT_hasType_13 (by decide) ?_
      obtain ⟨g5, h⟩ := h
      exact x_zret C hA hlocks hr (zb_n g5) ⟨rfl, g5, h⟩ dT_hasType_17
set_option maxRecDepth 100000 in
set_option maxHeartbeats 4000000 in
theorem kT_hasType {p : Program} {l : Launch} {e : Env} {R : Room} {s : State} {m : MethodId} {args : Array Value} {below : List Frame} {meth : Method} {c : Code} {cells slots : Nat} {Q : State → Prop} {A : Nat → Prop} {D : va_G} {nL pc : Nat} {cc : ByteArray} {cw : Cond} {own : String} {lv : List (Nat × Value)} {st : List Value} {G : G_} {a : L_} {r : S_} {K : Int32 → Prop} {p0 : Int32} (C : vx_C p s m args c cc nL (cw :: wAll) own D vwCl (tysG G) nwAll A) {i : Nat} (hl : Cond.methodLink own i yT_hasType ∈ wAll) (hR : 0 + 1 ≤ R.frames ∧ 8 + (2 + 11) + 0 ≤ R.locals) (hst : (st.map fun v => v.category).sum ≤ 8) (hd : decode cc pc = .ok (.invokevirtual i, 3)) (hcs : cells ≤ R.cells ∧ slots ≤ R.slots) (h : qT_hasType a r K p0) (k : ∀ (v : Int32), zb v → K v → vx_V p l e R s m args below meth c A D vwCl nL cells slots Q (wo G a r) (pc + 3) lv (.int v :: st)) : vx_V p l e R s m args below meth c A D vwCl nL cells slots Q (wo G a r) pc lv (.int p0 :: .ref (ob G 1) :: st) := by
  refine x_callVi C (CC := "ClassInference$TypeTable") (ci := 1) (q0 := 1) (fs := fl1 G a r) (As := [.int p0]) rfl rfl (cT_hasType p0 h) (cwV (C := "ClassInference$TypeTable") 1 C.1.2.2.2.2 (goodV hl wm331 wm332 wm2 wm333) rfl rfl rfl (by decide +kernel) hR) rfl hst hd hcs (fun v w hw => ?_)
  obtain ⟨rfl, h⟩ := hw
  exact k v h.1 h.2
def qT_addBuilt_J83 (a : L_) (K : Int32 → S_ → Prop) (r : S_) (v1 : Int32) (v2 : Int32) (v3 : Int32) (v5 : Int32) (u0 : Int32) (u1 : Int32) : Prop :=
  ((v5 ≤ 16) → qT_keep a (fun z12 r13 => K z12 r13) r v1 v2 v3 v5 (u1 ||| u0)) ∧ ((¬ v5 ≤ 16) → K (-3) r)
set_option maxRecDepth 100000 in
set_option maxHeartbeats 4000000 in
theorem tT_addBuilt_J83 (C : vx_C p s m args c prog_6_method_9_code 7 (Cond.code yT_addBuilt prog_6_method_9_code 7 (some .int) :: wAll) "ClassInference$TypeTable" D vwCl (tysG G) nwAll A) (hA : A = va_A ws0 s.heap.size) (hlocks : meth.locks = false) (hr : meth.sig.returnType = (some .int)) {a : L_} {K : Int32 → S_ → Prop} (r : S_) (v1 : Int32) (v2 : Int32) (v3 : Int32) (v5 : Int32) (u0 : Int32) (u1 : Int32) (h : qT_addBuilt_J83 a K r v1 v2 v3 v5 u0 u1) : vx_V p l e { frames := 1, cells := 0, slots := 0, locals := 25 } s m args below meth c A D vwCl 7 0 0 (MQ below (va_Qi (fun v w => ∃ r1, w = wo G a r1 ∧ K v r1) (vx_B D vwCl (tysG G) A) A) args s 0 0 A) (wo G a r) 83 [(0, .ref (ob G 1)), (1, .int v1), (2, .int v2), (3, .int v3), (5, .int v5)] [.int u0, .int u1] := by
  unfold qT_addBuilt_J83 at h
  refine x_ior C dT_addBuilt_83 ?_
  refine x_istore C [(6, .int (u1 ||| u0)), (0, .ref (ob G 1)), (1, .int v1), (2, .int v2), (3, .int v3), (5, .int v5)] dT_addBuilt_84 (by decide) rfl ?_
  refine x_iload C dT_addBuilt_86 5 rfl ?_
  refine x_bipush (v := 16) C dT_addBuilt_88 (by decide) ?_
  refine x_icmp_le (tgt := 96) C dT_addBuilt_90 (by decide) (fun g11 => ?_) (fun g11 => ?_)
  · have h := h.1 g11
    refine x_aload_n C dT_addBuilt_96 rfl 1 rfl ?_
    refine x_iload_n C dT_addBuilt_97 rfl 2 rfl ?_
    refine x_iload_n C dT_addBuilt_98 rfl 3 rfl ?_
    refine x_iload_n C dT_addBuilt_99 rfl 4 rfl ?_
    refine x_iload C dT_addBuilt_100 5 rfl ?_
    refine x_iload C dT_addBuilt_102 0 rfl ?_
    refine kT_keep C wm314 ⟨Nat.le_of_ble_eq_true rfl, Nat.le_of_ble_eq_true rfl⟩ (Nat.le_of_ble_eq_true rfl) dT_addBuilt_104 ⟨Nat.zero_le _, Nat.zero_le _⟩ h (fun z12 r13 h => ?_)
    exact x_iret C hA hlocks hr ⟨r13, rfl, h⟩ dT_addBuilt_107
  · have h := h.2 g11
    refine x_bipush (v := (-3)) C dT_addBuilt_93 (by decide) ?_
    exact x_iret C hA hlocks hr ⟨r, rfl, h⟩ dT_addBuilt_95
def qT_addBuilt_J68 (a : L_) (K : Int32 → S_ → Prop) (r : S_) (v1 : Int32) (v2 : Int32) (v3 : Int32) (v5 : Int32) (u0 : Int32) : Prop :=
  ((¬ v3 = (-1)) → vp_in v3 (ln a 5) ∧ qT_addBuilt_J83 a K r v1 v2 v3 v5 (ar r 5 v3.toNatClampNeg) u0) ∧ ((v3 = (-1)) → qT_addBuilt_J83 a K r v1 v2 v3 v5 0 u0)
set_option maxRecDepth 100000 in
set_option maxHeartbeats 4000000 in
theorem tT_addBuilt_J68 (C : vx_C p s m args c prog_6_method_9_code 7 (Cond.code yT_addBuilt prog_6_method_9_code 7 (some .int) :: wAll) "ClassInference$TypeTable" D vwCl (tysG G) nwAll A) (hA : A = va_A ws0 s.heap.size) (hlocks : meth.locks = false) (hr : meth.sig.returnType = (some .int)) {a : L_} {K : Int32 → S_ → Prop} (r : S_) (v1 : Int32) (v2 : Int32) (v3 : Int32) (v5 : Int32) (u0 : Int32) (h : qT_addBuilt_J68 a K r v1 v2 v3 v5 u0) : vx_V p l e { frames := 1, cells := 0, slots := 0, locals := 25 } s m args below meth c A D vwCl 7 0 0 (MQ below (va_Qi (fun v w => ∃ r1, w = wo G a r1 ∧ K v r1) (vx_B D vwCl (tysG G) A) A) args s 0 0 A) (wo G a r) 68 [(0, .ref (ob G 1)), (1, .int v1), (2, .int v2), (3, .int v3), (5, .int v5)] [.int u0] := by
  unfold qT_addBuilt_J68 at h
  refine x_iload_n C dT_addBuilt_68 rfl 3 rfl ?_
  refine x_iconst (v := (-1)) C dT_addBuilt_69 (by decide) ?_
  refine x_icmp_ne (tgt := 77) C dT_addBuilt_70 (by decide) (fun g9 => ?_) (fun g9 => ?_)
  · have h := h.1 g9
    refine x_aload_n C dT_addBuilt_77 rfl 0 rfl ?_
    refine gf_1_6 C (List.mem_cons_of_mem _ wm39) dT_addBuilt_78 ?_
    refine x_iload_n C dT_addBuilt_81 rfl 3 rfl ?_
    obtain ⟨g10, h⟩ := h
    refine y_ia C 5 (by decide) g10 dT_addBuilt_82 ?_
    refine x_sub [0, 1, 2, 3, 4] rfl ?_
    exact tT_addBuilt_J83 C hA hlocks hr r v1 v2 v3 v5 (ar r 5 v3.toNatClampNeg) u0 h
  · have h := h.2 g9
    refine x_iconst (v := 0) C dT_addBuilt_73 (by decide) ?_
    refine x_goto (tgt := 83) C dT_addBuilt_74 (by decide) ?_
    refine x_sub [0, 1, 2, 3, 4] rfl ?_
    exact tT_addBuilt_J83 C hA hlocks hr r v1 v2 v3 v5 0 u0 h
def qT_addBuilt_J50 (a : L_) (K : Int32 → S_ → Prop) (r : S_) (v1 : Int32) (v2 : Int32) (v3 : Int32) (u0 : Int32) (u1 : Int32) : Prop :=
  ((¬ v2 = (-1)) → vp_in v2 (ln a 5) ∧ qT_addBuilt_J68 a K r v1 v2 v3 (u1 + u0) (ar r 5 v2.toNatClampNeg)) ∧ ((v2 = (-1)) → qT_addBuilt_J68 a K r v1 v2 v3 (u1 + u0) 0)
set_option maxRecDepth 100000 in
set_option maxHeartbeats 4000000 in
theorem tT_addBuilt_J50 (C : vx_C p s m args c prog_6_method_9_code 7 (Cond.code yT_addBuilt prog_6_method_9_code 7 (some .int) :: wAll) "ClassInference$TypeTable" D vwCl (tysG G) nwAll A) (hA : A = va_A ws0 s.heap.size) (hlocks : meth.locks = false) (hr : meth.sig.returnType = (some .int)) {a : L_} {K : Int32 → S_ → Prop} (r : S_) (v1 : Int32) (v2 : Int32) (v3 : Int32) (u0 : Int32) (u1 : Int32) (h : qT_addBuilt_J50 a K r v1 v2 v3 u0 u1) : vx_V p l e { frames := 1, cells := 0, slots := 0, locals := 25 } s m args below meth c A D vwCl 7 0 0 (MQ below (va_Qi (fun v w => ∃ r1, w = wo G a r1 ∧ K v r1) (vx_B D vwCl (tysG G) A) A) args s 0 0 A) (wo G a r) 50 [(0, .ref (ob G 1)), (1, .int v1), (2, .int v2), (3, .int v3)] [.int u0, .int u1] := by
  unfold qT_addBuilt_J50 at h
  refine x_iadd C dT_addBuilt_50 ?_
  refine x_istore C [(5, .int (u1 + u0)), (0, .ref (ob G 1)), (1, .int v1), (2, .int v2), (3, .int v3)] dT_addBuilt_51 (by decide) rfl ?_
  refine x_iload_n C dT_addBuilt_53 rfl 3 rfl ?_
  refine x_iconst (v := (-1)) C dT_addBuilt_54 (by decide) ?_
  refine x_icmp_ne (tgt := 62) C dT_addBuilt_55 (by decide) (fun g7 => ?_) (fun g7 => ?_)
  · have h := h.1 g7
    refine x_aload_n C dT_addBuilt_62 rfl 1 rfl ?_
    refine gf_1_6 C (List.mem_cons_of_mem _ wm39) dT_addBuilt_63 ?_
    refine x_iload_n C dT_addBuilt_66 rfl 3 rfl ?_
    obtain ⟨g8, h⟩ := h
    refine y_ia C 5 (by decide) g8 dT_addBuilt_67 ?_
    refine x_sub [1, 2, 3, 4, 0] rfl ?_
    exact tT_addBuilt_J68 C hA hlocks hr r v1 v2 v3 (u1 + u0) (ar r 5 v2.toNatClampNeg) h
  · have h := h.2 g7
    refine x_iconst (v := 0) C dT_addBuilt_58 (by decide) ?_
    refine x_goto (tgt := 68) C dT_addBuilt_59 (by decide) ?_
    refine x_sub [1, 2, 3, 4, 0] rfl ?_
    exact tT_addBuilt_J68 C hA hlocks hr r v1 v2 v3 (u1 + u0) 0 h
def qT_addBuilt_J34 (a : L_) (K : Int32 → S_ → Prop) (r : S_) (v1 : Int32) (v2 : Int32) (v3 : Int32) (u0 : Int32) (u1 : Int32) : Prop :=
  ((¬ v3 = (-1)) → vp_in v3 (ln a 4) ∧ qT_addBuilt_J50 a K r v1 v2 v3 (ar r 4 v3.toNatClampNeg) (u1 + u0)) ∧ ((v3 = (-1)) → qT_addBuilt_J50 a K r v1 v2 v3 0 (u1 + u0))
set_option maxRecDepth 100000 in
set_option maxHeartbeats 4000000 in
theorem tT_addBuilt_J34 (C : vx_C p s m args c prog_6_method_9_code 7 (Cond.code yT_addBuilt prog_6_method_9_code 7 (some .int) :: wAll) "ClassInference$TypeTable" D vwCl (tysG G) nwAll A) (hA : A = va_A ws0 s.heap.size) (hlocks : meth.locks = false) (hr : meth.sig.returnType = (some .int)) {a : L_} {K : Int32 → S_ → Prop} (r : S_) (v1 : Int32) (v2 : Int32) (v3 : Int32) (u0 : Int32) (u1 : Int32) (h : qT_addBuilt_J34 a K r v1 v2 v3 u0 u1) : vx_V p l e { frames := 1, cells := 0, slots := 0, locals := 25 } s m args below meth c A D vwCl 7 0 0 (MQ below (va_Qi (fun v w => ∃ r1, w = wo G a r1 ∧ K v r1) (vx_B D vwCl (tysG G) A) A) args s 0 0 A) (wo G a r) 34 [(0, .ref (ob G 1)), (1, .int v1), (2, .int v2), (3, .int v3)] [.int u0, .int u1] := by
  unfold qT_addBuilt_J34 at h
  refine x_iadd C dT_addBuilt_34 ?_
  refine x_iload_n C dT_addBuilt_35 rfl 3 rfl ?_
  refine x_iconst (v := (-1)) C dT_addBuilt_36 (by decide) ?_
  refine x_icmp_ne (tgt := 44) C dT_addBuilt_37 (by decide) (fun g5 => ?_) (fun g5 => ?_)
  · have h := h.1 g5
    refine x_aload_n C dT_addBuilt_44 rfl 0 rfl ?_
    refine gf_1_5 C (List.mem_cons_of_mem _ wm38) dT_addBuilt_45 ?_
    refine x_iload_n C dT_addBuilt_48 rfl 3 rfl ?_
    obtain ⟨g6, h⟩ := h
    refine y_ia C 4 (by decide) g6 dT_addBuilt_49 ?_
    refine x_sub [0, 1, 2, 3] rfl ?_
    exact tT_addBuilt_J50 C hA hlocks hr r v1 v2 v3 (ar r 4 v3.toNatClampNeg) (u1 + u0) h
  · have h := h.2 g5
    refine x_iconst (v := 0) C dT_addBuilt_40 (by decide) ?_
    refine x_goto (tgt := 50) C dT_addBuilt_41 (by decide) ?_
    refine x_sub [0, 1, 2, 3] rfl ?_
    exact tT_addBuilt_J50 C hA hlocks hr r v1 v2 v3 0 (u1 + u0) h
def qT_addBuilt (a : L_) (K : Int32 → S_ → Prop) (r : S_) (p0 : Int32) (p1 : Int32) (p2 : Int32) : Prop :=
  qT_search a r (fun z1 => ((z1 = (-1)) → ((¬ p1 = (-1)) → vp_in p1 (ln a 4) ∧ qT_addBuilt_J34 a K r p0 p1 p2 (ar r 4 p1.toNatClampNeg) 1) ∧ ((p1 = (-1)) → qT_addBuilt_J34 a K r p0 p1 p2 0 1)) ∧ ((¬ z1 = (-1)) → K z1 r)) p0 p1 p2
set_option maxRecDepth 100000 in
set_option maxHeartbeats 4000000 in
theorem cT_addBuilt {a : L_} {r : S_} {K : Int32 → S_ → Prop} (p0 : Int32) (p1 : Int32) (p2 : Int32) (h : qT_addBuilt a K r p0 p1 p2) : vx_Mi l yT_addBuilt (Cond.code yT_addBuilt prog_6_method_9_code 7 (some .int) :: wAll) { frames := 1, cells := 0, slots := 0, locals := 25 } D vwCl (tysG G) nwAll (wo G a r) [.ref (ob G 1), .int p0, .int p1, .int p2] 0 0 (fun v w => ∃ r1, w = wo G a r1 ∧ K v r1) := by
  unfold qT_addBuilt at h
  refine x_meti (cc := prog_6_method_9_code) (maxL := 7) (ret := (some .int)) (lv0 := [(0, .ref (ob G 1)), (1, .int p0), (2, .int p1), (3, .int p2)]) (by decide) rfl (Nat.le_of_ble_eq_true rfl) rfl ?_
  intro p e s m args below meth c A C hA hlocks hr
  refine x_aload_n C dT_addBuilt_0 rfl 0 rfl ?_
  refine x_iload_n C dT_addBuilt_1 rfl 1 rfl ?_
  refine x_iload_n C dT_addBuilt_2 rfl 2 rfl ?_
  refine x_iload_n C dT_addBuilt_3 rfl 3 rfl ?_
  refine kT_search C wm310 ⟨Nat.le_of_ble_eq_true rfl, Nat.le_of_ble_eq_true rfl⟩ (Nat.le_of_ble_eq_true rfl) dT_addBuilt_4 ⟨Nat.zero_le _, Nat.zero_le _⟩ h (fun z1 h => ?_)
  refine x_istore C [(4, .int z1), (0, .ref (ob G 1)), (1, .int p0), (2, .int p1), (3, .int p2)] dT_addBuilt_7 (by decide) rfl ?_
  refine x_iload C dT_addBuilt_9 0 rfl ?_
  refine x_iconst (v := (-1)) C dT_addBuilt_11 (by decide) ?_
  refine x_icmp_eq (tgt := 18) C dT_addBuilt_12 (by decide) (fun g2 => ?_) (fun g2 => ?_)
  · have h := h.1 g2
    refine x_iconst (v := 1) C dT_addBuilt_18 (by decide) ?_
    refine x_iload_n C dT_addBuilt_19 rfl 3 rfl ?_
    refine x_iconst (v := (-1)) C dT_addBuilt_20 (by decide) ?_
    refine x_icmp_ne (tgt := 28) C dT_addBuilt_21 (by decide) (fun g3 => ?_) (fun g3 => ?_)
    · have h := h.1 g3
      refine x_aload_n C dT_addBuilt_28 rfl 1 rfl ?_
      refine gf_1_5 C (List.mem_cons_of_mem _ wm38) dT_addBuilt_29 ?_
      refine x_iload_n C dT_addBuilt_32 rfl 3 rfl ?_
      obtain ⟨g4, h⟩ := h
      refine y_ia C 4 (by decide) g4 dT_addBuilt_33 ?_
      refine x_sub [1, 2, 3, 4] rfl ?_
      exact tT_addBuilt_J34 C hA hlocks hr r p0 p1 p2 (ar r 4 p1.toNatClampNeg) 1 h
    · have h := h.2 g3
      refine x_iconst (v := 0) C dT_addBuilt_24 (by decide) ?_
      refine x_goto (tgt := 34) C dT_addBuilt_25 (by decide) ?_
      refine x_sub [1, 2, 3, 4] rfl ?_
      exact tT_addBuilt_J34 C hA hlocks hr r p0 p1 p2 0 1 h
  · have h := h.2 g2
    refine x_iload C dT_addBuilt_15 0 rfl ?_
    exact x_iret C hA hlocks hr ⟨r, rfl, h⟩ dT_addBuilt_17
set_option maxRecDepth 100000 in
set_option maxHeartbeats 4000000 in
theorem kT_addBuilt {p : Program} {l : Launch} {e : Env} {R : Room} {s : State} {m : MethodId} {args : Array Value} {below : List Frame} {meth : Method} {c : Code} {cells slots : Nat} {Q : State → Prop} {A : Nat → Prop} {D : va_G} {nL pc : Nat} {cc : ByteArray} {cw : Cond} {own : String} {lv : List (Nat × Value)} {st : List Value} {G : G_} {a : L_} {r : S_} {K : Int32 → S_ → Prop} {p0 : Int32} {p1 : Int32} {p2 : Int32} (C : vx_C p s m args c cc nL (cw :: wAll) own D vwCl (tysG G) nwAll A) {i : Nat} (hl : Cond.methodLink own i yT_addBuilt ∈ wAll) (hR : 1 + 1 ≤ R.frames ∧ 8 + (7 + 11) + 25 ≤ R.locals) (hst : (st.map fun v => v.category).sum ≤ 8) (hd : decode cc pc = .ok (.invokevirtual i, 3)) (hcs : cells ≤ R.cells ∧ slots ≤ R.slots) (h : qT_addBuilt a K r p0 p1 p2) (k : ∀ (v : Int32) (r1 : S_), K v r1 → vx_V p l e R s m args below meth c A D vwCl nL cells slots Q (wo G a r1) (pc + 3) lv (.int v :: st)) : vx_V p l e R s m args below meth c A D vwCl nL cells slots Q (wo G a r) pc lv (.int p2 :: .int p1 :: .int p0 :: .ref (ob G 1) :: st) := by
  refine x_callVi C (CC := "ClassInference$TypeTable") (ci := 1) (q0 := 1) (fs := fl1 G a r) (As := [.int p0, .int p1, .int p2]) rfl rfl (cT_addBuilt p0 p1 p2 h) (cwV (C := "ClassInference$TypeTable") 3 C.1.2.2.2.2 (goodV hl wm335 wm336 wm2 wm337) rfl rfl rfl (by decide +kernel) hR) rfl hst hd hcs (fun v w hw => ?_)
  obtain ⟨r1, rfl, h⟩ := hw
  exact k v r1 h
end MTH
