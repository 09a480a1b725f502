section MTH
variable {p : Program} {l : Launch} {e : Env} {s : State} {m : MethodId} {args : Array Value} {below : List Frame} {meth : Method} {c : Code} {Q : State → Prop} {A : Nat → Prop} {D : va_G} {G : G_} {ws0 : va_W}
def qT_addConstructor (a : L_) (K : Int32 → S_ → Prop) (r : S_) (p0 : Int32) : Prop :=
  (((fi r 0) < 8) → vp_in (fi r 0) (ln a 0) ∧ ∀ r3 : S_, r3 = sA r 0 (upd (ar r 0) (fi r 0).toNatClampNeg p0) → ∀ r4 : S_, r4 = sF r3 0 ((fi r3 0) + 1) → K ((fi r4 0) - 1) r4) ∧ ((¬ (fi r 0) < 8) → K (-3) r)
set_option maxRecDepth 100000 in
set_option maxHeartbeats 4000000 in
theorem cT_addConstructor {a : L_} {r : S_} {K : Int32 → S_ → Prop} (p0 : Int32) (h : qT_addConstructor a K r p0) : vx_Mi l yT_addConstructor (Cond.code yT_addConstructor prog_6_method_7_code 2 (some .int) :: wAll) { frames := 0, cells := 0, slots := 0, locals := 0 } D vwCl (tysG G) nwAll (wo G a r) [.ref (ob G 1), .int p0] 0 0 (fun v w => ∃ r1, w = wo G a r1 ∧ K v r1) := by
  unfold qT_addConstructor at h
  refine x_meti (cc := prog_6_method_7_code) (maxL := 2) (ret := (some .int)) (lv0 := [(0, .ref (ob G 1)), (1, .int p0)]) (by decide) rfl (Nat.le_of_ble_eq_true rfl) rfl ?_
  intro p e s m args below meth c A C hA hlocks hr
  refine x_aload_n C dT_addConstructor_0 rfl 0 rfl ?_
  refine gf_1_1 C (List.mem_cons_of_mem _ wm28) dT_addConstructor_1 ?_
  refine x_bipush (v := 8) C dT_addConstructor_4 (by decide) ?_
  refine x_icmp_lt (tgt := 12) C dT_addConstructor_6 (by decide) (fun g1 => ?_) (fun g1 => ?_)
  · have h := h.1 g1
    refine x_aload_n C dT_addConstructor_12 rfl 0 rfl ?_
    refine gf_1_0 C (List.mem_cons_of_mem _ wm27) dT_addConstructor_13 ?_
    refine x_aload_n C dT_addConstructor_16 rfl 0 rfl ?_
    refine gf_1_1 C (List.mem_cons_of_mem _ wm28) dT_addConstructor_17 ?_
    refine x_iload_n C dT_addConstructor_20 rfl 1 rfl ?_
    obtain ⟨g2, h⟩ := h
    refine y_is C 0 (by decide) g2 dT_addConstructor_21 (fun r3 er3 => ?_)
    have h := h r3 er3
    refine x_aload_n C dT_addConstructor_22 rfl 0 rfl ?_
    refine x_dup C dT_addConstructor_23 rfl ?_
    refine gf_1_1 C (List.mem_cons_of_mem _ wm28) dT_addConstructor_24 ?_
    refine x_iconst (v := 1) C dT_addConstructor_27 (by decide) ?_
    refine x_iadd C dT_addConstructor_28 ?_
    refine pf_1_1 C (List.mem_cons_of_mem _ wm28) dT_addConstructor_29 (fun r4 er4 => ?_)
    have h := h r4 er4
    refine x_aload_n C dT_addConstructor_32 rfl 0 rfl ?_
    refine gf_1_1 C (List.mem_cons_of_mem _ wm28) dT_addConstructor_33 ?_
    refine x_iconst (v := 1) C dT_addConstructor_36 (by decide) ?_
    refine x_isub C dT_addConstructor_37 ?_
    exact x_iret C hA hlocks hr ⟨r4, rfl, h⟩ dT_addConstructor_38
  · have h := h.2 g1
    refine x_bipush (v := (-3)) C dT_addConstructor_9 (by decide) ?_
    exact x_iret C hA hlocks hr ⟨r, rfl, h⟩ dT_addConstructor_11
set_option maxRecDepth 100000 in
set_option maxHeartbeats 4000000 in
theorem kT_addConstructor {p : Program} {l : Launch} {e : Env} {R : Room} {s : State} {m : MethodId} {args : Array Value} {below : List Frame} {meth : Method} {c : Code} {cells slots : Nat} {Q : State → Prop} {A : Nat → Prop} {D : va_G} {nL pc : Nat} {cc : ByteArray} {cw : Cond} {own : String} {lv : List (Nat × Value)} {st : List Value} {G : G_} {a : L_} {r : S_} {K : Int32 → S_ → Prop} {p0 : Int32} (C : vx_C p s m args c cc nL (cw :: wAll) own D vwCl (tysG G) nwAll A) {i : Nat} (hl : Cond.methodLink own i yT_addConstructor ∈ wAll) (hR : 0 + 1 ≤ R.frames ∧ 8 + (2 + 11) + 0 ≤ R.locals) (hst : (st.map fun v => v.category).sum ≤ 8) (hd : decode cc pc = .ok (.invokevirtual i, 3)) (hcs : cells ≤ R.cells ∧ slots ≤ R.slots) (h : qT_addConstructor a K r p0) (k : ∀ (v : Int32) (r1 : S_), K v r1 → vx_V p l e R s m args below meth c A D vwCl nL cells slots Q (wo G a r1) (pc + 3) lv (.int v :: st)) : vx_V p l e R s m args below meth c A D vwCl nL cells slots Q (wo G a r) pc lv (.int p0 :: .ref (ob G 1) :: st) := by
  refine x_callVi C (CC := "ClassInference$TypeTable") (ci := 1) (q0 := 1) (fs := fl1 G a r) (As := [.int p0]) rfl rfl (cT_addConstructor p0 h) (cwV (C := "ClassInference$TypeTable") 1 C.1.2.2.2.2 (goodV hl wm299 wm300 wm2 wm301) rfl rfl rfl (by decide +kernel) hR) rfl hst hd hcs (fun v w hw => ?_)
  obtain ⟨r1, rfl, h⟩ := hw
  exact k v r1 h
def qI_constructor (a : L_) (K : Int32 → S_ → Prop) (r : S_) (p0 : Int32) : Prop :=
  ((p0 < 0) → K (-1) r) ∧ ((¬ p0 < 0) → ((p0 ≤ 2) → qT_addConstructor a (fun z3 r4 => K z3 r4) r p0) ∧ ((¬ p0 ≤ 2) → K (-1) r))
set_option maxRecDepth 100000 in
set_option maxHeartbeats 4000000 in
theorem cI_constructor {a : L_} {r : S_} {K : Int32 → S_ → Prop} (p0 : Int32) (h : qI_constructor a K r p0) : vx_Mi l yI_constructor (Cond.code yI_constructor prog_1_method_2_code 2 (some .int) :: wAll) { frames := 1, cells := 0, slots := 0, locals := 21 } D vwCl (tysG G) nwAll (wo G a r) [.ref (ob G 0), .int p0] 0 0 (fun v w => ∃ r1, w = wo G a r1 ∧ K v r1) := by
  unfold qI_constructor at h
  refine x_meti (cc := prog_1_method_2_code) (maxL := 2) (ret := (some .int)) (lv0 := [(0, .ref (ob G 0)), (1, .int p0)]) (by decide) rfl (Nat.le_of_ble_eq_true rfl) rfl ?_
  intro p e s m args below meth c A C hA hlocks hr
  refine x_iload_n C dI_constructor_0 rfl 1 rfl ?_
  refine x_if_lt (tgt := 9) C dI_constructor_1 (by decide) (fun g1 => ?_) (fun g1 => ?_)
  · have h := h.1 g1
    refine x_iconst (v := (-1)) C dI_constructor_9 (by decide) ?_
    exact x_iret C hA hlocks hr ⟨r, rfl, h⟩ dI_constructor_10
  · have h := h.2 g1
    refine x_iload_n C dI_constructor_4 rfl 1 rfl ?_
    refine x_iconst (v := 2) C dI_constructor_5 (by decide) ?_
    refine x_icmp_le (tgt := 11) C dI_constructor_6 (by decide) (fun g2 => ?_) (fun g2 => ?_)
    · have h := h.1 g2
      refine x_aload_n C dI_constructor_11 rfl 0 rfl ?_
      refine gf_0_0 C (List.mem_cons_of_mem _ wm278) dI_constructor_12 ?_
      refine x_iload_n C dI_constructor_15 rfl 1 rfl ?_
      refine kT_addConstructor C wm298 ⟨Nat.le_of_ble_eq_true rfl, Nat.le_of_ble_eq_true rfl⟩ (Nat.le_of_ble_eq_true rfl) dI_constructor_16 ⟨Nat.zero_le _, Nat.zero_le _⟩ h (fun z3 r4 h => ?_)
      exact x_iret C hA hlocks hr ⟨r4, rfl, h⟩ dI_constructor_19
    · have h := h.2 g2
      refine x_iconst (v := (-1)) C dI_constructor_9 (by decide) ?_
      exact x_iret C hA hlocks hr ⟨r, rfl, h⟩ dI_constructor_10
set_option maxRecDepth 100000 in
set_option maxHeartbeats 4000000 in
theorem kI_constructor {p : Program} {l : Launch} {e : Env} {R : Room} {s : State} {m : MethodId} {args : Array Value} {below : List Frame} {meth : Method} {c : Code} {cells slots : Nat} {Q : State → Prop} {A : Nat → Prop} {D : va_G} {nL pc : Nat} {cc : ByteArray} {cw : Cond} {own : String} {lv : List (Nat × Value)} {st : List Value} {G : G_} {a : L_} {r : S_} {K : Int32 → S_ → Prop} {p0 : Int32} (C : vx_C p s m args c cc nL (cw :: wAll) own D vwCl (tysG G) nwAll A) {i : Nat} (hl : Cond.methodLink own i yI_constructor ∈ wAll) (hR : 1 + 1 ≤ R.frames ∧ 8 + (2 + 11) + 21 ≤ R.locals) (hst : (st.map fun v => v.category).sum ≤ 8) (hd : decode cc pc = .ok (.invokevirtual i, 3)) (hcs : cells ≤ R.cells ∧ slots ≤ R.slots) (h : qI_constructor a K r p0) (k : ∀ (v : Int32) (r1 : S_), K v r1 → vx_V p l e R s m args below meth c A D vwCl nL cells slots Q (wo G a r1) (pc + 3) lv (.int v :: st)) : vx_V p l e R s m args below meth c A D vwCl nL cells slots Q (wo G a r) pc lv (.int p0 :: .ref (ob G 0) :: st) := by
  refine x_callVi C (CC := "ClassInference") (ci := 0) (q0 := 0) (fs := fl0 G a r) (As := [.int p0]) rfl rfl (cI_constructor p0 h) (cwV (C := "ClassInference") 1 C.1.2.2.2.2 (goodV hl wm295 wm296 wm1 wm297) rfl rfl rfl (by decide +kernel) hR) rfl hst hd hcs (fun v w hw => ?_)
  obtain ⟨r1, rfl, h⟩ := hw
  exact k v r1 h
def qT_search_J48 (a : L_) (r : S_) (KB3 : Int32 → Int32 → Int32 → Int32 → Prop) (KX45 : Int32 → Prop) (KX54 : Prop) (v1 : Int32) (v2 : Int32) (v3 : Int32) (v4 : Int32) : Prop :=
  KB3 v1 v2 v3 (v4 + 1)
set_option maxRecDepth 100000 in
set_option maxHeartbeats 4000000 in
theorem tT_search_J48 (C : vx_C p s m args c prog_6_method_10_code 5 (Cond.code yT_search prog_6_method_10_code 5 (some .int) :: wAll) "ClassInference$TypeTable" D vwCl (tysG G) nwAll A) {a : L_} {r : S_} {KB3 : Int32 → Int32 → Int32 → Int32 → Prop} {KX45 : Int32 → Prop} {KX54 : Prop} (kB3 : ∀ (v1 : Int32) (v2 : Int32) (v3 : Int32) (v4 : Int32), KB3 v1 v2 v3 v4 → vx_V p l e { frames := 0, cells := 0, slots := 0, locals := 0 } s m args below meth c A D vwCl 5 0 0 Q (wo G a r) 3 [(0, .ref (ob G 1)), (1, .int v1), (2, .int v2), (3, .int v3), (4, .int v4)] []) (kX45 : ∀ (v4 : Int32), KX45 v4 → vx_V p l e { frames := 0, cells := 0, slots := 0, locals := 0 } s m args below meth c A D vwCl 5 0 0 Q (wo G a r) 45 [(4, .int v4)] []) (kX54 : KX54 → vx_V p l e { frames := 0, cells := 0, slots := 0, locals := 0 } s m args below meth c A D vwCl 5 0 0 Q (wo G a r) 54 [] []) (v1 : Int32) (v2 : Int32) (v3 : Int32) (v4 : Int32) (h : qT_search_J48 a r KB3 KX45 KX54 v1 v2 v3 v4) : vx_V p l e { frames := 0, cells := 0, slots := 0, locals := 0 } s m args below meth c A D vwCl 5 0 0 Q (wo G a r) 48 [(0, .ref (ob G 1)), (1, .int v1), (2, .int v2), (3, .int v3), (4, .int v4)] [] := by
  unfold qT_search_J48 at h
  refine x_iinc (j := 4) (v := v4 + 1) C [(4, .int (v4 + 1)), (0, .ref (ob G 1)), (1, .int v1), (2, .int v2), (3, .int v3)] dT_search_48 rfl rfl (by decide) rfl ?_
  refine x_goto (tgt := 3) C dT_search_51 (by decide) ?_
  refine x_sub [1, 2, 3, 4, 0] rfl ?_
  exact kB3 v1 v2 v3 (v4 + 1) h
def qT_search_L3 (a : L_) (r : S_) (KX45 : Int32 → Prop) (KX54 : Prop) : Nat → Int32 → Int32 → Int32 → Int32 → Prop
  | 0, _, _, _, _ => False
  | n + 1, v1, v2, v3, v4 => (((fi r 1) ≤ v4) → KX54) ∧ ((¬ (fi r 1) ≤ v4) → vp_in v4 (ln a 1) ∧ ((¬ (ar r 1 v4.toNatClampNeg) = v1) → qT_search_J48 a r (qT_search_L3 a r KX45 KX54 n) KX45 KX54 v1 v2 v3 v4) ∧ (((ar r 1 v4.toNatClampNeg) = v1) → vp_in v4 (ln a 2) ∧ ((¬ (ar r 2 v4.toNatClampNeg) = v2) → qT_search_J48 a r (qT_search_L3 a r KX45 KX54 n) KX45 KX54 v1 v2 v3 v4) ∧ (((ar r 2 v4.toNatClampNeg) = v2) → vp_in v4 (ln a 3) ∧ ((¬ (ar r 3 v4.toNatClampNeg) = v3) → qT_search_J48 a r (qT_search_L3 a r KX45 KX54 n) KX45 KX54 v1 v2 v3 v4) ∧ (((ar r 3 v4.toNatClampNeg) = v3) → KX45 v4))))
set_option maxRecDepth 100000 in
set_option maxHeartbeats 4000000 in
theorem tT_search_L3 (C : vx_C p s m args c prog_6_method_10_code 5 (Cond.code yT_search prog_6_method_10_code 5 (some .int) :: wAll) "ClassInference$TypeTable" D vwCl (tysG G) nwAll A) {a : L_} {r : S_} {KX45 : Int32 → Prop} {KX54 : Prop} (kX45 : ∀ (v4 : Int32), KX45 v4 → vx_V p l e { frames := 0, cells := 0, slots := 0, locals := 0 } s m args below meth c A D vwCl 5 0 0 Q (wo G a r) 45 [(4, .int v4)] []) (kX54 : KX54 → vx_V p l e { frames := 0, cells := 0, slots := 0, locals := 0 } s m args below meth c A D vwCl 5 0 0 Q (wo G a r) 54 [] []) : ∀ (n : Nat) (v1 : Int32) (v2 : Int32) (v3 : Int32) (v4 : Int32), qT_search_L3 a r KX45 KX54 n v1 v2 v3 v4 → vx_V p l e { frames := 0, cells := 0, slots := 0, locals := 0 } s m args below meth c A D vwCl 5 0 0 Q (wo G a r) 3 [(0, .ref (ob G 1)), (1, .int v1), (2, .int v2), (3, .int v3), (4, .int v4)] [] := by
  intro n
  induction n with
  | zero =>
    intro v1 v2 v3 v4 h
    exact (by rw [qT_search_L3] at h; exact h : False).elim
  | succ n kB3 =>
    intro v1 v2 v3 v4 h
    rw [qT_search_L3] at h
    refine x_iload C dT_search_3 4 rfl ?_
    refine x_aload_n C dT_search_5 rfl 0 rfl ?_
    refine gf_1_7 C (List.mem_cons_of_mem _ wm40) dT_search_6 ?_
    refine x_icmp_ge (tgt := 54) C dT_search_9 (by decide) (fun g1 => ?_) (fun g1 => ?_)
    · have h := h.1 g1
      refine x_sub [] rfl ?_
      exact kX54 h
    · have h := h.2 g1
      refine x_aload_n C dT_search_12 rfl 0 rfl ?_
      refine gf_1_2 C (List.mem_cons_of_mem _ wm29) dT_search_13 ?_
      refine x_iload C dT_search_16 4 rfl ?_
      obtain ⟨g2, h⟩ := h
      refine y_ia C 1 (by decide) g2 dT_search_18 ?_
      refine x_iload_n C dT_search_19 rfl 1 rfl ?_
      refine x_icmp_ne (tgt := 48) C dT_search_20 (by decide) (fun g3 => ?_) (fun g3 => ?_)
      · have h := h.1 g3
        refine x_sub [0, 1, 2, 3, 4] rfl ?_
        exact tT_search_J48 C kB3 kX45 kX54 v1 v2 v3 v4 h
      · have h := h.2 g3
        refine x_aload_n C dT_search_23 rfl 0 rfl ?_
        refine gf_1_3 C (List.mem_cons_of_mem _ wm32) dT_search_24 ?_
        refine x_iload C dT_search_27 4 rfl ?_
        obtain ⟨g4, h⟩ := h
        refine y_ia C 2 (by decide) g4 dT_search_29 ?_
        refine x_iload_n C dT_search_30 rfl 2 rfl ?_
        refine x_icmp_ne (tgt := 48) C dT_search_31 (by decide) (fun g5 => ?_) (fun g5 => ?_)
        · have h := h.1 g5
          refine x_sub [0, 1, 2, 3, 4] rfl ?_
          exact tT_search_J48 C kB3 kX45 kX54 v1 v2 v3 v4 h
        · have h := h.2 g5
          refine x_aload_n C dT_search_34 rfl 0 rfl ?_
          refine gf_1_4 C (List.mem_cons_of_mem _ wm35) dT_search_35 ?_
          refine x_iload C dT_search_38 4 rfl ?_
          obtain ⟨g6, h⟩ := h
          refine y_ia C 3 (by decide) g6 dT_search_40 ?_
          refine x_iload_n C dT_search_41 rfl 3 rfl ?_
          refine x_icmp_ne (tgt := 48) C dT_search_42 (by decide) (fun g7 => ?_) (fun g7 => ?_)
          · have h := h.1 g7
            refine x_sub [0, 1, 2, 3, 4] rfl ?_
            exact tT_search_J48 C kB3 kX45 kX54 v1 v2 v3 v4 h
          · have h := h.2 g7
            refine x_sub [4] rfl ?_
            exact kX45 v4 h
def qT_search (a : L_) (r : S_) (K : Int32 → Prop) (p0 : Int32) (p1 : Int32) (p2 : Int32) : Prop :=
  ∃ n8 : Nat, qT_search_L3 a r (fun v4 => K v4) (K (-1)) n8 p0 p1 p2 0
set_option maxRecDepth 100000 in
set_option maxHeartbeats 4000000 in
theorem cT_search {a : L_} {r : S_} {K : Int32 → Prop} (p0 : Int32) (p1 : Int32) (p2 : Int32) (h : qT_search a r K p0 p1 p2) : vx_Mi l yT_search (Cond.code yT_search prog_6_method_10_code 5 (some .int) :: wAll) { frames := 0, cells := 0, slots := 0, locals := 0 } D vwCl (tysG G) nwAll (wo G a r) [.ref (ob G 1), .int p0, .int p1, .int p2] 0 0 (fun v w => w = wo G a r ∧ K v) := by
  unfold qT_search at h
  refine x_meti (cc := prog_6_method_10_code) (maxL := 5) (ret := (some .int)) (lv0 := [(0, .ref (ob G 1)), (1, .int p0), (2, .int p1), (3, .int p2)]) (by decide) rfl (Nat.le_of_ble_eq_true rfl) rfl ?_
  intro p e s m args below meth c A C hA hlocks hr
  refine x_iconst (v := 0) C dT_search_0 (by decide) ?_
  refine x_istore C [(4, .int 0), (0, .ref (ob G 1)), (1, .int p0), (2, .int p1), (3, .int p2)] dT_search_1 (by decide) rfl ?_
  obtain ⟨n8, h⟩ := h
  refine x_sub [1, 2, 3, 4, 0] rfl ?_
  refine tT_search_L3 C (fun v4 h => ?_) (fun h => ?_) n8 p0 p1 p2 0 h
  · refine x_iload C dT_search_45 0 rfl ?_
    exact x_iret C hA hlocks hr ⟨rfl, h⟩ dT_search_47
  · refine x_iconst (v := (-1)) C dT_search_54 (by decide) ?_
    exact x_iret C hA hlocks hr ⟨rfl, h⟩ dT_search_55
set_option maxRecDepth 100000 in
set_option maxHeartbeats 4000000 in
theorem kT_search {p : Program} {l : Launch} {e : Env} {R : Room} {s : State} {m : MethodId} {args : Array Value} {below : List Frame} {meth : Method} {c : Code} {cells slots : Nat} {Q : State → Prop} {A : Nat → Prop} {D : va_G} {nL pc : Nat} {cc : ByteArray} {cw : Cond} {own : String} {lv : List (Nat × Value)} {st : List Value} {G : G_} {a : L_} {r : S_} {K : Int32 → Prop} {p0 : Int32} {p1 : Int32} {p2 : Int32} (C : vx_C p s m args c cc nL (cw :: wAll) own D vwCl (tysG G) nwAll A) {i : Nat} (hl : Cond.methodLink own i yT_search ∈ wAll) (hR : 0 + 1 ≤ R.frames ∧ 8 + (5 + 11) + 0 ≤ R.locals) (hst : (st.map fun v => v.category).sum ≤ 8) (hd : decode cc pc = .ok (.invokevirtual i, 3)) (hcs : cells ≤ R.cells ∧ slots ≤ R.slots) (h : qT_search a r K p0 p1 p2) (k : ∀ (v : Int32), K v → vx_V p l e R s m args below meth c A D vwCl nL cells slots Q (wo G a r) (pc + 3) lv (.int v :: st)) : vx_V p l e R s m args below meth c A D vwCl nL cells slots Q (wo G a r) pc lv (.int p2 :: .int p1 :: .int p0 :: .ref (ob G 1) :: st) := by
  refine x_callVi C (CC := "ClassInference$TypeTable") (ci := 1) (q0 := 1) (fs := fl1 G a r) (As := [.int p0, .int p1, .int p2]) rfl rfl (cT_search p0 p1 p2 h) (cwV (C := "ClassInference$TypeTable") 3 C.1.2.2.2.2 (goodV hl wm312 wp0 wm2 wm313) rfl rfl rfl (by decide +kernel) hR) rfl hst hd hcs (fun v w hw => ?_)
  obtain ⟨rfl, h⟩ := hw
  exact k v h
end MTH
