section MTH
variable {p : Program} {l : Launch} {e : Env} {s : State} {m : MethodId} {args : Array Value} {below : List Frame} {meth : Method} {c : Code} {Q : State → Prop} {A : Nat → Prop} {D : va_G} {G : G_} {ws0 : va_W}
def qG_push (a : L_) (K : S_ → Prop) (r : S_) (p0 : Int32) : Prop :=
  (((Int32.ofNat (ln a 31)) ≤ (fi r 14)) → K r) ∧ ((¬ (Int32.ofNat (ln a 31)) ≤ (fi r 14)) → vp_in (fi r 14) (ln a 31) ∧ ∀ r3 : S_, r3 = sA r 31 (upd (ar r 31) (fi r 14).toNatClampNeg p0) → ∀ r4 : S_, r4 = sF r3 14 ((fi r3 14) + 1) → K r4)
set_option maxRecDepth 100000 in
set_option maxHeartbeats 4000000 in
theorem cG_push {a : L_} {r : S_} {K : S_ → Prop} (p0 : Int32) (h : qG_push a K r p0) : vx_Mv l yG_push (Cond.code yG_push prog_4_method_13_code 2 none :: wAll) { frames := 0, cells := 0, slots := 0, locals := 0 } D vwCl (tysG G) nwAll (wo G a r) [.ref (ob G 5), .int p0] 0 0 (fun w => ∃ r1, w = wo G a r1 ∧ K r1) := by
  unfold qG_push at h
  refine x_metv (cc := prog_4_method_13_code) (maxL := 2) (ret := none) (lv0 := [(0, .ref (ob G 5)), (1, .int p0)]) (by decide) rfl (Nat.le_of_ble_eq_true rfl) rfl ?_
  intro p e s m args below meth c A C hA hlocks hr
  refine x_aload_n C dG_push_0 rfl 0 rfl ?_
  refine gf_5_14 C (List.mem_cons_of_mem _ wm164) dG_push_1 ?_
  refine x_aload_n C dG_push_4 rfl 0 rfl ?_
  refine gf_5_13 C (List.mem_cons_of_mem _ wm163) dG_push_5 ?_
  refine y_alen C 31 (by decide) dG_push_8 ?_
  refine x_icmp_ge (tgt := 32) C dG_push_9 (by decide) (fun g1 => ?_) (fun g1 => ?_)
  · have h := h.1 g1
    exact x_vret C hA hlocks hr ⟨r, rfl, h⟩ dG_push_32
  · have h := h.2 g1
    refine x_aload_n C dG_push_12 rfl 0 rfl ?_
    refine gf_5_13 C (List.mem_cons_of_mem _ wm163) dG_push_13 ?_
    refine x_aload_n C dG_push_16 rfl 0 rfl ?_
    refine gf_5_14 C (List.mem_cons_of_mem _ wm164) dG_push_17 ?_
    refine x_iload_n C dG_push_20 rfl 1 rfl ?_
    obtain ⟨g2, h⟩ := h
    refine y_is C 31 (by decide) g2 dG_push_21 (fun r3 er3 => ?_)
    have h := h r3 er3
    refine x_aload_n C dG_push_22 rfl 0 rfl ?_
    refine x_dup C dG_push_23 rfl ?_
    refine gf_5_14 C (List.mem_cons_of_mem _ wm164) dG_push_24 ?_
    refine x_iconst (v := 1) C dG_push_27 (by decide) ?_
    refine x_iadd C dG_push_28 ?_
    refine pf_5_14 C (List.mem_cons_of_mem _ wm164) dG_push_29 (fun r4 er4 => ?_)
    have h := h r4 er4
    exact x_vret C hA hlocks hr ⟨r4, rfl, h⟩ dG_push_32
set_option maxRecDepth 100000 in
set_option maxHeartbeats 4000000 in
theorem kG_push {p : Program} {l : Launch} {e : Env} {R : Room} {s : State} {m : MethodId} {args : Array Value} {below : List Frame} {meth : Method} {c : Code} {cells slots : Nat} {Q : State → Prop} {A : Nat → Prop} {D : va_G} {nL pc : Nat} {cc : ByteArray} {cw : Cond} {own : String} {lv : List (Nat × Value)} {st : List Value} {G : G_} {a : L_} {r : S_} {K : S_ → Prop} {p0 : Int32} (C : vx_C p s m args c cc nL (cw :: wAll) own D vwCl (tysG G) nwAll A) {i : Nat} (hl : Cond.methodLink own i yG_push ∈ wAll) (hR : 0 + 1 ≤ R.frames ∧ 8 + (2 + 11) + 0 ≤ R.locals) (hst : (st.map fun v => v.category).sum ≤ 8) (hd : decode cc pc = .ok (.invokevirtual i, 3)) (hcs : cells ≤ R.cells ∧ slots ≤ R.slots) (h : qG_push a K r p0) (k : ∀ (r1 : S_), K r1 → vx_V p l e R s m args below meth c A D vwCl nL cells slots Q (wo G a r1) (pc + 3) lv st) : vx_V p l e R s m args below meth c A D vwCl nL cells slots Q (wo G a r) pc lv (.int p0 :: .ref (ob G 5) :: st) := by
  refine x_callVv C (CC := "ClassInference$Graph") (ci := 5) (q0 := 5) (fs := fl5 G a r) (As := [.int p0]) rfl rfl (cG_push p0 h) (cwV (C := "ClassInference$Graph") 1 C.1.2.2.2.2 (goodV hl wm483 wp12 wm7 wm484) rfl rfl rfl (by decide +kernel) hR) rfl hst hd hcs (fun w hw => ?_)
  obtain ⟨r1, rfl, h⟩ := hw
  exact k r1 h
def qG_walk_J166 (a : L_) (KB16 : S_ → Int32 → Prop) (KX172 : S_ → Prop) (r : S_) (v2 : Int32) : Prop :=
  KB16 r (v2 + 1)
set_option maxRecDepth 100000 in
set_option maxHeartbeats 4000000 in
theorem tG_walk_J166 (C : vx_C p s m args c prog_4_method_15_code 4 (Cond.code yG_walk prog_4_method_15_code 4 none :: wAll) "ClassInference$Graph" D vwCl (tysG G) nwAll A) {a : L_} {KB16 : S_ → Int32 → Prop} {KX172 : S_ → Prop} (kB16 : ∀ (r : S_) (v2 : Int32), KB16 r v2 → vx_V p l e { frames := 1, cells := 0, slots := 0, locals := 23 } s m args below meth c A D vwCl 4 0 0 Q (wo G a r) 16 [(0, .ref (ob G 5)), (2, .int v2)] []) (kX172 : ∀ (r : S_), KX172 r → vx_V p l e { frames := 1, cells := 0, slots := 0, locals := 23 } s m args below meth c A D vwCl 4 0 0 Q (wo G a r) 172 [] []) (r : S_) (v2 : Int32) (h : qG_walk_J166 a KB16 KX172 r v2) : vx_V p l e { frames := 1, cells := 0, slots := 0, locals := 23 } s m args below meth c A D vwCl 4 0 0 Q (wo G a r) 166 [(0, .ref (ob G 5)), (2, .int v2)] [] := by
  unfold qG_walk_J166 at h
  refine x_iinc (j := 1) (v := v2 + 1) C [(2, .int (v2 + 1)), (0, .ref (ob G 5))] dG_walk_166 rfl rfl (by decide) rfl ?_
  refine x_goto (tgt := 16) C dG_walk_169 (by decide) ?_
  refine x_sub [1, 0] rfl ?_
  exact kB16 r (v2 + 1) h
def qG_walk_J142 (a : L_) (KB16 : S_ → Int32 → Prop) (KX172 : S_ → Prop) (r : S_) (v2 : Int32) (v3 : Int32) : Prop :=
  vp_in v3 (ln a 22) ∧ (((ar r 22 v3.toNatClampNeg) = (-1)) → qG_walk_J166 a KB16 KX172 r v2) ∧ ((¬ (ar r 22 v3.toNatClampNeg) = (-1)) → vp_in v3 (ln a 22) ∧ qG_settled a (fun z22 r23 => qG_push a (fun r24 => qG_walk_J166 a KB16 KX172 r24 v2) r23 z22) r (ar r 22 v3.toNatClampNeg))
set_option maxRecDepth 100000 in
set_option maxHeartbeats 4000000 in
theorem tG_walk_J142 (C : vx_C p s m args c prog_4_method_15_code 4 (Cond.code yG_walk prog_4_method_15_code 4 none :: wAll) "ClassInference$Graph" D vwCl (tysG G) nwAll A) {a : L_} {KB16 : S_ → Int32 → Prop} {KX172 : S_ → Prop} (kB16 : ∀ (r : S_) (v2 : Int32), KB16 r v2 → vx_V p l e { frames := 1, cells := 0, slots := 0, locals := 23 } s m args below meth c A D vwCl 4 0 0 Q (wo G a r) 16 [(0, .ref (ob G 5)), (2, .int v2)] []) (kX172 : ∀ (r : S_), KX172 r → vx_V p l e { frames := 1, cells := 0, slots := 0, locals := 23 } s m args below meth c A D vwCl 4 0 0 Q (wo G a r) 172 [] []) (r : S_) (v2 : Int32) (v3 : Int32) (h : qG_walk_J142 a KB16 KX172 r v2 v3) : vx_V p l e { frames := 1, cells := 0, slots := 0, locals := 23 } s m args below meth c A D vwCl 4 0 0 Q (wo G a r) 142 [(0, .ref (ob G 5)), (2, .int v2), (3, .int v3)] [] := by
  unfold qG_walk_J142 at h
  refine x_aload_n C dG_walk_142 rfl 0 rfl ?_
  refine gf_5_1 C (List.mem_cons_of_mem _ wm141) dG_walk_143 ?_
  refine x_iload_n C dG_walk_146 rfl 2 rfl ?_
  obtain ⟨g19, h⟩ := h
  refine y_ia C 22 (by decide) g19 dG_walk_147 ?_
  refine x_iconst (v := (-1)) C dG_walk_148 (by decide) ?_
  refine x_icmp_eq (tgt := 166) C dG_walk_149 (by decide) (fun g20 => ?_) (fun g20 => ?_)
  · have h := h.1 g20
    refine x_sub [0, 1] rfl ?_
    exact tG_walk_J166 C kB16 kX172 r v2 h
  · have h := h.2 g20
    refine x_aload_n C dG_walk_152 rfl 0 rfl ?_
    refine x_aload_n C dG_walk_153 rfl 0 rfl ?_
    refine x_aload_n C dG_walk_154 rfl 0 rfl ?_
    refine gf_5_1 C (List.mem_cons_of_mem _ wm141) dG_walk_155 ?_
    refine x_iload_n C dG_walk_158 rfl 2 rfl ?_
    obtain ⟨g21, h⟩ := h
    refine y_ia C 22 (by decide) g21 dG_walk_159 ?_
    refine kG_settled C wm486 ⟨Nat.le_of_ble_eq_true rfl, Nat.le_of_ble_eq_true rfl⟩ (Nat.le_of_ble_eq_true rfl) dG_walk_160 ⟨Nat.zero_le _, Nat.zero_le _⟩ h (fun z22 r23 h => ?_)
    refine kG_push C wm481 ⟨Nat.le_of_ble_eq_true rfl, Nat.le_of_ble_eq_true rfl⟩ (Nat.le_of_ble_eq_true rfl) dG_walk_163 ⟨Nat.zero_le _, Nat.zero_le _⟩ h (fun r24 h => ?_)
    refine x_sub [0, 1] rfl ?_
    exact tG_walk_J166 C kB16 kX172 r24 v2 h
def qG_walk_L16 (a : L_) (KX172 : S_ → Prop) : Nat → S_ → Int32 → Prop
  | 0, _, _ => False
  | n + 1, r, v2 => (((fi r 14) ≤ 0) → KX172 r) ∧ ((¬ (fi r 14) ≤ 0) → ((1000000 ≤ v2) → KX172 r) ∧ ((¬ 1000000 ≤ v2) → ∀ r7 : S_, r7 = sF r 14 ((fi r 14) - 1) → vp_in (fi r7 14) (ln a 31) ∧ ((0 ≤ (ar r7 31 (fi r7 14).toNatClampNeg)) → vp_in (ar r7 31 (fi r7 14).toNatClampNeg) (ln a 28) ∧ ((¬ (ar r7 28 (ar r7 31 (fi r7 14).toNatClampNeg).toNatClampNeg) = (fi r7 13)) → vp_in (ar r7 31 (fi r7 14).toNatClampNeg) (ln a 28) ∧ ∀ r13 : S_, r13 = sA r7 28 (upd (ar r7 28) (ar r7 31 (fi r7 14).toNatClampNeg).toNatClampNeg (fi r7 13)) → vp_in (ar r7 31 (fi r7 14).toNatClampNeg) (ln a 29) ∧ ∀ r15 : S_, r15 = sA r13 29 (upd (ar r13 29) (ar r7 31 (fi r7 14).toNatClampNeg).toNatClampNeg (ar r7 31 (fi r7 14).toNatClampNeg)) → qG_push a (fun r16 => vp_in (ar r7 31 (fi r7 14).toNatClampNeg) (ln a 23) ∧ (((ar r16 23 (ar r7 31 (fi r7 14).toNatClampNeg).toNatClampNeg) = (-1)) → qG_walk_J142 a (qG_walk_L16 a KX172 n) KX172 r16 v2 (ar r7 31 (fi r7 14).toNatClampNeg)) ∧ ((¬ (ar r16 23 (ar r7 31 (fi r7 14).toNatClampNeg).toNatClampNeg) = (-1)) → vp_in (ar r7 31 (fi r7 14).toNatClampNeg) (ln a 23) ∧ qG_settled a (fun z26 r27 => qG_push a (fun r28 => qG_walk_J142 a (qG_walk_L16 a KX172 n) KX172 r28 v2 (ar r7 31 (fi r7 14).toNatClampNeg)) r27 z26) r16 (ar r16 23 (ar r7 31 (fi r7 14).toNatClampNeg).toNatClampNeg))) r15 ((-1) - (ar r7 31 (fi r7 14).toNatClampNeg))) ∧ (((ar r7 28 (ar r7 31 (fi r7 14).toNatClampNeg).toNatClampNeg) = (fi r7 13)) → qG_walk_J166 a (qG_walk_L16 a KX172 n) KX172 r7 v2)) ∧ ((¬ 0 ≤ (ar r7 31 (fi r7 14).toNatClampNeg)) → vp_in (fi r7 12) (ln a 30) ∧ ∀ r30 : S_, r30 = sA r7 30 (upd (ar r7 30) (fi r7 12).toNatClampNeg ((-1) - (ar r7 31 (fi r7 14).toNatClampNeg))) → ∀ r31 : S_, r31 = sF r30 12 ((fi r30 12) + 1) → qG_walk_J166 a (qG_walk_L16 a KX172 n) KX172 r31 v2)))
set_option maxRecDepth 100000 in
set_option maxHeartbeats 4000000 in
theorem tG_walk_L16 (C : vx_C p s m args c prog_4_method_15_code 4 (Cond.code yG_walk prog_4_method_15_code 4 none :: wAll) "ClassInference$Graph" D vwCl (tysG G) nwAll A) {a : L_} {KX172 : S_ → Prop} (kX172 : ∀ (r : S_), KX172 r → vx_V p l e { frames := 1, cells := 0, slots := 0, locals := 23 } s m args below meth c A D vwCl 4 0 0 Q (wo G a r) 172 [] []) : ∀ (n : Nat) (r : S_) (v2 : Int32), qG_walk_L16 a KX172 n r v2 → vx_V p l e { frames := 1, cells := 0, slots := 0, locals := 23 } s m args below meth c A D vwCl 4 0 0 Q (wo G a r) 16 [(0, .ref (ob G 5)), (2, .int v2)] [] := by
  intro n
  induction n with
  | zero =>
    intro r v2 h
    exact (by rw [qG_walk_L16] at h; exact h : False).elim
  | succ n kB16 =>
    intro r v2 h
    rw [qG_walk_L16] at h
    refine x_aload_n C dG_walk_16 rfl 0 rfl ?_
    refine gf_5_14 C (List.mem_cons_of_mem _ wm164) dG_walk_17 ?_
    refine x_if_le (tgt := 172) C dG_walk_20 (by decide) (fun g5 => ?_) (fun g5 => ?_)
    · have h := h.1 g5
      refine x_sub [] rfl ?_
      exact kX172 r h
    · have h := h.2 g5
      refine x_iload_n C dG_walk_23 rfl 1 rfl ?_
      refine x_ldc (v := 1000000) C (List.mem_cons_of_mem _ wm485) dG_walk_24 ?_
      refine x_icmp_ge (tgt := 172) C dG_walk_26 (by decide) (fun g6 => ?_) (fun g6 => ?_)
      · have h := h.1 g6
        refine x_sub [] rfl ?_
        exact kX172 r h
      · have h := h.2 g6
        refine x_aload_n C dG_walk_29 rfl 0 rfl ?_
        refine x_dup C dG_walk_30 rfl ?_
        refine gf_5_14 C (List.mem_cons_of_mem _ wm164) dG_walk_31 ?_
        refine x_iconst (v := 1) C dG_walk_34 (by decide) ?_
        refine x_isub C dG_walk_35 ?_
        refine pf_5_14 C (List.mem_cons_of_mem _ wm164) dG_walk_36 (fun r7 er7 => ?_)
        have h := h r7 er7
        refine x_aload_n C dG_walk_39 rfl 0 rfl ?_
        refine gf_5_13 C (List.mem_cons_of_mem _ wm163) dG_walk_40 ?_
        refine x_aload_n C dG_walk_43 rfl 0 rfl ?_
        refine gf_5_14 C (List.mem_cons_of_mem _ wm164) dG_walk_44 ?_
        obtain ⟨g8, h⟩ := h
        refine y_ia C 31 (by decide) g8 dG_walk_47 ?_
        refine x_istore_n C [(3, .int (ar r7 31 (fi r7 14).toNatClampNeg)), (0, .ref (ob G 5)), (2, .int v2)] dG_walk_48 rfl (by decide) rfl ?_
        refine x_iload_n C dG_walk_49 rfl 0 rfl ?_
        refine x_if_ge (tgt := 78) C dG_walk_50 (by decide) (fun g9 => ?_) (fun g9 => ?_)
        · have h := h.1 g9
          refine x_aload_n C dG_walk_78 rfl 1 rfl ?_
          refine gf_5_8 C (List.mem_cons_of_mem _ wm155) dG_walk_79 ?_
          refine x_iload_n C dG_walk_82 rfl 0 rfl ?_
          obtain ⟨g10, h⟩ := h
          refine y_ia C 28 (by decide) g10 dG_walk_83 ?_
          refine x_aload_n C dG_walk_84 rfl 1 rfl ?_
          refine gf_5_12 C (List.mem_cons_of_mem _ wm162) dG_walk_85 ?_
          refine x_icmp_ne (tgt := 94) C dG_walk_88 (by decide) (fun g11 => ?_) (fun g11 => ?_)
          · have h := h.1 g11
            refine x_aload_n C dG_walk_94 rfl 1 rfl ?_
            refine gf_5_8 C (List.mem_cons_of_mem _ wm155) dG_walk_95 ?_
            refine x_iload_n C dG_walk_98 rfl 0 rfl ?_
            refine x_aload_n C dG_walk_99 rfl 1 rfl ?_
            refine gf_5_12 C (List.mem_cons_of_mem _ wm162) dG_walk_100 ?_
            obtain ⟨g12, h⟩ := h
            refine y_is C 28 (by decide) g12 dG_walk_103 (fun r13 er13 => ?_)
            have h := h r13 er13
            refine x_aload_n C dG_walk_104 rfl 1 rfl ?_
            refine gf_5_9 C (List.mem_cons_of_mem _ wm156) dG_walk_105 ?_
            refine x_iload_n C dG_walk_108 rfl 0 rfl ?_
            refine x_iload_n C dG_walk_109 rfl 0 rfl ?_
            obtain ⟨g14, h⟩ := h
            refine y_is C 29 (by decide) g14 dG_walk_110 (fun r15 er15 => ?_)
            have h := h r15 er15
            refine x_aload_n C dG_walk_111 rfl 1 rfl ?_
            refine x_iconst (v := (-1)) C dG_walk_112 (by decide) ?_
            refine x_iload_n C dG_walk_113 rfl 0 rfl ?_
            refine x_isub C dG_walk_114 ?_
            refine kG_push C wm481 ⟨Nat.le_of_ble_eq_true rfl, Nat.le_of_ble_eq_true rfl⟩ (Nat.le_of_ble_eq_true rfl) dG_walk_115 ⟨Nat.zero_le _, Nat.zero_le _⟩ h (fun r16 h => ?_)
            refine x_aload_n C dG_walk_118 rfl 1 rfl ?_
            refine gf_5_2 C (List.mem_cons_of_mem _ wm143) dG_walk_119 ?_
            refine x_iload_n C dG_walk_122 rfl 0 rfl ?_
            obtain ⟨g17, h⟩ := h
            refine y_ia C 23 (by decide) g17 dG_walk_123 ?_
            refine x_iconst (v := (-1)) C dG_walk_124 (by decide) ?_
            refine x_icmp_eq (tgt := 142) C dG_walk_125 (by decide) (fun g18 => ?_) (fun g18 => ?_)
            · have h := h.1 g18
              refine x_sub [1, 2, 0] rfl ?_
              exact tG_walk_J142 C kB16 kX172 r16 v2 (ar r7 31 (fi r7 14).toNatClampNeg) h
            · have h := h.2 g18
              refine x_aload_n C dG_walk_128 rfl 1 rfl ?_
              refine x_aload_n C dG_walk_129 rfl 1 rfl ?_
              refine x_aload_n C dG_walk_130 rfl 1 rfl ?_
              refine gf_5_2 C (List.mem_cons_of_mem _ wm143) dG_walk_131 ?_
              refine x_iload_n C dG_walk_134 rfl 0 rfl ?_
              obtain ⟨g25, h⟩ := h
              refine y_ia C 23 (by decide) g25 dG_walk_135 ?_
              refine kG_settled C wm486 ⟨Nat.le_of_ble_eq_true rfl, Nat.le_of_ble_eq_true rfl⟩ (Nat.le_of_ble_eq_true rfl) dG_walk_136 ⟨Nat.zero_le _, Nat.zero_le _⟩ h (fun z26 r27 h => ?_)
              refine kG_push C wm481 ⟨Nat.le_of_ble_eq_true rfl, Nat.le_of_ble_eq_true rfl⟩ (Nat.le_of_ble_eq_true rfl) dG_walk_139 ⟨Nat.zero_le _, Nat.zero_le _⟩ h (fun r28 h => ?_)
              refine x_sub [1, 2, 0] rfl ?_
              exact tG_walk_J142 C kB16 kX172 r28 v2 (ar r7 31 (fi r7 14).toNatClampNeg) h
          · have h := h.2 g11
            refine x_goto (tgt := 166) C dG_walk_91 (by decide) ?_
            refine x_sub [1, 2] rfl ?_
            exact tG_walk_J166 C kB16 kX172 r7 v2 h
        · have h := h.2 g9
          refine x_aload_n C dG_walk_53 rfl 1 rfl ?_
          refine gf_5_10 C (List.mem_cons_of_mem _ wm158) dG_walk_54 ?_
          refine x_aload_n C dG_walk_57 rfl 1 rfl ?_
          refine gf_5_11 C (List.mem_cons_of_mem _ wm161) dG_walk_58 ?_
          refine x_iconst (v := (-1)) C dG_walk_61 (by decide) ?_
          refine x_iload_n C dG_walk_62 rfl 0 rfl ?_
          refine x_isub C dG_walk_63 ?_
          obtain ⟨g29, h⟩ := h
          refine y_is C 30 (by decide) g29 dG_walk_64 (fun r30 er30 => ?_)
          have h := h r30 er30
          refine x_aload_n C dG_walk_65 rfl 1 rfl ?_
          refine x_dup C dG_walk_66 rfl ?_
          refine gf_5_11 C (List.mem_cons_of_mem _ wm161) dG_walk_67 ?_
          refine x_iconst (v := 1) C dG_walk_70 (by decide) ?_
          refine x_iadd C dG_walk_71 ?_
          refine pf_5_11 C (List.mem_cons_of_mem _ wm161) dG_walk_72 (fun r31 er31 => ?_)
          have h := h r31 er31
          refine x_goto (tgt := 166) C dG_walk_75 (by decide) ?_
          refine x_sub [1, 2] rfl ?_
          exact tG_walk_J166 C kB16 kX172 r31 v2 h
def qG_walk (a : L_) (K : S_ → Prop) (r : S_) (p0 : Int32) : Prop :=
  ∀ r1 : S_, r1 = sF r 14 0 → qG_settled a (fun z2 r3 => qG_push a (fun r4 => ∃ n32 : Nat, qG_walk_L16 a (fun r => K r) n32 r4 0) r3 z2) r1 p0
set_option maxRecDepth 100000 in
set_option maxHeartbeats 4000000 in
theorem cG_walk {a : L_} {r : S_} {K : S_ → Prop} (p0 : Int32) (h : qG_walk a K r p0) : vx_Mv l yG_walk (Cond.code yG_walk prog_4_method_15_code 4 none :: wAll) { frames := 1, cells := 0, slots := 0, locals := 23 } D vwCl (tysG G) nwAll (wo G a r) [.ref (ob G 5), .int p0] 0 0 (fun w => ∃ r1, w = wo G a r1 ∧ K r1) := by
  unfold qG_walk at h
  refine x_metv (cc := prog_4_method_15_code) (maxL := 4) (ret := none) (lv0 := [(0, .ref (ob G 5)), (1, .int p0)]) (by decide) rfl (Nat.le_of_ble_eq_true rfl) rfl ?_
  intro p e s m args below meth c A C hA hlocks hr
  refine x_aload_n C dG_walk_0 rfl 0 rfl ?_
  refine x_iconst (v := 0) C dG_walk_1 (by decide) ?_
  refine pf_5_14 C (List.mem_cons_of_mem _ wm164) dG_walk_2 (fun r1 er1 => ?_)
  have h := h r1 er1
  refine x_aload_n C dG_walk_5 rfl 0 rfl ?_
  refine x_aload_n C dG_walk_6 rfl 0 rfl ?_
  refine x_iload_n C dG_walk_7 rfl 1 rfl ?_
  refine kG_settled C wm486 ⟨Nat.le_of_ble_eq_true rfl, Nat.le_of_ble_eq_true rfl⟩ (Nat.le_of_ble_eq_true rfl) dG_walk_8 ⟨Nat.zero_le _, Nat.zero_le _⟩ h (fun z2 r3 h => ?_)
  refine kG_push C wm481 ⟨Nat.le_of_ble_eq_true rfl, Nat.le_of_ble_eq_true rfl⟩ (Nat.le_of_ble_eq_true rfl) dG_walk_11 ⟨Nat.zero_le _, Nat.zero_le _⟩ h (fun r4 h => ?_)
  refine x_iconst (v := 0) C dG_walk_14 (by decide) ?_
  refine x_istore_n C [(2, .int 0), (0, .ref (ob G 5)), (1, .int p0)] dG_walk_15 rfl (by decide) rfl ?_
  obtain ⟨n32, h⟩ := h
  refine x_sub [1, 0] rfl ?_
  refine tG_walk_L16 C (fun r h => ?_) n32 r4 0 h
  · exact x_vret C hA hlocks hr ⟨r, rfl, h⟩ dG_walk_172
set_option maxRecDepth 100000 in
set_option maxHeartbeats 4000000 in
theorem kG_walk {p : Program} {l : Launch} {e : Env} {R : Room} {s : State} {m : MethodId} {args : Array Value} {below : List Frame} {meth : Method} {c : Code} {cells slots : Nat} {Q : State → Prop} {A : Nat → Prop} {D : va_G} {nL pc : Nat} {cc : ByteArray} {cw : Cond} {own : String} {lv : List (Nat × Value)} {st : List Value} {G : G_} {a : L_} {r : S_} {K : S_ → Prop} {p0 : Int32} (C : vx_C p s m args c cc nL (cw :: wAll) own D vwCl (tysG G) nwAll A) {i : Nat} (hl : Cond.methodLink own i yG_walk ∈ wAll) (hR : 1 + 1 ≤ R.frames ∧ 8 + (4 + 11) + 23 ≤ R.locals) (hst : (st.map fun v => v.category).sum ≤ 8) (hd : decode cc pc = .ok (.invokevirtual i, 3)) (hcs : cells ≤ R.cells ∧ slots ≤ R.slots) (h : qG_walk a K r p0) (k : ∀ (r1 : S_), K r1 → vx_V p l e R s m args below meth c A D vwCl nL cells slots Q (wo G a r1) (pc + 3) lv st) : vx_V p l e R s m args below meth c A D vwCl nL cells slots Q (wo G a r) pc lv (.int p0 :: .ref (ob G 5) :: st) := by
  refine x_callVv C (CC := "ClassInference$Graph") (ci := 5) (q0 := 5) (fs := fl5 G a r) (As := [.int p0]) rfl rfl (cG_walk p0 h) (cwV (C := "ClassInference$Graph") 1 C.1.2.2.2.2 (goodV hl wm519 wm520 wm7 wm521) rfl rfl rfl (by decide +kernel) hR) rfl hst hd hcs (fun w hw => ?_)
  obtain ⟨r1, rfl, h⟩ := hw
  exact k r1 h
def qY_markBound_J40 (a : L_) (KB9 : S_ → Int32 → Prop) (KX46 : S_ → Prop) (r : S_) (v1 : Int32) : Prop :=
  KB9 r (v1 + 1)
set_option maxRecDepth 100000 in
set_option maxHeartbeats 4000000 in
theorem tY_markBound_J40 (C : vx_C p s m args c prog_7_method_14_code 2 (Cond.code yY_markBound prog_7_method_14_code 2 none :: wAll) "ClassInference$Typer" D vwCl (tysG G) nwAll A) {a : L_} {KB9 : S_ → Int32 → Prop} {KX46 : S_ → Prop} (kB9 : ∀ (r : S_) (v1 : Int32), KB9 r v1 → vx_V p l e { frames := 2, cells := 0, slots := 0, locals := 46 } s m args below meth c A D vwCl 2 0 0 Q (wo G a r) 9 [(0, .ref (ob G 4)), (1, .int v1)] []) (kX46 : ∀ (r : S_), KX46 r → vx_V p l e { frames := 2, cells := 0, slots := 0, locals := 46 } s m args below meth c A D vwCl 2 0 0 Q (wo G a r) 46 [(0, .ref (ob G 4))] []) (r : S_) (v1 : Int32) (h : qY_markBound_J40 a KB9 KX46 r v1) : vx_V p l e { frames := 2, cells := 0, slots := 0, locals := 46 } s m args below meth c A D vwCl 2 0 0 Q (wo G a r) 40 [(0, .ref (ob G 4)), (1, .int v1)] [] := by
  unfold qY_markBound_J40 at h
  refine x_iinc (j := 1) (v := v1 + 1) C [(1, .int (v1 + 1)), (0, .ref (ob G 4))] dY_markBound_40 rfl rfl (by decide) rfl ?_
  refine x_goto (tgt := 9) C dY_markBound_43 (by decide) ?_
  refine x_sub [1, 0] rfl ?_
  exact kB9 r (v1 + 1) h
def qY_markBound_L9 (a : L_) (KX46 : S_ → Prop) : Nat → S_ → Int32 → Prop
  | 0, _, _ => False
  | n + 1, r, v1 => (((fi r 5) ≤ v1) → KX46 r) ∧ ((¬ (fi r 5) ≤ v1) → vp_in v1 (ln a 19) ∧ ((¬ (ar r 19 v1.toNatClampNeg) = (-1)) → qY_markBound_J40 a (qY_markBound_L9 a KX46 n) KX46 r v1) ∧ (((ar r 19 v1.toNatClampNeg) = (-1)) → vp_in v1 (ln a 18) ∧ qG_walk a (fun r6 => qY_markBound_J40 a (qY_markBound_L9 a KX46 n) KX46 r6 v1) r (ar r 18 v1.toNatClampNeg)))
set_option maxRecDepth 100000 in
set_option maxHeartbeats 4000000 in
theorem tY_markBound_L9 (C : vx_C p s m args c prog_7_method_14_code 2 (Cond.code yY_markBound prog_7_method_14_code 2 none :: wAll) "ClassInference$Typer" D vwCl (tysG G) nwAll A) {a : L_} {KX46 : S_ → Prop} (kX46 : ∀ (r : S_), KX46 r → vx_V p l e { frames := 2, cells := 0, slots := 0, locals := 46 } s m args below meth c A D vwCl 2 0 0 Q (wo G a r) 46 [(0, .ref (ob G 4))] []) : ∀ (n : Nat) (r : S_) (v1 : Int32), qY_markBound_L9 a KX46 n r v1 → vx_V p l e { frames := 2, cells := 0, slots := 0, locals := 46 } s m args below meth c A D vwCl 2 0 0 Q (wo G a r) 9 [(0, .ref (ob G 4)), (1, .int v1)] [] := by
  intro n
  induction n with
  | zero =>
    intro r v1 h
    exact (by rw [qY_markBound_L9] at h; exact h : False).elim
  | succ n kB9 =>
    intro r v1 h
    rw [qY_markBound_L9] at h
    refine x_iload_n C dY_markBound_9 rfl 1 rfl ?_
    refine x_aload_n C dY_markBound_10 rfl 0 rfl ?_
    refine gf_4_7 C (List.mem_cons_of_mem _ wm207) dY_markBound_11 ?_
    refine x_icmp_ge (tgt := 46) C dY_markBound_14 (by decide) (fun g2 => ?_) (fun g2 => ?_)
    · have h := h.1 g2
      refine x_sub [0] rfl ?_
      exact kX46 r h
    · have h := h.2 g2
      refine x_aload_n C dY_markBound_17 rfl 0 rfl ?_
      refine gf_4_6 C (List.mem_cons_of_mem _ wm206) dY_markBound_18 ?_
      refine x_iload_n C dY_markBound_21 rfl 1 rfl ?_
      obtain ⟨g3, h⟩ := h
      refine y_ia C 19 (by decide) g3 dY_markBound_22 ?_
      refine x_iconst (v := (-1)) C dY_markBound_23 (by decide) ?_
      refine x_icmp_ne (tgt := 40) C dY_markBound_24 (by decide) (fun g4 => ?_) (fun g4 => ?_)
      · have h := h.1 g4
        refine x_sub [0, 1] rfl ?_
        exact tY_markBound_J40 C kB9 kX46 r v1 h
      · have h := h.2 g4
        refine x_aload_n C dY_markBound_27 rfl 0 rfl ?_
        refine gf_4_3 C (List.mem_cons_of_mem _ wm203) dY_markBound_28 ?_
        refine x_aload_n C dY_markBound_31 rfl 0 rfl ?_
        refine gf_4_5 C (List.mem_cons_of_mem _ wm205) dY_markBound_32 ?_
        refine x_iload_n C dY_markBound_35 rfl 1 rfl ?_
        obtain ⟨g5, h⟩ := h
        refine y_ia C 18 (by decide) g5 dY_markBound_36 ?_
        refine kG_walk C wm518 ⟨Nat.le_of_ble_eq_true rfl, Nat.le_of_ble_eq_true rfl⟩ (Nat.le_of_ble_eq_true rfl) dY_markBound_37 ⟨Nat.zero_le _, Nat.zero_le _⟩ h (fun r6 h => ?_)
        refine x_sub [0, 1] rfl ?_
        exact tY_markBound_J40 C kB9 kX46 r6 v1 h
def qY_markBound_L48 (a : L_) (KX86 : S_ → Prop) : Nat → S_ → Int32 → Prop
  | 0, _, _ => False
  | n + 1, r, v1 => (((fi r 12) ≤ v1) → KX86 r) ∧ ((¬ (fi r 12) ≤ v1) → vp_in v1 (ln a 30) ∧ vp_in (ar r 30 v1.toNatClampNeg) (ln a 27) ∧ ∀ r10 : S_, r10 = sA r 27 (upd (ar r 27) (ar r 30 v1.toNatClampNeg).toNatClampNeg (fi r 6)) → (qY_markBound_L48 a KX86 n) r10 (v1 + 1))
set_option maxRecDepth 100000 in
set_option maxHeartbeats 4000000 in
theorem tY_markBound_L48 (C : vx_C p s m args c prog_7_method_14_code 2 (Cond.code yY_markBound prog_7_method_14_code 2 none :: wAll) "ClassInference$Typer" D vwCl (tysG G) nwAll A) {a : L_} {KX86 : S_ → Prop} (kX86 : ∀ (r : S_), KX86 r → vx_V p l e { frames := 2, cells := 0, slots := 0, locals := 46 } s m args below meth c A D vwCl 2 0 0 Q (wo G a r) 86 [] []) : ∀ (n : Nat) (r : S_) (v1 : Int32), qY_markBound_L48 a KX86 n r v1 → vx_V p l e { frames := 2, cells := 0, slots := 0, locals := 46 } s m args below meth c A D vwCl 2 0 0 Q (wo G a r) 48 [(0, .ref (ob G 4)), (1, .int v1)] [] := by
  intro n
  induction n with
  | zero =>
    intro r v1 h
    exact (by rw [qY_markBound_L48] at h; exact h : False).elim
  | succ n kB48 =>
    intro r v1 h
    rw [qY_markBound_L48] at h
    refine x_iload_n C dY_markBound_48 rfl 1 rfl ?_
    refine x_aload_n C dY_markBound_49 rfl 0 rfl ?_
    refine gf_4_3 C (List.mem_cons_of_mem _ wm203) dY_markBound_50 ?_
    refine gn_5_11 C wn160 dY_markBound_53 ?_
    refine x_icmp_ge (tgt := 86) C dY_markBound_56 (by decide) (fun g7 => ?_) (fun g7 => ?_)
    · have h := h.1 g7
      refine x_sub [] rfl ?_
      exact kX86 r h
    · have h := h.2 g7
      refine x_aload_n C dY_markBound_59 rfl 0 rfl ?_
      refine gf_4_3 C (List.mem_cons_of_mem _ wm203) dY_markBound_60 ?_
      refine gn_5_6 C wn152 dY_markBound_63 ?_
      refine x_aload_n C dY_markBound_66 rfl 0 rfl ?_
      refine gf_4_3 C (List.mem_cons_of_mem _ wm203) dY_markBound_67 ?_
      refine gn_5_10 C wn159 dY_markBound_70 ?_
      refine x_iload_n C dY_markBound_73 rfl 1 rfl ?_
      obtain ⟨g8, h⟩ := h
      refine y_ia C 30 (by decide) g8 dY_markBound_74 ?_
      refine x_aload_n C dY_markBound_75 rfl 0 rfl ?_
      refine gf_4_9 C (List.mem_cons_of_mem _ wm209) dY_markBound_76 ?_
      obtain ⟨g9, h⟩ := h
      refine y_is C 27 (by decide) g9 dY_markBound_79 (fun r10 er10 => ?_)
      have h := h r10 er10
      refine x_iinc (j := 1) (v := v1 + 1) C [(1, .int (v1 + 1)), (0, .ref (ob G 4))] dY_markBound_80 rfl rfl (by decide) rfl ?_
      refine x_goto (tgt := 48) C dY_markBound_83 (by decide) ?_
      refine x_sub [1, 0] rfl ?_
      exact kB48 r10 (v1 + 1) h
def qY_markBound (a : L_) (K : S_ → Prop) (r : S_) : Prop :=
  qG_startWalk a (fun r1 => ∃ n12 : Nat, qY_markBound_L9 a (fun r => ∃ n11 : Nat, qY_markBound_L48 a (fun r => K r) n11 r 0) n12 r1 0) r
set_option maxRecDepth 100000 in
set_option maxHeartbeats 4000000 in
theorem cY_markBound {a : L_} {r : S_} {K : S_ → Prop} (h : qY_markBound a K r ) : vx_Mv l yY_markBound (Cond.code yY_markBound prog_7_method_14_code 2 none :: wAll) { frames := 2, cells := 0, slots := 0, locals := 46 } D vwCl (tysG G) nwAll (wo G a r) [.ref (ob G 4)] 0 0 (fun w => ∃ r1, w = wo G a r1 ∧ K r1) := by
  unfold qY_markBound at h
  refine x_metv (cc := prog_7_method_14_code) (maxL := 2) (ret := none) (lv0 := [(0, .ref (ob G 4))]) (by decide) rfl (Nat.le_of_ble_eq_true rfl) rfl ?_
  intro p e s m args below meth c A C hA hlocks hr
  refine x_aload_n C dY_markBound_0 rfl 0 rfl ?_
  refine gf_4_3 C (List.mem_cons_of_mem _ wm203) dY_markBound_1 ?_
  refine kG_startWalk C wm514 ⟨Nat.le_of_ble_eq_true rfl, Nat.le_of_ble_eq_true rfl⟩ (Nat.le_of_ble_eq_true rfl) dY_markBound_4 ⟨Nat.zero_le _, Nat.zero_le _⟩ h (fun r1 h => ?_)
  refine x_iconst (v := 0) C dY_markBound_7 (by decide) ?_
  refine x_istore_n C [(1, .int 0), (0, .ref (ob G 4))] dY_markBound_8 rfl (by decide) rfl ?_
  obtain ⟨n12, h⟩ := h
  refine x_sub [1, 0] rfl ?_
  refine tY_markBound_L9 C (fun r h => ?_) n12 r1 0 h
  · refine x_iconst (v := 0) C dY_markBound_46 (by decide) ?_
    refine x_istore_n C [(1, .int 0), (0, .ref (ob G 4))] dY_markBound_47 rfl (by decide) rfl ?_
    obtain ⟨n11, h⟩ := h
    refine x_sub [1, 0] rfl ?_
    refine tY_markBound_L48 C (fun r h => ?_) n11 r 0 h
    · exact x_vret C hA hlocks hr ⟨r, rfl, h⟩ dY_markBound_86
set_option maxRecDepth 100000 in
set_option maxHeartbeats 4000000 in
theorem kY_markBound {p : Program} {l : Launch} {e : Env} {R : Room} {s : State} {m : MethodId} {args : Array Value} {below : List Frame} {meth : Method} {c : Code} {cells slots : Nat} {Q : State → Prop} {A : Nat → Prop} {D : va_G} {nL pc : Nat} {cc : ByteArray} {cw : Cond} {own : String} {lv : List (Nat × Value)} {st : List Value} {G : G_} {a : L_} {r : S_} {K : S_ → Prop} (C : vx_C p s m args c cc nL (cw :: wAll) own D vwCl (tysG G) nwAll A) {i : Nat} (hl : Cond.methodLink own i yY_markBound ∈ wAll) (hR : 2 + 1 ≤ R.frames ∧ 8 + (2 + 11) + 46 ≤ R.locals) (hst : (st.map fun v => v.category).sum ≤ 8) (hd : decode cc pc = .ok (.invokevirtual i, 3)) (hcs : cells ≤ R.cells ∧ slots ≤ R.slots) (h : qY_markBound a K r ) (k : ∀ (r1 : S_), K r1 → vx_V p l e R s m args below meth c A D vwCl nL cells slots Q (wo G a r1) (pc + 3) lv st) : vx_V p l e R s m args below meth c A D vwCl nL cells slots Q (wo G a r) pc lv (.ref (ob G 4) :: st) := by
  refine x_callVv C (CC := "ClassInference$Typer") (ci := 4) (q0 := 4) (fs := fl4 G a r) (As := []) rfl rfl (cY_markBound  h) (cwV (C := "ClassInference$Typer") 0 C.1.2.2.2.2 (goodV hl wm512 wp17 wm6 wm513) rfl rfl rfl (by decide +kernel) hR) rfl hst hd hcs (fun w hw => ?_)
  obtain ⟨r1, rfl, h⟩ := hw
  exact k r1 h
def qG_isVariable (a : L_) (r : S_) (K : Int32 → Prop) (p0 : Int32) : Prop :=
  vp_in p0 (ln a 21) ∧ ((¬ (ar r 21 p0.toNatClampNeg) = (-1)) → zb 0 ∧ K 0) ∧ (((ar r 21 p0.toNatClampNeg) = (-1)) → zb 1 ∧ K 1)
set_option maxRecDepth 100000 in
set_option maxHeartbeats 4000000 in
theorem cG_isVariable {a : L_} {r : S_} {K : Int32 → Prop} (p0 : Int32) (h : qG_isVariable a r K p0) : vx_Mi l yG_isVariable (Cond.code yG_isVariable prog_4_method_5_code 2 (some .boolean) :: wAll) { frames := 0, cells := 0, slots := 0, locals := 0 } D vwCl (tysG G) nwAll (wo G a r) [.ref (ob G 5), .int p0] 0 0 (fun v w => w = wo G a r ∧ zb v ∧ K v) := by
  unfold qG_isVariable at h
  refine x_meti (cc := prog_4_method_5_code) (maxL := 2) (ret := (some .boolean)) (lv0 := [(0, .ref (ob G 5)), (1, .int p0)]) (by decide) rfl (Nat.le_of_ble_eq_true rfl) rfl ?_
  intro p e s m args below meth c A C hA hlocks hr
  refine x_aload_n C dG_isVariable_0 rfl 0 rfl ?_
  refine gf_5_0 C (List.mem_cons_of_mem _ wm139) dG_isVariable_1 ?_
  refine x_iload_n C dG_isVariable_4 rfl 1 rfl ?_
  obtain ⟨g1, h⟩ := h
  refine y_ia C 21 (by decide) g1 dG_isVariable_5 ?_
  refine x_iconst (v := (-1)) C dG_isVariable_6 (by decide) ?_
  refine x_icmp_ne (tgt := 14) C dG_isVariable_7 (by decide) (fun g2 => ?_) (fun g2 => ?_)
  · have h := h.1 g2
    refine x_iconst (v := 0) C dG_isVariable_14 (by decide) ?_
    obtain ⟨g3, h⟩ := h
    exact x_zret C hA hlocks hr (zb_n g3) ⟨rfl, g3, h⟩ dG_isVariable_15
  · have h := h.2 g2
    refine x_iconst (v := 1) C dG_isVariable_10 (by decide) ?_
    refine x_goto (tgt := 15) C dG_isVariable_11 (by decide) ?_
    obtain ⟨g4, h⟩ := h
    exact x_zret C hA hlocks hr (zb_n g4) ⟨rfl, g4, h⟩ dG_isVariable_15
set_option maxRecDepth 100000 in
set_option maxHeartbeats 4000000 in
theorem kG_isVariable {p : Program} {l : Launch} {e : Env} {R : Room} {s : State} {m : MethodId} {args : Array Value} {below : List Frame} {meth : Method} {c : Code} {cells slots : Nat} {Q : State → Prop} {A : Nat → Prop} {D : va_G} {nL pc : Nat} {cc : ByteArray} {cw : Cond} {own : String} {lv : List (Nat × Value)} {st : List Value} {G : G_} {a : L_} {r : S_} {K : Int32 → Prop} {p0 : Int32} (C : vx_C p s m args c cc nL (cw :: wAll) own D vwCl (tysG G) nwAll A) {i : Nat} (hl : Cond.methodLink own i yG_isVariable ∈ wAll) (hR : 0 + 1 ≤ R.frames ∧ 8 + (2 + 11) + 0 ≤ R.locals) (hst : (st.map fun v => v.category).sum ≤ 8) (hd : decode cc pc = .ok (.invokevirtual i, 3)) (hcs : cells ≤ R.cells ∧ slots ≤ R.slots) (h : qG_isVariable a r K p0) (k : ∀ (v : Int32), zb v → K v → vx_V p l e R s m args below meth c A D vwCl nL cells slots Q (wo G a r) (pc + 3) lv (.int v :: st)) : vx_V p l e R s m args below meth c A D vwCl nL cells slots Q (wo G a r) pc lv (.int p0 :: .ref (ob G 5) :: st) := by
  refine x_callVi C (CC := "ClassInference$Graph") (ci := 5) (q0 := 5) (fs := fl5 G a r) (As := [.int p0]) rfl rfl (cG_isVariable p0 h) (cwV (C := "ClassInference$Graph") 1 C.1.2.2.2.2 (goodV hl wm495 wm496 wm7 wm497) rfl rfl rfl (by decide +kernel) hR) rfl hst hd hcs (fun v w hw => ?_)
  obtain ⟨rfl, h⟩ := hw
  exact k v h.1 h.2
def qG_firstOf (a : L_) (K : Int32 → S_ → Prop) (r : S_) (p0 : Int32) : Prop :=
  vp_in p0 (ln a 22) ∧ ((¬ (ar r 22 p0.toNatClampNeg) = (-1)) → vp_in p0 (ln a 22) ∧ qG_settled a (fun z4 r5 => K z4 r5) r (ar r 22 p0.toNatClampNeg)) ∧ (((ar r 22 p0.toNatClampNeg) = (-1)) → K (-1) r)
set_option maxRecDepth 100000 in
set_option maxHeartbeats 4000000 in
theorem cG_firstOf {a : L_} {r : S_} {K : Int32 → S_ → Prop} (p0 : Int32) (h : qG_firstOf a K r p0) : vx_Mi l yG_firstOf (Cond.code yG_firstOf prog_4_method_7_code 2 (some .int) :: wAll) { frames := 1, cells := 0, slots := 0, locals := 23 } D vwCl (tysG G) nwAll (wo G a r) [.ref (ob G 5), .int p0] 0 0 (fun v w => ∃ r1, w = wo G a r1 ∧ K v r1) := by
  unfold qG_firstOf at h
  refine x_meti (cc := prog_4_method_7_code) (maxL := 2) (ret := (some .int)) (lv0 := [(0, .ref (ob G 5)), (1, .int p0)]) (by decide) rfl (Nat.le_of_ble_eq_true rfl) rfl ?_
  intro p e s m args below meth c A C hA hlocks hr
  refine x_aload_n C dG_firstOf_0 rfl 0 rfl ?_
  refine gf_5_1 C (List.mem_cons_of_mem _ wm141) dG_firstOf_1 ?_
  refine x_iload_n C dG_firstOf_4 rfl 1 rfl ?_
  obtain ⟨g1, h⟩ := h
  refine y_ia C 22 (by decide) g1 dG_firstOf_5 ?_
  refine x_iconst (v := (-1)) C dG_firstOf_6 (by decide) ?_
  refine x_icmp_ne (tgt := 14) C dG_firstOf_7 (by decide) (fun g2 => ?_) (fun g2 => ?_)
  · have h := h.1 g2
    refine x_aload_n C dG_firstOf_14 rfl 0 rfl ?_
    refine x_aload_n C dG_firstOf_15 rfl 0 rfl ?_
    refine gf_5_1 C (List.mem_cons_of_mem _ wm141) dG_firstOf_16 ?_
    refine x_iload_n C dG_firstOf_19 rfl 1 rfl ?_
    obtain ⟨g3, h⟩ := h
    refine y_ia C 22 (by decide) g3 dG_firstOf_20 ?_
    refine kG_settled C wm486 ⟨Nat.le_of_ble_eq_true rfl, Nat.le_of_ble_eq_true rfl⟩ (Nat.le_of_ble_eq_true rfl) dG_firstOf_21 ⟨Nat.zero_le _, Nat.zero_le _⟩ h (fun z4 r5 h => ?_)
    exact x_iret C hA hlocks hr ⟨r5, rfl, h⟩ dG_firstOf_24
  · have h := h.2 g2
    refine x_iconst (v := (-1)) C dG_firstOf_10 (by decide) ?_
    refine x_goto (tgt := 24) C dG_firstOf_11 (by decide) ?_
    exact x_iret C hA hlocks hr ⟨r, rfl, h⟩ dG_firstOf_24
set_option maxRecDepth 100000 in
set_option maxHeartbeats 4000000 in
theorem kG_firstOf {p : Program} {l : Launch} {e : Env} {R : Room} {s : State} {m : MethodId} {args : Array Value} {below : List Frame} {meth : Method} {c : Code} {cells slots : Nat} {Q : State → Prop} {A : Nat → Prop} {D : va_G} {nL pc : Nat} {cc : ByteArray} {cw : Cond} {own : String} {lv : List (Nat × Value)} {st : List Value} {G : G_} {a : L_} {r : S_} {K : Int32 → S_ → Prop} {p0 : Int32} (C : vx_C p s m args c cc nL (cw :: wAll) own D vwCl (tysG G) nwAll A) {i : Nat} (hl : Cond.methodLink own i yG_firstOf ∈ wAll) (hR : 1 + 1 ≤ R.frames ∧ 8 + (2 + 11) + 23 ≤ R.locals) (hst : (st.map fun v => v.category).sum ≤ 8) (hd : decode cc pc = .ok (.invokevirtual i, 3)) (hcs : cells ≤ R.cells ∧ slots ≤ R.slots) (h : qG_firstOf a K r p0) (k : ∀ (v : Int32) (r1 : S_), K v r1 → vx_V p l e R s m args below meth c A D vwCl nL cells slots Q (wo G a r1) (pc + 3) lv (.int v :: st)) : vx_V p l e R s m args below meth c A D vwCl nL cells slots Q (wo G a r) pc lv (.int p0 :: .ref (ob G 5) :: st) := by
  refine x_callVi C (CC := "ClassInference$Graph") (ci := 5) (q0 := 5) (fs := fl5 G a r) (As := [.int p0]) rfl rfl (cG_firstOf p0 h) (cwV (C := "ClassInference$Graph") 1 C.1.2.2.2.2 (goodV hl wm528 wm529 wm7 wm530) rfl rfl rfl (by decide +kernel) hR) rfl hst hd hcs (fun v w hw => ?_)
  obtain ⟨r1, rfl, h⟩ := hw
  exact k v r1 h
def qY_holdsOpen (a : L_) (r : S_) (K : Int32 → Prop) (p0 : Int32) : Prop :=
  ((p0 = (-1)) → zb 0 ∧ K 0) ∧ ((¬ p0 = (-1)) → vp_in p0 (ln a 26) ∧ ((¬ (ar r 26 p0.toNatClampNeg) = 1) → zb 0 ∧ K 0) ∧ (((ar r 26 p0.toNatClampNeg) = 1) → zb 1 ∧ K 1))
set_option maxRecDepth 100000 in
set_option maxHeartbeats 4000000 in
theorem cY_holdsOpen {a : L_} {r : S_} {K : Int32 → Prop} (p0 : Int32) (h : qY_holdsOpen a r K p0) : vx_Mi l yY_holdsOpen (Cond.code yY_holdsOpen prog_7_method_16_code 2 (some .boolean) :: wAll) { frames := 0, cells := 0, slots := 0, locals := 0 } D vwCl (tysG G) nwAll (wo G a r) [.ref (ob G 4), .int p0] 0 0 (fun v w => w = wo G a r ∧ zb v ∧ K v) := by
  unfold qY_holdsOpen at h
  refine x_meti (cc := prog_7_method_16_code) (maxL := 2) (ret := (some .boolean)) (lv0 := [(0, .ref (ob G 4)), (1, .int p0)]) (by decide) rfl (Nat.le_of_ble_eq_true rfl) rfl ?_
  intro p e s m args below meth c A C hA hlocks hr
  refine x_iload_n C dY_holdsOpen_0 rfl 1 rfl ?_
  refine x_iconst (v := (-1)) C dY_holdsOpen_1 (by decide) ?_
  refine x_icmp_eq (tgt := 22) C dY_holdsOpen_2 (by decide) (fun g1 => ?_) (fun g1 => ?_)
  · have h := h.1 g1
    refine x_iconst (v := 0) C dY_holdsOpen_22 (by decide) ?_
    obtain ⟨g2, h⟩ := h
    exact x_zret C hA hlocks hr (zb_n g2) ⟨rfl, g2, h⟩ dY_holdsOpen_23
  · have h := h.2 g1
    refine x_aload_n C dY_holdsOpen_5 rfl 0 rfl ?_
    refine gf_4_3 C (List.mem_cons_of_mem _ wm203) dY_holdsOpen_6 ?_
    refine gn_5_5 C wn150 dY_holdsOpen_9 ?_
    refine x_iload_n C dY_holdsOpen_12 rfl 1 rfl ?_
    obtain ⟨g3, h⟩ := h
    refine y_ia C 26 (by decide) g3 dY_holdsOpen_13 ?_
    refine x_iconst (v := 1) C dY_holdsOpen_14 (by decide) ?_
    refine x_icmp_ne (tgt := 22) C dY_holdsOpen_15 (by decide) (fun g4 => ?_) (fun g4 => ?_)
    · have h := h.1 g4
      refine x_iconst (v := 0) C dY_holdsOpen_22 (by decide) ?_
      obtain ⟨g5, h⟩ := h
      exact x_zret C hA hlocks hr (zb_n g5) ⟨rfl, g5, h⟩ dY_holdsOpen_23
    · have h := h.2 g4
      refine x_iconst (v := 1) C dY_holdsOpen_18 (by decide) ?_
      refine x_goto (tgt := 23) C dY_holdsOpen_19 (by decide) ?_
      obtain ⟨g6, h⟩ := h
      exact x_zret C hA hlocks hr (zb_n g6) ⟨rfl, g6, h⟩ dY_holdsOpen_23
set_option maxRecDepth 100000 in
set_option maxHeartbeats 4000000 in
theorem kY_holdsOpen {p : Program} {l : Launch} {e : Env} {R : Room} {s : State} {m : MethodId} {args : Array Value} {below : List Frame} {meth : Method} {c : Code} {cells slots : Nat} {Q : State → Prop} {A : Nat → Prop} {D : va_G} {nL pc : Nat} {cc : ByteArray} {cw : Cond} {own : String} {lv : List (Nat × Value)} {st : List Value} {G : G_} {a : L_} {r : S_} {K : Int32 → Prop} {p0 : Int32} (C : vx_C p s m args c cc nL (cw :: wAll) own D vwCl (tysG G) nwAll A) {i : Nat} (hl : Cond.methodLink own i yY_holdsOpen ∈ wAll) (hR : 0 + 1 ≤ R.frames ∧ 8 + (2 + 11) + 0 ≤ R.locals) (hst : (st.map fun v => v.category).sum ≤ 8) (hd : decode cc pc = .ok (.invokevirtual i, 3)) (hcs : cells ≤ R.cells ∧ slots ≤ R.slots) (h : qY_holdsOpen a r K p0) (k : ∀ (v : Int32), zb v → K v → vx_V p l e R s m args below meth c A D vwCl nL cells slots Q (wo G a r) (pc + 3) lv (.int v :: st)) : vx_V p l e R s m args below meth c A D vwCl nL cells slots Q (wo G a r) pc lv (.int p0 :: .ref (ob G 4) :: st) := by
  refine x_callVi C (CC := "ClassInference$Typer") (ci := 4) (q0 := 4) (fs := fl4 G a r) (As := [.int p0]) rfl rfl (cY_holdsOpen p0 h) (cwV (C := "ClassInference$Typer") 1 C.1.2.2.2.2 (goodV hl wm533 wp19 wm6 wm534) rfl rfl rfl (by decide +kernel) hR) rfl hst hd hcs (fun v w hw => ?_)
  obtain ⟨rfl, h⟩ := hw
  exact k v h.1 h.2
def qG_secondOf (a : L_) (K : Int32 → S_ → Prop) (r : S_) (p0 : Int32) : Prop :=
  vp_in p0 (ln a 23) ∧ ((¬ (ar r 23 p0.toNatClampNeg) = (-1)) → vp_in p0 (ln a 23) ∧ qG_settled a (fun z4 r5 => K z4 r5) r (ar r 23 p0.toNatClampNeg)) ∧ (((ar r 23 p0.toNatClampNeg) = (-1)) → K (-1) r)
set_option maxRecDepth 100000 in
set_option maxHeartbeats 4000000 in
theorem cG_secondOf {a : L_} {r : S_} {K : Int32 → S_ → Prop} (p0 : Int32) (h : qG_secondOf a K r p0) : vx_Mi l yG_secondOf (Cond.code yG_secondOf prog_4_method_8_code 2 (some .int) :: wAll) { frames := 1, cells := 0, slots := 0, locals := 23 } D vwCl (tysG G) nwAll (wo G a r) [.ref (ob G 5), .int p0] 0 0 (fun v w => ∃ r1, w = wo G a r1 ∧ K v r1) := by
  unfold qG_secondOf at h
  refine x_meti (cc := prog_4_method_8_code) (maxL := 2) (ret := (some .int)) (lv0 := [(0, .ref (ob G 5)), (1, .int p0)]) (by decide) rfl (Nat.le_of_ble_eq_true rfl) rfl ?_
  intro p e s m args below meth c A C hA hlocks hr
  refine x_aload_n C dG_secondOf_0 rfl 0 rfl ?_
  refine gf_5_2 C (List.mem_cons_of_mem _ wm143) dG_secondOf_1 ?_
  refine x_iload_n C dG_secondOf_4 rfl 1 rfl ?_
  obtain ⟨g1, h⟩ := h
  refine y_ia C 23 (by decide) g1 dG_secondOf_5 ?_
  refine x_iconst (v := (-1)) C dG_secondOf_6 (by decide) ?_
  refine x_icmp_ne (tgt := 14) C dG_secondOf_7 (by decide) (fun g2 => ?_) (fun g2 => ?_)
  · have h := h.1 g2
    refine x_aload_n C dG_secondOf_14 rfl 0 rfl ?_
    refine x_aload_n C dG_secondOf_15 rfl 0 rfl ?_
    refine gf_5_2 C (List.mem_cons_of_mem _ wm143) dG_secondOf_16 ?_
    refine x_iload_n C dG_secondOf_19 rfl 1 rfl ?_
    obtain ⟨g3, h⟩ := h
    refine y_ia C 23 (by decide) g3 dG_secondOf_20 ?_
    refine kG_settled C wm486 ⟨Nat.le_of_ble_eq_true rfl, Nat.le_of_ble_eq_true rfl⟩ (Nat.le_of_ble_eq_true rfl) dG_secondOf_21 ⟨Nat.zero_le _, Nat.zero_le _⟩ h (fun z4 r5 h => ?_)
    exact x_iret C hA hlocks hr ⟨r5, rfl, h⟩ dG_secondOf_24
  · have h := h.2 g2
    refine x_iconst (v := (-1)) C dG_secondOf_10 (by decide) ?_
    refine x_goto (tgt := 24) C dG_secondOf_11 (by decide) ?_
    exact x_iret C hA hlocks hr ⟨r, rfl, h⟩ dG_secondOf_24
set_option maxRecDepth 100000 in
set_option maxHeartbeats 4000000 in
theorem kG_secondOf {p : Program} {l : Launch} {e : Env} {R : Room} {s : State} {m : MethodId} {args : Array Value} {below : List Frame} {meth : Method} {c : Code} {cells slots : Nat} {Q : State → Prop} {A : Nat → Prop} {D : va_G} {nL pc : Nat} {cc : ByteArray} {cw : Cond} {own : String} {lv : List (Nat × Value)} {st : List Value} {G : G_} {a : L_} {r : S_} {K : Int32 → S_ → Prop} {p0 : Int32} (C : vx_C p s m args c cc nL (cw :: wAll) own D vwCl (tysG G) nwAll A) {i : Nat} (hl : Cond.methodLink own i yG_secondOf ∈ wAll) (hR : 1 + 1 ≤ R.frames ∧ 8 + (2 + 11) + 23 ≤ R.locals) (hst : (st.map fun v => v.category).sum ≤ 8) (hd : decode cc pc = .ok (.invokevirtual i, 3)) (hcs : cells ≤ R.cells ∧ slots ≤ R.slots) (h : qG_secondOf a K r p0) (k : ∀ (v : Int32) (r1 : S_), K v r1 → vx_V p l e R s m args below meth c A D vwCl nL cells slots Q (wo G a r1) (pc + 3) lv (.int v :: st)) : vx_V p l e R s m args below meth c A D vwCl nL cells slots Q (wo G a r) pc lv (.int p0 :: .ref (ob G 5) :: st) := by
  refine x_callVi C (CC := "ClassInference$Graph") (ci := 5) (q0 := 5) (fs := fl5 G a r) (As := [.int p0]) rfl rfl (cG_secondOf p0 h) (cwV (C := "ClassInference$Graph") 1 C.1.2.2.2.2 (goodV hl wm536 wm537 wm7 wm538) rfl rfl rfl (by decide +kernel) hR) rfl hst hd hcs (fun v w hw => ?_)
  obtain ⟨r1, rfl, h⟩ := hw
  exact k v r1 h
end MTH
