section MTH
variable {p : Program} {l : Launch} {e : Env} {s : State} {m : MethodId} {args : Array Value} {below : List Frame} {meth : Method} {c : Code} {Q : State → Prop} {A : Nat → Prop} {D : va_G} {G : G_} {ws0 : va_W}
def qM_spread_J165 (a : L_) (KB15 : S_ → Int32 → Prop) (KX171 : S_ → Prop) (r : S_) (v3 : Int32) : Prop :=
  KB15 r (v3 + 1)
set_option maxRecDepth 100000 in
set_option maxHeartbeats 4000000 in
theorem tM_spread_J165 (C : vx_C p s m args c prog_9_method_20_code 5 (Cond.code yM_spread prog_9_method_20_code 5 none :: wAll) "ClassInferenceModel" D vwCl (tysG G) nwAll A) {a : L_} {KB15 : S_ → Int32 → Prop} {KX171 : S_ → Prop} (kB15 : ∀ (r : S_) (v3 : Int32), KB15 r v3 → vx_V p l e { frames := 1, cells := 0, slots := 0, locals := 23 } s m args below meth c A D vwCl 5 0 0 Q (wo G a r) 15 [(0, .ref (ob G 7)), (3, .int v3)] []) (kX171 : ∀ (r : S_), KX171 r → vx_V p l e { frames := 1, cells := 0, slots := 0, locals := 23 } s m args below meth c A D vwCl 5 0 0 Q (wo G a r) 171 [] []) (r : S_) (v3 : Int32) (h : qM_spread_J165 a KB15 KX171 r v3) : vx_V p l e { frames := 1, cells := 0, slots := 0, locals := 23 } s m args below meth c A D vwCl 5 0 0 Q (wo G a r) 165 [(0, .ref (ob G 7)), (3, .int v3)] [] := by
  unfold qM_spread_J165 at h
  refine x_iinc (j := 1) (v := v3 + 1) C [(3, .int (v3 + 1)), (0, .ref (ob G 7))] dM_spread_165 rfl rfl (by decide) rfl ?_
  refine x_goto (tgt := 15) C dM_spread_168 (by decide) ?_
  refine x_sub [1, 0] rfl ?_
  exact kB15 r (v3 + 1) h
def qM_spread_L15 (a : L_) (KX171 : S_ → Prop) : Nat → S_ → Int32 → Prop
  | 0, _, _ => False
  | n + 1, r, v3 => (((fi r 26) ≤ v3) → KX171 r) ∧ ((¬ (fi r 26) ≤ v3) → vp_in v3 (ln a 50) ∧ vp_in (ar r 50 v3.toNatClampNeg) (ln a 45) ∧ ((¬ (ar r 45 (ar r 50 v3.toNatClampNeg).toNatClampNeg) = 1) → vp_in (ar r 50 v3.toNatClampNeg) (ln a 45) ∧ ((¬ (ar r 45 (ar r 50 v3.toNatClampNeg).toNatClampNeg) = 2) → vp_in (ar r 50 v3.toNatClampNeg) (ln a 45) ∧ ((¬ (ar r 45 (ar r 50 v3.toNatClampNeg).toNatClampNeg) = 3) → qM_spread_J165 a (qM_spread_L15 a KX171 n) KX171 r v3) ∧ (((ar r 45 (ar r 50 v3.toNatClampNeg).toNatClampNeg) = 3) → vp_in (ar r 50 v3.toNatClampNeg) (ln a 47) ∧ qM_addNode a (fun z13 r14 => vp_in v3 (ln a 53) ∧ ∀ r16 : S_, r16 = sA r14 53 (upd (ar r14 53) v3.toNatClampNeg z13) → vp_in (ar r 50 v3.toNatClampNeg) (ln a 48) ∧ qM_addNode a (fun z18 r19 => vp_in v3 (ln a 54) ∧ ∀ r21 : S_, r21 = sA r19 54 (upd (ar r19 54) v3.toNatClampNeg z18) → qM_spread_J165 a (qM_spread_L15 a KX171 n) KX171 r21 v3) r16 (ar r16 48 (ar r 50 v3.toNatClampNeg).toNatClampNeg) v3 1) r (ar r 47 (ar r 50 v3.toNatClampNeg).toNatClampNeg) v3 0)) ∧ (((ar r 45 (ar r 50 v3.toNatClampNeg).toNatClampNeg) = 2) → vp_in (ar r 50 v3.toNatClampNeg) (ln a 46) ∧ qM_addNode a (fun z23 r24 => vp_in v3 (ln a 53) ∧ ∀ r26 : S_, r26 = sA r24 53 (upd (ar r24 53) v3.toNatClampNeg z23) → vp_in (ar r 50 v3.toNatClampNeg) (ln a 47) ∧ qM_addNode a (fun z28 r29 => vp_in v3 (ln a 54) ∧ ∀ r31 : S_, r31 = sA r29 54 (upd (ar r29 54) v3.toNatClampNeg z28) → qM_spread_J165 a (qM_spread_L15 a KX171 n) KX171 r31 v3) r26 (ar r26 47 (ar r 50 v3.toNatClampNeg).toNatClampNeg) v3 1) r (ar r 46 (ar r 50 v3.toNatClampNeg).toNatClampNeg) v3 0)) ∧ (((ar r 45 (ar r 50 v3.toNatClampNeg).toNatClampNeg) = 1) → vp_in (ar r 50 v3.toNatClampNeg) (ln a 47) ∧ qM_addNode a (fun z33 r34 => vp_in v3 (ln a 53) ∧ ∀ r36 : S_, r36 = sA r34 53 (upd (ar r34 53) v3.toNatClampNeg z33) → qM_spread_J165 a (qM_spread_L15 a KX171 n) KX171 r36 v3) r (ar r 47 (ar r 50 v3.toNatClampNeg).toNatClampNeg) v3 0))
set_option maxRecDepth 100000 in
set_option maxHeartbeats 4000000 in
theorem tM_spread_L15 (C : vx_C p s m args c prog_9_method_20_code 5 (Cond.code yM_spread prog_9_method_20_code 5 none :: wAll) "ClassInferenceModel" D vwCl (tysG G) nwAll A) {a : L_} {KX171 : S_ → Prop} (kX171 : ∀ (r : S_), KX171 r → vx_V p l e { frames := 1, cells := 0, slots := 0, locals := 23 } s m args below meth c A D vwCl 5 0 0 Q (wo G a r) 171 [] []) : ∀ (n : Nat) (r : S_) (v3 : Int32), qM_spread_L15 a KX171 n r v3 → vx_V p l e { frames := 1, cells := 0, slots := 0, locals := 23 } s m args below meth c A D vwCl 5 0 0 Q (wo G a r) 15 [(0, .ref (ob G 7)), (3, .int v3)] [] := by
  intro n
  induction n with
  | zero =>
    intro r v3 h
    exact (by rw [qM_spread_L15] at h; exact h : False).elim
  | succ n kB15 =>
    intro r v3 h
    rw [qM_spread_L15] at h
    refine x_iload_n C dM_spread_15 rfl 1 rfl ?_
    refine x_aload_n C dM_spread_16 rfl 0 rfl ?_
    refine gf_7_21 C (List.mem_cons_of_mem _ wm737) dM_spread_17 ?_
    refine x_icmp_ge (tgt := 171) C dM_spread_20 (by decide) (fun g4 => ?_) (fun g4 => ?_)
    · have h := h.1 g4
      refine x_sub [] rfl ?_
      exact kX171 r h
    · have h := h.2 g4
      refine x_aload_n C dM_spread_23 rfl 0 rfl ?_
      refine gf_7_22 C (List.mem_cons_of_mem _ wm738) dM_spread_24 ?_
      refine x_iload_n C dM_spread_27 rfl 1 rfl ?_
      obtain ⟨g5, h⟩ := h
      refine y_ia C 50 (by decide) g5 dM_spread_28 ?_
      refine x_istore C [(4, .int (ar r 50 v3.toNatClampNeg)), (0, .ref (ob G 7)), (3, .int v3)] dM_spread_29 (by decide) rfl ?_
      refine x_aload_n C dM_spread_31 rfl 1 rfl ?_
      refine gf_7_16 C (List.mem_cons_of_mem _ wm732) dM_spread_32 ?_
      refine x_iload C dM_spread_35 0 rfl ?_
      obtain ⟨g6, h⟩ := h
      refine y_ia C 45 (by decide) g6 dM_spread_37 ?_
      refine x_iconst (v := 1) C dM_spread_38 (by decide) ?_
      refine x_icmp_ne (tgt := 64) C dM_spread_39 (by decide) (fun g7 => ?_) (fun g7 => ?_)
      · have h := h.1 g7
        refine x_aload_n C dM_spread_64 rfl 1 rfl ?_
        refine gf_7_16 C (List.mem_cons_of_mem _ wm732) dM_spread_65 ?_
        refine x_iload C dM_spread_68 0 rfl ?_
        obtain ⟨g8, h⟩ := h
        refine y_ia C 45 (by decide) g8 dM_spread_70 ?_
        refine x_iconst (v := 2) C dM_spread_71 (by decide) ?_
        refine x_icmp_ne (tgt := 116) C dM_spread_72 (by decide) (fun g9 => ?_) (fun g9 => ?_)
        · have h := h.1 g9
          refine x_aload_n C dM_spread_116 rfl 1 rfl ?_
          refine gf_7_16 C (List.mem_cons_of_mem _ wm732) dM_spread_117 ?_
          refine x_iload C dM_spread_120 0 rfl ?_
          obtain ⟨g10, h⟩ := h
          refine y_ia C 45 (by decide) g10 dM_spread_122 ?_
          refine x_iconst (v := 3) C dM_spread_123 (by decide) ?_
          refine x_icmp_ne (tgt := 165) C dM_spread_124 (by decide) (fun g11 => ?_) (fun g11 => ?_)
          · have h := h.1 g11
            refine x_sub [1, 2] rfl ?_
            exact tM_spread_J165 C kB15 kX171 r v3 h
          · have h := h.2 g11
            refine x_aload_n C dM_spread_127 rfl 1 rfl ?_
            refine gf_7_25 C (List.mem_cons_of_mem _ wm741) dM_spread_128 ?_
            refine x_iload_n C dM_spread_131 rfl 2 rfl ?_
            refine x_aload_n C dM_spread_132 rfl 1 rfl ?_
            refine x_aload_n C dM_spread_133 rfl 1 rfl ?_
            refine gf_7_18 C (List.mem_cons_of_mem _ wm734) dM_spread_134 ?_
            refine x_iload C dM_spread_137 0 rfl ?_
            obtain ⟨g12, h⟩ := h
            refine y_ia C 47 (by decide) g12 dM_spread_139 ?_
            refine x_iload_n C dM_spread_140 rfl 2 rfl ?_
            refine x_iconst (v := 0) C dM_spread_141 (by decide) ?_
            refine kM_addNode C wm1007 ⟨Nat.le_of_ble_eq_true rfl, Nat.le_of_ble_eq_true rfl⟩ (Nat.le_of_ble_eq_true rfl) dM_spread_142 ⟨Nat.zero_le _, Nat.zero_le _⟩ h (fun z13 r14 h => ?_)
            obtain ⟨g15, h⟩ := h
            refine y_is C 53 (by decide) g15 dM_spread_145 (fun r16 er16 => ?_)
            have h := h r16 er16
            refine x_aload_n C dM_spread_146 rfl 1 rfl ?_
            refine gf_7_26 C (List.mem_cons_of_mem _ wm742) dM_spread_147 ?_
            refine x_iload_n C dM_spread_150 rfl 2 rfl ?_
            refine x_aload_n C dM_spread_151 rfl 1 rfl ?_
            refine x_aload_n C dM_spread_152 rfl 1 rfl ?_
            refine gf_7_19 C (List.mem_cons_of_mem _ wm735) dM_spread_153 ?_
            refine x_iload C dM_spread_156 0 rfl ?_
            obtain ⟨g17, h⟩ := h
            refine y_ia C 48 (by decide) g17 dM_spread_158 ?_
            refine x_iload_n C dM_spread_159 rfl 2 rfl ?_
            refine x_iconst (v := 1) C dM_spread_160 (by decide) ?_
            refine kM_addNode C wm1007 ⟨Nat.le_of_ble_eq_true rfl, Nat.le_of_ble_eq_true rfl⟩ (Nat.le_of_ble_eq_true rfl) dM_spread_161 ⟨Nat.zero_le _, Nat.zero_le _⟩ h (fun z18 r19 h => ?_)
            obtain ⟨g20, h⟩ := h
            refine y_is C 54 (by decide) g20 dM_spread_164 (fun r21 er21 => ?_)
            have h := h r21 er21
            refine x_sub [1, 2] rfl ?_
            exact tM_spread_J165 C kB15 kX171 r21 v3 h
        · have h := h.2 g9
          refine x_aload_n C dM_spread_75 rfl 1 rfl ?_
          refine gf_7_25 C (List.mem_cons_of_mem _ wm741) dM_spread_76 ?_
          refine x_iload_n C dM_spread_79 rfl 2 rfl ?_
          refine x_aload_n C dM_spread_80 rfl 1 rfl ?_
          refine x_aload_n C dM_spread_81 rfl 1 rfl ?_
          refine gf_7_17 C (List.mem_cons_of_mem _ wm733) dM_spread_82 ?_
          refine x_iload C dM_spread_85 0 rfl ?_
          obtain ⟨g22, h⟩ := h
          refine y_ia C 46 (by decide) g22 dM_spread_87 ?_
          refine x_iload_n C dM_spread_88 rfl 2 rfl ?_
          refine x_iconst (v := 0) C dM_spread_89 (by decide) ?_
          refine kM_addNode C wm1007 ⟨Nat.le_of_ble_eq_true rfl, Nat.le_of_ble_eq_true rfl⟩ (Nat.le_of_ble_eq_true rfl) dM_spread_90 ⟨Nat.zero_le _, Nat.zero_le _⟩ h (fun z23 r24 h => ?_)
          obtain ⟨g25, h⟩ := h
          refine y_is C 53 (by decide) g25 dM_spread_93 (fun r26 er26 => ?_)
          have h := h r26 er26
          refine x_aload_n C dM_spread_94 rfl 1 rfl ?_
          refine gf_7_26 C (List.mem_cons_of_mem _ wm742) dM_spread_95 ?_
          refine x_iload_n C dM_spread_98 rfl 2 rfl ?_
          refine x_aload_n C dM_spread_99 rfl 1 rfl ?_
          refine x_aload_n C dM_spread_100 rfl 1 rfl ?_
          refine gf_7_18 C (List.mem_cons_of_mem _ wm734) dM_spread_101 ?_
          refine x_iload C dM_spread_104 0 rfl ?_
          obtain ⟨g27, h⟩ := h
          refine y_ia C 47 (by decide) g27 dM_spread_106 ?_
          refine x_iload_n C dM_spread_107 rfl 2 rfl ?_
          refine x_iconst (v := 1) C dM_spread_108 (by decide) ?_
          refine kM_addNode C wm1007 ⟨Nat.le_of_ble_eq_true rfl, Nat.le_of_ble_eq_true rfl⟩ (Nat.le_of_ble_eq_true rfl) dM_spread_109 ⟨Nat.zero_le _, Nat.zero_le _⟩ h (fun z28 r29 h => ?_)
          obtain ⟨g30, h⟩ := h
          refine y_is C 54 (by decide) g30 dM_spread_112 (fun r31 er31 => ?_)
          have h := h r31 er31
          refine x_goto (tgt := 165) C dM_spread_113 (by decide) ?_
          refine x_sub [1, 2] rfl ?_
          exact tM_spread_J165 C kB15 kX171 r31 v3 h
      · have h := h.2 g7
        refine x_aload_n C dM_spread_42 rfl 1 rfl ?_
        refine gf_7_25 C (List.mem_cons_of_mem _ wm741) dM_spread_43 ?_
        refine x_iload_n C dM_spread_46 rfl 2 rfl ?_
        refine x_aload_n C dM_spread_47 rfl 1 rfl ?_
        refine x_aload_n C dM_spread_48 rfl 1 rfl ?_
        refine gf_7_18 C (List.mem_cons_of_mem _ wm734) dM_spread_49 ?_
        refine x_iload C dM_spread_52 0 rfl ?_
        obtain ⟨g32, h⟩ := h
        refine y_ia C 47 (by decide) g32 dM_spread_54 ?_
        refine x_iload_n C dM_spread_55 rfl 2 rfl ?_
        refine x_iconst (v := 0) C dM_spread_56 (by decide) ?_
        refine kM_addNode C wm1007 ⟨Nat.le_of_ble_eq_true rfl, Nat.le_of_ble_eq_true rfl⟩ (Nat.le_of_ble_eq_true rfl) dM_spread_57 ⟨Nat.zero_le _, Nat.zero_le _⟩ h (fun z33 r34 h => ?_)
        obtain ⟨g35, h⟩ := h
        refine y_is C 53 (by decide) g35 dM_spread_60 (fun r36 er36 => ?_)
        have h := h r36 er36
        refine x_goto (tgt := 165) C dM_spread_61 (by decide) ?_
        refine x_sub [1, 2] rfl ?_
        exact tM_spread_J165 C kB15 kX171 r36 v3 h
def qM_spread (a : L_) (K : S_ → Prop) (r : S_) (p0 : Int32) : Prop :=
  ∀ r1 : S_, r1 = sF r 26 0 → qM_addNode a (fun z2 r3 => ∃ n37 : Nat, qM_spread_L15 a (fun r => K r) n37 r3 z2) r1 p0 (-1) 0
set_option maxRecDepth 100000 in
set_option maxHeartbeats 4000000 in
theorem cM_spread {a : L_} {r : S_} {K : S_ → Prop} (p0 : Int32) (h : qM_spread a K r p0) : vx_Mv l yM_spread (Cond.code yM_spread prog_9_method_20_code 5 none :: wAll) { frames := 1, cells := 0, slots := 0, locals := 23 } D vwCl (tysG G) nwAll (wo G a r) [.ref (ob G 7), .int p0] 0 0 (fun w => ∃ r1, w = wo G a r1 ∧ K r1) := by
  unfold qM_spread at h
  refine x_metv (cc := prog_9_method_20_code) (maxL := 5) (ret := none) (lv0 := [(0, .ref (ob G 7)), (1, .int p0)]) (by decide) rfl (Nat.le_of_ble_eq_true rfl) rfl ?_
  intro p e s m args below meth c A C hA hlocks hr
  refine x_aload_n C dM_spread_0 rfl 0 rfl ?_
  refine x_iconst (v := 0) C dM_spread_1 (by decide) ?_
  refine pf_7_21 C (List.mem_cons_of_mem _ wm737) dM_spread_2 (fun r1 er1 => ?_)
  have h := h r1 er1
  refine x_aload_n C dM_spread_5 rfl 0 rfl ?_
  refine x_iload_n C dM_spread_6 rfl 1 rfl ?_
  refine x_iconst (v := (-1)) C dM_spread_7 (by decide) ?_
  refine x_iconst (v := 0) C dM_spread_8 (by decide) ?_
  refine kM_addNode C wm1007 ⟨Nat.le_of_ble_eq_true rfl, Nat.le_of_ble_eq_true rfl⟩ (Nat.le_of_ble_eq_true rfl) dM_spread_9 ⟨Nat.zero_le _, Nat.zero_le _⟩ h (fun z2 r3 h => ?_)
  refine x_istore_n C [(2, .int z2), (0, .ref (ob G 7)), (1, .int p0)] dM_spread_12 rfl (by decide) rfl ?_
  refine x_iload_n C dM_spread_13 rfl 0 rfl ?_
  refine x_istore_n C [(3, .int z2), (2, .int z2), (0, .ref (ob G 7)), (1, .int p0)] dM_spread_14 rfl (by decide) rfl ?_
  obtain ⟨n37, h⟩ := h
  refine x_sub [2, 0] rfl ?_
  refine tM_spread_L15 C (fun r h => ?_) n37 r3 z2 h
  · exact x_vret C hA hlocks hr ⟨r, rfl, h⟩ dM_spread_171
set_option maxRecDepth 100000 in
set_option maxHeartbeats 4000000 in
theorem kM_spread {p : Program} {l : Launch} {e : Env} {R : Room} {s : State} {m : MethodId} {args : Array Value} {below : List Frame} {meth : Method} {c : Code} {cells slots : Nat} {Q : State → Prop} {A : Nat → Prop} {D : va_G} {nL pc : Nat} {cc : ByteArray} {cw : Cond} {own : String} {lv : List (Nat × Value)} {st : List Value} {G : G_} {a : L_} {r : S_} {K : S_ → Prop} {p0 : Int32} (C : vx_C p s m args c cc nL (cw :: wAll) own D vwCl (tysG G) nwAll A) {i : Nat} (hl : Cond.methodLink own i yM_spread ∈ wAll) (hR : 1 + 1 ≤ R.frames ∧ 8 + (5 + 11) + 23 ≤ R.locals) (hst : (st.map fun v => v.category).sum ≤ 8) (hd : decode cc pc = .ok (.invokevirtual i, 3)) (hcs : cells ≤ R.cells ∧ slots ≤ R.slots) (h : qM_spread a K r p0) (k : ∀ (r1 : S_), K r1 → vx_V p l e R s m args below meth c A D vwCl nL cells slots Q (wo G a r1) (pc + 3) lv st) : vx_V p l e R s m args below meth c A D vwCl nL cells slots Q (wo G a r) pc lv (.int p0 :: .ref (ob G 7) :: st) := by
  refine x_callVv C (CC := "ClassInferenceModel") (ci := 7) (q0 := 7) (fs := fl7 G a r) (As := [.int p0]) rfl rfl (cM_spread p0 h) (cwV (C := "ClassInferenceModel") 1 C.1.2.2.2.2 (goodV hl wm1005 wp37 wm9 wm1006) rfl rfl rfl (by decide +kernel) hR) rfl hst hd hcs (fun w hw => ?_)
  obtain ⟨r1, rfl, h⟩ := hw
  exact k r1 h
def qM_binder_J88 (a : L_) (r : S_) (KB22 : Int32 → Int32 → Int32 → Prop) (KX85 : Int32 → Prop) (KX103 : Prop) (v2 : Int32) (v4 : Int32) : Prop :=
  vp_in v4 (ln a 51) ∧ KB22 v2 v4 (ar r 51 v4.toNatClampNeg)
set_option maxRecDepth 100000 in
set_option maxHeartbeats 4000000 in
theorem tM_binder_J88 (C : vx_C p s m args c prog_9_method_21_code 6 (Cond.code yM_binder prog_9_method_21_code 6 (some .int) :: wAll) "ClassInferenceModel" D vwCl (tysG G) nwAll A) {a : L_} {r : S_} {KB22 : Int32 → Int32 → Int32 → Prop} {KX85 : Int32 → Prop} {KX103 : Prop} (kB22 : ∀ (v2 : Int32) (v3 : Int32) (v4 : Int32), KB22 v2 v3 v4 → vx_V p l e { frames := 1, cells := 0, slots := 0, locals := 21 } s m args below meth c A D vwCl 6 0 0 Q (wo G a r) 22 [(0, .ref (ob G 7)), (2, .int v2), (3, .int v3), (4, .int v4)] []) (kX85 : ∀ (v4 : Int32), KX85 v4 → vx_V p l e { frames := 1, cells := 0, slots := 0, locals := 21 } s m args below meth c A D vwCl 6 0 0 Q (wo G a r) 85 [(4, .int v4)] []) (kX103 : KX103 → vx_V p l e { frames := 1, cells := 0, slots := 0, locals := 21 } s m args below meth c A D vwCl 6 0 0 Q (wo G a r) 103 [] []) (v2 : Int32) (v4 : Int32) (h : qM_binder_J88 a r KB22 KX85 KX103 v2 v4) : vx_V p l e { frames := 1, cells := 0, slots := 0, locals := 21 } s m args below meth c A D vwCl 6 0 0 Q (wo G a r) 88 [(0, .ref (ob G 7)), (2, .int v2), (4, .int v4)] [] := by
  unfold qM_binder_J88 at h
  refine x_iload C dM_binder_88 2 rfl ?_
  refine x_istore_n C [(3, .int v4), (0, .ref (ob G 7)), (2, .int v2), (4, .int v4)] dM_binder_90 rfl (by decide) rfl ?_
  refine x_aload_n C dM_binder_91 rfl 1 rfl ?_
  refine gf_7_23 C (List.mem_cons_of_mem _ wm739) dM_binder_92 ?_
  refine x_iload C dM_binder_95 3 rfl ?_
  obtain ⟨g8, h⟩ := h
  refine y_ia C 51 (by decide) g8 dM_binder_97 ?_
  refine x_istore C [(4, .int (ar r 51 v4.toNatClampNeg)), (3, .int v4), (0, .ref (ob G 7)), (2, .int v2)] dM_binder_98 (by decide) rfl ?_
  refine x_goto (tgt := 22) C dM_binder_100 (by decide) ?_
  refine x_sub [2, 3, 1, 0] rfl ?_
  exact kB22 v2 v4 (ar r 51 v4.toNatClampNeg) h
def qM_binder_J62 (a : L_) (r : S_) (KB22 : Int32 → Int32 → Int32 → Prop) (KX85 : Int32 → Prop) (KX103 : Prop) (v2 : Int32) (v4 : Int32) (u0 : Int32) : Prop :=
  ((u0 = 0) → qM_binder_J88 a r KB22 KX85 KX103 v2 v4) ∧ ((¬ u0 = 0) → vp_in v4 (ln a 50) ∧ vp_in (ar r 50 v4.toNatClampNeg) (ln a 46) ∧ ((¬ (ar r 46 (ar r 50 v4.toNatClampNeg).toNatClampNeg) = v2) → qM_binder_J88 a r KB22 KX85 KX103 v2 v4) ∧ (((ar r 46 (ar r 50 v4.toNatClampNeg).toNatClampNeg) = v2) → KX85 v4))
set_option maxRecDepth 100000 in
set_option maxHeartbeats 4000000 in
theorem tM_binder_J62 (C : vx_C p s m args c prog_9_method_21_code 6 (Cond.code yM_binder prog_9_method_21_code 6 (some .int) :: wAll) "ClassInferenceModel" D vwCl (tysG G) nwAll A) {a : L_} {r : S_} {KB22 : Int32 → Int32 → Int32 → Prop} {KX85 : Int32 → Prop} {KX103 : Prop} (kB22 : ∀ (v2 : Int32) (v3 : Int32) (v4 : Int32), KB22 v2 v3 v4 → vx_V p l e { frames := 1, cells := 0, slots := 0, locals := 21 } s m args below meth c A D vwCl 6 0 0 Q (wo G a r) 22 [(0, .ref (ob G 7)), (2, .int v2), (3, .int v3), (4, .int v4)] []) (kX85 : ∀ (v4 : Int32), KX85 v4 → vx_V p l e { frames := 1, cells := 0, slots := 0, locals := 21 } s m args below meth c A D vwCl 6 0 0 Q (wo G a r) 85 [(4, .int v4)] []) (kX103 : KX103 → vx_V p l e { frames := 1, cells := 0, slots := 0, locals := 21 } s m args below meth c A D vwCl 6 0 0 Q (wo G a r) 103 [] []) (v2 : Int32) (v4 : Int32) (u0 : Int32) (h : qM_binder_J62 a r KB22 KX85 KX103 v2 v4 u0) : vx_V p l e { frames := 1, cells := 0, slots := 0, locals := 21 } s m args below meth c A D vwCl 6 0 0 Q (wo G a r) 62 [(0, .ref (ob G 7)), (2, .int v2), (4, .int v4)] [.int u0] := by
  unfold qM_binder_J62 at h
  refine x_istore C [(5, .int u0), (0, .ref (ob G 7)), (2, .int v2), (4, .int v4)] dM_binder_62 (by decide) rfl ?_
  refine x_iload C dM_binder_64 0 rfl ?_
  refine x_if_eq (tgt := 88) C dM_binder_66 (by decide) (fun g7 => ?_) (fun g7 => ?_)
  · have h := h.1 g7
    refine x_sub [1, 2, 3] rfl ?_
    exact tM_binder_J88 C kB22 kX85 kX103 v2 v4 h
  · have h := h.2 g7
    refine x_aload_n C dM_binder_69 rfl 1 rfl ?_
    refine gf_7_17 C (List.mem_cons_of_mem _ wm733) dM_binder_70 ?_
    refine x_aload_n C dM_binder_73 rfl 1 rfl ?_
    refine gf_7_22 C (List.mem_cons_of_mem _ wm738) dM_binder_74 ?_
    refine x_iload C dM_binder_77 3 rfl ?_
    obtain ⟨g9, h⟩ := h
    refine y_ia C 50 (by decide) g9 dM_binder_79 ?_
    obtain ⟨g10, h⟩ := h
    refine y_ia C 46 (by decide) g10 dM_binder_80 ?_
    refine x_iload_n C dM_binder_81 rfl 2 rfl ?_
    refine x_icmp_ne (tgt := 88) C dM_binder_82 (by decide) (fun g11 => ?_) (fun g11 => ?_)
    · have h := h.1 g11
      refine x_sub [1, 2, 3] rfl ?_
      exact tM_binder_J88 C kB22 kX85 kX103 v2 v4 h
    · have h := h.2 g11
      refine x_sub [3] rfl ?_
      exact kX85 v4 h
def qM_binder_J57 (a : L_) (r : S_) (KB22 : Int32 → Int32 → Int32 → Prop) (KX85 : Int32 → Prop) (KX103 : Prop) (v2 : Int32) (v4 : Int32) : Prop :=
  qM_binder_J62 a r KB22 KX85 KX103 v2 v4 1
set_option maxRecDepth 100000 in
set_option maxHeartbeats 4000000 in
theorem tM_binder_J57 (C : vx_C p s m args c prog_9_method_21_code 6 (Cond.code yM_binder prog_9_method_21_code 6 (some .int) :: wAll) "ClassInferenceModel" D vwCl (tysG G) nwAll A) {a : L_} {r : S_} {KB22 : Int32 → Int32 → Int32 → Prop} {KX85 : Int32 → Prop} {KX103 : Prop} (kB22 : ∀ (v2 : Int32) (v3 : Int32) (v4 : Int32), KB22 v2 v3 v4 → vx_V p l e { frames := 1, cells := 0, slots := 0, locals := 21 } s m args below meth c A D vwCl 6 0 0 Q (wo G a r) 22 [(0, .ref (ob G 7)), (2, .int v2), (3, .int v3), (4, .int v4)] []) (kX85 : ∀ (v4 : Int32), KX85 v4 → vx_V p l e { frames := 1, cells := 0, slots := 0, locals := 21 } s m args below meth c A D vwCl 6 0 0 Q (wo G a r) 85 [(4, .int v4)] []) (kX103 : KX103 → vx_V p l e { frames := 1, cells := 0, slots := 0, locals := 21 } s m args below meth c A D vwCl 6 0 0 Q (wo G a r) 103 [] []) (v2 : Int32) (v4 : Int32) (h : qM_binder_J57 a r KB22 KX85 KX103 v2 v4) : vx_V p l e { frames := 1, cells := 0, slots := 0, locals := 21 } s m args below meth c A D vwCl 6 0 0 Q (wo G a r) 57 [(0, .ref (ob G 7)), (2, .int v2), (4, .int v4)] [] := by
  unfold qM_binder_J57 at h
  refine x_iconst (v := 1) C dM_binder_57 (by decide) ?_
  refine x_goto (tgt := 62) C dM_binder_58 (by decide) ?_
  refine x_sub [0, 1, 2] rfl ?_
  exact tM_binder_J62 C kB22 kX85 kX103 v2 v4 1 h
def qM_binder_J61 (a : L_) (r : S_) (KB22 : Int32 → Int32 → Int32 → Prop) (KX85 : Int32 → Prop) (KX103 : Prop) (v2 : Int32) (v4 : Int32) : Prop :=
  qM_binder_J62 a r KB22 KX85 KX103 v2 v4 0
set_option maxRecDepth 100000 in
set_option maxHeartbeats 4000000 in
theorem tM_binder_J61 (C : vx_C p s m args c prog_9_method_21_code 6 (Cond.code yM_binder prog_9_method_21_code 6 (some .int) :: wAll) "ClassInferenceModel" D vwCl (tysG G) nwAll A) {a : L_} {r : S_} {KB22 : Int32 → Int32 → Int32 → Prop} {KX85 : Int32 → Prop} {KX103 : Prop} (kB22 : ∀ (v2 : Int32) (v3 : Int32) (v4 : Int32), KB22 v2 v3 v4 → vx_V p l e { frames := 1, cells := 0, slots := 0, locals := 21 } s m args below meth c A D vwCl 6 0 0 Q (wo G a r) 22 [(0, .ref (ob G 7)), (2, .int v2), (3, .int v3), (4, .int v4)] []) (kX85 : ∀ (v4 : Int32), KX85 v4 → vx_V p l e { frames := 1, cells := 0, slots := 0, locals := 21 } s m args below meth c A D vwCl 6 0 0 Q (wo G a r) 85 [(4, .int v4)] []) (kX103 : KX103 → vx_V p l e { frames := 1, cells := 0, slots := 0, locals := 21 } s m args below meth c A D vwCl 6 0 0 Q (wo G a r) 103 [] []) (v2 : Int32) (v4 : Int32) (h : qM_binder_J61 a r KB22 KX85 KX103 v2 v4) : vx_V p l e { frames := 1, cells := 0, slots := 0, locals := 21 } s m args below meth c A D vwCl 6 0 0 Q (wo G a r) 61 [(0, .ref (ob G 7)), (2, .int v2), (4, .int v4)] [] := by
  unfold qM_binder_J61 at h
  refine x_iconst (v := 0) C dM_binder_61 (by decide) ?_
  refine x_sub [0, 1, 2] rfl ?_
  exact tM_binder_J62 C kB22 kX85 kX103 v2 v4 0 h
def qM_binder_L22 (a : L_) (r : S_) (KX85 : Int32 → Prop) (KX103 : Prop) : Nat → Int32 → Int32 → Int32 → Prop
  | 0, _, _, _ => False
  | n + 1, v2, v3, v4 => ((v4 < 0) → KX103) ∧ ((¬ v4 < 0) → qM_kindOf a r (fun z5 => ((z5 = 1) → qM_binder_J57 a r (qM_binder_L22 a r KX85 KX103 n) KX85 KX103 v2 v4) ∧ ((¬ z5 = 1) → qM_kindOf a r (fun z12 => ((¬ z12 = 3) → qM_binder_J61 a r (qM_binder_L22 a r KX85 KX103 n) KX85 KX103 v2 v4) ∧ ((z12 = 3) → vp_in v3 (ln a 52) ∧ ((¬ (ar r 52 v3.toNatClampNeg) = 1) → qM_binder_J61 a r (qM_binder_L22 a r KX85 KX103 n) KX85 KX103 v2 v4) ∧ (((ar r 52 v3.toNatClampNeg) = 1) → qM_binder_J57 a r (qM_binder_L22 a r KX85 KX103 n) KX85 KX103 v2 v4))) v4)) v4)
set_option maxRecDepth 100000 in
set_option maxHeartbeats 4000000 in
theorem tM_binder_L22 (C : vx_C p s m args c prog_9_method_21_code 6 (Cond.code yM_binder prog_9_method_21_code 6 (some .int) :: wAll) "ClassInferenceModel" D vwCl (tysG G) nwAll A) {a : L_} {r : S_} {KX85 : Int32 → Prop} {KX103 : Prop} (kX85 : ∀ (v4 : Int32), KX85 v4 → vx_V p l e { frames := 1, cells := 0, slots := 0, locals := 21 } s m args below meth c A D vwCl 6 0 0 Q (wo G a r) 85 [(4, .int v4)] []) (kX103 : KX103 → vx_V p l e { frames := 1, cells := 0, slots := 0, locals := 21 } s m args below meth c A D vwCl 6 0 0 Q (wo G a r) 103 [] []) : ∀ (n : Nat) (v2 : Int32) (v3 : Int32) (v4 : Int32), qM_binder_L22 a r KX85 KX103 n v2 v3 v4 → vx_V p l e { frames := 1, cells := 0, slots := 0, locals := 21 } s m args below meth c A D vwCl 6 0 0 Q (wo G a r) 22 [(0, .ref (ob G 7)), (2, .int v2), (3, .int v3), (4, .int v4)] [] := by
  intro n
  induction n with
  | zero =>
    intro v2 v3 v4 h
    exact (by rw [qM_binder_L22] at h; exact h : False).elim
  | succ n kB22 =>
    intro v2 v3 v4 h
    rw [qM_binder_L22] at h
    refine x_iload C dM_binder_22 3 rfl ?_
    refine x_if_lt (tgt := 103) C dM_binder_24 (by decide) (fun g4 => ?_) (fun g4 => ?_)
    · have h := h.1 g4
      refine x_sub [] rfl ?_
      exact kX103 h
    · have h := h.2 g4
      refine x_aload_n C dM_binder_27 rfl 0 rfl ?_
      refine x_iload C dM_binder_28 3 rfl ?_
      refine kM_kindOf C wm1019 ⟨Nat.le_of_ble_eq_true rfl, Nat.le_of_ble_eq_true rfl⟩ (Nat.le_of_ble_eq_true rfl) dM_binder_30 ⟨Nat.zero_le _, Nat.zero_le _⟩ h (fun z5 h => ?_)
      refine x_iconst (v := 1) C dM_binder_33 (by decide) ?_
      refine x_icmp_eq (tgt := 57) C dM_binder_34 (by decide) (fun g6 => ?_) (fun g6 => ?_)
      · have h := h.1 g6
        refine x_sub [0, 1, 3] rfl ?_
        exact tM_binder_J57 C kB22 kX85 kX103 v2 v4 h
      · have h := h.2 g6
        refine x_aload_n C dM_binder_37 rfl 0 rfl ?_
        refine x_iload C dM_binder_38 3 rfl ?_
        refine kM_kindOf C wm1019 ⟨Nat.le_of_ble_eq_true rfl, Nat.le_of_ble_eq_true rfl⟩ (Nat.le_of_ble_eq_true rfl) dM_binder_40 ⟨Nat.zero_le _, Nat.zero_le _⟩ h (fun z12 h => ?_)
        refine x_iconst (v := 3) C dM_binder_43 (by decide) ?_
        refine x_icmp_ne (tgt := 61) C dM_binder_44 (by decide) (fun g13 => ?_) (fun g13 => ?_)
        · have h := h.1 g13
          refine x_sub [0, 1, 3] rfl ?_
          exact tM_binder_J61 C kB22 kX85 kX103 v2 v4 h
        · have h := h.2 g13
          refine x_aload_n C dM_binder_47 rfl 0 rfl ?_
          refine gf_7_24 C (List.mem_cons_of_mem _ wm740) dM_binder_48 ?_
          refine x_iload_n C dM_binder_51 rfl 2 rfl ?_
          obtain ⟨g14, h⟩ := h
          refine y_ia C 52 (by decide) g14 dM_binder_52 ?_
          refine x_iconst (v := 1) C dM_binder_53 (by decide) ?_
          refine x_icmp_ne (tgt := 61) C dM_binder_54 (by decide) (fun g15 => ?_) (fun g15 => ?_)
          · have h := h.1 g15
            refine x_sub [0, 1, 3] rfl ?_
            exact tM_binder_J61 C kB22 kX85 kX103 v2 v4 h
          · have h := h.2 g15
            refine x_sub [0, 1, 3] rfl ?_
            exact tM_binder_J57 C kB22 kX85 kX103 v2 v4 h
def qM_binder (a : L_) (r : S_) (K : Int32 → Prop) (p0 : Int32) : Prop :=
  vp_in p0 (ln a 50) ∧ vp_in (ar r 50 p0.toNatClampNeg) (ln a 46) ∧ vp_in p0 (ln a 51) ∧ ∃ n16 : Nat, qM_binder_L22 a r (fun v4 => K v4) (K (-1)) n16 (ar r 46 (ar r 50 p0.toNatClampNeg).toNatClampNeg) p0 (ar r 51 p0.toNatClampNeg)
set_option maxRecDepth 100000 in
set_option maxHeartbeats 4000000 in
theorem cM_binder {a : L_} {r : S_} {K : Int32 → Prop} (p0 : Int32) (h : qM_binder a r K p0) : vx_Mi l yM_binder (Cond.code yM_binder prog_9_method_21_code 6 (some .int) :: wAll) { frames := 1, cells := 0, slots := 0, locals := 21 } D vwCl (tysG G) nwAll (wo G a r) [.ref (ob G 7), .int p0] 0 0 (fun v w => w = wo G a r ∧ K v) := by
  unfold qM_binder at h
  refine x_meti (cc := prog_9_method_21_code) (maxL := 6) (ret := (some .int)) (lv0 := [(0, .ref (ob G 7)), (1, .int p0)]) (by decide) rfl (Nat.le_of_ble_eq_true rfl) rfl ?_
  intro p e s m args below meth c A C hA hlocks hr
  refine x_aload_n C dM_binder_0 rfl 0 rfl ?_
  refine gf_7_17 C (List.mem_cons_of_mem _ wm733) dM_binder_1 ?_
  refine x_aload_n C dM_binder_4 rfl 0 rfl ?_
  refine gf_7_22 C (List.mem_cons_of_mem _ wm738) dM_binder_5 ?_
  refine x_iload_n C dM_binder_8 rfl 1 rfl ?_
  obtain ⟨g1, h⟩ := h
  refine y_ia C 50 (by decide) g1 dM_binder_9 ?_
  obtain ⟨g2, h⟩ := h
  refine y_ia C 46 (by decide) g2 dM_binder_10 ?_
  refine x_istore_n C [(2, .int (ar r 46 (ar r 50 p0.toNatClampNeg).toNatClampNeg)), (0, .ref (ob G 7)), (1, .int p0)] dM_binder_11 rfl (by decide) rfl ?_
  refine x_iload_n C dM_binder_12 rfl 2 rfl ?_
  refine x_istore_n C [(3, .int p0), (2, .int (ar r 46 (ar r 50 p0.toNatClampNeg).toNatClampNeg)), (0, .ref (ob G 7)), (1, .int p0)] dM_binder_13 rfl (by decide) rfl ?_
  refine x_aload_n C dM_binder_14 rfl 2 rfl ?_
  refine gf_7_23 C (List.mem_cons_of_mem _ wm739) dM_binder_15 ?_
  refine x_iload_n C dM_binder_18 rfl 3 rfl ?_
  obtain ⟨g3, h⟩ := h
  refine y_ia C 51 (by decide) g3 dM_binder_19 ?_
  refine x_istore C [(4, .int (ar r 51 p0.toNatClampNeg)), (3, .int p0), (2, .int (ar r 46 (ar r 50 p0.toNatClampNeg).toNatClampNeg)), (0, .ref (ob G 7)), (1, .int p0)] dM_binder_20 (by decide) rfl ?_
  obtain ⟨n16, h⟩ := h
  refine x_sub [3, 2, 1, 0] rfl ?_
  refine tM_binder_L22 C (fun v4 h => ?_) (fun h => ?_) n16 (ar r 46 (ar r 50 p0.toNatClampNeg).toNatClampNeg) p0 (ar r 51 p0.toNatClampNeg) h
  · refine x_iload C dM_binder_85 0 rfl ?_
    exact x_iret C hA hlocks hr ⟨rfl, h⟩ dM_binder_87
  · refine x_iconst (v := (-1)) C dM_binder_103 (by decide) ?_
    exact x_iret C hA hlocks hr ⟨rfl, h⟩ dM_binder_104
set_option maxRecDepth 100000 in
set_option maxHeartbeats 4000000 in
theorem kM_binder {p : Program} {l : Launch} {e : Env} {R : Room} {s : State} {m : MethodId} {args : Array Value} {below : List Frame} {meth : Method} {c : Code} {cells slots : Nat} {Q : State → Prop} {A : Nat → Prop} {D : va_G} {nL pc : Nat} {cc : ByteArray} {cw : Cond} {own : String} {lv : List (Nat × Value)} {st : List Value} {G : G_} {a : L_} {r : S_} {K : Int32 → Prop} {p0 : Int32} (C : vx_C p s m args c cc nL (cw :: wAll) own D vwCl (tysG G) nwAll A) {i : Nat} (hl : Cond.methodLink own i yM_binder ∈ wAll) (hR : 1 + 1 ≤ R.frames ∧ 8 + (6 + 11) + 21 ≤ R.locals) (hst : (st.map fun v => v.category).sum ≤ 8) (hd : decode cc pc = .ok (.invokevirtual i, 3)) (hcs : cells ≤ R.cells ∧ slots ≤ R.slots) (h : qM_binder a r K p0) (k : ∀ (v : Int32), K v → vx_V p l e R s m args below meth c A D vwCl nL cells slots Q (wo G a r) (pc + 3) lv (.int v :: st)) : vx_V p l e R s m args below meth c A D vwCl nL cells slots Q (wo G a r) pc lv (.int p0 :: .ref (ob G 7) :: st) := by
  refine x_callVi C (CC := "ClassInferenceModel") (ci := 7) (q0 := 7) (fs := fl7 G a r) (As := [.int p0]) rfl rfl (cM_binder p0 h) (cwV (C := "ClassInferenceModel") 1 C.1.2.2.2.2 (goodV hl wm1029 wp43 wm9 wm1030) rfl rfl rfl (by decide +kernel) hR) rfl hst hd hcs (fun v w hw => ?_)
  obtain ⟨rfl, h⟩ := hw
  exact k v h
def qM_newTerm (a : L_) (K : Int32 → S_ → Prop) (r : S_) (p0 : Int32) (p1 : Int32) (p2 : Int32) : Prop :=
  vp_in (fi r 28) (ln a 64) ∧ ∀ r2 : S_, r2 = sA r 64 (upd (ar r 64) (fi r 28).toNatClampNeg (fi r 28)) → vp_in (fi r2 28) (ln a 65) ∧ ∀ r4 : S_, r4 = sA r2 65 (upd (ar r2 65) (fi r2 28).toNatClampNeg p0) → vp_in (fi r4 28) (ln a 66) ∧ ∀ r6 : S_, r6 = sA r4 66 (upd (ar r4 66) (fi r4 28).toNatClampNeg p1) → vp_in (fi r6 28) (ln a 67) ∧ ∀ r8 : S_, r8 = sA r6 67 (upd (ar r6 67) (fi r6 28).toNatClampNeg p2) → vp_in (fi r8 28) (ln a 68) ∧ ∀ r10 : S_, r10 = sA r8 68 (upd (ar r8 68) (fi r8 28).toNatClampNeg 0) → vp_in (fi r10 28) (ln a 70) ∧ ∀ r12 : S_, r12 = sA r10 70 (upd (ar r10 70) (fi r10 28).toNatClampNeg 0) → vp_in (fi r12 28) (ln a 71) ∧ ∀ r14 : S_, r14 = sA r12 71 (upd (ar r12 71) (fi r12 28).toNatClampNeg 0) → ∀ r15 : S_, r15 = sF r14 28 ((fi r14 28) + 1) → K ((fi r15 28) - 1) r15
set_option maxRecDepth 100000 in
set_option maxHeartbeats 4000000 in
theorem cM_newTerm {a : L_} {r : S_} {K : Int32 → S_ → Prop} (p0 : Int32) (p1 : Int32) (p2 : Int32) (h : qM_newTerm a K r p0 p1 p2) : vx_Mi l yM_newTerm (Cond.code yM_newTerm prog_9_method_22_code 4 (some .int) :: wAll) { frames := 0, cells := 0, slots := 0, locals := 0 } D vwCl (tysG G) nwAll (wo G a r) [.ref (ob G 7), .int p0, .int p1, .int p2] 0 0 (fun v w => ∃ r1, w = wo G a r1 ∧ K v r1) := by
  unfold qM_newTerm at h
  refine x_meti (cc := prog_9_method_22_code) (maxL := 4) (ret := (some .int)) (lv0 := [(0, .ref (ob G 7)), (1, .int p0), (2, .int p1), (3, .int p2)]) (by decide) rfl (Nat.le_of_ble_eq_true rfl) rfl ?_
  intro p e s m args below meth c A C hA hlocks hr
  refine x_aload_n C dM_newTerm_0 rfl 0 rfl ?_
  refine gf_7_38 C (List.mem_cons_of_mem _ wm754) dM_newTerm_1 ?_
  refine x_aload_n C dM_newTerm_4 rfl 0 rfl ?_
  refine gf_7_37 C (List.mem_cons_of_mem _ wm753) dM_newTerm_5 ?_
  refine x_aload_n C dM_newTerm_8 rfl 0 rfl ?_
  refine gf_7_37 C (List.mem_cons_of_mem _ wm753) dM_newTerm_9 ?_
  obtain ⟨g1, h⟩ := h
  refine y_is C 64 (by decide) g1 dM_newTerm_12 (fun r2 er2 => ?_)
  have h := h r2 er2
  refine x_aload_n C dM_newTerm_13 rfl 0 rfl ?_
  refine gf_7_39 C (List.mem_cons_of_mem _ wm755) dM_newTerm_14 ?_
  refine x_aload_n C dM_newTerm_17 rfl 0 rfl ?_
  refine gf_7_37 C (List.mem_cons_of_mem _ wm753) dM_newTerm_18 ?_
  refine x_iload_n C dM_newTerm_21 rfl 1 rfl ?_
  obtain ⟨g3, h⟩ := h
  refine y_is C 65 (by decide) g3 dM_newTerm_22 (fun r4 er4 => ?_)
  have h := h r4 er4
  refine x_aload_n C dM_newTerm_23 rfl 0 rfl ?_
  refine gf_7_40 C (List.mem_cons_of_mem _ wm756) dM_newTerm_24 ?_
  refine x_aload_n C dM_newTerm_27 rfl 0 rfl ?_
  refine gf_7_37 C (List.mem_cons_of_mem _ wm753) dM_newTerm_28 ?_
  refine x_iload_n C dM_newTerm_31 rfl 2 rfl ?_
  obtain ⟨g5, h⟩ := h
  refine y_is C 66 (by decide) g5 dM_newTerm_32 (fun r6 er6 => ?_)
  have h := h r6 er6
  refine x_aload_n C dM_newTerm_33 rfl 0 rfl ?_
  refine gf_7_41 C (List.mem_cons_of_mem _ wm757) dM_newTerm_34 ?_
  refine x_aload_n C dM_newTerm_37 rfl 0 rfl ?_
  refine gf_7_37 C (List.mem_cons_of_mem _ wm753) dM_newTerm_38 ?_
  refine x_iload_n C dM_newTerm_41 rfl 3 rfl ?_
  obtain ⟨g7, h⟩ := h
  refine y_is C 67 (by decide) g7 dM_newTerm_42 (fun r8 er8 => ?_)
  have h := h r8 er8
  refine x_aload_n C dM_newTerm_43 rfl 0 rfl ?_
  refine gf_7_42 C (List.mem_cons_of_mem _ wm758) dM_newTerm_44 ?_
  refine x_aload_n C dM_newTerm_47 rfl 0 rfl ?_
  refine gf_7_37 C (List.mem_cons_of_mem _ wm753) dM_newTerm_48 ?_
  refine x_iconst (v := 0) C dM_newTerm_51 (by decide) ?_
  obtain ⟨g9, h⟩ := h
  refine y_is C 68 (by decide) g9 dM_newTerm_52 (fun r10 er10 => ?_)
  have h := h r10 er10
  refine x_aload_n C dM_newTerm_53 rfl 0 rfl ?_
  refine gf_7_46 C (List.mem_cons_of_mem _ wm762) dM_newTerm_54 ?_
  refine x_aload_n C dM_newTerm_57 rfl 0 rfl ?_
  refine gf_7_37 C (List.mem_cons_of_mem _ wm753) dM_newTerm_58 ?_
  refine x_iconst (v := 0) C dM_newTerm_61 (by decide) ?_
  obtain ⟨g11, h⟩ := h
  refine y_is C 70 (by decide) g11 dM_newTerm_62 (fun r12 er12 => ?_)
  have h := h r12 er12
  refine x_aload_n C dM_newTerm_63 rfl 0 rfl ?_
  refine gf_7_47 C (List.mem_cons_of_mem _ wm763) dM_newTerm_64 ?_
  refine x_aload_n C dM_newTerm_67 rfl 0 rfl ?_
  refine gf_7_37 C (List.mem_cons_of_mem _ wm753) dM_newTerm_68 ?_
  refine x_iconst (v := 0) C dM_newTerm_71 (by decide) ?_
  obtain ⟨g13, h⟩ := h
  refine y_is C 71 (by decide) g13 dM_newTerm_72 (fun r14 er14 => ?_)
  have h := h r14 er14
  refine x_aload_n C dM_newTerm_73 rfl 0 rfl ?_
  refine x_dup C dM_newTerm_74 rfl ?_
  refine gf_7_37 C (List.mem_cons_of_mem _ wm753) dM_newTerm_75 ?_
  refine x_iconst (v := 1) C dM_newTerm_78 (by decide) ?_
  refine x_iadd C dM_newTerm_79 ?_
  refine pf_7_37 C (List.mem_cons_of_mem _ wm753) dM_newTerm_80 (fun r15 er15 => ?_)
  have h := h r15 er15
  refine x_aload_n C dM_newTerm_83 rfl 0 rfl ?_
  refine gf_7_37 C (List.mem_cons_of_mem _ wm753) dM_newTerm_84 ?_
  refine x_iconst (v := 1) C dM_newTerm_87 (by decide) ?_
  refine x_isub C dM_newTerm_88 ?_
  exact x_iret C hA hlocks hr ⟨r15, rfl, h⟩ dM_newTerm_89
set_option maxRecDepth 100000 in
set_option maxHeartbeats 4000000 in
theorem kM_newTerm {p : Program} {l : Launch} {e : Env} {R : Room} {s : State} {m : MethodId} {args : Array Value} {below : List Frame} {meth : Method} {c : Code} {cells slots : Nat} {Q : State → Prop} {A : Nat → Prop} {D : va_G} {nL pc : Nat} {cc : ByteArray} {cw : Cond} {own : String} {lv : List (Nat × Value)} {st : List Value} {G : G_} {a : L_} {r : S_} {K : Int32 → S_ → Prop} {p0 : Int32} {p1 : Int32} {p2 : Int32} (C : vx_C p s m args c cc nL (cw :: wAll) own D vwCl (tysG G) nwAll A) {i : Nat} (hl : Cond.methodLink own i yM_newTerm ∈ wAll) (hR : 0 + 1 ≤ R.frames ∧ 8 + (4 + 11) + 0 ≤ R.locals) (hst : (st.map fun v => v.category).sum ≤ 8) (hd : decode cc pc = .ok (.invokevirtual i, 3)) (hcs : cells ≤ R.cells ∧ slots ≤ R.slots) (h : qM_newTerm a K r p0 p1 p2) (k : ∀ (v : Int32) (r1 : S_), K v r1 → vx_V p l e R s m args below meth c A D vwCl nL cells slots Q (wo G a r1) (pc + 3) lv (.int v :: st)) : vx_V p l e R s m args below meth c A D vwCl nL cells slots Q (wo G a r) pc lv (.int p2 :: .int p1 :: .int p0 :: .ref (ob G 7) :: st) := by
  refine x_callVi C (CC := "ClassInferenceModel") (ci := 7) (q0 := 7) (fs := fl7 G a r) (As := [.int p0, .int p1, .int p2]) rfl rfl (cM_newTerm p0 p1 p2 h) (cwV (C := "ClassInferenceModel") 3 C.1.2.2.2.2 (goodV hl wm1045 wp47 wm9 wm1046) rfl rfl rfl (by decide +kernel) hR) rfl hst hd hcs (fun v w hw => ?_)
  obtain ⟨r1, rfl, h⟩ := hw
  exact k v r1 h
def qM_fresh (a : L_) (K : Int32 → S_ → Prop) (r : S_) : Prop :=
  qM_newTerm a (fun z1 r2 => K z1 r2) r (-1) (-1) (-1)
set_option maxRecDepth 100000 in
set_option maxHeartbeats 4000000 in
theorem cM_fresh {a : L_} {r : S_} {K : Int32 → S_ → Prop} (h : qM_fresh a K r ) : vx_Mi l yM_fresh (Cond.code yM_fresh prog_9_method_23_code 1 (some .int) :: wAll) { frames := 1, cells := 0, slots := 0, locals := 23 } D vwCl (tysG G) nwAll (wo G a r) [.ref (ob G 7)] 0 0 (fun v w => ∃ r1, w = wo G a r1 ∧ K v r1) := by
  unfold qM_fresh at h
  refine x_meti (cc := prog_9_method_23_code) (maxL := 1) (ret := (some .int)) (lv0 := [(0, .ref (ob G 7))]) (by decide) rfl (Nat.le_of_ble_eq_true rfl) rfl ?_
  intro p e s m args below meth c A C hA hlocks hr
  refine x_aload_n C dM_fresh_0 rfl 0 rfl ?_
  refine x_iconst (v := (-1)) C dM_fresh_1 (by decide) ?_
  refine x_iconst (v := (-1)) C dM_fresh_2 (by decide) ?_
  refine x_iconst (v := (-1)) C dM_fresh_3 (by decide) ?_
  refine kM_newTerm C wm1043 ⟨Nat.le_of_ble_eq_true rfl, Nat.le_of_ble_eq_true rfl⟩ (Nat.le_of_ble_eq_true rfl) dM_fresh_4 ⟨Nat.zero_le _, Nat.zero_le _⟩ h (fun z1 r2 h => ?_)
  exact x_iret C hA hlocks hr ⟨r2, rfl, h⟩ dM_fresh_7
set_option maxRecDepth 100000 in
set_option maxHeartbeats 4000000 in
theorem kM_fresh {p : Program} {l : Launch} {e : Env} {R : Room} {s : State} {m : MethodId} {args : Array Value} {below : List Frame} {meth : Method} {c : Code} {cells slots : Nat} {Q : State → Prop} {A : Nat → Prop} {D : va_G} {nL pc : Nat} {cc : ByteArray} {cw : Cond} {own : String} {lv : List (Nat × Value)} {st : List Value} {G : G_} {a : L_} {r : S_} {K : Int32 → S_ → Prop} (C : vx_C p s m args c cc nL (cw :: wAll) own D vwCl (tysG G) nwAll A) {i : Nat} (hl : Cond.methodLink own i yM_fresh ∈ wAll) (hR : 1 + 1 ≤ R.frames ∧ 8 + (1 + 11) + 23 ≤ R.locals) (hst : (st.map fun v => v.category).sum ≤ 8) (hd : decode cc pc = .ok (.invokevirtual i, 3)) (hcs : cells ≤ R.cells ∧ slots ≤ R.slots) (h : qM_fresh a K r ) (k : ∀ (v : Int32) (r1 : S_), K v r1 → vx_V p l e R s m args below meth c A D vwCl nL cells slots Q (wo G a r1) (pc + 3) lv (.int v :: st)) : vx_V p l e R s m args below meth c A D vwCl nL cells slots Q (wo G a r) pc lv (.ref (ob G 7) :: st) := by
  refine x_callVi C (CC := "ClassInferenceModel") (ci := 7) (q0 := 7) (fs := fl7 G a r) (As := []) rfl rfl (cM_fresh  h) (cwV (C := "ClassInferenceModel") 0 C.1.2.2.2.2 (goodV hl wm1064 wp51 wm9 wm1065) rfl rfl rfl (by decide +kernel) hR) rfl hst hd hcs (fun v w hw => ?_)
  obtain ⟨r1, rfl, h⟩ := hw
  exact k v r1 h
def qM_arrow (a : L_) (K : Int32 → S_ → Prop) (r : S_) (p0 : Int32) (p1 : Int32) : Prop :=
  qM_newTerm a (fun z1 r2 => K z1 r2) r 0 p0 p1
set_option maxRecDepth 100000 in
set_option maxHeartbeats 4000000 in
theorem cM_arrow {a : L_} {r : S_} {K : Int32 → S_ → Prop} (p0 : Int32) (p1 : Int32) (h : qM_arrow a K r p0 p1) : vx_Mi l yM_arrow (Cond.code yM_arrow prog_9_method_24_code 3 (some .int) :: wAll) { frames := 1, cells := 0, slots := 0, locals := 23 } D vwCl (tysG G) nwAll (wo G a r) [.ref (ob G 7), .int p0, .int p1] 0 0 (fun v w => ∃ r1, w = wo G a r1 ∧ K v r1) := by
  unfold qM_arrow at h
  refine x_meti (cc := prog_9_method_24_code) (maxL := 3) (ret := (some .int)) (lv0 := [(0, .ref (ob G 7)), (1, .int p0), (2, .int p1)]) (by decide) rfl (Nat.le_of_ble_eq_true rfl) rfl ?_
  intro p e s m args below meth c A C hA hlocks hr
  refine x_aload_n C dM_arrow_0 rfl 0 rfl ?_
  refine x_iconst (v := 0) C dM_arrow_1 (by decide) ?_
  refine x_iload_n C dM_arrow_2 rfl 1 rfl ?_
  refine x_iload_n C dM_arrow_3 rfl 2 rfl ?_
  refine kM_newTerm C wm1043 ⟨Nat.le_of_ble_eq_true rfl, Nat.le_of_ble_eq_true rfl⟩ (Nat.le_of_ble_eq_true rfl) dM_arrow_4 ⟨Nat.zero_le _, Nat.zero_le _⟩ h (fun z1 r2 h => ?_)
  exact x_iret C hA hlocks hr ⟨r2, rfl, h⟩ dM_arrow_7
set_option maxRecDepth 100000 in
set_option maxHeartbeats 4000000 in
theorem kM_arrow {p : Program} {l : Launch} {e : Env} {R : Room} {s : State} {m : MethodId} {args : Array Value} {below : List Frame} {meth : Method} {c : Code} {cells slots : Nat} {Q : State → Prop} {A : Nat → Prop} {D : va_G} {nL pc : Nat} {cc : ByteArray} {cw : Cond} {own : String} {lv : List (Nat × Value)} {st : List Value} {G : G_} {a : L_} {r : S_} {K : Int32 → S_ → Prop} {p0 : Int32} {p1 : Int32} (C : vx_C p s m args c cc nL (cw :: wAll) own D vwCl (tysG G) nwAll A) {i : Nat} (hl : Cond.methodLink own i yM_arrow ∈ wAll) (hR : 1 + 1 ≤ R.frames ∧ 8 + (3 + 11) + 23 ≤ R.locals) (hst : (st.map fun v => v.category).sum ≤ 8) (hd : decode cc pc = .ok (.invokevirtual i, 3)) (hcs : cells ≤ R.cells ∧ slots ≤ R.slots) (h : qM_arrow a K r p0 p1) (k : ∀ (v : Int32) (r1 : S_), K v r1 → vx_V p l e R s m args below meth c A D vwCl nL cells slots Q (wo G a r1) (pc + 3) lv (.int v :: st)) : vx_V p l e R s m args below meth c A D vwCl nL cells slots Q (wo G a r) pc lv (.int p1 :: .int p0 :: .ref (ob G 7) :: st) := by
  refine x_callVi C (CC := "ClassInferenceModel") (ci := 7) (q0 := 7) (fs := fl7 G a r) (As := [.int p0, .int p1]) rfl rfl (cM_arrow p0 p1 h) (cwV (C := "ClassInferenceModel") 2 C.1.2.2.2.2 (goodV hl wm1068 wp52 wm9 wm1069) rfl rfl rfl (by decide +kernel) hR) rfl hst hd hcs (fun v w hw => ?_)
  obtain ⟨r1, rfl, h⟩ := hw
  exact k v r1 h
def qM_find_L2 (a : L_) (r : S_) (KX22 : Int32 → Prop) : Nat → Int32 → Prop
  | 0, _ => False
  | n + 1, v2 => vp_in v2 (ln a 64) ∧ (((ar r 64 v2.toNatClampNeg) = v2) → KX22 v2) ∧ ((¬ (ar r 64 v2.toNatClampNeg) = v2) → vp_in v2 (ln a 64) ∧ (qM_find_L2 a r KX22 n) (ar r 64 v2.toNatClampNeg))
set_option maxRecDepth 100000 in
set_option maxHeartbeats 4000000 in
theorem tM_find_L2 (C : vx_C p s m args c prog_9_method_25_code 3 (Cond.code yM_find prog_9_method_25_code 3 (some .int) :: wAll) "ClassInferenceModel" D vwCl (tysG G) nwAll A) {a : L_} {r : S_} {KX22 : Int32 → Prop} (kX22 : ∀ (v2 : Int32), KX22 v2 → vx_V p l e { frames := 0, cells := 0, slots := 0, locals := 0 } s m args below meth c A D vwCl 3 0 0 Q (wo G a r) 22 [(2, .int v2)] []) : ∀ (n : Nat) (v2 : Int32), qM_find_L2 a r KX22 n v2 → vx_V p l e { frames := 0, cells := 0, slots := 0, locals := 0 } s m args below meth c A D vwCl 3 0 0 Q (wo G a r) 2 [(0, .ref (ob G 7)), (2, .int v2)] [] := by
  intro n
  induction n with
  | zero =>
    intro v2 h
    exact (by rw [qM_find_L2] at h; exact h : False).elim
  | succ n kB2 =>
    intro v2 h
    rw [qM_find_L2] at h
    refine x_aload_n C dM_find_2 rfl 0 rfl ?_
    refine gf_7_38 C (List.mem_cons_of_mem _ wm754) dM_find_3 ?_
    refine x_iload_n C dM_find_6 rfl 1 rfl ?_
    obtain ⟨g1, h⟩ := h
    refine y_ia C 64 (by decide) g1 dM_find_7 ?_
    refine x_iload_n C dM_find_8 rfl 1 rfl ?_
    refine x_icmp_eq (tgt := 22) C dM_find_9 (by decide) (fun g2 => ?_) (fun g2 => ?_)
    · have h := h.1 g2
      refine x_sub [1] rfl ?_
      exact kX22 v2 h
    · have h := h.2 g2
      refine x_aload_n C dM_find_12 rfl 0 rfl ?_
      refine gf_7_38 C (List.mem_cons_of_mem _ wm754) dM_find_13 ?_
      refine x_iload_n C dM_find_16 rfl 1 rfl ?_
      obtain ⟨g3, h⟩ := h
      refine y_ia C 64 (by decide) g3 dM_find_17 ?_
      refine x_istore_n C [(2, .int (ar r 64 v2.toNatClampNeg)), (0, .ref (ob G 7))] dM_find_18 rfl (by decide) rfl ?_
      refine x_goto (tgt := 2) C dM_find_19 (by decide) ?_
      refine x_sub [1, 0] rfl ?_
      exact kB2 (ar r 64 v2.toNatClampNeg) h
def qM_find (a : L_) (r : S_) (K : Int32 → Prop) (p0 : Int32) : Prop :=
  ∃ n4 : Nat, qM_find_L2 a r (fun v2 => K v2) n4 p0
set_option maxRecDepth 100000 in
set_option maxHeartbeats 4000000 in
theorem cM_find {a : L_} {r : S_} {K : Int32 → Prop} (p0 : Int32) (h : qM_find a r K p0) : vx_Mi l yM_find (Cond.code yM_find prog_9_method_25_code 3 (some .int) :: wAll) { frames := 0, cells := 0, slots := 0, locals := 0 } D vwCl (tysG G) nwAll (wo G a r) [.ref (ob G 7), .int p0] 0 0 (fun v w => w = wo G a r ∧ K v) := by
  unfold qM_find at h
  refine x_meti (cc := prog_9_method_25_code) (maxL := 3) (ret := (some .int)) (lv0 := [(0, .ref (ob G 7)), (1, .int p0)]) (by decide) rfl (Nat.le_of_ble_eq_true rfl) rfl ?_
  intro p e s m args below meth c A C hA hlocks hr
  refine x_iload_n C dM_find_0 rfl 1 rfl ?_
  refine x_istore_n C [(2, .int p0), (0, .ref (ob G 7)), (1, .int p0)] dM_find_1 rfl (by decide) rfl ?_
  obtain ⟨n4, h⟩ := h
  refine x_sub [1, 0] rfl ?_
  refine tM_find_L2 C (fun v2 h => ?_) n4 p0 h
  · refine x_iload_n C dM_find_22 rfl 0 rfl ?_
    exact x_iret C hA hlocks hr ⟨rfl, h⟩ dM_find_23
set_option maxRecDepth 100000 in
set_option maxHeartbeats 4000000 in
theorem kM_find {p : Program} {l : Launch} {e : Env} {R : Room} {s : State} {m : MethodId} {args : Array Value} {below : List Frame} {meth : Method} {c : Code} {cells slots : Nat} {Q : State → Prop} {A : Nat → Prop} {D : va_G} {nL pc : Nat} {cc : ByteArray} {cw : Cond} {own : String} {lv : List (Nat × Value)} {st : List Value} {G : G_} {a : L_} {r : S_} {K : Int32 → Prop} {p0 : Int32} (C : vx_C p s m args c cc nL (cw :: wAll) own D vwCl (tysG G) nwAll A) {i : Nat} (hl : Cond.methodLink own i yM_find ∈ wAll) (hR : 0 + 1 ≤ R.frames ∧ 8 + (3 + 11) + 0 ≤ R.locals) (hst : (st.map fun v => v.category).sum ≤ 8) (hd : decode cc pc = .ok (.invokevirtual i, 3)) (hcs : cells ≤ R.cells ∧ slots ≤ R.slots) (h : qM_find a r K p0) (k : ∀ (v : Int32), K v → vx_V p l e R s m args below meth c A D vwCl nL cells slots Q (wo G a r) (pc + 3) lv (.int v :: st)) : vx_V p l e R s m args below meth c A D vwCl nL cells slots Q (wo G a r) pc lv (.int p0 :: .ref (ob G 7) :: st) := by
  refine x_callVi C (CC := "ClassInferenceModel") (ci := 7) (q0 := 7) (fs := fl7 G a r) (As := [.int p0]) rfl rfl (cM_find p0 h) (cwV (C := "ClassInferenceModel") 1 C.1.2.2.2.2 (goodV hl wm1041 wp46 wm9 wm1042) rfl rfl rfl (by decide +kernel) hR) rfl hst hd hcs (fun v w hw => ?_)
  obtain ⟨rfl, h⟩ := hw
  exact k v h
end MTH
