section MTH
variable {p : Program} {l : Launch} {e : Env} {s : State} {m : MethodId} {args : Array Value} {below : List Frame} {meth : Method} {c : Code} {Q : State → Prop} {A : Nat → Prop} {D : va_G} {G : G_} {ws0 : va_W}
def qM_infer_J167 (a : L_) (KB128 : S_ → Int32 → Prop) (KX176 : S_ → Prop) (r : S_) (v2 : Int32) (u0 : Int32) : Prop :=
  zb u0 ∧ ∀ r29 : S_, r29 = sF r 34 u0 → KB128 r29 (v2 + 1)
set_option maxRecDepth 100000 in
set_option maxHeartbeats 4000000 in
theorem tM_infer_J167 (C : vx_C p s m args c prog_9_method_42_code 3 (Cond.code yM_infer prog_9_method_42_code 3 (some .int) :: wAll) "ClassInferenceModel" D vwCl (tysG G) nwAll A) {a : L_} {KB128 : S_ → Int32 → Prop} {KX176 : S_ → Prop} (kB128 : ∀ (r : S_) (v2 : Int32), KB128 r v2 → vx_V p l e { frames := 6, cells := 0, slots := 0, locals := 140 } s m args below meth c A D vwCl 3 0 0 Q (wo G a r) 128 [(0, .ref (ob G 7)), (2, .int v2)] []) (kX176 : ∀ (r : S_), KX176 r → vx_V p l e { frames := 6, cells := 0, slots := 0, locals := 140 } s m args below meth c A D vwCl 3 0 0 Q (wo G a r) 176 [(0, .ref (ob G 7))] []) (r : S_) (v2 : Int32) (u0 : Int32) (h : qM_infer_J167 a KB128 KX176 r v2 u0) : vx_V p l e { frames := 6, cells := 0, slots := 0, locals := 140 } s m args below meth c A D vwCl 3 0 0 Q (wo G a r) 167 [(0, .ref (ob G 7)), (2, .int v2)] [.int u0, .ref (ob G 7)] := by
  unfold qM_infer_J167 at h
  obtain ⟨g30, h⟩ := h
  refine pf_7_58 C (List.mem_cons_of_mem _ wm774) g30 dM_infer_167 (fun r29 er29 => ?_)
  have h := h r29 er29
  refine x_iinc (j := 1) (v := v2 + 1) C [(2, .int (v2 + 1)), (0, .ref (ob G 7))] dM_infer_170 rfl rfl (by decide) rfl ?_
  refine x_goto (tgt := 128) C dM_infer_173 (by decide) ?_
  refine x_sub [1, 0] rfl ?_
  exact kB128 r29 (v2 + 1) h
def qM_infer_J162 (a : L_) (KB128 : S_ → Int32 → Prop) (KX176 : S_ → Prop) (r : S_) (v2 : Int32) : Prop :=
  qM_infer_J167 a KB128 KX176 r v2 1
set_option maxRecDepth 100000 in
set_option maxHeartbeats 4000000 in
theorem tM_infer_J162 (C : vx_C p s m args c prog_9_method_42_code 3 (Cond.code yM_infer prog_9_method_42_code 3 (some .int) :: wAll) "ClassInferenceModel" D vwCl (tysG G) nwAll A) {a : L_} {KB128 : S_ → Int32 → Prop} {KX176 : S_ → Prop} (kB128 : ∀ (r : S_) (v2 : Int32), KB128 r v2 → vx_V p l e { frames := 6, cells := 0, slots := 0, locals := 140 } s m args below meth c A D vwCl 3 0 0 Q (wo G a r) 128 [(0, .ref (ob G 7)), (2, .int v2)] []) (kX176 : ∀ (r : S_), KX176 r → vx_V p l e { frames := 6, cells := 0, slots := 0, locals := 140 } s m args below meth c A D vwCl 3 0 0 Q (wo G a r) 176 [(0, .ref (ob G 7))] []) (r : S_) (v2 : Int32) (h : qM_infer_J162 a KB128 KX176 r v2) : vx_V p l e { frames := 6, cells := 0, slots := 0, locals := 140 } s m args below meth c A D vwCl 3 0 0 Q (wo G a r) 162 [(0, .ref (ob G 7)), (2, .int v2)] [.ref (ob G 7)] := by
  unfold qM_infer_J162 at h
  refine x_iconst (v := 1) C dM_infer_162 (by decide) ?_
  refine x_goto (tgt := 167) C dM_infer_163 (by decide) ?_
  refine x_sub [0, 1] rfl ?_
  exact tM_infer_J167 C kB128 kX176 r v2 1 h
def qM_infer_L128 (a : L_) (KX176 : S_ → Prop) : Nat → S_ → Int32 → Prop
  | 0, _, _ => False
  | n + 1, r, v2 => (((fi r 40) ≤ v2) → KX176 r) ∧ ((¬ (fi r 40) ≤ v2) → ((¬ (fi r 34) = 0) → qM_infer_J162 a (qM_infer_L128 a KX176 n) KX176 r v2) ∧ (((fi r 34) = 0) → vp_in v2 (ln a 84) ∧ vp_in (ar r 84 v2.toNatClampNeg) (ln a 68) ∧ (((ar r 68 (ar r 84 v2.toNatClampNeg).toNatClampNeg) = (fi r 29)) → qM_infer_J167 a (qM_infer_L128 a KX176 n) KX176 r v2 0) ∧ ((¬ (ar r 68 (ar r 84 v2.toNatClampNeg).toNatClampNeg) = (fi r 29)) → qM_infer_J162 a (qM_infer_L128 a KX176 n) KX176 r v2)))
set_option maxRecDepth 100000 in
set_option maxHeartbeats 4000000 in
theorem tM_infer_L128 (C : vx_C p s m args c prog_9_method_42_code 3 (Cond.code yM_infer prog_9_method_42_code 3 (some .int) :: wAll) "ClassInferenceModel" D vwCl (tysG G) nwAll A) {a : L_} {KX176 : S_ → Prop} (kX176 : ∀ (r : S_), KX176 r → vx_V p l e { frames := 6, cells := 0, slots := 0, locals := 140 } s m args below meth c A D vwCl 3 0 0 Q (wo G a r) 176 [(0, .ref (ob G 7))] []) : ∀ (n : Nat) (r : S_) (v2 : Int32), qM_infer_L128 a KX176 n r v2 → vx_V p l e { frames := 6, cells := 0, slots := 0, locals := 140 } s m args below meth c A D vwCl 3 0 0 Q (wo G a r) 128 [(0, .ref (ob G 7)), (2, .int v2)] [] := by
  intro n
  induction n with
  | zero =>
    intro r v2 h
    exact (by rw [qM_infer_L128] at h; exact h : False).elim
  | succ n kB128 =>
    intro r v2 h
    rw [qM_infer_L128] at h
    refine x_iload_n C dM_infer_128 rfl 1 rfl ?_
    refine x_aload_n C dM_infer_129 rfl 0 rfl ?_
    refine gf_7_71 C (List.mem_cons_of_mem _ wm787) dM_infer_130 ?_
    refine x_icmp_ge (tgt := 176) C dM_infer_133 (by decide) (fun g27 => ?_) (fun g27 => ?_)
    · have h := h.1 g27
      refine x_sub [0] rfl ?_
      exact kX176 r h
    · have h := h.2 g27
      refine x_aload_n C dM_infer_136 rfl 0 rfl ?_
      refine x_aload_n C dM_infer_137 rfl 0 rfl ?_
      refine gf_7_58 C (List.mem_cons_of_mem _ wm774) dM_infer_138 ?_
      refine x_if_ne (tgt := 162) C dM_infer_141 (by decide) (fun g28 => ?_) (fun g28 => ?_)
      · have h := h.1 g28
        refine x_sub [0, 1] rfl ?_
        exact tM_infer_J162 C kB128 kX176 r v2 h
      · have h := h.2 g28
        refine x_aload_n C dM_infer_144 rfl 0 rfl ?_
        refine gf_7_42 C (List.mem_cons_of_mem _ wm758) dM_infer_145 ?_
        refine x_aload_n C dM_infer_148 rfl 0 rfl ?_
        refine gf_7_72 C (List.mem_cons_of_mem _ wm788) dM_infer_149 ?_
        refine x_iload_n C dM_infer_152 rfl 1 rfl ?_
        obtain ⟨g31, h⟩ := h
        refine y_ia C 84 (by decide) g31 dM_infer_153 ?_
        obtain ⟨g32, h⟩ := h
        refine y_ia C 68 (by decide) g32 dM_infer_154 ?_
        refine x_aload_n C dM_infer_155 rfl 0 rfl ?_
        refine gf_7_43 C (List.mem_cons_of_mem _ wm759) dM_infer_156 ?_
        refine x_icmp_eq (tgt := 166) C dM_infer_159 (by decide) (fun g33 => ?_) (fun g33 => ?_)
        · have h := h.1 g33
          refine x_iconst (v := 0) C dM_infer_166 (by decide) ?_
          refine x_sub [0, 1] rfl ?_
          exact tM_infer_J167 C kB128 kX176 r v2 0 h
        · have h := h.2 g33
          refine x_sub [0, 1] rfl ?_
          exact tM_infer_J162 C kB128 kX176 r v2 h
def qM_infer (a : L_) (K : Int32 → S_ → Prop) (r : S_) (p0 : Int32) : Prop :=
  ∀ r1 : S_, r1 = sF r 20 0 → qM_isExpression a r1 (fun z2 => zb z2 → ((¬ z2 = 0) → vp_in p0 (ln a 49) ∧ (((ar r1 49 p0.toNatClampNeg) ≤ 24) → ∀ r6 : S_, r6 = sF r1 28 0 → ∀ r7 : S_, r7 = sF r6 29 0 → ∀ r8 : S_, r8 = sF r7 31 0 → ∀ r9 : S_, r9 = sF r8 27 0 → zb 0 ∧ ∀ r10 : S_, r10 = sF r9 32 0 → zb 0 ∧ ∀ r12 : S_, r12 = sF r10 33 0 → zb 0 ∧ ∀ r14 : S_, r14 = sF r12 34 0 → ∀ r16 : S_, r16 = sF r14 35 0 → qM_spread a (fun r17 => qM_typeAll a (fun r18 => qM_needNoRing a (fun r19 => (((fi r19 32) = 0) → qM_drive a (fun r21 => qM_takeNeeds a (fun r22 => ∀ r23 : S_, r23 = sF r22 30 0 → ∀ r24 : S_, r24 = sF r23 29 ((fi r23 29) + 1) → vp_in 0 (ln a 55) ∧ qM_reach a (fun r26 => ∃ n38 : Nat, qM_infer_L128 a (fun r => (((fi r 33) = 0) → (((fi r 34) = 0) → qM_keep a (fun r36 => vp_in (fi r36 37) (ln a 80) ∧ K (ar r36 80 (fi r36 37).toNatClampNeg) r36) r) ∧ ((¬ (fi r 34) = 0) → K (-5) r)) ∧ ((¬ (fi r 33) = 0) → K (-4) r)) n38 r26 0) r24 (ar r24 55 (0 : Int32).toNatClampNeg)) r21) r19 0) ∧ ((¬ (fi r19 32) = 0) → K (-2) r19)) r18) r17) r16 p0) ∧ ((¬ (ar r1 49 p0.toNatClampNeg) ≤ 24) → K (-3) r1)) ∧ ((z2 = 0) → K (-1) r1)) p0
set_option maxRecDepth 100000 in
set_option maxHeartbeats 4000000 in
theorem cM_infer {a : L_} {r : S_} {K : Int32 → S_ → Prop} (p0 : Int32) (h : qM_infer a K r p0) : vx_Mi l yM_infer (Cond.code yM_infer prog_9_method_42_code 3 (some .int) :: wAll) { frames := 6, cells := 0, slots := 0, locals := 140 } D vwCl (tysG G) nwAll (wo G a r) [.ref (ob G 7), .int p0] 0 0 (fun v w => ∃ r1, w = wo G a r1 ∧ K v r1) := by
  unfold qM_infer at h
  refine x_meti (cc := prog_9_method_42_code) (maxL := 3) (ret := (some .int)) (lv0 := [(0, .ref (ob G 7)), (1, .int p0)]) (by decide) rfl (Nat.le_of_ble_eq_true rfl) rfl ?_
  intro p e s m args below meth c A C hA hlocks hr
  refine x_aload_n C dM_infer_0 rfl 0 rfl ?_
  refine x_iconst (v := 0) C dM_infer_1 (by decide) ?_
  refine pf_7_0 C (List.mem_cons_of_mem _ wm716) dM_infer_2 (fun r1 er1 => ?_)
  have h := h r1 er1
  refine x_aload_n C dM_infer_5 rfl 0 rfl ?_
  refine x_iload_n C dM_infer_6 rfl 1 rfl ?_
  refine kM_isExpression C wm995 ⟨Nat.le_of_ble_eq_true rfl, Nat.le_of_ble_eq_true rfl⟩ (Nat.le_of_ble_eq_true rfl) dM_infer_7 ⟨Nat.zero_le _, Nat.zero_le _⟩ h (fun z2 hzz2 h => ?_)
  have h := h hzz2
  refine x_if_ne (tgt := 15) C dM_infer_10 (by decide) (fun g3 => ?_) (fun g3 => ?_)
  · have h := h.1 g3
    refine x_aload_n C dM_infer_15 rfl 0 rfl ?_
    refine gf_7_20 C (List.mem_cons_of_mem _ wm736) dM_infer_16 ?_
    refine x_iload_n C dM_infer_19 rfl 1 rfl ?_
    obtain ⟨g4, h⟩ := h
    refine y_ia C 49 (by decide) g4 dM_infer_20 ?_
    refine x_bipush (v := 24) C dM_infer_21 (by decide) ?_
    refine x_icmp_le (tgt := 29) C dM_infer_23 (by decide) (fun g5 => ?_) (fun g5 => ?_)
    · have h := h.1 g5
      refine x_aload_n C dM_infer_29 rfl 0 rfl ?_
      refine x_iconst (v := 0) C dM_infer_30 (by decide) ?_
      refine pf_7_37 C (List.mem_cons_of_mem _ wm753) dM_infer_31 (fun r6 er6 => ?_)
      have h := h r6 er6
      refine x_aload_n C dM_infer_34 rfl 0 rfl ?_
      refine x_iconst (v := 0) C dM_infer_35 (by decide) ?_
      refine pf_7_43 C (List.mem_cons_of_mem _ wm759) dM_infer_36 (fun r7 er7 => ?_)
      have h := h r7 er7
      refine x_aload_n C dM_infer_39 rfl 0 rfl ?_
      refine x_iconst (v := 0) C dM_infer_40 (by decide) ?_
      refine pf_7_53 C (List.mem_cons_of_mem _ wm769) dM_infer_41 (fun r8 er8 => ?_)
      have h := h r8 er8
      refine x_aload_n C dM_infer_44 rfl 0 rfl ?_
      refine x_iconst (v := 0) C dM_infer_45 (by decide) ?_
      refine pf_7_34 C (List.mem_cons_of_mem _ wm750) dM_infer_46 (fun r9 er9 => ?_)
      have h := h r9 er9
      refine x_aload_n C dM_infer_49 rfl 0 rfl ?_
      refine x_iconst (v := 0) C dM_infer_50 (by decide) ?_
      obtain ⟨g11, h⟩ := h
      refine pf_7_56 C (List.mem_cons_of_mem _ wm772) g11 dM_infer_51 (fun r10 er10 => ?_)
      have h := h r10 er10
      refine x_aload_n C dM_infer_54 rfl 0 rfl ?_
      refine x_iconst (v := 0) C dM_infer_55 (by decide) ?_
      obtain ⟨g13, h⟩ := h
      refine pf_7_57 C (List.mem_cons_of_mem _ wm773) g13 dM_infer_56 (fun r12 er12 => ?_)
      have h := h r12 er12
      refine x_aload_n C dM_infer_59 rfl 0 rfl ?_
      refine x_iconst (v := 0) C dM_infer_60 (by decide) ?_
      obtain ⟨g15, h⟩ := h
      refine pf_7_58 C (List.mem_cons_of_mem _ wm774) g15 dM_infer_61 (fun r14 er14 => ?_)
      have h := h r14 er14
      refine x_aload_n C dM_infer_64 rfl 0 rfl ?_
      refine x_iconst (v := 0) C dM_infer_65 (by decide) ?_
      refine pf_7_59 C (List.mem_cons_of_mem _ wm775) dM_infer_66 (fun r16 er16 => ?_)
      have h := h r16 er16
      refine x_aload_n C dM_infer_69 rfl 0 rfl ?_
      refine x_iload_n C dM_infer_70 rfl 1 rfl ?_
      refine kM_spread C wm1003 ⟨Nat.le_of_ble_eq_true rfl, Nat.le_of_ble_eq_true rfl⟩ (Nat.le_of_ble_eq_true rfl) dM_infer_71 ⟨Nat.zero_le _, Nat.zero_le _⟩ h (fun r17 h => ?_)
      refine x_aload_n C dM_infer_74 rfl 0 rfl ?_
      refine kM_typeAll C wm1011 ⟨Nat.le_of_ble_eq_true rfl, Nat.le_of_ble_eq_true rfl⟩ (Nat.le_of_ble_eq_true rfl) dM_infer_75 ⟨Nat.zero_le _, Nat.zero_le _⟩ h (fun r18 h => ?_)
      refine x_aload_n C dM_infer_78 rfl 0 rfl ?_
      refine kM_needNoRing C wm1074 ⟨Nat.le_of_ble_eq_true rfl, Nat.le_of_ble_eq_true rfl⟩ (Nat.le_of_ble_eq_true rfl) dM_infer_79 ⟨Nat.zero_le _, Nat.zero_le _⟩ h (fun r19 h => ?_)
      refine x_aload_n C dM_infer_82 rfl 0 rfl ?_
      refine gf_7_56 C (List.mem_cons_of_mem _ wm772) dM_infer_83 ?_
      refine x_if_eq (tgt := 92) C dM_infer_86 (by decide) (fun g20 => ?_) (fun g20 => ?_)
      · have h := h.1 g20
        refine x_aload_n C dM_infer_92 rfl 0 rfl ?_
        refine x_iconst (v := 0) C dM_infer_93 (by decide) ?_
        refine kM_drive C wm1082 ⟨Nat.le_of_ble_eq_true rfl, Nat.le_of_ble_eq_true rfl⟩ (Nat.le_of_ble_eq_true rfl) dM_infer_94 ⟨Nat.zero_le _, Nat.zero_le _⟩ h (fun r21 h => ?_)
        refine x_aload_n C dM_infer_97 rfl 0 rfl ?_
        refine kM_takeNeeds C wm1086 ⟨Nat.le_of_ble_eq_true rfl, Nat.le_of_ble_eq_true rfl⟩ (Nat.le_of_ble_eq_true rfl) dM_infer_98 ⟨Nat.zero_le _, Nat.zero_le _⟩ h (fun r22 h => ?_)
        refine x_aload_n C dM_infer_101 rfl 0 rfl ?_
        refine x_iconst (v := 0) C dM_infer_102 (by decide) ?_
        refine pf_7_50 C (List.mem_cons_of_mem _ wm766) dM_infer_103 (fun r23 er23 => ?_)
        have h := h r23 er23
        refine x_aload_n C dM_infer_106 rfl 0 rfl ?_
        refine x_dup C dM_infer_107 rfl ?_
        refine gf_7_43 C (List.mem_cons_of_mem _ wm759) dM_infer_108 ?_
        refine x_iconst (v := 1) C dM_infer_111 (by decide) ?_
        refine x_iadd C dM_infer_112 ?_
        refine pf_7_43 C (List.mem_cons_of_mem _ wm759) dM_infer_113 (fun r24 er24 => ?_)
        have h := h r24 er24
        refine x_aload_n C dM_infer_116 rfl 0 rfl ?_
        refine x_aload_n C dM_infer_117 rfl 0 rfl ?_
        refine gf_7_27 C (List.mem_cons_of_mem _ wm743) dM_infer_118 ?_
        refine x_iconst (v := 0) C dM_infer_121 (by decide) ?_
        obtain ⟨g25, h⟩ := h
        refine y_ia C 55 (by decide) g25 dM_infer_122 ?_
        refine kM_reach C wm1035 ⟨Nat.le_of_ble_eq_true rfl, Nat.le_of_ble_eq_true rfl⟩ (Nat.le_of_ble_eq_true rfl) dM_infer_123 ⟨Nat.zero_le _, Nat.zero_le _⟩ h (fun r26 h => ?_)
        refine x_iconst (v := 0) C dM_infer_126 (by decide) ?_
        refine x_istore_n C [(2, .int 0), (0, .ref (ob G 7)), (1, .int p0)] dM_infer_127 rfl (by decide) rfl ?_
        obtain ⟨n38, h⟩ := h
        refine x_sub [1, 0] rfl ?_
        refine tM_infer_L128 C (fun r h => ?_) n38 r26 0 h
        · refine x_aload_n C dM_infer_176 rfl 0 rfl ?_
          refine gf_7_57 C (List.mem_cons_of_mem _ wm773) dM_infer_177 ?_
          refine x_if_eq (tgt := 186) C dM_infer_180 (by decide) (fun g34 => ?_) (fun g34 => ?_)
          · have h := h.1 g34
            refine x_aload_n C dM_infer_186 rfl 0 rfl ?_
            refine gf_7_58 C (List.mem_cons_of_mem _ wm774) dM_infer_187 ?_
            refine x_if_eq (tgt := 196) C dM_infer_190 (by decide) (fun g35 => ?_) (fun g35 => ?_)
            · have h := h.1 g35
              refine x_aload_n C dM_infer_196 rfl 0 rfl ?_
              refine kM_keep C wm1098 ⟨Nat.le_of_ble_eq_true rfl, Nat.le_of_ble_eq_true rfl⟩ (Nat.le_of_ble_eq_true rfl) dM_infer_197 ⟨Nat.zero_le _, Nat.zero_le _⟩ h (fun r36 h => ?_)
              refine x_aload_n C dM_infer_200 rfl 0 rfl ?_
              refine gf_7_65 C (List.mem_cons_of_mem _ wm781) dM_infer_201 ?_
              refine x_aload_n C dM_infer_204 rfl 0 rfl ?_
              refine gf_7_61 C (List.mem_cons_of_mem _ wm777) dM_infer_205 ?_
              obtain ⟨g37, h⟩ := h
              refine y_ia C 80 (by decide) g37 dM_infer_208 ?_
              exact x_iret C hA hlocks hr ⟨r36, rfl, h⟩ dM_infer_209
            · have h := h.2 g35
              refine x_bipush (v := (-5)) C dM_infer_193 (by decide) ?_
              exact x_iret C hA hlocks hr ⟨r, rfl, h⟩ dM_infer_195
          · have h := h.2 g34
            refine x_bipush (v := (-4)) C dM_infer_183 (by decide) ?_
            exact x_iret C hA hlocks hr ⟨r, rfl, h⟩ dM_infer_185
      · have h := h.2 g20
        refine x_bipush (v := (-2)) C dM_infer_89 (by decide) ?_
        exact x_iret C hA hlocks hr ⟨r19, rfl, h⟩ dM_infer_91
    · have h := h.2 g5
      refine x_bipush (v := (-3)) C dM_infer_26 (by decide) ?_
      exact x_iret C hA hlocks hr ⟨r1, rfl, h⟩ dM_infer_28
  · have h := h.2 g3
    refine x_iconst (v := (-1)) C dM_infer_13 (by decide) ?_
    exact x_iret C hA hlocks hr ⟨r1, rfl, h⟩ dM_infer_14
set_option maxRecDepth 100000 in
set_option maxHeartbeats 4000000 in
theorem kM_infer {p : Program} {l : Launch} {e : Env} {R : Room} {s : State} {m : MethodId} {args : Array Value} {below : List Frame} {meth : Method} {c : Code} {cells slots : Nat} {Q : State → Prop} {A : Nat → Prop} {D : va_G} {nL pc : Nat} {cc : ByteArray} {cw : Cond} {own : String} {lv : List (Nat × Value)} {st : List Value} {G : G_} {a : L_} {r : S_} {K : Int32 → S_ → Prop} {p0 : Int32} (C : vx_C p s m args c cc nL (cw :: wAll) own D vwCl (tysG G) nwAll A) {i : Nat} (hl : Cond.methodLink own i yM_infer ∈ wAll) (hR : 6 + 1 ≤ R.frames ∧ 8 + (3 + 11) + 140 ≤ R.locals) (hst : (st.map fun v => v.category).sum ≤ 8) (hd : decode cc pc = .ok (.invokevirtual i, 3)) (hcs : cells ≤ R.cells ∧ slots ≤ R.slots) (h : qM_infer a K r p0) (k : ∀ (v : Int32) (r1 : S_), K v r1 → vx_V p l e R s m args below meth c A D vwCl nL cells slots Q (wo G a r1) (pc + 3) lv (.int v :: st)) : vx_V p l e R s m args below meth c A D vwCl nL cells slots Q (wo G a r) pc lv (.int p0 :: .ref (ob G 7) :: st) := by
  refine x_callVi C (CC := "ClassInferenceModel") (ci := 7) (q0 := 7) (fs := fl7 G a r) (As := [.int p0]) rfl rfl (cM_infer p0 h) (cwV (C := "ClassInferenceModel") 1 C.1.2.2.2.2 (goodV hl wm1000 wm1001 wm9 wm1002) rfl rfl rfl (by decide +kernel) hR) rfl hst hd hcs (fun v w hw => ?_)
  obtain ⟨r1, rfl, h⟩ := hw
  exact k v r1 h
def qM_hasLast (a : L_) (r : S_) (K : Int32 → Prop) : Prop :=
  vp_in (fi r 37) (ln a 80) ∧ (((ar r 80 (fi r 37).toNatClampNeg) ≤ 0) → zb 0 ∧ K 0) ∧ ((¬ (ar r 80 (fi r 37).toNatClampNeg) ≤ 0) → zb 1 ∧ K 1)
set_option maxRecDepth 100000 in
set_option maxHeartbeats 4000000 in
theorem cM_hasLast {a : L_} {r : S_} {K : Int32 → Prop} (h : qM_hasLast a r K ) : vx_Mi l yM_hasLast (Cond.code yM_hasLast prog_9_method_46_code 1 (some .boolean) :: wAll) { frames := 0, cells := 0, slots := 0, locals := 0 } D vwCl (tysG G) nwAll (wo G a r) [.ref (ob G 7)] 0 0 (fun v w => w = wo G a r ∧ zb v ∧ K v) := by
  unfold qM_hasLast at h
  refine x_meti (cc := prog_9_method_46_code) (maxL := 1) (ret := (some .boolean)) (lv0 := [(0, .ref (ob G 7))]) (by decide) rfl (Nat.le_of_ble_eq_true rfl) rfl ?_
  intro p e s m args below meth c A C hA hlocks hr
  refine x_aload_n C dM_hasLast_0 rfl 0 rfl ?_
  refine gf_7_65 C (List.mem_cons_of_mem _ wm781) dM_hasLast_1 ?_
  refine x_aload_n C dM_hasLast_4 rfl 0 rfl ?_
  refine gf_7_61 C (List.mem_cons_of_mem _ wm777) dM_hasLast_5 ?_
  obtain ⟨g1, h⟩ := h
  refine y_ia C 80 (by decide) g1 dM_hasLast_8 ?_
  refine x_if_le (tgt := 16) C dM_hasLast_9 (by decide) (fun g2 => ?_) (fun g2 => ?_)
  · have h := h.1 g2
    refine x_iconst (v := 0) C dM_hasLast_16 (by decide) ?_
    obtain ⟨g3, h⟩ := h
    exact x_zret C hA hlocks hr (zb_n g3) ⟨rfl, g3, h⟩ dM_hasLast_17
  · have h := h.2 g2
    refine x_iconst (v := 1) C dM_hasLast_12 (by decide) ?_
    refine x_goto (tgt := 17) C dM_hasLast_13 (by decide) ?_
    obtain ⟨g4, h⟩ := h
    exact x_zret C hA hlocks hr (zb_n g4) ⟨rfl, g4, h⟩ dM_hasLast_17
set_option maxRecDepth 100000 in
set_option maxHeartbeats 4000000 in
theorem kM_hasLast {p : Program} {l : Launch} {e : Env} {R : Room} {s : State} {m : MethodId} {args : Array Value} {below : List Frame} {meth : Method} {c : Code} {cells slots : Nat} {Q : State → Prop} {A : Nat → Prop} {D : va_G} {nL pc : Nat} {cc : ByteArray} {cw : Cond} {own : String} {lv : List (Nat × Value)} {st : List Value} {G : G_} {a : L_} {r : S_} {K : Int32 → Prop} (C : vx_C p s m args c cc nL (cw :: wAll) own D vwCl (tysG G) nwAll A) {i : Nat} (hl : Cond.methodLink own i yM_hasLast ∈ wAll) (hR : 0 + 1 ≤ R.frames ∧ 8 + (1 + 11) + 0 ≤ R.locals) (hst : (st.map fun v => v.category).sum ≤ 8) (hd : decode cc pc = .ok (.invokevirtual i, 3)) (hcs : cells ≤ R.cells ∧ slots ≤ R.slots) (h : qM_hasLast a r K ) (k : ∀ (v : Int32), zb v → K v → vx_V p l e R s m args below meth c A D vwCl nL cells slots Q (wo G a r) (pc + 3) lv (.int v :: st)) : vx_V p l e R s m args below meth c A D vwCl nL cells slots Q (wo G a r) pc lv (.ref (ob G 7) :: st) := by
  refine x_callVi C (CC := "ClassInferenceModel") (ci := 7) (q0 := 7) (fs := fl7 G a r) (As := []) rfl rfl (cM_hasLast  h) (cwV (C := "ClassInferenceModel") 0 C.1.2.2.2.2 (goodV hl wm1116 wp62 wm9 wm1117) rfl rfl rfl (by decide +kernel) hR) rfl hst hd hcs (fun v w hw => ?_)
  obtain ⟨rfl, h⟩ := hw
  exact k v h.1 h.2
def qM_shape_J87 (a : L_) (KB39 : S_ → Int32 → Int32 → Prop) (KX90 : S_ → Int32 → Prop) (r : S_) (v2 : Int32) (v3 : Int32) : Prop :=
  KB39 r v2 v3
set_option maxRecDepth 100000 in
set_option maxHeartbeats 4000000 in
theorem tM_shape_J87 (C : vx_C p s m args c prog_9_method_47_code 5 (Cond.code yM_shape prog_9_method_47_code 5 (some .int) :: wAll) "ClassInferenceModel" D vwCl (tysG G) nwAll A) {a : L_} {KB39 : S_ → Int32 → Int32 → Prop} {KX90 : S_ → Int32 → Prop} (kB39 : ∀ (r : S_) (v2 : Int32) (v3 : Int32), KB39 r v2 v3 → vx_V p l e { frames := 1, cells := 0, slots := 0, locals := 20 } s m args below meth c A D vwCl 5 0 0 Q (wo G a r) 39 [(0, .ref (ob G 7)), (2, .int v2), (3, .int v3)] []) (kX90 : ∀ (r : S_) (v2 : Int32), KX90 r v2 → vx_V p l e { frames := 1, cells := 0, slots := 0, locals := 20 } s m args below meth c A D vwCl 5 0 0 Q (wo G a r) 90 [(0, .ref (ob G 7)), (2, .int v2)] []) (r : S_) (v2 : Int32) (v3 : Int32) (h : qM_shape_J87 a KB39 KX90 r v2 v3) : vx_V p l e { frames := 1, cells := 0, slots := 0, locals := 20 } s m args below meth c A D vwCl 5 0 0 Q (wo G a r) 87 [(0, .ref (ob G 7)), (2, .int v2), (3, .int v3)] [] := by
  unfold qM_shape_J87 at h
  refine x_goto (tgt := 39) C dM_shape_87 (by decide) ?_
  refine x_sub [0, 1, 2] rfl ?_
  exact kB39 r v2 v3 h
def qM_shape_L39 (a : L_) (KX90 : S_ → Int32 → Prop) : Nat → S_ → Int32 → Int32 → Prop
  | 0, _, _, _ => False
  | n + 1, r, v2, v3 => ((v3 ≤ 0) → KX90 r v2) ∧ ((¬ v3 ≤ 0) → vp_in v2 (ln a 78) ∧ vp_in (ar r 78 v2.toNatClampNeg) (ln a 80) ∧ (((ar r 80 (ar r 78 v2.toNatClampNeg).toNatClampNeg) ≤ (v3 + (-1))) → ∀ z11 : Int32, z11 = (v3 + (-1)) - (ar r 80 (ar r 78 v2.toNatClampNeg).toNatClampNeg) → vp_in v2 (ln a 79) ∧ qM_shape_J87 a (qM_shape_L39 a KX90 n) KX90 r (ar r 79 v2.toNatClampNeg) z11) ∧ ((¬ (ar r 80 (ar r 78 v2.toNatClampNeg).toNatClampNeg) ≤ (v3 + (-1))) → vp_in v2 (ln a 78) ∧ qM_shape_J87 a (qM_shape_L39 a KX90 n) KX90 r (ar r 78 v2.toNatClampNeg) (v3 + (-1))))
set_option maxRecDepth 100000 in
set_option maxHeartbeats 4000000 in
theorem tM_shape_L39 (C : vx_C p s m args c prog_9_method_47_code 5 (Cond.code yM_shape prog_9_method_47_code 5 (some .int) :: wAll) "ClassInferenceModel" D vwCl (tysG G) nwAll A) {a : L_} {KX90 : S_ → Int32 → Prop} (kX90 : ∀ (r : S_) (v2 : Int32), KX90 r v2 → vx_V p l e { frames := 1, cells := 0, slots := 0, locals := 20 } s m args below meth c A D vwCl 5 0 0 Q (wo G a r) 90 [(0, .ref (ob G 7)), (2, .int v2)] []) : ∀ (n : Nat) (r : S_) (v2 : Int32) (v3 : Int32), qM_shape_L39 a KX90 n r v2 v3 → vx_V p l e { frames := 1, cells := 0, slots := 0, locals := 20 } s m args below meth c A D vwCl 5 0 0 Q (wo G a r) 39 [(0, .ref (ob G 7)), (2, .int v2), (3, .int v3)] [] := by
  intro n
  induction n with
  | zero =>
    intro r v2 v3 h
    exact (by rw [qM_shape_L39] at h; exact h : False).elim
  | succ n kB39 =>
    intro r v2 v3 h
    rw [qM_shape_L39] at h
    refine x_iload_n C dM_shape_39 rfl 2 rfl ?_
    refine x_if_le (tgt := 90) C dM_shape_40 (by decide) (fun g7 => ?_) (fun g7 => ?_)
    · have h := h.1 g7
      refine x_sub [0, 1] rfl ?_
      exact kX90 r v2 h
    · have h := h.2 g7
      refine x_iinc (j := 2) (v := v3 + (-1)) C [(3, .int (v3 + (-1))), (0, .ref (ob G 7)), (2, .int v2)] dM_shape_43 rfl rfl (by decide) rfl ?_
      refine x_aload_n C dM_shape_46 rfl 1 rfl ?_
      refine gf_7_65 C (List.mem_cons_of_mem _ wm781) dM_shape_47 ?_
      refine x_aload_n C dM_shape_50 rfl 1 rfl ?_
      refine gf_7_63 C (List.mem_cons_of_mem _ wm779) dM_shape_51 ?_
      refine x_iload_n C dM_shape_54 rfl 2 rfl ?_
      obtain ⟨g8, h⟩ := h
      refine y_ia C 78 (by decide) g8 dM_shape_55 ?_
      obtain ⟨g9, h⟩ := h
      refine y_ia C 80 (by decide) g9 dM_shape_56 ?_
      refine x_istore C [(4, .int (ar r 80 (ar r 78 v2.toNatClampNeg).toNatClampNeg)), (3, .int (v3 + (-1))), (0, .ref (ob G 7)), (2, .int v2)] dM_shape_57 (by decide) rfl ?_
      refine x_iload_n C dM_shape_59 rfl 1 rfl ?_
      refine x_iload C dM_shape_60 0 rfl ?_
      refine x_icmp_ge (tgt := 75) C dM_shape_62 (by decide) (fun g10 => ?_) (fun g10 => ?_)
      · have h := h.1 g10
        refine x_iload_n C dM_shape_75 rfl 1 rfl ?_
        refine x_iload C dM_shape_76 0 rfl ?_
        refine x_isub C dM_shape_78 ?_
        refine x_topi (fun z11 ez11 => ?_)
        have h := h z11 ez11
        refine x_istore_n C [(3, .int z11), (4, .int (ar r 80 (ar r 78 v2.toNatClampNeg).toNatClampNeg)), (0, .ref (ob G 7)), (2, .int v2)] dM_shape_79 rfl (by decide) rfl ?_
        refine x_aload_n C dM_shape_80 rfl 2 rfl ?_
        refine gf_7_64 C (List.mem_cons_of_mem _ wm780) dM_shape_81 ?_
        refine x_iload_n C dM_shape_84 rfl 3 rfl ?_
        obtain ⟨g12, h⟩ := h
        refine y_ia C 79 (by decide) g12 dM_shape_85 ?_
        refine x_istore_n C [(2, .int (ar r 79 v2.toNatClampNeg)), (3, .int z11), (4, .int (ar r 80 (ar r 78 v2.toNatClampNeg).toNatClampNeg)), (0, .ref (ob G 7))] dM_shape_86 rfl (by decide) rfl ?_
        refine x_sub [3, 0, 1] rfl ?_
        exact tM_shape_J87 C kB39 kX90 r (ar r 79 v2.toNatClampNeg) z11 h
      · have h := h.2 g10
        refine x_aload_n C dM_shape_65 rfl 2 rfl ?_
        refine gf_7_63 C (List.mem_cons_of_mem _ wm779) dM_shape_66 ?_
        refine x_iload_n C dM_shape_69 rfl 3 rfl ?_
        obtain ⟨g13, h⟩ := h
        refine y_ia C 78 (by decide) g13 dM_shape_70 ?_
        refine x_istore_n C [(2, .int (ar r 78 v2.toNatClampNeg)), (4, .int (ar r 80 (ar r 78 v2.toNatClampNeg).toNatClampNeg)), (3, .int (v3 + (-1))), (0, .ref (ob G 7))] dM_shape_71 rfl (by decide) rfl ?_
        refine x_goto (tgt := 87) C dM_shape_72 (by decide) ?_
        refine x_sub [3, 0, 2] rfl ?_
        exact tM_shape_J87 C kB39 kX90 r (ar r 78 v2.toNatClampNeg) (v3 + (-1)) h
def qM_shape (a : L_) (K : Int32 → S_ → Prop) (r : S_) (p0 : Int32) : Prop :=
  ∀ r1 : S_, r1 = sF r 20 0 → qM_hasLast a r1 (fun z2 => zb z2 → ((z2 = 0) → K (-100) r1) ∧ ((¬ z2 = 0) → ((p0 < 0) → K (-100) r1) ∧ ((¬ p0 < 0) → vp_in (fi r1 37) (ln a 80) ∧ ((p0 < (ar r1 80 (fi r1 37).toNatClampNeg)) → ∃ n15 : Nat, qM_shape_L39 a (fun r v2 => vp_in v2 (ln a 77) ∧ K (ar r 77 v2.toNatClampNeg) r) n15 r1 (fi r1 37) p0) ∧ ((¬ p0 < (ar r1 80 (fi r1 37).toNatClampNeg)) → K (-100) r1))))
set_option maxRecDepth 100000 in
set_option maxHeartbeats 4000000 in
theorem cM_shape {a : L_} {r : S_} {K : Int32 → S_ → Prop} (p0 : Int32) (h : qM_shape a K r p0) : vx_Mi l yM_shape (Cond.code yM_shape prog_9_method_47_code 5 (some .int) :: wAll) { frames := 1, cells := 0, slots := 0, locals := 20 } D vwCl (tysG G) nwAll (wo G a r) [.ref (ob G 7), .int p0] 0 0 (fun v w => ∃ r1, w = wo G a r1 ∧ K v r1) := by
  unfold qM_shape at h
  refine x_meti (cc := prog_9_method_47_code) (maxL := 5) (ret := (some .int)) (lv0 := [(0, .ref (ob G 7)), (1, .int p0)]) (by decide) rfl (Nat.le_of_ble_eq_true rfl) rfl ?_
  intro p e s m args below meth c A C hA hlocks hr
  refine x_aload_n C dM_shape_0 rfl 0 rfl ?_
  refine x_iconst (v := 0) C dM_shape_1 (by decide) ?_
  refine pf_7_0 C (List.mem_cons_of_mem _ wm716) dM_shape_2 (fun r1 er1 => ?_)
  have h := h r1 er1
  refine x_aload_n C dM_shape_5 rfl 0 rfl ?_
  refine kM_hasLast C wm1114 ⟨Nat.le_of_ble_eq_true rfl, Nat.le_of_ble_eq_true rfl⟩ (Nat.le_of_ble_eq_true rfl) dM_shape_6 ⟨Nat.zero_le _, Nat.zero_le _⟩ h (fun z2 hzz2 h => ?_)
  have h := h hzz2
  refine x_if_eq (tgt := 29) C dM_shape_9 (by decide) (fun g3 => ?_) (fun g3 => ?_)
  · have h := h.1 g3
    refine x_bipush (v := (-100)) C dM_shape_29 (by decide) ?_
    exact x_iret C hA hlocks hr ⟨r1, rfl, h⟩ dM_shape_31
  · have h := h.2 g3
    refine x_iload_n C dM_shape_12 rfl 1 rfl ?_
    refine x_if_lt (tgt := 29) C dM_shape_13 (by decide) (fun g4 => ?_) (fun g4 => ?_)
    · have h := h.1 g4
      refine x_bipush (v := (-100)) C dM_shape_29 (by decide) ?_
      exact x_iret C hA hlocks hr ⟨r1, rfl, h⟩ dM_shape_31
    · have h := h.2 g4
      refine x_iload_n C dM_shape_16 rfl 1 rfl ?_
      refine x_aload_n C dM_shape_17 rfl 0 rfl ?_
      refine gf_7_65 C (List.mem_cons_of_mem _ wm781) dM_shape_18 ?_
      refine x_aload_n C dM_shape_21 rfl 0 rfl ?_
      refine gf_7_61 C (List.mem_cons_of_mem _ wm777) dM_shape_22 ?_
      obtain ⟨g5, h⟩ := h
      refine y_ia C 80 (by decide) g5 dM_shape_25 ?_
      refine x_icmp_lt (tgt := 32) C dM_shape_26 (by decide) (fun g6 => ?_) (fun g6 => ?_)
      · have h := h.1 g6
        refine x_aload_n C dM_shape_32 rfl 0 rfl ?_
        refine gf_7_61 C (List.mem_cons_of_mem _ wm777) dM_shape_33 ?_
        refine x_istore_n C [(2, .int (fi r1 37)), (0, .ref (ob G 7)), (1, .int p0)] dM_shape_36 rfl (by decide) rfl ?_
        refine x_iload_n C dM_shape_37 rfl 2 rfl ?_
        refine x_istore_n C [(3, .int p0), (2, .int (fi r1 37)), (0, .ref (ob G 7)), (1, .int p0)] dM_shape_38 rfl (by decide) rfl ?_
        obtain ⟨n15, h⟩ := h
        refine x_sub [2, 1, 0] rfl ?_
        refine tM_shape_L39 C (fun r v2 h => ?_) n15 r1 (fi r1 37) p0 h
        · refine x_aload_n C dM_shape_90 rfl 0 rfl ?_
          refine gf_7_62 C (List.mem_cons_of_mem _ wm778) dM_shape_91 ?_
          refine x_iload_n C dM_shape_94 rfl 1 rfl ?_
          obtain ⟨g14, h⟩ := h
          refine y_ia C 77 (by decide) g14 dM_shape_95 ?_
          exact x_iret C hA hlocks hr ⟨r, rfl, h⟩ dM_shape_96
      · have h := h.2 g6
        refine x_bipush (v := (-100)) C dM_shape_29 (by decide) ?_
        exact x_iret C hA hlocks hr ⟨r1, rfl, h⟩ dM_shape_31
set_option maxRecDepth 100000 in
set_option maxHeartbeats 4000000 in
theorem kM_shape {p : Program} {l : Launch} {e : Env} {R : Room} {s : State} {m : MethodId} {args : Array Value} {below : List Frame} {meth : Method} {c : Code} {cells slots : Nat} {Q : State → Prop} {A : Nat → Prop} {D : va_G} {nL pc : Nat} {cc : ByteArray} {cw : Cond} {own : String} {lv : List (Nat × Value)} {st : List Value} {G : G_} {a : L_} {r : S_} {K : Int32 → S_ → Prop} {p0 : Int32} (C : vx_C p s m args c cc nL (cw :: wAll) own D vwCl (tysG G) nwAll A) {i : Nat} (hl : Cond.methodLink own i yM_shape ∈ wAll) (hR : 1 + 1 ≤ R.frames ∧ 8 + (5 + 11) + 20 ≤ R.locals) (hst : (st.map fun v => v.category).sum ≤ 8) (hd : decode cc pc = .ok (.invokevirtual i, 3)) (hcs : cells ≤ R.cells ∧ slots ≤ R.slots) (h : qM_shape a K r p0) (k : ∀ (v : Int32) (r1 : S_), K v r1 → vx_V p l e R s m args below meth c A D vwCl nL cells slots Q (wo G a r1) (pc + 3) lv (.int v :: st)) : vx_V p l e R s m args below meth c A D vwCl nL cells slots Q (wo G a r) pc lv (.int p0 :: .ref (ob G 7) :: st) := by
  refine x_callVi C (CC := "ClassInferenceModel") (ci := 7) (q0 := 7) (fs := fl7 G a r) (As := [.int p0]) rfl rfl (cM_shape p0 h) (cwV (C := "ClassInferenceModel") 1 C.1.2.2.2.2 (goodV hl wm1111 wm1112 wm9 wm1113) rfl rfl rfl (by decide +kernel) hR) rfl hst hd hcs (fun v w hw => ?_)
  obtain ⟨r1, rfl, h⟩ := hw
  exact k v r1 h
def qM_wants (a : L_) (K : Int32 → S_ → Prop) (r : S_) : Prop :=
  ∀ r1 : S_, r1 = sF r 20 0 → K (fi r1 38) r1
set_option maxRecDepth 100000 in
set_option maxHeartbeats 4000000 in
theorem cM_wants {a : L_} {r : S_} {K : Int32 → S_ → Prop} (h : qM_wants a K r ) : vx_Mi l yM_wants (Cond.code yM_wants prog_9_method_48_code 1 (some .int) :: wAll) { frames := 0, cells := 0, slots := 0, locals := 0 } D vwCl (tysG G) nwAll (wo G a r) [.ref (ob G 7)] 0 0 (fun v w => ∃ r1, w = wo G a r1 ∧ K v r1) := by
  unfold qM_wants at h
  refine x_meti (cc := prog_9_method_48_code) (maxL := 1) (ret := (some .int)) (lv0 := [(0, .ref (ob G 7))]) (by decide) rfl (Nat.le_of_ble_eq_true rfl) rfl ?_
  intro p e s m args below meth c A C hA hlocks hr
  refine x_aload_n C dM_wants_0 rfl 0 rfl ?_
  refine x_iconst (v := 0) C dM_wants_1 (by decide) ?_
  refine pf_7_0 C (List.mem_cons_of_mem _ wm716) dM_wants_2 (fun r1 er1 => ?_)
  have h := h r1 er1
  refine x_aload_n C dM_wants_5 rfl 0 rfl ?_
  refine gf_7_66 C (List.mem_cons_of_mem _ wm782) dM_wants_6 ?_
  exact x_iret C hA hlocks hr ⟨r1, rfl, h⟩ dM_wants_9
set_option maxRecDepth 100000 in
set_option maxHeartbeats 4000000 in
theorem kM_wants {p : Program} {l : Launch} {e : Env} {R : Room} {s : State} {m : MethodId} {args : Array Value} {below : List Frame} {meth : Method} {c : Code} {cells slots : Nat} {Q : State → Prop} {A : Nat → Prop} {D : va_G} {nL pc : Nat} {cc : ByteArray} {cw : Cond} {own : String} {lv : List (Nat × Value)} {st : List Value} {G : G_} {a : L_} {r : S_} {K : Int32 → S_ → Prop} (C : vx_C p s m args c cc nL (cw :: wAll) own D vwCl (tysG G) nwAll A) {i : Nat} (hl : Cond.methodLink own i yM_wants ∈ wAll) (hR : 0 + 1 ≤ R.frames ∧ 8 + (1 + 11) + 0 ≤ R.locals) (hst : (st.map fun v => v.category).sum ≤ 8) (hd : decode cc pc = .ok (.invokevirtual i, 3)) (hcs : cells ≤ R.cells ∧ slots ≤ R.slots) (h : qM_wants a K r ) (k : ∀ (v : Int32) (r1 : S_), K v r1 → vx_V p l e R s m args below meth c A D vwCl nL cells slots Q (wo G a r1) (pc + 3) lv (.int v :: st)) : vx_V p l e R s m args below meth c A D vwCl nL cells slots Q (wo G a r) pc lv (.ref (ob G 7) :: st) := by
  refine x_callVi C (CC := "ClassInferenceModel") (ci := 7) (q0 := 7) (fs := fl7 G a r) (As := []) rfl rfl (cM_wants  h) (cwV (C := "ClassInferenceModel") 0 C.1.2.2.2.2 (goodV hl wm1119 wm1120 wm9 wm1121) rfl rfl rfl (by decide +kernel) hR) rfl hst hd hcs (fun v w hw => ?_)
  obtain ⟨r1, rfl, h⟩ := hw
  exact k v r1 h
def qM_want_J28 (a : L_) (K : Int32 → S_ → Prop) (r : S_) : Prop :=
  K (-1) r
set_option maxRecDepth 100000 in
set_option maxHeartbeats 4000000 in
theorem tM_want_J28 (C : vx_C p s m args c prog_9_method_49_code 3 (Cond.code yM_want prog_9_method_49_code 3 (some .int) :: wAll) "ClassInferenceModel" D vwCl (tysG G) nwAll A) (hA : A = va_A ws0 s.heap.size) (hlocks : meth.locks = false) (hr : meth.sig.returnType = (some .int)) {a : L_} {K : Int32 → S_ → Prop} (r : S_) (h : qM_want_J28 a K r) : vx_V p l e { frames := 1, cells := 0, slots := 0, locals := 22 } s m args below meth c A D vwCl 3 0 0 (MQ below (va_Qi (fun v w => ∃ r1, w = wo G a r1 ∧ K v r1) (vx_B D vwCl (tysG G) A) A) args s 0 0 A) (wo G a r) 28 [] [] := by
  unfold qM_want_J28 at h
  refine x_iconst (v := (-1)) C dM_want_28 (by decide) ?_
  refine x_goto (tgt := 51) C dM_want_29 (by decide) ?_
  exact x_iret C hA hlocks hr ⟨r, rfl, h⟩ dM_want_51
def qM_want (a : L_) (K : Int32 → S_ → Prop) (r : S_) (p0 : Int32) (p1 : Int32) : Prop :=
  ∀ r1 : S_, r1 = sF r 20 0 → qM_in a r1 (fun z2 => zb z2 → ((z2 = 0) → qM_want_J28 a K r1) ∧ ((¬ z2 = 0) → qM_in a r1 (fun z4 => zb z4 → ((¬ z4 = 0) → ((¬ p1 = 0) → vp_in p0 (ln a 82) ∧ K (ar r1 82 p0.toNatClampNeg) r1) ∧ ((p1 = 0) → vp_in p0 (ln a 81) ∧ K (ar r1 81 p0.toNatClampNeg) r1)) ∧ ((z4 = 0) → qM_want_J28 a K r1)) p1 0 1)) p0 0 ((fi r1 38) - 1)
set_option maxRecDepth 100000 in
set_option maxHeartbeats 4000000 in
theorem cM_want {a : L_} {r : S_} {K : Int32 → S_ → Prop} (p0 : Int32) (p1 : Int32) (h : qM_want a K r p0 p1) : vx_Mi l yM_want (Cond.code yM_want prog_9_method_49_code 3 (some .int) :: wAll) { frames := 1, cells := 0, slots := 0, locals := 22 } D vwCl (tysG G) nwAll (wo G a r) [.ref (ob G 7), .int p0, .int p1] 0 0 (fun v w => ∃ r1, w = wo G a r1 ∧ K v r1) := by
  unfold qM_want at h
  refine x_meti (cc := prog_9_method_49_code) (maxL := 3) (ret := (some .int)) (lv0 := [(0, .ref (ob G 7)), (1, .int p0), (2, .int p1)]) (by decide) rfl (Nat.le_of_ble_eq_true rfl) rfl ?_
  intro p e s m args below meth c A C hA hlocks hr
  refine x_aload_n C dM_want_0 rfl 0 rfl ?_
  refine x_iconst (v := 0) C dM_want_1 (by decide) ?_
  refine pf_7_0 C (List.mem_cons_of_mem _ wm716) dM_want_2 (fun r1 er1 => ?_)
  have h := h r1 er1
  refine x_iload_n C dM_want_5 rfl 1 rfl ?_
  refine x_iconst (v := 0) C dM_want_6 (by decide) ?_
  refine x_aload_n C dM_want_7 rfl 0 rfl ?_
  refine gf_7_66 C (List.mem_cons_of_mem _ wm782) dM_want_8 ?_
  refine x_iconst (v := 1) C dM_want_11 (by decide) ?_
  refine x_isub C dM_want_12 ?_
  refine kM_in C wm944 ⟨Nat.le_of_ble_eq_true rfl, Nat.le_of_ble_eq_true rfl⟩ (Nat.le_of_ble_eq_true rfl) dM_want_13 ⟨Nat.zero_le _, Nat.zero_le _⟩ h (fun z2 hzz2 h => ?_)
  have h := h hzz2
  refine x_if_eq (tgt := 28) C dM_want_16 (by decide) (fun g3 => ?_) (fun g3 => ?_)
  · have h := h.1 g3
    refine x_sub [] rfl ?_
    exact tM_want_J28 C hA hlocks hr r1 h
  · have h := h.2 g3
    refine x_iload_n C dM_want_19 rfl 2 rfl ?_
    refine x_iconst (v := 0) C dM_want_20 (by decide) ?_
    refine x_iconst (v := 1) C dM_want_21 (by decide) ?_
    refine kM_in C wm944 ⟨Nat.le_of_ble_eq_true rfl, Nat.le_of_ble_eq_true rfl⟩ (Nat.le_of_ble_eq_true rfl) dM_want_22 ⟨Nat.zero_le _, Nat.zero_le _⟩ h (fun z4 hzz4 h => ?_)
    have h := h hzz4
    refine x_if_ne (tgt := 32) C dM_want_25 (by decide) (fun g5 => ?_) (fun g5 => ?_)
    · have h := h.1 g5
      refine x_iload_n C dM_want_32 rfl 2 rfl ?_
      refine x_if_ne (tgt := 45) C dM_want_33 (by decide) (fun g6 => ?_) (fun g6 => ?_)
      · have h := h.1 g6
        refine x_aload_n C dM_want_45 rfl 0 rfl ?_
        refine gf_7_68 C (List.mem_cons_of_mem _ wm784) dM_want_46 ?_
        refine x_iload_n C dM_want_49 rfl 1 rfl ?_
        obtain ⟨g7, h⟩ := h
        refine y_ia C 82 (by decide) g7 dM_want_50 ?_
        exact x_iret C hA hlocks hr ⟨r1, rfl, h⟩ dM_want_51
      · have h := h.2 g6
        refine x_aload_n C dM_want_36 rfl 0 rfl ?_
        refine gf_7_67 C (List.mem_cons_of_mem _ wm783) dM_want_37 ?_
        refine x_iload_n C dM_want_40 rfl 1 rfl ?_
        obtain ⟨g8, h⟩ := h
        refine y_ia C 81 (by decide) g8 dM_want_41 ?_
        refine x_goto (tgt := 51) C dM_want_42 (by decide) ?_
        exact x_iret C hA hlocks hr ⟨r1, rfl, h⟩ dM_want_51
    · have h := h.2 g5
      refine x_sub [] rfl ?_
      exact tM_want_J28 C hA hlocks hr r1 h
set_option maxRecDepth 100000 in
set_option maxHeartbeats 4000000 in
theorem kM_want {p : Program} {l : Launch} {e : Env} {R : Room} {s : State} {m : MethodId} {args : Array Value} {below : List Frame} {meth : Method} {c : Code} {cells slots : Nat} {Q : State → Prop} {A : Nat → Prop} {D : va_G} {nL pc : Nat} {cc : ByteArray} {cw : Cond} {own : String} {lv : List (Nat × Value)} {st : List Value} {G : G_} {a : L_} {r : S_} {K : Int32 → S_ → Prop} {p0 : Int32} {p1 : Int32} (C : vx_C p s m args c cc nL (cw :: wAll) own D vwCl (tysG G) nwAll A) {i : Nat} (hl : Cond.methodLink own i yM_want ∈ wAll) (hR : 1 + 1 ≤ R.frames ∧ 8 + (3 + 11) + 22 ≤ R.locals) (hst : (st.map fun v => v.category).sum ≤ 8) (hd : decode cc pc = .ok (.invokevirtual i, 3)) (hcs : cells ≤ R.cells ∧ slots ≤ R.slots) (h : qM_want a K r p0 p1) (k : ∀ (v : Int32) (r1 : S_), K v r1 → vx_V p l e R s m args below meth c A D vwCl nL cells slots Q (wo G a r1) (pc + 3) lv (.int v :: st)) : vx_V p l e R s m args below meth c A D vwCl nL cells slots Q (wo G a r) pc lv (.int p1 :: .int p0 :: .ref (ob G 7) :: st) := by
  refine x_callVi C (CC := "ClassInferenceModel") (ci := 7) (q0 := 7) (fs := fl7 G a r) (As := [.int p0, .int p1]) rfl rfl (cM_want p0 p1 h) (cwV (C := "ClassInferenceModel") 2 C.1.2.2.2.2 (goodV hl wm1123 wm1124 wm9 wm1125) rfl rfl rfl (by decide +kernel) hR) rfl hst hd hcs (fun v w hw => ?_)
  obtain ⟨r1, rfl, h⟩ := hw
  exact k v r1 h
def qM_passes (a : L_) (K : Int32 → S_ → Prop) (r : S_) : Prop :=
  ∀ r1 : S_, r1 = sF r 20 0 → K (fi r1 39) r1
set_option maxRecDepth 100000 in
set_option maxHeartbeats 4000000 in
theorem cM_passes {a : L_} {r : S_} {K : Int32 → S_ → Prop} (h : qM_passes a K r ) : vx_Mi l yM_passes (Cond.code yM_passes prog_9_method_50_code 1 (some .int) :: wAll) { frames := 0, cells := 0, slots := 0, locals := 0 } D vwCl (tysG G) nwAll (wo G a r) [.ref (ob G 7)] 0 0 (fun v w => ∃ r1, w = wo G a r1 ∧ K v r1) := by
  unfold qM_passes at h
  refine x_meti (cc := prog_9_method_50_code) (maxL := 1) (ret := (some .int)) (lv0 := [(0, .ref (ob G 7))]) (by decide) rfl (Nat.le_of_ble_eq_true rfl) rfl ?_
  intro p e s m args below meth c A C hA hlocks hr
  refine x_aload_n C dM_passes_0 rfl 0 rfl ?_
  refine x_iconst (v := 0) C dM_passes_1 (by decide) ?_
  refine pf_7_0 C (List.mem_cons_of_mem _ wm716) dM_passes_2 (fun r1 er1 => ?_)
  have h := h r1 er1
  refine x_aload_n C dM_passes_5 rfl 0 rfl ?_
  refine gf_7_69 C (List.mem_cons_of_mem _ wm785) dM_passes_6 ?_
  exact x_iret C hA hlocks hr ⟨r1, rfl, h⟩ dM_passes_9
set_option maxRecDepth 100000 in
set_option maxHeartbeats 4000000 in
theorem kM_passes {p : Program} {l : Launch} {e : Env} {R : Room} {s : State} {m : MethodId} {args : Array Value} {below : List Frame} {meth : Method} {c : Code} {cells slots : Nat} {Q : State → Prop} {A : Nat → Prop} {D : va_G} {nL pc : Nat} {cc : ByteArray} {cw : Cond} {own : String} {lv : List (Nat × Value)} {st : List Value} {G : G_} {a : L_} {r : S_} {K : Int32 → S_ → Prop} (C : vx_C p s m args c cc nL (cw :: wAll) own D vwCl (tysG G) nwAll A) {i : Nat} (hl : Cond.methodLink own i yM_passes ∈ wAll) (hR : 0 + 1 ≤ R.frames ∧ 8 + (1 + 11) + 0 ≤ R.locals) (hst : (st.map fun v => v.category).sum ≤ 8) (hd : decode cc pc = .ok (.invokevirtual i, 3)) (hcs : cells ≤ R.cells ∧ slots ≤ R.slots) (h : qM_passes a K r ) (k : ∀ (v : Int32) (r1 : S_), K v r1 → vx_V p l e R s m args below meth c A D vwCl nL cells slots Q (wo G a r1) (pc + 3) lv (.int v :: st)) : vx_V p l e R s m args below meth c A D vwCl nL cells slots Q (wo G a r) pc lv (.ref (ob G 7) :: st) := by
  refine x_callVi C (CC := "ClassInferenceModel") (ci := 7) (q0 := 7) (fs := fl7 G a r) (As := []) rfl rfl (cM_passes  h) (cwV (C := "ClassInferenceModel") 0 C.1.2.2.2.2 (goodV hl wm1127 wm1128 wm9 wm1129) rfl rfl rfl (by decide +kernel) hR) rfl hst hd hcs (fun v w hw => ?_)
  obtain ⟨r1, rfl, h⟩ := hw
  exact k v r1 h
end MTH
