section MTH
variable {p : Program} {l : Launch} {e : Env} {s : State} {m : MethodId} {args : Array Value} {below : List Frame} {meth : Method} {c : Code} {Q : State → Prop} {A : Nat → Prop} {D : va_G} {G : G_} {ws0 : va_W}
def qM_generalise_J86 (a : L_) (KB63 : S_ → Int32 → Int32 → Int32 → Prop) (KX96 : S_ → Int32 → Int32 → Prop) (r : S_) (v1 : Int32) (v2 : Int32) (v3 : Int32) : Prop :=
  vp_in v3 (ln a 51) ∧ KB63 r v1 v2 (ar r 51 v3.toNatClampNeg)
set_option maxRecDepth 100000 in
set_option maxHeartbeats 4000000 in
theorem tM_generalise_J86 (C : vx_C p s m args c prog_9_method_36_code 4 (Cond.code yM_generalise prog_9_method_36_code 4 none :: wAll) "ClassInferenceModel" D vwCl (tysG G) nwAll A) {a : L_} {KB63 : S_ → Int32 → Int32 → Int32 → Prop} {KX96 : S_ → Int32 → Int32 → Prop} (kB63 : ∀ (r : S_) (v1 : Int32) (v2 : Int32) (v3 : Int32), KB63 r v1 v2 v3 → vx_V p l e { frames := 3, cells := 0, slots := 0, locals := 66 } s m args below meth c A D vwCl 4 0 0 Q (wo G a r) 63 [(0, .ref (ob G 7)), (1, .int v1), (2, .int v2), (3, .int v3)] []) (kX96 : ∀ (r : S_) (v1 : Int32) (v2 : Int32), KX96 r v1 v2 → vx_V p l e { frames := 3, cells := 0, slots := 0, locals := 66 } s m args below meth c A D vwCl 4 0 0 Q (wo G a r) 96 [(0, .ref (ob G 7)), (1, .int v1), (2, .int v2)] []) (r : S_) (v1 : Int32) (v2 : Int32) (v3 : Int32) (h : qM_generalise_J86 a KB63 KX96 r v1 v2 v3) : vx_V p l e { frames := 3, cells := 0, slots := 0, locals := 66 } s m args below meth c A D vwCl 4 0 0 Q (wo G a r) 86 [(0, .ref (ob G 7)), (1, .int v1), (2, .int v2), (3, .int v3)] [] := by
  unfold qM_generalise_J86 at h
  refine x_aload_n C dM_generalise_86 rfl 0 rfl ?_
  refine gf_7_23 C (List.mem_cons_of_mem _ wm739) dM_generalise_87 ?_
  refine x_iload_n C dM_generalise_90 rfl 3 rfl ?_
  obtain ⟨g14, h⟩ := h
  refine y_ia C 51 (by decide) g14 dM_generalise_91 ?_
  refine x_istore_n C [(3, .int (ar r 51 v3.toNatClampNeg)), (0, .ref (ob G 7)), (1, .int v1), (2, .int v2)] dM_generalise_92 rfl (by decide) rfl ?_
  refine x_goto (tgt := 63) C dM_generalise_93 (by decide) ?_
  refine x_sub [1, 2, 3, 0] rfl ?_
  exact kB63 r v1 v2 (ar r 51 v3.toNatClampNeg) h
def qM_generalise_L63 (a : L_) (KX96 : S_ → Int32 → Int32 → Prop) : Nat → S_ → Int32 → Int32 → Int32 → Prop
  | 0, _, _, _, _ => False
  | n + 1, r, v1, v2, v3 => ((v3 < 0) → KX96 r v1 v2) ∧ ((¬ v3 < 0) → qM_kindOf a r (fun z12 => ((¬ z12 = 1) → qM_generalise_J86 a (qM_generalise_L63 a KX96 n) KX96 r v1 v2 v3) ∧ ((z12 = 1) → vp_in v3 (ln a 56) ∧ qM_reach a (fun r16 => qM_generalise_J86 a (qM_generalise_L63 a KX96 n) KX96 r16 v1 v2 v3) r (ar r 56 v3.toNatClampNeg))) v3)
set_option maxRecDepth 100000 in
set_option maxHeartbeats 4000000 in
theorem tM_generalise_L63 (C : vx_C p s m args c prog_9_method_36_code 4 (Cond.code yM_generalise prog_9_method_36_code 4 none :: wAll) "ClassInferenceModel" D vwCl (tysG G) nwAll A) {a : L_} {KX96 : S_ → Int32 → Int32 → Prop} (kX96 : ∀ (r : S_) (v1 : Int32) (v2 : Int32), KX96 r v1 v2 → vx_V p l e { frames := 3, cells := 0, slots := 0, locals := 66 } s m args below meth c A D vwCl 4 0 0 Q (wo G a r) 96 [(0, .ref (ob G 7)), (1, .int v1), (2, .int v2)] []) : ∀ (n : Nat) (r : S_) (v1 : Int32) (v2 : Int32) (v3 : Int32), qM_generalise_L63 a KX96 n r v1 v2 v3 → vx_V p l e { frames := 3, cells := 0, slots := 0, locals := 66 } s m args below meth c A D vwCl 4 0 0 Q (wo G a r) 63 [(0, .ref (ob G 7)), (1, .int v1), (2, .int v2), (3, .int v3)] [] := by
  intro n
  induction n with
  | zero =>
    intro r v1 v2 v3 h
    exact (by rw [qM_generalise_L63] at h; exact h : False).elim
  | succ n kB63 =>
    intro r v1 v2 v3 h
    rw [qM_generalise_L63] at h
    refine x_iload_n C dM_generalise_63 rfl 3 rfl ?_
    refine x_if_lt (tgt := 96) C dM_generalise_64 (by decide) (fun g11 => ?_) (fun g11 => ?_)
    · have h := h.1 g11
      refine x_sub [0, 1, 2] rfl ?_
      exact kX96 r v1 v2 h
    · have h := h.2 g11
      refine x_aload_n C dM_generalise_67 rfl 0 rfl ?_
      refine x_iload_n C dM_generalise_68 rfl 3 rfl ?_
      refine kM_kindOf C wm1019 ⟨Nat.le_of_ble_eq_true rfl, Nat.le_of_ble_eq_true rfl⟩ (Nat.le_of_ble_eq_true rfl) dM_generalise_69 ⟨Nat.zero_le _, Nat.zero_le _⟩ h (fun z12 h => ?_)
      refine x_iconst (v := 1) C dM_generalise_72 (by decide) ?_
      refine x_icmp_ne (tgt := 86) C dM_generalise_73 (by decide) (fun g13 => ?_) (fun g13 => ?_)
      · have h := h.1 g13
        refine x_sub [0, 1, 2, 3] rfl ?_
        exact tM_generalise_J86 C kB63 kX96 r v1 v2 v3 h
      · have h := h.2 g13
        refine x_aload_n C dM_generalise_76 rfl 0 rfl ?_
        refine x_aload_n C dM_generalise_77 rfl 0 rfl ?_
        refine gf_7_28 C (List.mem_cons_of_mem _ wm744) dM_generalise_78 ?_
        refine x_iload_n C dM_generalise_81 rfl 3 rfl ?_
        obtain ⟨g15, h⟩ := h
        refine y_ia C 56 (by decide) g15 dM_generalise_82 ?_
        refine kM_reach C wm1035 ⟨Nat.le_of_ble_eq_true rfl, Nat.le_of_ble_eq_true rfl⟩ (Nat.le_of_ble_eq_true rfl) dM_generalise_83 ⟨Nat.zero_le _, Nat.zero_le _⟩ h (fun r16 h => ?_)
        refine x_sub [0, 1, 2, 3] rfl ?_
        exact tM_generalise_J86 C kB63 kX96 r16 v1 v2 v3 h
def qM_generalise_J144 (a : L_) (KB98 : S_ → Int32 → Int32 → Int32 → Prop) (KX150 : S_ → Int32 → Prop) (r : S_) (v1 : Int32) (v2 : Int32) (v3 : Int32) : Prop :=
  KB98 r v1 v2 (v3 + 1)
set_option maxRecDepth 100000 in
set_option maxHeartbeats 4000000 in
theorem tM_generalise_J144 (C : vx_C p s m args c prog_9_method_36_code 4 (Cond.code yM_generalise prog_9_method_36_code 4 none :: wAll) "ClassInferenceModel" D vwCl (tysG G) nwAll A) {a : L_} {KB98 : S_ → Int32 → Int32 → Int32 → Prop} {KX150 : S_ → Int32 → Prop} (kB98 : ∀ (r : S_) (v1 : Int32) (v2 : Int32) (v3 : Int32), KB98 r v1 v2 v3 → vx_V p l e { frames := 3, cells := 0, slots := 0, locals := 66 } s m args below meth c A D vwCl 4 0 0 Q (wo G a r) 98 [(0, .ref (ob G 7)), (1, .int v1), (2, .int v2), (3, .int v3)] []) (kX150 : ∀ (r : S_) (v1 : Int32), KX150 r v1 → vx_V p l e { frames := 3, cells := 0, slots := 0, locals := 66 } s m args below meth c A D vwCl 4 0 0 Q (wo G a r) 150 [(0, .ref (ob G 7)), (1, .int v1)] []) (r : S_) (v1 : Int32) (v2 : Int32) (v3 : Int32) (h : qM_generalise_J144 a KB98 KX150 r v1 v2 v3) : vx_V p l e { frames := 3, cells := 0, slots := 0, locals := 66 } s m args below meth c A D vwCl 4 0 0 Q (wo G a r) 144 [(0, .ref (ob G 7)), (1, .int v1), (2, .int v2), (3, .int v3)] [] := by
  unfold qM_generalise_J144 at h
  refine x_iinc (j := 3) (v := v3 + 1) C [(3, .int (v3 + 1)), (0, .ref (ob G 7)), (1, .int v1), (2, .int v2)] dM_generalise_144 rfl rfl (by decide) rfl ?_
  refine x_goto (tgt := 98) C dM_generalise_147 (by decide) ?_
  refine x_sub [1, 2, 3, 0] rfl ?_
  exact kB98 r v1 v2 (v3 + 1) h
def qM_generalise_L98 (a : L_) (KX150 : S_ → Int32 → Prop) : Nat → S_ → Int32 → Int32 → Int32 → Prop
  | 0, _, _, _, _ => False
  | n + 1, r, v1, v2, v3 => (((fi r 40) ≤ v3) → KX150 r v1) ∧ ((¬ (fi r 40) ≤ v3) → vp_in v3 (ln a 84) ∧ vp_in (ar r 84 v3.toNatClampNeg) (ln a 68) ∧ ((¬ (ar r 68 (ar r 84 v3.toNatClampNeg).toNatClampNeg) = v2) → qM_generalise_J144 a (qM_generalise_L98 a KX150 n) KX150 r v1 v2 v3) ∧ (((ar r 68 (ar r 84 v3.toNatClampNeg).toNatClampNeg) = v2) → vp_in v3 (ln a 84) ∧ vp_in v3 (ln a 85) ∧ qM_addWant a (fun r23 => vp_in v3 (ln a 85) ∧ ∀ r25 : S_, r25 = sA r23 85 (upd (ar r23 85) v3.toNatClampNeg 0) → qM_generalise_J144 a (qM_generalise_L98 a KX150 n) KX150 r25 v1 v2 v3) r (ar r 84 v3.toNatClampNeg) (ar r 85 v3.toNatClampNeg)))
set_option maxRecDepth 100000 in
set_option maxHeartbeats 4000000 in
theorem tM_generalise_L98 (C : vx_C p s m args c prog_9_method_36_code 4 (Cond.code yM_generalise prog_9_method_36_code 4 none :: wAll) "ClassInferenceModel" D vwCl (tysG G) nwAll A) {a : L_} {KX150 : S_ → Int32 → Prop} (kX150 : ∀ (r : S_) (v1 : Int32), KX150 r v1 → vx_V p l e { frames := 3, cells := 0, slots := 0, locals := 66 } s m args below meth c A D vwCl 4 0 0 Q (wo G a r) 150 [(0, .ref (ob G 7)), (1, .int v1)] []) : ∀ (n : Nat) (r : S_) (v1 : Int32) (v2 : Int32) (v3 : Int32), qM_generalise_L98 a KX150 n r v1 v2 v3 → vx_V p l e { frames := 3, cells := 0, slots := 0, locals := 66 } s m args below meth c A D vwCl 4 0 0 Q (wo G a r) 98 [(0, .ref (ob G 7)), (1, .int v1), (2, .int v2), (3, .int v3)] [] := by
  intro n
  induction n with
  | zero =>
    intro r v1 v2 v3 h
    exact (by rw [qM_generalise_L98] at h; exact h : False).elim
  | succ n kB98 =>
    intro r v1 v2 v3 h
    rw [qM_generalise_L98] at h
    refine x_iload_n C dM_generalise_98 rfl 3 rfl ?_
    refine x_aload_n C dM_generalise_99 rfl 0 rfl ?_
    refine gf_7_71 C (List.mem_cons_of_mem _ wm787) dM_generalise_100 ?_
    refine x_icmp_ge (tgt := 150) C dM_generalise_103 (by decide) (fun g17 => ?_) (fun g17 => ?_)
    · have h := h.1 g17
      refine x_sub [0, 1] rfl ?_
      exact kX150 r v1 h
    · have h := h.2 g17
      refine x_aload_n C dM_generalise_106 rfl 0 rfl ?_
      refine gf_7_42 C (List.mem_cons_of_mem _ wm758) dM_generalise_107 ?_
      refine x_aload_n C dM_generalise_110 rfl 0 rfl ?_
      refine gf_7_72 C (List.mem_cons_of_mem _ wm788) dM_generalise_111 ?_
      refine x_iload_n C dM_generalise_114 rfl 3 rfl ?_
      obtain ⟨g18, h⟩ := h
      refine y_ia C 84 (by decide) g18 dM_generalise_115 ?_
      obtain ⟨g19, h⟩ := h
      refine y_ia C 68 (by decide) g19 dM_generalise_116 ?_
      refine x_iload_n C dM_generalise_117 rfl 2 rfl ?_
      refine x_icmp_ne (tgt := 144) C dM_generalise_118 (by decide) (fun g20 => ?_) (fun g20 => ?_)
      · have h := h.1 g20
        refine x_sub [0, 1, 2, 3] rfl ?_
        exact tM_generalise_J144 C kB98 kX150 r v1 v2 v3 h
      · have h := h.2 g20
        refine x_aload_n C dM_generalise_121 rfl 0 rfl ?_
        refine x_aload_n C dM_generalise_122 rfl 0 rfl ?_
        refine gf_7_72 C (List.mem_cons_of_mem _ wm788) dM_generalise_123 ?_
        refine x_iload_n C dM_generalise_126 rfl 3 rfl ?_
        obtain ⟨g21, h⟩ := h
        refine y_ia C 84 (by decide) g21 dM_generalise_127 ?_
        refine x_aload_n C dM_generalise_128 rfl 0 rfl ?_
        refine gf_7_73 C (List.mem_cons_of_mem _ wm789) dM_generalise_129 ?_
        refine x_iload_n C dM_generalise_132 rfl 3 rfl ?_
        obtain ⟨g22, h⟩ := h
        refine y_ia C 85 (by decide) g22 dM_generalise_133 ?_
        refine kM_addWant C wm1051 ⟨Nat.le_of_ble_eq_true rfl, Nat.le_of_ble_eq_true rfl⟩ (Nat.le_of_ble_eq_true rfl) dM_generalise_134 ⟨Nat.zero_le _, Nat.zero_le _⟩ h (fun r23 h => ?_)
        refine x_aload_n C dM_generalise_137 rfl 0 rfl ?_
        refine gf_7_73 C (List.mem_cons_of_mem _ wm789) dM_generalise_138 ?_
        refine x_iload_n C dM_generalise_141 rfl 3 rfl ?_
        refine x_iconst (v := 0) C dM_generalise_142 (by decide) ?_
        obtain ⟨g24, h⟩ := h
        refine y_is C 85 (by decide) g24 dM_generalise_143 (fun r25 er25 => ?_)
        have h := h r25 er25
        refine x_sub [0, 1, 2, 3] rfl ?_
        exact tM_generalise_J144 C kB98 kX150 r25 v1 v2 v3 h
def qM_generalise_J294 (a : L_) (KB187 : S_ → Int32 → Int32 → Prop) (KX300 : S_ → Int32 → Prop) (r : S_) (v1 : Int32) (v3 : Int32) : Prop :=
  KB187 r v1 (v3 + 1)
set_option maxRecDepth 100000 in
set_option maxHeartbeats 4000000 in
theorem tM_generalise_J294 (C : vx_C p s m args c prog_9_method_36_code 4 (Cond.code yM_generalise prog_9_method_36_code 4 none :: wAll) "ClassInferenceModel" D vwCl (tysG G) nwAll A) {a : L_} {KB187 : S_ → Int32 → Int32 → Prop} {KX300 : S_ → Int32 → Prop} (kB187 : ∀ (r : S_) (v1 : Int32) (v3 : Int32), KB187 r v1 v3 → vx_V p l e { frames := 3, cells := 0, slots := 0, locals := 66 } s m args below meth c A D vwCl 4 0 0 Q (wo G a r) 187 [(0, .ref (ob G 7)), (1, .int v1), (3, .int v3)] []) (kX300 : ∀ (r : S_) (v1 : Int32), KX300 r v1 → vx_V p l e { frames := 3, cells := 0, slots := 0, locals := 66 } s m args below meth c A D vwCl 4 0 0 Q (wo G a r) 300 [(0, .ref (ob G 7)), (1, .int v1)] []) (r : S_) (v1 : Int32) (v3 : Int32) (h : qM_generalise_J294 a KB187 KX300 r v1 v3) : vx_V p l e { frames := 3, cells := 0, slots := 0, locals := 66 } s m args below meth c A D vwCl 4 0 0 Q (wo G a r) 294 [(0, .ref (ob G 7)), (1, .int v1), (3, .int v3)] [] := by
  unfold qM_generalise_J294 at h
  refine x_iinc (j := 2) (v := v3 + 1) C [(3, .int (v3 + 1)), (0, .ref (ob G 7)), (1, .int v1)] dM_generalise_294 rfl rfl (by decide) rfl ?_
  refine x_goto (tgt := 187) C dM_generalise_297 (by decide) ?_
  refine x_sub [1, 2, 0] rfl ?_
  exact kB187 r v1 (v3 + 1) h
def qM_generalise_J291 (a : L_) (KB187 : S_ → Int32 → Int32 → Prop) (KX300 : S_ → Int32 → Prop) (r : S_) (v1 : Int32) (v3 : Int32) (u0 : Int32) : Prop :=
  zb u0 ∧ ∀ r36 : S_, r36 = sF r 34 u0 → qM_generalise_J294 a KB187 KX300 r36 v1 v3
set_option maxRecDepth 100000 in
set_option maxHeartbeats 4000000 in
theorem tM_generalise_J291 (C : vx_C p s m args c prog_9_method_36_code 4 (Cond.code yM_generalise prog_9_method_36_code 4 none :: wAll) "ClassInferenceModel" D vwCl (tysG G) nwAll A) {a : L_} {KB187 : S_ → Int32 → Int32 → Prop} {KX300 : S_ → Int32 → Prop} (kB187 : ∀ (r : S_) (v1 : Int32) (v3 : Int32), KB187 r v1 v3 → vx_V p l e { frames := 3, cells := 0, slots := 0, locals := 66 } s m args below meth c A D vwCl 4 0 0 Q (wo G a r) 187 [(0, .ref (ob G 7)), (1, .int v1), (3, .int v3)] []) (kX300 : ∀ (r : S_) (v1 : Int32), KX300 r v1 → vx_V p l e { frames := 3, cells := 0, slots := 0, locals := 66 } s m args below meth c A D vwCl 4 0 0 Q (wo G a r) 300 [(0, .ref (ob G 7)), (1, .int v1)] []) (r : S_) (v1 : Int32) (v3 : Int32) (u0 : Int32) (h : qM_generalise_J291 a KB187 KX300 r v1 v3 u0) : vx_V p l e { frames := 3, cells := 0, slots := 0, locals := 66 } s m args below meth c A D vwCl 4 0 0 Q (wo G a r) 291 [(0, .ref (ob G 7)), (1, .int v1), (3, .int v3)] [.int u0, .ref (ob G 7)] := by
  unfold qM_generalise_J291 at h
  obtain ⟨g37, h⟩ := h
  refine pf_7_58 C (List.mem_cons_of_mem _ wm774) g37 dM_generalise_291 (fun r36 er36 => ?_)
  have h := h r36 er36
  refine x_sub [0, 1, 2] rfl ?_
  exact tM_generalise_J294 C kB187 kX300 r36 v1 v3 h
def qM_generalise_J286 (a : L_) (KB187 : S_ → Int32 → Int32 → Prop) (KX300 : S_ → Int32 → Prop) (r : S_) (v1 : Int32) (v3 : Int32) : Prop :=
  qM_generalise_J291 a KB187 KX300 r v1 v3 1
set_option maxRecDepth 100000 in
set_option maxHeartbeats 4000000 in
theorem tM_generalise_J286 (C : vx_C p s m args c prog_9_method_36_code 4 (Cond.code yM_generalise prog_9_method_36_code 4 none :: wAll) "ClassInferenceModel" D vwCl (tysG G) nwAll A) {a : L_} {KB187 : S_ → Int32 → Int32 → Prop} {KX300 : S_ → Int32 → Prop} (kB187 : ∀ (r : S_) (v1 : Int32) (v3 : Int32), KB187 r v1 v3 → vx_V p l e { frames := 3, cells := 0, slots := 0, locals := 66 } s m args below meth c A D vwCl 4 0 0 Q (wo G a r) 187 [(0, .ref (ob G 7)), (1, .int v1), (3, .int v3)] []) (kX300 : ∀ (r : S_) (v1 : Int32), KX300 r v1 → vx_V p l e { frames := 3, cells := 0, slots := 0, locals := 66 } s m args below meth c A D vwCl 4 0 0 Q (wo G a r) 300 [(0, .ref (ob G 7)), (1, .int v1)] []) (r : S_) (v1 : Int32) (v3 : Int32) (h : qM_generalise_J286 a KB187 KX300 r v1 v3) : vx_V p l e { frames := 3, cells := 0, slots := 0, locals := 66 } s m args below meth c A D vwCl 4 0 0 Q (wo G a r) 286 [(0, .ref (ob G 7)), (1, .int v1), (3, .int v3)] [.ref (ob G 7)] := by
  unfold qM_generalise_J286 at h
  refine x_iconst (v := 1) C dM_generalise_286 (by decide) ?_
  refine x_goto (tgt := 291) C dM_generalise_287 (by decide) ?_
  refine x_sub [0, 1, 2] rfl ?_
  exact tM_generalise_J291 C kB187 kX300 r v1 v3 1 h
def qM_generalise_J269 (a : L_) (KB187 : S_ → Int32 → Int32 → Prop) (KX300 : S_ → Int32 → Prop) (r : S_) (v1 : Int32) (v3 : Int32) : Prop :=
  ((¬ (fi r 34) = 0) → qM_generalise_J286 a KB187 KX300 r v1 v3) ∧ (((fi r 34) = 0) → vp_in v3 (ln a 85) ∧ (((ar r 85 v3.toNatClampNeg) = 0) → qM_generalise_J291 a KB187 KX300 r v1 v3 0) ∧ ((¬ (ar r 85 v3.toNatClampNeg) = 0) → qM_generalise_J286 a KB187 KX300 r v1 v3))
set_option maxRecDepth 100000 in
set_option maxHeartbeats 4000000 in
theorem tM_generalise_J269 (C : vx_C p s m args c prog_9_method_36_code 4 (Cond.code yM_generalise prog_9_method_36_code 4 none :: wAll) "ClassInferenceModel" D vwCl (tysG G) nwAll A) {a : L_} {KB187 : S_ → Int32 → Int32 → Prop} {KX300 : S_ → Int32 → Prop} (kB187 : ∀ (r : S_) (v1 : Int32) (v3 : Int32), KB187 r v1 v3 → vx_V p l e { frames := 3, cells := 0, slots := 0, locals := 66 } s m args below meth c A D vwCl 4 0 0 Q (wo G a r) 187 [(0, .ref (ob G 7)), (1, .int v1), (3, .int v3)] []) (kX300 : ∀ (r : S_) (v1 : Int32), KX300 r v1 → vx_V p l e { frames := 3, cells := 0, slots := 0, locals := 66 } s m args below meth c A D vwCl 4 0 0 Q (wo G a r) 300 [(0, .ref (ob G 7)), (1, .int v1)] []) (r : S_) (v1 : Int32) (v3 : Int32) (h : qM_generalise_J269 a KB187 KX300 r v1 v3) : vx_V p l e { frames := 3, cells := 0, slots := 0, locals := 66 } s m args below meth c A D vwCl 4 0 0 Q (wo G a r) 269 [(0, .ref (ob G 7)), (1, .int v1), (3, .int v3)] [] := by
  unfold qM_generalise_J269 at h
  refine x_aload_n C dM_generalise_269 rfl 0 rfl ?_
  refine x_aload_n C dM_generalise_270 rfl 0 rfl ?_
  refine gf_7_58 C (List.mem_cons_of_mem _ wm774) dM_generalise_271 ?_
  refine x_if_ne (tgt := 286) C dM_generalise_274 (by decide) (fun g35 => ?_) (fun g35 => ?_)
  · have h := h.1 g35
    refine x_sub [0, 1, 2] rfl ?_
    exact tM_generalise_J286 C kB187 kX300 r v1 v3 h
  · have h := h.2 g35
    refine x_aload_n C dM_generalise_277 rfl 0 rfl ?_
    refine gf_7_73 C (List.mem_cons_of_mem _ wm789) dM_generalise_278 ?_
    refine x_iload_n C dM_generalise_281 rfl 2 rfl ?_
    obtain ⟨g38, h⟩ := h
    refine y_ia C 85 (by decide) g38 dM_generalise_282 ?_
    refine x_if_eq (tgt := 290) C dM_generalise_283 (by decide) (fun g39 => ?_) (fun g39 => ?_)
    · have h := h.1 g39
      refine x_iconst (v := 0) C dM_generalise_290 (by decide) ?_
      refine x_sub [0, 1, 2] rfl ?_
      exact tM_generalise_J291 C kB187 kX300 r v1 v3 0 h
    · have h := h.2 g39
      refine x_sub [0, 1, 2] rfl ?_
      exact tM_generalise_J286 C kB187 kX300 r v1 v3 h
def qM_generalise_L187 (a : L_) (KX300 : S_ → Int32 → Prop) : Nat → S_ → Int32 → Int32 → Prop
  | 0, _, _, _ => False
  | n + 1, r, v1, v3 => (((fi r 40) ≤ v3) → KX300 r v1) ∧ ((¬ (fi r 40) ≤ v3) → vp_in v3 (ln a 85) ∧ (((ar r 85 v3.toNatClampNeg) = 0) → qM_generalise_J269 a (qM_generalise_L187 a KX300 n) KX300 r v1 v3) ∧ ((¬ (ar r 85 v3.toNatClampNeg) = 0) → vp_in v3 (ln a 84) ∧ vp_in (ar r 84 v3.toNatClampNeg) (ln a 68) ∧ ((¬ (ar r 68 (ar r 84 v3.toNatClampNeg).toNatClampNeg) = (fi r 29)) → qM_generalise_J269 a (qM_generalise_L187 a KX300 n) KX300 r v1 v3) ∧ (((ar r 68 (ar r 84 v3.toNatClampNeg).toNatClampNeg) = (fi r 29)) → vp_in v3 (ln a 84) ∧ vp_in (fi r 27) (ln a 62) ∧ ∀ r45 : S_, r45 = sA r 62 (upd (ar r 62) (fi r 27).toNatClampNeg (ar r 84 v3.toNatClampNeg)) → vp_in v3 (ln a 85) ∧ qM_least a r45 (fun z47 => vp_in (fi r45 27) (ln a 63) ∧ ∀ r49 : S_, r49 = sA r45 63 (upd (ar r45 63) (fi r45 27).toNatClampNeg z47) → ∀ r50 : S_, r50 = sF r49 27 ((fi r49 27) + 1) → qM_generalise_J294 a (qM_generalise_L187 a KX300 n) KX300 r50 v1 v3) (ar r45 85 v3.toNatClampNeg))))
set_option maxRecDepth 100000 in
set_option maxHeartbeats 4000000 in
theorem tM_generalise_L187 (C : vx_C p s m args c prog_9_method_36_code 4 (Cond.code yM_generalise prog_9_method_36_code 4 none :: wAll) "ClassInferenceModel" D vwCl (tysG G) nwAll A) {a : L_} {KX300 : S_ → Int32 → Prop} (kX300 : ∀ (r : S_) (v1 : Int32), KX300 r v1 → vx_V p l e { frames := 3, cells := 0, slots := 0, locals := 66 } s m args below meth c A D vwCl 4 0 0 Q (wo G a r) 300 [(0, .ref (ob G 7)), (1, .int v1)] []) : ∀ (n : Nat) (r : S_) (v1 : Int32) (v3 : Int32), qM_generalise_L187 a KX300 n r v1 v3 → vx_V p l e { frames := 3, cells := 0, slots := 0, locals := 66 } s m args below meth c A D vwCl 4 0 0 Q (wo G a r) 187 [(0, .ref (ob G 7)), (1, .int v1), (3, .int v3)] [] := by
  intro n
  induction n with
  | zero =>
    intro r v1 v3 h
    exact (by rw [qM_generalise_L187] at h; exact h : False).elim
  | succ n kB187 =>
    intro r v1 v3 h
    rw [qM_generalise_L187] at h
    refine x_iload_n C dM_generalise_187 rfl 2 rfl ?_
    refine x_aload_n C dM_generalise_188 rfl 0 rfl ?_
    refine gf_7_71 C (List.mem_cons_of_mem _ wm787) dM_generalise_189 ?_
    refine x_icmp_ge (tgt := 300) C dM_generalise_192 (by decide) (fun g32 => ?_) (fun g32 => ?_)
    · have h := h.1 g32
      refine x_sub [0, 1] rfl ?_
      exact kX300 r v1 h
    · have h := h.2 g32
      refine x_aload_n C dM_generalise_195 rfl 0 rfl ?_
      refine gf_7_73 C (List.mem_cons_of_mem _ wm789) dM_generalise_196 ?_
      refine x_iload_n C dM_generalise_199 rfl 2 rfl ?_
      obtain ⟨g33, h⟩ := h
      refine y_ia C 85 (by decide) g33 dM_generalise_200 ?_
      refine x_if_eq (tgt := 269) C dM_generalise_201 (by decide) (fun g34 => ?_) (fun g34 => ?_)
      · have h := h.1 g34
        refine x_sub [0, 1, 2] rfl ?_
        exact tM_generalise_J269 C kB187 kX300 r v1 v3 h
      · have h := h.2 g34
        refine x_aload_n C dM_generalise_204 rfl 0 rfl ?_
        refine gf_7_42 C (List.mem_cons_of_mem _ wm758) dM_generalise_205 ?_
        refine x_aload_n C dM_generalise_208 rfl 0 rfl ?_
        refine gf_7_72 C (List.mem_cons_of_mem _ wm788) dM_generalise_209 ?_
        refine x_iload_n C dM_generalise_212 rfl 2 rfl ?_
        obtain ⟨g40, h⟩ := h
        refine y_ia C 84 (by decide) g40 dM_generalise_213 ?_
        obtain ⟨g41, h⟩ := h
        refine y_ia C 68 (by decide) g41 dM_generalise_214 ?_
        refine x_aload_n C dM_generalise_215 rfl 0 rfl ?_
        refine gf_7_43 C (List.mem_cons_of_mem _ wm759) dM_generalise_216 ?_
        refine x_icmp_ne (tgt := 269) C dM_generalise_219 (by decide) (fun g42 => ?_) (fun g42 => ?_)
        · have h := h.1 g42
          refine x_sub [0, 1, 2] rfl ?_
          exact tM_generalise_J269 C kB187 kX300 r v1 v3 h
        · have h := h.2 g42
          refine x_aload_n C dM_generalise_222 rfl 0 rfl ?_
          refine gf_7_35 C (List.mem_cons_of_mem _ wm751) dM_generalise_223 ?_
          refine x_aload_n C dM_generalise_226 rfl 0 rfl ?_
          refine gf_7_34 C (List.mem_cons_of_mem _ wm750) dM_generalise_227 ?_
          refine x_aload_n C dM_generalise_230 rfl 0 rfl ?_
          refine gf_7_72 C (List.mem_cons_of_mem _ wm788) dM_generalise_231 ?_
          refine x_iload_n C dM_generalise_234 rfl 2 rfl ?_
          obtain ⟨g43, h⟩ := h
          refine y_ia C 84 (by decide) g43 dM_generalise_235 ?_
          obtain ⟨g44, h⟩ := h
          refine y_is C 62 (by decide) g44 dM_generalise_236 (fun r45 er45 => ?_)
          have h := h r45 er45
          refine x_aload_n C dM_generalise_237 rfl 0 rfl ?_
          refine gf_7_36 C (List.mem_cons_of_mem _ wm752) dM_generalise_238 ?_
          refine x_aload_n C dM_generalise_241 rfl 0 rfl ?_
          refine gf_7_34 C (List.mem_cons_of_mem _ wm750) dM_generalise_242 ?_
          refine x_aload_n C dM_generalise_245 rfl 0 rfl ?_
          refine x_aload_n C dM_generalise_246 rfl 0 rfl ?_
          refine gf_7_73 C (List.mem_cons_of_mem _ wm789) dM_generalise_247 ?_
          refine x_iload_n C dM_generalise_250 rfl 2 rfl ?_
          obtain ⟨g46, h⟩ := h
          refine y_ia C 85 (by decide) g46 dM_generalise_251 ?_
          refine kM_least C wm1090 ⟨Nat.le_of_ble_eq_true rfl, Nat.le_of_ble_eq_true rfl⟩ (Nat.le_of_ble_eq_true rfl) dM_generalise_252 ⟨Nat.zero_le _, Nat.zero_le _⟩ h (fun z47 h => ?_)
          obtain ⟨g48, h⟩ := h
          refine y_is C 63 (by decide) g48 dM_generalise_255 (fun r49 er49 => ?_)
          have h := h r49 er49
          refine x_aload_n C dM_generalise_256 rfl 0 rfl ?_
          refine x_dup C dM_generalise_257 rfl ?_
          refine gf_7_34 C (List.mem_cons_of_mem _ wm750) dM_generalise_258 ?_
          refine x_iconst (v := 1) C dM_generalise_261 (by decide) ?_
          refine x_iadd C dM_generalise_262 ?_
          refine pf_7_34 C (List.mem_cons_of_mem _ wm750) dM_generalise_263 (fun r50 er50 => ?_)
          have h := h r50 er50
          refine x_goto (tgt := 294) C dM_generalise_266 (by decide) ?_
          refine x_sub [0, 1, 2] rfl ?_
          exact tM_generalise_J294 C kB187 kX300 r50 v1 v3 h
def qM_generalise (a : L_) (K : S_ → Prop) (r : S_) (p0 : Int32) : Prop :=
  qM_needNoRing a (fun r1 => (((fi r1 32) = 0) → vp_in p0 (ln a 61) ∧ qM_drive a (fun r4 => qM_takeNeeds a (fun r5 => vp_in p0 (ln a 61) ∧ ∀ r7 : S_, r7 = sF r5 31 (ar r5 61 p0.toNatClampNeg) → ∀ r8 : S_, r8 = sF r7 30 0 → ∀ r9 : S_, r9 = sF r8 29 ((fi r8 29) + 1) → vp_in p0 (ln a 51) ∧ ∃ n56 : Nat, qM_generalise_L63 a (fun r v1 v2 => ∃ n55 : Nat, qM_generalise_L98 a (fun r v1 => ∀ r26 : S_, r26 = sF r 29 ((fi r 29) + 1) → vp_in v1 (ln a 53) ∧ vp_in (ar r26 53 v1.toNatClampNeg) (ln a 55) ∧ qM_reach a (fun r29 => vp_in v1 (ln a 57) ∧ ∀ r31 : S_, r31 = sA r29 57 (upd (ar r29 57) v1.toNatClampNeg (fi r29 27)) → ∃ n54 : Nat, qM_generalise_L187 a (fun r v1 => vp_in v1 (ln a 57) ∧ vp_in v1 (ln a 58) ∧ ∀ r53 : S_, r53 = sA r 58 (upd (ar r 58) v1.toNatClampNeg ((fi r 27) - (ar r 57 v1.toNatClampNeg))) → K r53) n54 r31 v1 0) r26 (ar r26 55 (ar r26 53 v1.toNatClampNeg).toNatClampNeg)) n55 r v1 v2 0) n56 r9 p0 (fi r9 29) (ar r9 51 p0.toNatClampNeg)) r4) r1 (ar r1 61 p0.toNatClampNeg)) ∧ ((¬ (fi r1 32) = 0) → K r1)) r
set_option maxRecDepth 100000 in
set_option maxHeartbeats 4000000 in
theorem cM_generalise {a : L_} {r : S_} {K : S_ → Prop} (p0 : Int32) (h : qM_generalise a K r p0) : vx_Mv l yM_generalise (Cond.code yM_generalise prog_9_method_36_code 4 none :: wAll) { frames := 3, cells := 0, slots := 0, locals := 66 } D vwCl (tysG G) nwAll (wo G a r) [.ref (ob G 7), .int p0] 0 0 (fun w => ∃ r1, w = wo G a r1 ∧ K r1) := by
  unfold qM_generalise at h
  refine x_metv (cc := prog_9_method_36_code) (maxL := 4) (ret := none) (lv0 := [(0, .ref (ob G 7)), (1, .int p0)]) (by decide) rfl (Nat.le_of_ble_eq_true rfl) rfl ?_
  intro p e s m args below meth c A C hA hlocks hr
  refine x_aload_n C dM_generalise_0 rfl 0 rfl ?_
  refine kM_needNoRing C wm1074 ⟨Nat.le_of_ble_eq_true rfl, Nat.le_of_ble_eq_true rfl⟩ (Nat.le_of_ble_eq_true rfl) dM_generalise_1 ⟨Nat.zero_le _, Nat.zero_le _⟩ h (fun r1 h => ?_)
  refine x_aload_n C dM_generalise_4 rfl 0 rfl ?_
  refine gf_7_56 C (List.mem_cons_of_mem _ wm772) dM_generalise_5 ?_
  refine x_if_eq (tgt := 12) C dM_generalise_8 (by decide) (fun g2 => ?_) (fun g2 => ?_)
  · have h := h.1 g2
    refine x_aload_n C dM_generalise_12 rfl 0 rfl ?_
    refine x_aload_n C dM_generalise_13 rfl 0 rfl ?_
    refine gf_7_33 C (List.mem_cons_of_mem _ wm749) dM_generalise_14 ?_
    refine x_iload_n C dM_generalise_17 rfl 1 rfl ?_
    obtain ⟨g3, h⟩ := h
    refine y_ia C 61 (by decide) g3 dM_generalise_18 ?_
    refine kM_drive C wm1082 ⟨Nat.le_of_ble_eq_true rfl, Nat.le_of_ble_eq_true rfl⟩ (Nat.le_of_ble_eq_true rfl) dM_generalise_19 ⟨Nat.zero_le _, Nat.zero_le _⟩ h (fun r4 h => ?_)
    refine x_aload_n C dM_generalise_22 rfl 0 rfl ?_
    refine kM_takeNeeds C wm1086 ⟨Nat.le_of_ble_eq_true rfl, Nat.le_of_ble_eq_true rfl⟩ (Nat.le_of_ble_eq_true rfl) dM_generalise_23 ⟨Nat.zero_le _, Nat.zero_le _⟩ h (fun r5 h => ?_)
    refine x_aload_n C dM_generalise_26 rfl 0 rfl ?_
    refine x_aload_n C dM_generalise_27 rfl 0 rfl ?_
    refine gf_7_33 C (List.mem_cons_of_mem _ wm749) dM_generalise_28 ?_
    refine x_iload_n C dM_generalise_31 rfl 1 rfl ?_
    obtain ⟨g6, h⟩ := h
    refine y_ia C 61 (by decide) g6 dM_generalise_32 ?_
    refine pf_7_53 C (List.mem_cons_of_mem _ wm769) dM_generalise_33 (fun r7 er7 => ?_)
    have h := h r7 er7
    refine x_aload_n C dM_generalise_36 rfl 0 rfl ?_
    refine x_iconst (v := 0) C dM_generalise_37 (by decide) ?_
    refine pf_7_50 C (List.mem_cons_of_mem _ wm766) dM_generalise_38 (fun r8 er8 => ?_)
    have h := h r8 er8
    refine x_aload_n C dM_generalise_41 rfl 0 rfl ?_
    refine x_dup C dM_generalise_42 rfl ?_
    refine gf_7_43 C (List.mem_cons_of_mem _ wm759) dM_generalise_43 ?_
    refine x_iconst (v := 1) C dM_generalise_46 (by decide) ?_
    refine x_iadd C dM_generalise_47 ?_
    refine pf_7_43 C (List.mem_cons_of_mem _ wm759) dM_generalise_48 (fun r9 er9 => ?_)
    have h := h r9 er9
    refine x_aload_n C dM_generalise_51 rfl 0 rfl ?_
    refine gf_7_43 C (List.mem_cons_of_mem _ wm759) dM_generalise_52 ?_
    refine x_istore_n C [(2, .int (fi r9 29)), (0, .ref (ob G 7)), (1, .int p0)] dM_generalise_55 rfl (by decide) rfl ?_
    refine x_aload_n C dM_generalise_56 rfl 1 rfl ?_
    refine gf_7_23 C (List.mem_cons_of_mem _ wm739) dM_generalise_57 ?_
    refine x_iload_n C dM_generalise_60 rfl 2 rfl ?_
    obtain ⟨g10, h⟩ := h
    refine y_ia C 51 (by decide) g10 dM_generalise_61 ?_
    refine x_istore_n C [(3, .int (ar r9 51 p0.toNatClampNeg)), (2, .int (fi r9 29)), (0, .ref (ob G 7)), (1, .int p0)] dM_generalise_62 rfl (by decide) rfl ?_
    obtain ⟨n56, h⟩ := h
    refine x_sub [2, 3, 1, 0] rfl ?_
    refine tM_generalise_L63 C (fun r v1 v2 h => ?_) n56 r9 p0 (fi r9 29) (ar r9 51 p0.toNatClampNeg) h
    · refine x_iconst (v := 0) C dM_generalise_96 (by decide) ?_
      refine x_istore_n C [(3, .int 0), (0, .ref (ob G 7)), (1, .int v1), (2, .int v2)] dM_generalise_97 rfl (by decide) rfl ?_
      obtain ⟨n55, h⟩ := h
      refine x_sub [1, 2, 3, 0] rfl ?_
      refine tM_generalise_L98 C (fun r v1 h => ?_) n55 r v1 v2 0 h
      · refine x_aload_n C dM_generalise_150 rfl 0 rfl ?_
        refine x_dup C dM_generalise_151 rfl ?_
        refine gf_7_43 C (List.mem_cons_of_mem _ wm759) dM_generalise_152 ?_
        refine x_iconst (v := 1) C dM_generalise_155 (by decide) ?_
        refine x_iadd C dM_generalise_156 ?_
        refine pf_7_43 C (List.mem_cons_of_mem _ wm759) dM_generalise_157 (fun r26 er26 => ?_)
        have h := h r26 er26
        refine x_aload_n C dM_generalise_160 rfl 0 rfl ?_
        refine x_aload_n C dM_generalise_161 rfl 0 rfl ?_
        refine gf_7_27 C (List.mem_cons_of_mem _ wm743) dM_generalise_162 ?_
        refine x_aload_n C dM_generalise_165 rfl 0 rfl ?_
        refine gf_7_25 C (List.mem_cons_of_mem _ wm741) dM_generalise_166 ?_
        refine x_iload_n C dM_generalise_169 rfl 1 rfl ?_
        obtain ⟨g27, h⟩ := h
        refine y_ia C 53 (by decide) g27 dM_generalise_170 ?_
        obtain ⟨g28, h⟩ := h
        refine y_ia C 55 (by decide) g28 dM_generalise_171 ?_
        refine kM_reach C wm1035 ⟨Nat.le_of_ble_eq_true rfl, Nat.le_of_ble_eq_true rfl⟩ (Nat.le_of_ble_eq_true rfl) dM_generalise_172 ⟨Nat.zero_le _, Nat.zero_le _⟩ h (fun r29 h => ?_)
        refine x_aload_n C dM_generalise_175 rfl 0 rfl ?_
        refine gf_7_29 C (List.mem_cons_of_mem _ wm745) dM_generalise_176 ?_
        refine x_iload_n C dM_generalise_179 rfl 1 rfl ?_
        refine x_aload_n C dM_generalise_180 rfl 0 rfl ?_
        refine gf_7_34 C (List.mem_cons_of_mem _ wm750) dM_generalise_181 ?_
        obtain ⟨g30, h⟩ := h
        refine y_is C 57 (by decide) g30 dM_generalise_184 (fun r31 er31 => ?_)
        have h := h r31 er31
        refine x_iconst (v := 0) C dM_generalise_185 (by decide) ?_
        refine x_istore_n C [(3, .int 0), (0, .ref (ob G 7)), (1, .int v1)] dM_generalise_186 rfl (by decide) rfl ?_
        obtain ⟨n54, h⟩ := h
        refine x_sub [1, 2, 0] rfl ?_
        refine tM_generalise_L187 C (fun r v1 h => ?_) n54 r31 v1 0 h
        · refine x_aload_n C dM_generalise_300 rfl 0 rfl ?_
          refine gf_7_30 C (List.mem_cons_of_mem _ wm746) dM_generalise_301 ?_
          refine x_iload_n C dM_generalise_304 rfl 1 rfl ?_
          refine x_aload_n C dM_generalise_305 rfl 0 rfl ?_
          refine gf_7_34 C (List.mem_cons_of_mem _ wm750) dM_generalise_306 ?_
          refine x_aload_n C dM_generalise_309 rfl 0 rfl ?_
          refine gf_7_29 C (List.mem_cons_of_mem _ wm745) dM_generalise_310 ?_
          refine x_iload_n C dM_generalise_313 rfl 1 rfl ?_
          obtain ⟨g51, h⟩ := h
          refine y_ia C 57 (by decide) g51 dM_generalise_314 ?_
          refine x_isub C dM_generalise_315 ?_
          obtain ⟨g52, h⟩ := h
          refine y_is C 58 (by decide) g52 dM_generalise_316 (fun r53 er53 => ?_)
          have h := h r53 er53
          exact x_vret C hA hlocks hr ⟨r53, rfl, h⟩ dM_generalise_317
  · have h := h.2 g2
    exact x_vret C hA hlocks hr ⟨r1, rfl, h⟩ dM_generalise_11
set_option maxRecDepth 100000 in
set_option maxHeartbeats 4000000 in
theorem kM_generalise {p : Program} {l : Launch} {e : Env} {R : Room} {s : State} {m : MethodId} {args : Array Value} {below : List Frame} {meth : Method} {c : Code} {cells slots : Nat} {Q : State → Prop} {A : Nat → Prop} {D : va_G} {nL pc : Nat} {cc : ByteArray} {cw : Cond} {own : String} {lv : List (Nat × Value)} {st : List Value} {G : G_} {a : L_} {r : S_} {K : S_ → Prop} {p0 : Int32} (C : vx_C p s m args c cc nL (cw :: wAll) own D vwCl (tysG G) nwAll A) {i : Nat} (hl : Cond.methodLink own i yM_generalise ∈ wAll) (hR : 3 + 1 ≤ R.frames ∧ 8 + (4 + 11) + 66 ≤ R.locals) (hst : (st.map fun v => v.category).sum ≤ 8) (hd : decode cc pc = .ok (.invokevirtual i, 3)) (hcs : cells ≤ R.cells ∧ slots ≤ R.slots) (h : qM_generalise a K r p0) (k : ∀ (r1 : S_), K r1 → vx_V p l e R s m args below meth c A D vwCl nL cells slots Q (wo G a r1) (pc + 3) lv st) : vx_V p l e R s m args below meth c A D vwCl nL cells slots Q (wo G a r) pc lv (.int p0 :: .ref (ob G 7) :: st) := by
  refine x_callVv C (CC := "ClassInferenceModel") (ci := 7) (q0 := 7) (fs := fl7 G a r) (As := [.int p0]) rfl rfl (cM_generalise p0 h) (cwV (C := "ClassInferenceModel") 1 C.1.2.2.2.2 (goodV hl wm1072 wp53 wm9 wm1073) rfl rfl rfl (by decide +kernel) hR) rfl hst hd hcs (fun w hw => ?_)
  obtain ⟨r1, rfl, h⟩ := hw
  exact k r1 h
def qM_copied (a : L_) (r : S_) (K : Int32 → Prop) (p0 : Int32) : Prop :=
  ((0 ≤ p0) → qM_find a r (fun z2 => vp_in z2 (ln a 68) ∧ ((¬ (ar r 68 z2.toNatClampNeg) = (fi r 29)) → qM_find a r (fun z5 => K z5) p0) ∧ (((ar r 68 z2.toNatClampNeg) = (fi r 29)) → qM_find a r (fun z6 => vp_in z6 (ln a 69) ∧ K (ar r 69 z6.toNatClampNeg)) p0)) p0) ∧ ((¬ 0 ≤ p0) → K (-1))
set_option maxRecDepth 100000 in
set_option maxHeartbeats 4000000 in
theorem cM_copied {a : L_} {r : S_} {K : Int32 → Prop} (p0 : Int32) (h : qM_copied a r K p0) : vx_Mi l yM_copied (Cond.code yM_copied prog_9_method_38_code 2 (some .int) :: wAll) { frames := 1, cells := 0, slots := 0, locals := 22 } D vwCl (tysG G) nwAll (wo G a r) [.ref (ob G 7), .int p0] 0 0 (fun v w => w = wo G a r ∧ K v) := by
  unfold qM_copied at h
  refine x_meti (cc := prog_9_method_38_code) (maxL := 2) (ret := (some .int)) (lv0 := [(0, .ref (ob G 7)), (1, .int p0)]) (by decide) rfl (Nat.le_of_ble_eq_true rfl) rfl ?_
  intro p e s m args below meth c A C hA hlocks hr
  refine x_iload_n C dM_copied_0 rfl 1 rfl ?_
  refine x_if_ge (tgt := 8) C dM_copied_1 (by decide) (fun g1 => ?_) (fun g1 => ?_)
  · have h := h.1 g1
    refine x_aload_n C dM_copied_8 rfl 0 rfl ?_
    refine gf_7_42 C (List.mem_cons_of_mem _ wm758) dM_copied_9 ?_
    refine x_aload_n C dM_copied_12 rfl 0 rfl ?_
    refine x_iload_n C dM_copied_13 rfl 1 rfl ?_
    refine kM_find C wm1039 ⟨Nat.le_of_ble_eq_true rfl, Nat.le_of_ble_eq_true rfl⟩ (Nat.le_of_ble_eq_true rfl) dM_copied_14 ⟨Nat.zero_le _, Nat.zero_le _⟩ h (fun z2 h => ?_)
    obtain ⟨g3, h⟩ := h
    refine y_ia C 68 (by decide) g3 dM_copied_17 ?_
    refine x_aload_n C dM_copied_18 rfl 0 rfl ?_
    refine gf_7_43 C (List.mem_cons_of_mem _ wm759) dM_copied_19 ?_
    refine x_icmp_ne (tgt := 38) C dM_copied_22 (by decide) (fun g4 => ?_) (fun g4 => ?_)
    · have h := h.1 g4
      refine x_aload_n C dM_copied_38 rfl 0 rfl ?_
      refine x_iload_n C dM_copied_39 rfl 1 rfl ?_
      refine kM_find C wm1039 ⟨Nat.le_of_ble_eq_true rfl, Nat.le_of_ble_eq_true rfl⟩ (Nat.le_of_ble_eq_true rfl) dM_copied_40 ⟨Nat.zero_le _, Nat.zero_le _⟩ h (fun z5 h => ?_)
      exact x_iret C hA hlocks hr ⟨rfl, h⟩ dM_copied_43
    · have h := h.2 g4
      refine x_aload_n C dM_copied_25 rfl 0 rfl ?_
      refine gf_7_44 C (List.mem_cons_of_mem _ wm760) dM_copied_26 ?_
      refine x_aload_n C dM_copied_29 rfl 0 rfl ?_
      refine x_iload_n C dM_copied_30 rfl 1 rfl ?_
      refine kM_find C wm1039 ⟨Nat.le_of_ble_eq_true rfl, Nat.le_of_ble_eq_true rfl⟩ (Nat.le_of_ble_eq_true rfl) dM_copied_31 ⟨Nat.zero_le _, Nat.zero_le _⟩ h (fun z6 h => ?_)
      obtain ⟨g7, h⟩ := h
      refine y_ia C 69 (by decide) g7 dM_copied_34 ?_
      refine x_goto (tgt := 43) C dM_copied_35 (by decide) ?_
      exact x_iret C hA hlocks hr ⟨rfl, h⟩ dM_copied_43
  · have h := h.2 g1
    refine x_iconst (v := (-1)) C dM_copied_4 (by decide) ?_
    refine x_goto (tgt := 43) C dM_copied_5 (by decide) ?_
    exact x_iret C hA hlocks hr ⟨rfl, h⟩ dM_copied_43
set_option maxRecDepth 100000 in
set_option maxHeartbeats 4000000 in
theorem kM_copied {p : Program} {l : Launch} {e : Env} {R : Room} {s : State} {m : MethodId} {args : Array Value} {below : List Frame} {meth : Method} {c : Code} {cells slots : Nat} {Q : State → Prop} {A : Nat → Prop} {D : va_G} {nL pc : Nat} {cc : ByteArray} {cw : Cond} {own : String} {lv : List (Nat × Value)} {st : List Value} {G : G_} {a : L_} {r : S_} {K : Int32 → Prop} {p0 : Int32} (C : vx_C p s m args c cc nL (cw :: wAll) own D vwCl (tysG G) nwAll A) {i : Nat} (hl : Cond.methodLink own i yM_copied ∈ wAll) (hR : 1 + 1 ≤ R.frames ∧ 8 + (2 + 11) + 22 ≤ R.locals) (hst : (st.map fun v => v.category).sum ≤ 8) (hd : decode cc pc = .ok (.invokevirtual i, 3)) (hcs : cells ≤ R.cells ∧ slots ≤ R.slots) (h : qM_copied a r K p0) (k : ∀ (v : Int32), K v → vx_V p l e R s m args below meth c A D vwCl nL cells slots Q (wo G a r) (pc + 3) lv (.int v :: st)) : vx_V p l e R s m args below meth c A D vwCl nL cells slots Q (wo G a r) pc lv (.int p0 :: .ref (ob G 7) :: st) := by
  refine x_callVi C (CC := "ClassInferenceModel") (ci := 7) (q0 := 7) (fs := fl7 G a r) (As := [.int p0]) rfl rfl (cM_copied p0 h) (cwV (C := "ClassInferenceModel") 1 C.1.2.2.2.2 (goodV hl wm1049 wp48 wm9 wm1050) rfl rfl rfl (by decide +kernel) hR) rfl hst hd hcs (fun v w hw => ?_)
  obtain ⟨rfl, h⟩ := hw
  exact k v h
end MTH
