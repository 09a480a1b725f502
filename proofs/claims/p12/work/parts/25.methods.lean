section MTH
variable {p : Program} {l : Launch} {e : Env} {s : State} {m : MethodId} {args : Array Value} {below : List Frame} {meth : Method} {c : Code} {Q : State → Prop} {A : Nat → Prop} {D : va_G} {G : G_} {ws0 : va_W}
def qM_needNoRing_L2 (a : L_) (KX23 : S_ → Prop) : Nat → S_ → Int32 → Prop
  | 0, _, _ => False
  | n + 1, r, v1 => (((fi r 28) ≤ v1) → KX23 r) ∧ ((¬ (fi r 28) ≤ v1) → vp_in v1 (ln a 87) ∧ ∀ r3 : S_, r3 = sA r 87 (upd (ar r 87) v1.toNatClampNeg (vp_nar .boolean 0)) → (qM_needNoRing_L2 a KX23 n) r3 (v1 + 1))
set_option maxRecDepth 100000 in
set_option maxHeartbeats 4000000 in
theorem tM_needNoRing_L2 (C : vx_C p s m args c prog_9_method_28_code 4 (Cond.code yM_needNoRing prog_9_method_28_code 4 none :: wAll) "ClassInferenceModel" D vwCl (tysG G) nwAll A) {a : L_} {KX23 : S_ → Prop} (kX23 : ∀ (r : S_), KX23 r → vx_V p l e { frames := 2, cells := 0, slots := 0, locals := 43 } s m args below meth c A D vwCl 4 0 0 Q (wo G a r) 23 [(0, .ref (ob G 7))] []) : ∀ (n : Nat) (r : S_) (v1 : Int32), qM_needNoRing_L2 a KX23 n r v1 → vx_V p l e { frames := 2, cells := 0, slots := 0, locals := 43 } s m args below meth c A D vwCl 4 0 0 Q (wo G a r) 2 [(0, .ref (ob G 7)), (1, .int v1)] [] := by
  intro n
  induction n with
  | zero =>
    intro r v1 h
    exact (by rw [qM_needNoRing_L2] at h; exact h : False).elim
  | succ n kB2 =>
    intro r v1 h
    rw [qM_needNoRing_L2] at h
    refine x_iload_n C dM_needNoRing_2 rfl 1 rfl ?_
    refine x_aload_n C dM_needNoRing_3 rfl 0 rfl ?_
    refine gf_7_37 C (List.mem_cons_of_mem _ wm753) dM_needNoRing_4 ?_
    refine x_icmp_ge (tgt := 23) C dM_needNoRing_7 (by decide) (fun g1 => ?_) (fun g1 => ?_)
    · have h := h.1 g1
      refine x_sub [0] rfl ?_
      exact kX23 r h
    · have h := h.2 g1
      refine x_aload_n C dM_needNoRing_10 rfl 0 rfl ?_
      refine gf_7_45 C (List.mem_cons_of_mem _ wm761) dM_needNoRing_11 ?_
      refine x_iload_n C dM_needNoRing_14 rfl 1 rfl ?_
      refine x_iconst (v := 0) C dM_needNoRing_15 (by decide) ?_
      obtain ⟨g2, h⟩ := h
      refine y_zs C 87 (by decide) g2 dM_needNoRing_16 (fun r3 er3 => ?_)
      have h := h r3 er3
      refine x_iinc (j := 1) (v := v1 + 1) C [(1, .int (v1 + 1)), (0, .ref (ob G 7))] dM_needNoRing_17 rfl rfl (by decide) rfl ?_
      refine x_goto (tgt := 2) C dM_needNoRing_20 (by decide) ?_
      refine x_sub [1, 0] rfl ?_
      exact kB2 r3 (v1 + 1) h
def qM_needNoRing_J146 (a : L_) (KB44 : S_ → Int32 → Int32 → Int32 → Prop) (KX152 : S_ → Int32 → Int32 → Prop) (r : S_) (v1 : Int32) (v2 : Int32) (v3 : Int32) : Prop :=
  KB44 r v1 v2 (v3 + 1)
set_option maxRecDepth 100000 in
set_option maxHeartbeats 4000000 in
theorem tM_needNoRing_J146 (C : vx_C p s m args c prog_9_method_28_code 4 (Cond.code yM_needNoRing prog_9_method_28_code 4 none :: wAll) "ClassInferenceModel" D vwCl (tysG G) nwAll A) {a : L_} {KB44 : S_ → Int32 → Int32 → Int32 → Prop} {KX152 : S_ → Int32 → Int32 → Prop} (kB44 : ∀ (r : S_) (v1 : Int32) (v2 : Int32) (v3 : Int32), KB44 r v1 v2 v3 → vx_V p l e { frames := 2, cells := 0, slots := 0, locals := 43 } s m args below meth c A D vwCl 4 0 0 Q (wo G a r) 44 [(0, .ref (ob G 7)), (1, .int v1), (2, .int v2), (3, .int v3)] []) (kX152 : ∀ (r : S_) (v1 : Int32) (v2 : Int32), KX152 r v1 v2 → vx_V p l e { frames := 2, cells := 0, slots := 0, locals := 43 } s m args below meth c A D vwCl 4 0 0 Q (wo G a r) 152 [(0, .ref (ob G 7)), (1, .int v1), (2, .int v2)] []) (r : S_) (v1 : Int32) (v2 : Int32) (v3 : Int32) (h : qM_needNoRing_J146 a KB44 KX152 r v1 v2 v3) : vx_V p l e { frames := 2, cells := 0, slots := 0, locals := 43 } s m args below meth c A D vwCl 4 0 0 Q (wo G a r) 146 [(0, .ref (ob G 7)), (1, .int v1), (2, .int v2), (3, .int v3)] [] := by
  unfold qM_needNoRing_J146 at h
  refine x_iinc (j := 3) (v := v3 + 1) C [(3, .int (v3 + 1)), (0, .ref (ob G 7)), (1, .int v1), (2, .int v2)] dM_needNoRing_146 rfl rfl (by decide) rfl ?_
  refine x_goto (tgt := 44) C dM_needNoRing_149 (by decide) ?_
  refine x_sub [1, 2, 3, 0] rfl ?_
  exact kB44 r v1 v2 (v3 + 1) h
def qM_needNoRing_J145 (a : L_) (KB44 : S_ → Int32 → Int32 → Int32 → Prop) (KX152 : S_ → Int32 → Int32 → Prop) (r : S_) (v1 : Int32) (v3 : Int32) (u0 : Int32) : Prop :=
  qM_needNoRing_J146 a KB44 KX152 r v1 u0 v3
set_option maxRecDepth 100000 in
set_option maxHeartbeats 4000000 in
theorem tM_needNoRing_J145 (C : vx_C p s m args c prog_9_method_28_code 4 (Cond.code yM_needNoRing prog_9_method_28_code 4 none :: wAll) "ClassInferenceModel" D vwCl (tysG G) nwAll A) {a : L_} {KB44 : S_ → Int32 → Int32 → Int32 → Prop} {KX152 : S_ → Int32 → Int32 → Prop} (kB44 : ∀ (r : S_) (v1 : Int32) (v2 : Int32) (v3 : Int32), KB44 r v1 v2 v3 → vx_V p l e { frames := 2, cells := 0, slots := 0, locals := 43 } s m args below meth c A D vwCl 4 0 0 Q (wo G a r) 44 [(0, .ref (ob G 7)), (1, .int v1), (2, .int v2), (3, .int v3)] []) (kX152 : ∀ (r : S_) (v1 : Int32) (v2 : Int32), KX152 r v1 v2 → vx_V p l e { frames := 2, cells := 0, slots := 0, locals := 43 } s m args below meth c A D vwCl 4 0 0 Q (wo G a r) 152 [(0, .ref (ob G 7)), (1, .int v1), (2, .int v2)] []) (r : S_) (v1 : Int32) (v3 : Int32) (u0 : Int32) (h : qM_needNoRing_J145 a KB44 KX152 r v1 v3 u0) : vx_V p l e { frames := 2, cells := 0, slots := 0, locals := 43 } s m args below meth c A D vwCl 4 0 0 Q (wo G a r) 145 [(0, .ref (ob G 7)), (1, .int v1), (3, .int v3)] [.int u0] := by
  unfold qM_needNoRing_J145 at h
  refine x_istore_n C [(2, .int u0), (0, .ref (ob G 7)), (1, .int v1), (3, .int v3)] dM_needNoRing_145 rfl (by decide) rfl ?_
  refine x_sub [1, 2, 0, 3] rfl ?_
  exact tM_needNoRing_J146 C kB44 kX152 r v1 u0 v3 h
def qM_needNoRing_J144 (a : L_) (KB44 : S_ → Int32 → Int32 → Int32 → Prop) (KX152 : S_ → Int32 → Int32 → Prop) (r : S_) (v1 : Int32) (v3 : Int32) : Prop :=
  qM_needNoRing_J145 a KB44 KX152 r v1 v3 0
set_option maxRecDepth 100000 in
set_option maxHeartbeats 4000000 in
theorem tM_needNoRing_J144 (C : vx_C p s m args c prog_9_method_28_code 4 (Cond.code yM_needNoRing prog_9_method_28_code 4 none :: wAll) "ClassInferenceModel" D vwCl (tysG G) nwAll A) {a : L_} {KB44 : S_ → Int32 → Int32 → Int32 → Prop} {KX152 : S_ → Int32 → Int32 → Prop} (kB44 : ∀ (r : S_) (v1 : Int32) (v2 : Int32) (v3 : Int32), KB44 r v1 v2 v3 → vx_V p l e { frames := 2, cells := 0, slots := 0, locals := 43 } s m args below meth c A D vwCl 4 0 0 Q (wo G a r) 44 [(0, .ref (ob G 7)), (1, .int v1), (2, .int v2), (3, .int v3)] []) (kX152 : ∀ (r : S_) (v1 : Int32) (v2 : Int32), KX152 r v1 v2 → vx_V p l e { frames := 2, cells := 0, slots := 0, locals := 43 } s m args below meth c A D vwCl 4 0 0 Q (wo G a r) 152 [(0, .ref (ob G 7)), (1, .int v1), (2, .int v2)] []) (r : S_) (v1 : Int32) (v3 : Int32) (h : qM_needNoRing_J144 a KB44 KX152 r v1 v3) : vx_V p l e { frames := 2, cells := 0, slots := 0, locals := 43 } s m args below meth c A D vwCl 4 0 0 Q (wo G a r) 144 [(0, .ref (ob G 7)), (1, .int v1), (3, .int v3)] [] := by
  unfold qM_needNoRing_J144 at h
  refine x_iconst (v := 0) C dM_needNoRing_144 (by decide) ?_
  refine x_sub [0, 1, 2] rfl ?_
  exact tM_needNoRing_J145 C kB44 kX152 r v1 v3 0 h
def qM_needNoRing_J126 (a : L_) (KB44 : S_ → Int32 → Int32 → Int32 → Prop) (KX152 : S_ → Int32 → Int32 → Prop) (r : S_) (v2 : Int32) (v3 : Int32) (u0 : Int32) : Prop :=
  ((v2 = 0) → qM_needNoRing_J144 a KB44 KX152 r u0 v3) ∧ ((¬ v2 = 0) → vp_in v3 (ln a 87) ∧ (((ar r 87 v3.toNatClampNeg) = 0) → qM_needNoRing_J144 a KB44 KX152 r u0 v3) ∧ ((¬ (ar r 87 v3.toNatClampNeg) = 0) → qM_needNoRing_J145 a KB44 KX152 r u0 v3 1))
set_option maxRecDepth 100000 in
set_option maxHeartbeats 4000000 in
theorem tM_needNoRing_J126 (C : vx_C p s m args c prog_9_method_28_code 4 (Cond.code yM_needNoRing prog_9_method_28_code 4 none :: wAll) "ClassInferenceModel" D vwCl (tysG G) nwAll A) {a : L_} {KB44 : S_ → Int32 → Int32 → Int32 → Prop} {KX152 : S_ → Int32 → Int32 → Prop} (kB44 : ∀ (r : S_) (v1 : Int32) (v2 : Int32) (v3 : Int32), KB44 r v1 v2 v3 → vx_V p l e { frames := 2, cells := 0, slots := 0, locals := 43 } s m args below meth c A D vwCl 4 0 0 Q (wo G a r) 44 [(0, .ref (ob G 7)), (1, .int v1), (2, .int v2), (3, .int v3)] []) (kX152 : ∀ (r : S_) (v1 : Int32) (v2 : Int32), KX152 r v1 v2 → vx_V p l e { frames := 2, cells := 0, slots := 0, locals := 43 } s m args below meth c A D vwCl 4 0 0 Q (wo G a r) 152 [(0, .ref (ob G 7)), (1, .int v1), (2, .int v2)] []) (r : S_) (v2 : Int32) (v3 : Int32) (u0 : Int32) (h : qM_needNoRing_J126 a KB44 KX152 r v2 v3 u0) : vx_V p l e { frames := 2, cells := 0, slots := 0, locals := 43 } s m args below meth c A D vwCl 4 0 0 Q (wo G a r) 126 [(0, .ref (ob G 7)), (2, .int v2), (3, .int v3)] [.int u0] := by
  unfold qM_needNoRing_J126 at h
  refine x_istore_n C [(1, .int u0), (0, .ref (ob G 7)), (2, .int v2), (3, .int v3)] dM_needNoRing_126 rfl (by decide) rfl ?_
  refine x_iload_n C dM_needNoRing_127 rfl 2 rfl ?_
  refine x_if_eq (tgt := 144) C dM_needNoRing_128 (by decide) (fun g17 => ?_) (fun g17 => ?_)
  · have h := h.1 g17
    refine x_sub [1, 0, 3] rfl ?_
    exact tM_needNoRing_J144 C kB44 kX152 r u0 v3 h
  · have h := h.2 g17
    refine x_aload_n C dM_needNoRing_131 rfl 1 rfl ?_
    refine gf_7_45 C (List.mem_cons_of_mem _ wm761) dM_needNoRing_132 ?_
    refine x_iload_n C dM_needNoRing_135 rfl 3 rfl ?_
    obtain ⟨g18, h⟩ := h
    refine y_za C 87 (by decide) g18 dM_needNoRing_136 ?_
    refine x_if_eq (tgt := 144) C dM_needNoRing_137 (by decide) (fun g19 => ?_) (fun g19 => ?_)
    · have h := h.1 g19
      refine x_sub [1, 0, 3] rfl ?_
      exact tM_needNoRing_J144 C kB44 kX152 r u0 v3 h
    · have h := h.2 g19
      refine x_iconst (v := 1) C dM_needNoRing_140 (by decide) ?_
      refine x_goto (tgt := 145) C dM_needNoRing_141 (by decide) ?_
      refine x_sub [1, 0, 3] rfl ?_
      exact tM_needNoRing_J145 C kB44 kX152 r u0 v3 1 h
def qM_needNoRing_J121 (a : L_) (KB44 : S_ → Int32 → Int32 → Int32 → Prop) (KX152 : S_ → Int32 → Int32 → Prop) (r : S_) (v2 : Int32) (v3 : Int32) : Prop :=
  qM_needNoRing_J126 a KB44 KX152 r v2 v3 1
set_option maxRecDepth 100000 in
set_option maxHeartbeats 4000000 in
theorem tM_needNoRing_J121 (C : vx_C p s m args c prog_9_method_28_code 4 (Cond.code yM_needNoRing prog_9_method_28_code 4 none :: wAll) "ClassInferenceModel" D vwCl (tysG G) nwAll A) {a : L_} {KB44 : S_ → Int32 → Int32 → Int32 → Prop} {KX152 : S_ → Int32 → Int32 → Prop} (kB44 : ∀ (r : S_) (v1 : Int32) (v2 : Int32) (v3 : Int32), KB44 r v1 v2 v3 → vx_V p l e { frames := 2, cells := 0, slots := 0, locals := 43 } s m args below meth c A D vwCl 4 0 0 Q (wo G a r) 44 [(0, .ref (ob G 7)), (1, .int v1), (2, .int v2), (3, .int v3)] []) (kX152 : ∀ (r : S_) (v1 : Int32) (v2 : Int32), KX152 r v1 v2 → vx_V p l e { frames := 2, cells := 0, slots := 0, locals := 43 } s m args below meth c A D vwCl 4 0 0 Q (wo G a r) 152 [(0, .ref (ob G 7)), (1, .int v1), (2, .int v2)] []) (r : S_) (v2 : Int32) (v3 : Int32) (h : qM_needNoRing_J121 a KB44 KX152 r v2 v3) : vx_V p l e { frames := 2, cells := 0, slots := 0, locals := 43 } s m args below meth c A D vwCl 4 0 0 Q (wo G a r) 121 [(0, .ref (ob G 7)), (2, .int v2), (3, .int v3)] [] := by
  unfold qM_needNoRing_J121 at h
  refine x_iconst (v := 1) C dM_needNoRing_121 (by decide) ?_
  refine x_goto (tgt := 126) C dM_needNoRing_122 (by decide) ?_
  refine x_sub [0, 1, 2] rfl ?_
  exact tM_needNoRing_J126 C kB44 kX152 r v2 v3 1 h
def qM_needNoRing_J107 (a : L_) (KB44 : S_ → Int32 → Int32 → Int32 → Prop) (KX152 : S_ → Int32 → Int32 → Prop) (r : S_) (v1 : Int32) (v2 : Int32) (v3 : Int32) (u0 : Int32) (u1 : Int32) : Prop :=
  vp_in u1 (ln a 87) ∧ ∀ r15 : S_, r15 = sA r 87 (upd (ar r 87) u1.toNatClampNeg (vp_nar .boolean u0)) → ((¬ v1 = 0) → qM_needNoRing_J121 a KB44 KX152 r15 v2 v3) ∧ ((v1 = 0) → vp_in v3 (ln a 87) ∧ (((ar r15 87 v3.toNatClampNeg) = 0) → qM_needNoRing_J126 a KB44 KX152 r15 v2 v3 0) ∧ ((¬ (ar r15 87 v3.toNatClampNeg) = 0) → qM_needNoRing_J121 a KB44 KX152 r15 v2 v3))
set_option maxRecDepth 100000 in
set_option maxHeartbeats 4000000 in
theorem tM_needNoRing_J107 (C : vx_C p s m args c prog_9_method_28_code 4 (Cond.code yM_needNoRing prog_9_method_28_code 4 none :: wAll) "ClassInferenceModel" D vwCl (tysG G) nwAll A) {a : L_} {KB44 : S_ → Int32 → Int32 → Int32 → Prop} {KX152 : S_ → Int32 → Int32 → Prop} (kB44 : ∀ (r : S_) (v1 : Int32) (v2 : Int32) (v3 : Int32), KB44 r v1 v2 v3 → vx_V p l e { frames := 2, cells := 0, slots := 0, locals := 43 } s m args below meth c A D vwCl 4 0 0 Q (wo G a r) 44 [(0, .ref (ob G 7)), (1, .int v1), (2, .int v2), (3, .int v3)] []) (kX152 : ∀ (r : S_) (v1 : Int32) (v2 : Int32), KX152 r v1 v2 → vx_V p l e { frames := 2, cells := 0, slots := 0, locals := 43 } s m args below meth c A D vwCl 4 0 0 Q (wo G a r) 152 [(0, .ref (ob G 7)), (1, .int v1), (2, .int v2)] []) (r : S_) (v1 : Int32) (v2 : Int32) (v3 : Int32) (u0 : Int32) (u1 : Int32) (h : qM_needNoRing_J107 a KB44 KX152 r v1 v2 v3 u0 u1) : vx_V p l e { frames := 2, cells := 0, slots := 0, locals := 43 } s m args below meth c A D vwCl 4 0 0 Q (wo G a r) 107 [(0, .ref (ob G 7)), (1, .int v1), (2, .int v2), (3, .int v3)] [.int u0, .int u1, .ref (ad a 87)] := by
  unfold qM_needNoRing_J107 at h
  obtain ⟨g14, h⟩ := h
  refine y_zs C 87 (by decide) g14 dM_needNoRing_107 (fun r15 er15 => ?_)
  have h := h r15 er15
  refine x_iload_n C dM_needNoRing_108 rfl 1 rfl ?_
  refine x_if_ne (tgt := 121) C dM_needNoRing_109 (by decide) (fun g16 => ?_) (fun g16 => ?_)
  · have h := h.1 g16
    refine x_sub [0, 2, 3] rfl ?_
    exact tM_needNoRing_J121 C kB44 kX152 r15 v2 v3 h
  · have h := h.2 g16
    refine x_aload_n C dM_needNoRing_112 rfl 0 rfl ?_
    refine gf_7_45 C (List.mem_cons_of_mem _ wm761) dM_needNoRing_113 ?_
    refine x_iload_n C dM_needNoRing_116 rfl 3 rfl ?_
    obtain ⟨g20, h⟩ := h
    refine y_za C 87 (by decide) g20 dM_needNoRing_117 ?_
    refine x_if_eq (tgt := 125) C dM_needNoRing_118 (by decide) (fun g21 => ?_) (fun g21 => ?_)
    · have h := h.1 g21
      refine x_iconst (v := 0) C dM_needNoRing_125 (by decide) ?_
      refine x_sub [0, 2, 3] rfl ?_
      exact tM_needNoRing_J126 C kB44 kX152 r15 v2 v3 0 h
    · have h := h.2 g21
      refine x_sub [0, 2, 3] rfl ?_
      exact tM_needNoRing_J121 C kB44 kX152 r15 v2 v3 h
def qM_needNoRing_J106 (a : L_) (KB44 : S_ → Int32 → Int32 → Int32 → Prop) (KX152 : S_ → Int32 → Int32 → Prop) (r : S_) (v1 : Int32) (v2 : Int32) (v3 : Int32) (u0 : Int32) : Prop :=
  qM_needNoRing_J107 a KB44 KX152 r v1 v2 v3 0 u0
set_option maxRecDepth 100000 in
set_option maxHeartbeats 4000000 in
theorem tM_needNoRing_J106 (C : vx_C p s m args c prog_9_method_28_code 4 (Cond.code yM_needNoRing prog_9_method_28_code 4 none :: wAll) "ClassInferenceModel" D vwCl (tysG G) nwAll A) {a : L_} {KB44 : S_ → Int32 → Int32 → Int32 → Prop} {KX152 : S_ → Int32 → Int32 → Prop} (kB44 : ∀ (r : S_) (v1 : Int32) (v2 : Int32) (v3 : Int32), KB44 r v1 v2 v3 → vx_V p l e { frames := 2, cells := 0, slots := 0, locals := 43 } s m args below meth c A D vwCl 4 0 0 Q (wo G a r) 44 [(0, .ref (ob G 7)), (1, .int v1), (2, .int v2), (3, .int v3)] []) (kX152 : ∀ (r : S_) (v1 : Int32) (v2 : Int32), KX152 r v1 v2 → vx_V p l e { frames := 2, cells := 0, slots := 0, locals := 43 } s m args below meth c A D vwCl 4 0 0 Q (wo G a r) 152 [(0, .ref (ob G 7)), (1, .int v1), (2, .int v2)] []) (r : S_) (v1 : Int32) (v2 : Int32) (v3 : Int32) (u0 : Int32) (h : qM_needNoRing_J106 a KB44 KX152 r v1 v2 v3 u0) : vx_V p l e { frames := 2, cells := 0, slots := 0, locals := 43 } s m args below meth c A D vwCl 4 0 0 Q (wo G a r) 106 [(0, .ref (ob G 7)), (1, .int v1), (2, .int v2), (3, .int v3)] [.int u0, .ref (ad a 87)] := by
  unfold qM_needNoRing_J106 at h
  refine x_iconst (v := 0) C dM_needNoRing_106 (by decide) ?_
  refine x_sub [0, 1, 2, 3] rfl ?_
  exact tM_needNoRing_J107 C kB44 kX152 r v1 v2 v3 0 u0 h
def qM_needNoRing_L44 (a : L_) (KX152 : S_ → Int32 → Int32 → Prop) : Nat → S_ → Int32 → Int32 → Int32 → Prop
  | 0, _, _, _, _ => False
  | n + 1, r, v1, v2, v3 => (((fi r 28) ≤ v3) → KX152 r v1 v2) ∧ ((¬ (fi r 28) ≤ v3) → vp_in v3 (ln a 64) ∧ ((¬ (ar r 64 v3.toNatClampNeg) = v3) → qM_needNoRing_J146 a (qM_needNoRing_L44 a KX152 n) KX152 r v1 v2 v3) ∧ (((ar r 64 v3.toNatClampNeg) = v3) → vp_in v3 (ln a 87) ∧ ((¬ (ar r 87 v3.toNatClampNeg) = 0) → qM_needNoRing_J146 a (qM_needNoRing_L44 a KX152 n) KX152 r v1 v2 v3) ∧ (((ar r 87 v3.toNatClampNeg) = 0) → vp_in v3 (ln a 66) ∧ qM_isTold a r (fun z12 => zb z12 → ((z12 = 0) → qM_needNoRing_J106 a (qM_needNoRing_L44 a KX152 n) KX152 r v1 v2 v3 v3) ∧ ((¬ z12 = 0) → vp_in v3 (ln a 67) ∧ qM_isTold a r (fun z23 => zb z23 → ((z23 = 0) → qM_needNoRing_J106 a (qM_needNoRing_L44 a KX152 n) KX152 r v1 v2 v3 v3) ∧ ((¬ z23 = 0) → qM_needNoRing_J107 a (qM_needNoRing_L44 a KX152 n) KX152 r v1 v2 v3 1 v3)) (ar r 67 v3.toNatClampNeg))) (ar r 66 v3.toNatClampNeg))))
set_option maxRecDepth 100000 in
set_option maxHeartbeats 4000000 in
theorem tM_needNoRing_L44 (C : vx_C p s m args c prog_9_method_28_code 4 (Cond.code yM_needNoRing prog_9_method_28_code 4 none :: wAll) "ClassInferenceModel" D vwCl (tysG G) nwAll A) {a : L_} {KX152 : S_ → Int32 → Int32 → Prop} (kX152 : ∀ (r : S_) (v1 : Int32) (v2 : Int32), KX152 r v1 v2 → vx_V p l e { frames := 2, cells := 0, slots := 0, locals := 43 } s m args below meth c A D vwCl 4 0 0 Q (wo G a r) 152 [(0, .ref (ob G 7)), (1, .int v1), (2, .int v2)] []) : ∀ (n : Nat) (r : S_) (v1 : Int32) (v2 : Int32) (v3 : Int32), qM_needNoRing_L44 a KX152 n r v1 v2 v3 → vx_V p l e { frames := 2, cells := 0, slots := 0, locals := 43 } s m args below meth c A D vwCl 4 0 0 Q (wo G a r) 44 [(0, .ref (ob G 7)), (1, .int v1), (2, .int v2), (3, .int v3)] [] := by
  intro n
  induction n with
  | zero =>
    intro r v1 v2 v3 h
    exact (by rw [qM_needNoRing_L44] at h; exact h : False).elim
  | succ n kB44 =>
    intro r v1 v2 v3 h
    rw [qM_needNoRing_L44] at h
    refine x_iload_n C dM_needNoRing_44 rfl 3 rfl ?_
    refine x_aload_n C dM_needNoRing_45 rfl 0 rfl ?_
    refine gf_7_37 C (List.mem_cons_of_mem _ wm753) dM_needNoRing_46 ?_
    refine x_icmp_ge (tgt := 152) C dM_needNoRing_49 (by decide) (fun g6 => ?_) (fun g6 => ?_)
    · have h := h.1 g6
      refine x_sub [0, 1, 2] rfl ?_
      exact kX152 r v1 v2 h
    · have h := h.2 g6
      refine x_aload_n C dM_needNoRing_52 rfl 0 rfl ?_
      refine gf_7_38 C (List.mem_cons_of_mem _ wm754) dM_needNoRing_53 ?_
      refine x_iload_n C dM_needNoRing_56 rfl 3 rfl ?_
      obtain ⟨g7, h⟩ := h
      refine y_ia C 64 (by decide) g7 dM_needNoRing_57 ?_
      refine x_iload_n C dM_needNoRing_58 rfl 3 rfl ?_
      refine x_icmp_ne (tgt := 146) C dM_needNoRing_59 (by decide) (fun g8 => ?_) (fun g8 => ?_)
      · have h := h.1 g8
        refine x_sub [0, 1, 2, 3] rfl ?_
        exact tM_needNoRing_J146 C kB44 kX152 r v1 v2 v3 h
      · have h := h.2 g8
        refine x_aload_n C dM_needNoRing_62 rfl 0 rfl ?_
        refine gf_7_45 C (List.mem_cons_of_mem _ wm761) dM_needNoRing_63 ?_
        refine x_iload_n C dM_needNoRing_66 rfl 3 rfl ?_
        obtain ⟨g9, h⟩ := h
        refine y_za C 87 (by decide) g9 dM_needNoRing_67 ?_
        refine x_if_ne (tgt := 146) C dM_needNoRing_68 (by decide) (fun g10 => ?_) (fun g10 => ?_)
        · have h := h.1 g10
          refine x_sub [0, 1, 2, 3] rfl ?_
          exact tM_needNoRing_J146 C kB44 kX152 r v1 v2 v3 h
        · have h := h.2 g10
          refine x_aload_n C dM_needNoRing_71 rfl 0 rfl ?_
          refine gf_7_45 C (List.mem_cons_of_mem _ wm761) dM_needNoRing_72 ?_
          refine x_iload_n C dM_needNoRing_75 rfl 3 rfl ?_
          refine x_aload_n C dM_needNoRing_76 rfl 0 rfl ?_
          refine x_aload_n C dM_needNoRing_77 rfl 0 rfl ?_
          refine gf_7_40 C (List.mem_cons_of_mem _ wm756) dM_needNoRing_78 ?_
          refine x_iload_n C dM_needNoRing_81 rfl 3 rfl ?_
          obtain ⟨g11, h⟩ := h
          refine y_ia C 66 (by decide) g11 dM_needNoRing_82 ?_
          refine kM_isTold C wm1078 ⟨Nat.le_of_ble_eq_true rfl, Nat.le_of_ble_eq_true rfl⟩ (Nat.le_of_ble_eq_true rfl) dM_needNoRing_83 ⟨Nat.zero_le _, Nat.zero_le _⟩ h (fun z12 hzz12 h => ?_)
          have h := h hzz12
          refine x_if_eq (tgt := 106) C dM_needNoRing_86 (by decide) (fun g13 => ?_) (fun g13 => ?_)
          · have h := h.1 g13
            refine x_sub [0, 1, 2, 3] rfl ?_
            exact tM_needNoRing_J106 C kB44 kX152 r v1 v2 v3 v3 h
          · have h := h.2 g13
            refine x_aload_n C dM_needNoRing_89 rfl 0 rfl ?_
            refine x_aload_n C dM_needNoRing_90 rfl 0 rfl ?_
            refine gf_7_41 C (List.mem_cons_of_mem _ wm757) dM_needNoRing_91 ?_
            refine x_iload_n C dM_needNoRing_94 rfl 3 rfl ?_
            obtain ⟨g22, h⟩ := h
            refine y_ia C 67 (by decide) g22 dM_needNoRing_95 ?_
            refine kM_isTold C wm1078 ⟨Nat.le_of_ble_eq_true rfl, Nat.le_of_ble_eq_true rfl⟩ (Nat.le_of_ble_eq_true rfl) dM_needNoRing_96 ⟨Nat.zero_le _, Nat.zero_le _⟩ h (fun z23 hzz23 h => ?_)
            have h := h hzz23
            refine x_if_eq (tgt := 106) C dM_needNoRing_99 (by decide) (fun g24 => ?_) (fun g24 => ?_)
            · have h := h.1 g24
              refine x_sub [0, 1, 2, 3] rfl ?_
              exact tM_needNoRing_J106 C kB44 kX152 r v1 v2 v3 v3 h
            · have h := h.2 g24
              refine x_iconst (v := 1) C dM_needNoRing_102 (by decide) ?_
              refine x_goto (tgt := 107) C dM_needNoRing_103 (by decide) ?_
              refine x_sub [0, 1, 2, 3] rfl ?_
              exact tM_needNoRing_J107 C kB44 kX152 r v1 v2 v3 1 v3 h
def qM_needNoRing_L27 (a : L_) (KX155 : S_ → Int32 → Prop) : Nat → S_ → Int32 → Int32 → Prop
  | 0, _, _, _ => False
  | n + 1, r, v1, v2 => ((v1 = 0) → KX155 r v2) ∧ ((¬ v1 = 0) → ((¬ (fi r 32) = 0) → KX155 r v2) ∧ (((fi r 32) = 0) → ∃ n25 : Nat, qM_needNoRing_L44 a (fun r v1 v2 => (qM_needNoRing_L27 a KX155 n) r v1 v2) n25 r 0 1 0))
set_option maxRecDepth 100000 in
set_option maxHeartbeats 4000000 in
theorem tM_needNoRing_L27 (C : vx_C p s m args c prog_9_method_28_code 4 (Cond.code yM_needNoRing prog_9_method_28_code 4 none :: wAll) "ClassInferenceModel" D vwCl (tysG G) nwAll A) {a : L_} {KX155 : S_ → Int32 → Prop} (kX155 : ∀ (r : S_) (v2 : Int32), KX155 r v2 → vx_V p l e { frames := 2, cells := 0, slots := 0, locals := 43 } s m args below meth c A D vwCl 4 0 0 Q (wo G a r) 155 [(0, .ref (ob G 7)), (2, .int v2)] []) : ∀ (n : Nat) (r : S_) (v1 : Int32) (v2 : Int32), qM_needNoRing_L27 a KX155 n r v1 v2 → vx_V p l e { frames := 2, cells := 0, slots := 0, locals := 43 } s m args below meth c A D vwCl 4 0 0 Q (wo G a r) 27 [(0, .ref (ob G 7)), (1, .int v1), (2, .int v2)] [] := by
  intro n
  induction n with
  | zero =>
    intro r v1 v2 h
    exact (by rw [qM_needNoRing_L27] at h; exact h : False).elim
  | succ n kB27 =>
    intro r v1 v2 h
    rw [qM_needNoRing_L27] at h
    refine x_iload_n C dM_needNoRing_27 rfl 1 rfl ?_
    refine x_if_eq (tgt := 155) C dM_needNoRing_28 (by decide) (fun g4 => ?_) (fun g4 => ?_)
    · have h := h.1 g4
      refine x_sub [0, 2] rfl ?_
      exact kX155 r v2 h
    · have h := h.2 g4
      refine x_aload_n C dM_needNoRing_31 rfl 0 rfl ?_
      refine gf_7_56 C (List.mem_cons_of_mem _ wm772) dM_needNoRing_32 ?_
      refine x_if_ne (tgt := 155) C dM_needNoRing_35 (by decide) (fun g5 => ?_) (fun g5 => ?_)
      · have h := h.1 g5
        refine x_sub [0, 2] rfl ?_
        exact kX155 r v2 h
      · have h := h.2 g5
        refine x_iconst (v := 0) C dM_needNoRing_38 (by decide) ?_
        refine x_istore_n C [(1, .int 0), (0, .ref (ob G 7)), (2, .int v2)] dM_needNoRing_39 rfl (by decide) rfl ?_
        refine x_iconst (v := 1) C dM_needNoRing_40 (by decide) ?_
        refine x_istore_n C [(2, .int 1), (1, .int 0), (0, .ref (ob G 7))] dM_needNoRing_41 rfl (by decide) rfl ?_
        refine x_iconst (v := 0) C dM_needNoRing_42 (by decide) ?_
        refine x_istore_n C [(3, .int 0), (2, .int 1), (1, .int 0), (0, .ref (ob G 7))] dM_needNoRing_43 rfl (by decide) rfl ?_
        obtain ⟨n25, h⟩ := h
        refine x_sub [3, 2, 1, 0] rfl ?_
        refine tM_needNoRing_L44 C (fun r v1 v2 h => ?_) n25 r 0 1 0 h
        · refine x_goto (tgt := 27) C dM_needNoRing_152 (by decide) ?_
          refine x_sub [0, 1, 2] rfl ?_
          exact kB27 r v1 v2 h
def qM_needNoRing_J172 (a : L_) (K : S_ → Prop) (r : S_) (u0 : Int32) : Prop :=
  zb u0 ∧ ∀ r27 : S_, r27 = sF r 32 u0 → K r27
set_option maxRecDepth 100000 in
set_option maxHeartbeats 4000000 in
theorem tM_needNoRing_J172 (C : vx_C p s m args c prog_9_method_28_code 4 (Cond.code yM_needNoRing prog_9_method_28_code 4 none :: wAll) "ClassInferenceModel" D vwCl (tysG G) nwAll A) (hA : A = va_A ws0 s.heap.size) (hlocks : meth.locks = false) (hr : meth.sig.returnType = none) {a : L_} {K : S_ → Prop} (r : S_) (u0 : Int32) (h : qM_needNoRing_J172 a K r u0) : vx_V p l e { frames := 2, cells := 0, slots := 0, locals := 43 } s m args below meth c A D vwCl 4 0 0 (MQ below (va_Qv (fun w => ∃ r1, w = wo G a r1 ∧ K r1) (vx_B D vwCl (tysG G) A) A) args s 0 0 A) (wo G a r) 172 [] [.int u0, .ref (ob G 7)] := by
  unfold qM_needNoRing_J172 at h
  obtain ⟨g28, h⟩ := h
  refine pf_7_56 C (List.mem_cons_of_mem _ wm772) g28 dM_needNoRing_172 (fun r27 er27 => ?_)
  have h := h r27 er27
  exact x_vret C hA hlocks hr ⟨r27, rfl, h⟩ dM_needNoRing_175
def qM_needNoRing_J167 (a : L_) (K : S_ → Prop) (r : S_) : Prop :=
  qM_needNoRing_J172 a K r 1
set_option maxRecDepth 100000 in
set_option maxHeartbeats 4000000 in
theorem tM_needNoRing_J167 (C : vx_C p s m args c prog_9_method_28_code 4 (Cond.code yM_needNoRing prog_9_method_28_code 4 none :: wAll) "ClassInferenceModel" D vwCl (tysG G) nwAll A) (hA : A = va_A ws0 s.heap.size) (hlocks : meth.locks = false) (hr : meth.sig.returnType = none) {a : L_} {K : S_ → Prop} (r : S_) (h : qM_needNoRing_J167 a K r) : vx_V p l e { frames := 2, cells := 0, slots := 0, locals := 43 } s m args below meth c A D vwCl 4 0 0 (MQ below (va_Qv (fun w => ∃ r1, w = wo G a r1 ∧ K r1) (vx_B D vwCl (tysG G) A) A) args s 0 0 A) (wo G a r) 167 [] [.ref (ob G 7)] := by
  unfold qM_needNoRing_J167 at h
  refine x_iconst (v := 1) C dM_needNoRing_167 (by decide) ?_
  refine x_goto (tgt := 172) C dM_needNoRing_168 (by decide) ?_
  refine x_sub [] rfl ?_
  exact tM_needNoRing_J172 C hA hlocks hr r 1 h
def qM_needNoRing_J155 (a : L_) (K : S_ → Prop) (r : S_) (v2 : Int32) : Prop :=
  ((¬ (fi r 32) = 0) → qM_needNoRing_J167 a K r) ∧ (((fi r 32) = 0) → ((¬ v2 = 0) → qM_needNoRing_J172 a K r 0) ∧ ((v2 = 0) → qM_needNoRing_J167 a K r))
set_option maxRecDepth 100000 in
set_option maxHeartbeats 4000000 in
theorem tM_needNoRing_J155 (C : vx_C p s m args c prog_9_method_28_code 4 (Cond.code yM_needNoRing prog_9_method_28_code 4 none :: wAll) "ClassInferenceModel" D vwCl (tysG G) nwAll A) (hA : A = va_A ws0 s.heap.size) (hlocks : meth.locks = false) (hr : meth.sig.returnType = none) {a : L_} {K : S_ → Prop} (r : S_) (v2 : Int32) (h : qM_needNoRing_J155 a K r v2) : vx_V p l e { frames := 2, cells := 0, slots := 0, locals := 43 } s m args below meth c A D vwCl 4 0 0 (MQ below (va_Qv (fun w => ∃ r1, w = wo G a r1 ∧ K r1) (vx_B D vwCl (tysG G) A) A) args s 0 0 A) (wo G a r) 155 [(0, .ref (ob G 7)), (2, .int v2)] [] := by
  unfold qM_needNoRing_J155 at h
  refine x_aload_n C dM_needNoRing_155 rfl 0 rfl ?_
  refine x_aload_n C dM_needNoRing_156 rfl 0 rfl ?_
  refine gf_7_56 C (List.mem_cons_of_mem _ wm772) dM_needNoRing_157 ?_
  refine x_if_ne (tgt := 167) C dM_needNoRing_160 (by decide) (fun g26 => ?_) (fun g26 => ?_)
  · have h := h.1 g26
    refine x_sub [] rfl ?_
    exact tM_needNoRing_J167 C hA hlocks hr r h
  · have h := h.2 g26
    refine x_iload_n C dM_needNoRing_163 rfl 1 rfl ?_
    refine x_if_ne (tgt := 171) C dM_needNoRing_164 (by decide) (fun g29 => ?_) (fun g29 => ?_)
    · have h := h.1 g29
      refine x_iconst (v := 0) C dM_needNoRing_171 (by decide) ?_
      refine x_sub [] rfl ?_
      exact tM_needNoRing_J172 C hA hlocks hr r 0 h
    · have h := h.2 g29
      refine x_sub [] rfl ?_
      exact tM_needNoRing_J167 C hA hlocks hr r h
def qM_needNoRing (a : L_) (K : S_ → Prop) (r : S_) : Prop :=
  ∃ n31 : Nat, qM_needNoRing_L2 a (fun r => ∃ n30 : Nat, qM_needNoRing_L27 a (fun r v2 => qM_needNoRing_J155 a K r v2) n30 r 1 1) n31 r 0
set_option maxRecDepth 100000 in
set_option maxHeartbeats 4000000 in
theorem cM_needNoRing {a : L_} {r : S_} {K : S_ → Prop} (h : qM_needNoRing a K r ) : vx_Mv l yM_needNoRing (Cond.code yM_needNoRing prog_9_method_28_code 4 none :: wAll) { frames := 2, cells := 0, slots := 0, locals := 43 } D vwCl (tysG G) nwAll (wo G a r) [.ref (ob G 7)] 0 0 (fun w => ∃ r1, w = wo G a r1 ∧ K r1) := by
  unfold qM_needNoRing at h
  refine x_metv (cc := prog_9_method_28_code) (maxL := 4) (ret := none) (lv0 := [(0, .ref (ob G 7))]) (by decide) rfl (Nat.le_of_ble_eq_true rfl) rfl ?_
  intro p e s m args below meth c A C hA hlocks hr
  refine x_iconst (v := 0) C dM_needNoRing_0 (by decide) ?_
  refine x_istore_n C [(1, .int 0), (0, .ref (ob G 7))] dM_needNoRing_1 rfl (by decide) rfl ?_
  obtain ⟨n31, h⟩ := h
  refine x_sub [1, 0] rfl ?_
  refine tM_needNoRing_L2 C (fun r h => ?_) n31 r 0 h
  · refine x_iconst (v := 1) C dM_needNoRing_23 (by decide) ?_
    refine x_istore_n C [(1, .int 1), (0, .ref (ob G 7))] dM_needNoRing_24 rfl (by decide) rfl ?_
    refine x_iconst (v := 1) C dM_needNoRing_25 (by decide) ?_
    refine x_istore_n C [(2, .int 1), (1, .int 1), (0, .ref (ob G 7))] dM_needNoRing_26 rfl (by decide) rfl ?_
    obtain ⟨n30, h⟩ := h
    refine x_sub [2, 1, 0] rfl ?_
    refine tM_needNoRing_L27 C (fun r v2 h => ?_) n30 r 1 1 h
    · refine x_sub [0, 1] rfl ?_
      exact tM_needNoRing_J155 C hA hlocks hr r v2 h
set_option maxRecDepth 100000 in
set_option maxHeartbeats 4000000 in
theorem kM_needNoRing {p : Program} {l : Launch} {e : Env} {R : Room} {s : State} {m : MethodId} {args : Array Value} {below : List Frame} {meth : Method} {c : Code} {cells slots : Nat} {Q : State → Prop} {A : Nat → Prop} {D : va_G} {nL pc : Nat} {cc : ByteArray} {cw : Cond} {own : String} {lv : List (Nat × Value)} {st : List Value} {G : G_} {a : L_} {r : S_} {K : S_ → Prop} (C : vx_C p s m args c cc nL (cw :: wAll) own D vwCl (tysG G) nwAll A) {i : Nat} (hl : Cond.methodLink own i yM_needNoRing ∈ wAll) (hR : 2 + 1 ≤ R.frames ∧ 8 + (4 + 11) + 43 ≤ R.locals) (hst : (st.map fun v => v.category).sum ≤ 8) (hd : decode cc pc = .ok (.invokevirtual i, 3)) (hcs : cells ≤ R.cells ∧ slots ≤ R.slots) (h : qM_needNoRing a K r ) (k : ∀ (r1 : S_), K r1 → vx_V p l e R s m args below meth c A D vwCl nL cells slots Q (wo G a r1) (pc + 3) lv st) : vx_V p l e R s m args below meth c A D vwCl nL cells slots Q (wo G a r) pc lv (.ref (ob G 7) :: st) := by
  refine x_callVv C (CC := "ClassInferenceModel") (ci := 7) (q0 := 7) (fs := fl7 G a r) (As := []) rfl rfl (cM_needNoRing  h) (cwV (C := "ClassInferenceModel") 0 C.1.2.2.2.2 (goodV hl wm1076 wp54 wm9 wm1077) rfl rfl rfl (by decide +kernel) hR) rfl hst hd hcs (fun w hw => ?_)
  obtain ⟨r1, rfl, h⟩ := hw
  exact k r1 h
def qM_reach_J118 (a : L_) (KB9 : S_ → Int32 → Prop) (KX121 : S_ → Prop) (r : S_) (v2 : Int32) : Prop :=
  KB9 r v2
set_option maxRecDepth 100000 in
set_option maxHeartbeats 4000000 in
theorem tM_reach_J118 (C : vx_C p s m args c prog_9_method_29_code 4 (Cond.code yM_reach prog_9_method_29_code 4 none :: wAll) "ClassInferenceModel" D vwCl (tysG G) nwAll A) {a : L_} {KB9 : S_ → Int32 → Prop} {KX121 : S_ → Prop} (kB9 : ∀ (r : S_) (v2 : Int32), KB9 r v2 → vx_V p l e { frames := 1, cells := 0, slots := 0, locals := 22 } s m args below meth c A D vwCl 4 0 0 Q (wo G a r) 9 [(0, .ref (ob G 7)), (2, .int v2)] []) (kX121 : ∀ (r : S_), KX121 r → vx_V p l e { frames := 1, cells := 0, slots := 0, locals := 22 } s m args below meth c A D vwCl 4 0 0 Q (wo G a r) 121 [] []) (r : S_) (v2 : Int32) (h : qM_reach_J118 a KB9 KX121 r v2) : vx_V p l e { frames := 1, cells := 0, slots := 0, locals := 22 } s m args below meth c A D vwCl 4 0 0 Q (wo G a r) 118 [(0, .ref (ob G 7)), (2, .int v2)] [] := by
  unfold qM_reach_J118 at h
  refine x_goto (tgt := 9) C dM_reach_118 (by decide) ?_
  refine x_sub [0, 1] rfl ?_
  exact kB9 r v2 h
def qM_reach_J94 (a : L_) (KB9 : S_ → Int32 → Prop) (KX121 : S_ → Prop) (r : S_) (v2 : Int32) (v3 : Int32) : Prop :=
  vp_in v3 (ln a 67) ∧ (((ar r 67 v3.toNatClampNeg) < 0) → qM_reach_J118 a KB9 KX121 r v2) ∧ ((¬ (ar r 67 v3.toNatClampNeg) < 0) → vp_in v3 (ln a 67) ∧ vp_in v2 (ln a 72) ∧ ∀ r19 : S_, r19 = sA r 72 (upd (ar r 72) v2.toNatClampNeg (ar r 67 v3.toNatClampNeg)) → qM_reach_J118 a KB9 KX121 r19 (v2 + 1))
set_option maxRecDepth 100000 in
set_option maxHeartbeats 4000000 in
theorem tM_reach_J94 (C : vx_C p s m args c prog_9_method_29_code 4 (Cond.code yM_reach prog_9_method_29_code 4 none :: wAll) "ClassInferenceModel" D vwCl (tysG G) nwAll A) {a : L_} {KB9 : S_ → Int32 → Prop} {KX121 : S_ → Prop} (kB9 : ∀ (r : S_) (v2 : Int32), KB9 r v2 → vx_V p l e { frames := 1, cells := 0, slots := 0, locals := 22 } s m args below meth c A D vwCl 4 0 0 Q (wo G a r) 9 [(0, .ref (ob G 7)), (2, .int v2)] []) (kX121 : ∀ (r : S_), KX121 r → vx_V p l e { frames := 1, cells := 0, slots := 0, locals := 22 } s m args below meth c A D vwCl 4 0 0 Q (wo G a r) 121 [] []) (r : S_) (v2 : Int32) (v3 : Int32) (h : qM_reach_J94 a KB9 KX121 r v2 v3) : vx_V p l e { frames := 1, cells := 0, slots := 0, locals := 22 } s m args below meth c A D vwCl 4 0 0 Q (wo G a r) 94 [(0, .ref (ob G 7)), (2, .int v2), (3, .int v3)] [] := by
  unfold qM_reach_J94 at h
  refine x_aload_n C dM_reach_94 rfl 0 rfl ?_
  refine gf_7_41 C (List.mem_cons_of_mem _ wm757) dM_reach_95 ?_
  refine x_iload_n C dM_reach_98 rfl 2 rfl ?_
  obtain ⟨g15, h⟩ := h
  refine y_ia C 67 (by decide) g15 dM_reach_99 ?_
  refine x_if_lt (tgt := 118) C dM_reach_100 (by decide) (fun g16 => ?_) (fun g16 => ?_)
  · have h := h.1 g16
    refine x_sub [0, 1] rfl ?_
    exact tM_reach_J118 C kB9 kX121 r v2 h
  · have h := h.2 g16
    refine x_aload_n C dM_reach_103 rfl 0 rfl ?_
    refine gf_7_48 C (List.mem_cons_of_mem _ wm764) dM_reach_104 ?_
    refine x_iload_n C dM_reach_107 rfl 1 rfl ?_
    refine x_aload_n C dM_reach_108 rfl 0 rfl ?_
    refine gf_7_41 C (List.mem_cons_of_mem _ wm757) dM_reach_109 ?_
    refine x_iload_n C dM_reach_112 rfl 2 rfl ?_
    obtain ⟨g17, h⟩ := h
    refine y_ia C 67 (by decide) g17 dM_reach_113 ?_
    obtain ⟨g18, h⟩ := h
    refine y_is C 72 (by decide) g18 dM_reach_114 (fun r19 er19 => ?_)
    have h := h r19 er19
    refine x_iinc (j := 1) (v := v2 + 1) C [(2, .int (v2 + 1)), (0, .ref (ob G 7)), (3, .int v3)] dM_reach_115 rfl rfl (by decide) rfl ?_
    refine x_sub [1, 0] rfl ?_
    exact tM_reach_J118 C kB9 kX121 r19 (v2 + 1) h
def qM_reach_L9 (a : L_) (KX121 : S_ → Prop) : Nat → S_ → Int32 → Prop
  | 0, _, _ => False
  | n + 1, r, v2 => ((v2 ≤ 0) → KX121 r) ∧ ((¬ v2 ≤ 0) → vp_in (v2 + (-1)) (ln a 72) ∧ qM_find a r (fun z5 => vp_in z5 (ln a 68) ∧ (((ar r 68 z5.toNatClampNeg) = (fi r 29)) → qM_reach_J118 a (qM_reach_L9 a KX121 n) KX121 r (v2 + (-1))) ∧ ((¬ (ar r 68 z5.toNatClampNeg) = (fi r 29)) → vp_in z5 (ln a 68) ∧ ∀ r9 : S_, r9 = sA r 68 (upd (ar r 68) z5.toNatClampNeg (fi r 29)) → vp_in (fi r9 30) (ln a 73) ∧ ∀ r11 : S_, r11 = sA r9 73 (upd (ar r9 73) (fi r9 30).toNatClampNeg z5) → ∀ r12 : S_, r12 = sF r11 30 ((fi r11 30) + 1) → vp_in z5 (ln a 66) ∧ (((ar r12 66 z5.toNatClampNeg) < 0) → qM_reach_J94 a (qM_reach_L9 a KX121 n) KX121 r12 (v2 + (-1)) z5) ∧ ((¬ (ar r12 66 z5.toNatClampNeg) < 0) → vp_in z5 (ln a 66) ∧ vp_in (v2 + (-1)) (ln a 72) ∧ ∀ r22 : S_, r22 = sA r12 72 (upd (ar r12 72) (v2 + (-1)).toNatClampNeg (ar r12 66 z5.toNatClampNeg)) → qM_reach_J94 a (qM_reach_L9 a KX121 n) KX121 r22 ((v2 + (-1)) + 1) z5))) (ar r 72 (v2 + (-1)).toNatClampNeg))
set_option maxRecDepth 100000 in
set_option maxHeartbeats 4000000 in
theorem tM_reach_L9 (C : vx_C p s m args c prog_9_method_29_code 4 (Cond.code yM_reach prog_9_method_29_code 4 none :: wAll) "ClassInferenceModel" D vwCl (tysG G) nwAll A) {a : L_} {KX121 : S_ → Prop} (kX121 : ∀ (r : S_), KX121 r → vx_V p l e { frames := 1, cells := 0, slots := 0, locals := 22 } s m args below meth c A D vwCl 4 0 0 Q (wo G a r) 121 [] []) : ∀ (n : Nat) (r : S_) (v2 : Int32), qM_reach_L9 a KX121 n r v2 → vx_V p l e { frames := 1, cells := 0, slots := 0, locals := 22 } s m args below meth c A D vwCl 4 0 0 Q (wo G a r) 9 [(0, .ref (ob G 7)), (2, .int v2)] [] := by
  intro n
  induction n with
  | zero =>
    intro r v2 h
    exact (by rw [qM_reach_L9] at h; exact h : False).elim
  | succ n kB9 =>
    intro r v2 h
    rw [qM_reach_L9] at h
    refine x_iload_n C dM_reach_9 rfl 1 rfl ?_
    refine x_if_le (tgt := 121) C dM_reach_10 (by decide) (fun g3 => ?_) (fun g3 => ?_)
    · have h := h.1 g3
      refine x_sub [] rfl ?_
      exact kX121 r h
    · have h := h.2 g3
      refine x_iinc (j := 1) (v := v2 + (-1)) C [(2, .int (v2 + (-1))), (0, .ref (ob G 7))] dM_reach_13 rfl rfl (by decide) rfl ?_
      refine x_aload_n C dM_reach_16 rfl 1 rfl ?_
      refine x_aload_n C dM_reach_17 rfl 1 rfl ?_
      refine gf_7_48 C (List.mem_cons_of_mem _ wm764) dM_reach_18 ?_
      refine x_iload_n C dM_reach_21 rfl 0 rfl ?_
      obtain ⟨g4, h⟩ := h
      refine y_ia C 72 (by decide) g4 dM_reach_22 ?_
      refine kM_find C wm1039 ⟨Nat.le_of_ble_eq_true rfl, Nat.le_of_ble_eq_true rfl⟩ (Nat.le_of_ble_eq_true rfl) dM_reach_23 ⟨Nat.zero_le _, Nat.zero_le _⟩ h (fun z5 h => ?_)
      refine x_istore_n C [(3, .int z5), (2, .int (v2 + (-1))), (0, .ref (ob G 7))] dM_reach_26 rfl (by decide) rfl ?_
      refine x_aload_n C dM_reach_27 rfl 2 rfl ?_
      refine gf_7_42 C (List.mem_cons_of_mem _ wm758) dM_reach_28 ?_
      refine x_iload_n C dM_reach_31 rfl 0 rfl ?_
      obtain ⟨g6, h⟩ := h
      refine y_ia C 68 (by decide) g6 dM_reach_32 ?_
      refine x_aload_n C dM_reach_33 rfl 2 rfl ?_
      refine gf_7_43 C (List.mem_cons_of_mem _ wm759) dM_reach_34 ?_
      refine x_icmp_eq (tgt := 118) C dM_reach_37 (by decide) (fun g7 => ?_) (fun g7 => ?_)
      · have h := h.1 g7
        refine x_sub [2, 1] rfl ?_
        exact tM_reach_J118 C kB9 kX121 r (v2 + (-1)) h
      · have h := h.2 g7
        refine x_aload_n C dM_reach_40 rfl 2 rfl ?_
        refine gf_7_42 C (List.mem_cons_of_mem _ wm758) dM_reach_41 ?_
        refine x_iload_n C dM_reach_44 rfl 0 rfl ?_
        refine x_aload_n C dM_reach_45 rfl 2 rfl ?_
        refine gf_7_43 C (List.mem_cons_of_mem _ wm759) dM_reach_46 ?_
        obtain ⟨g8, h⟩ := h
        refine y_is C 68 (by decide) g8 dM_reach_49 (fun r9 er9 => ?_)
        have h := h r9 er9
        refine x_aload_n C dM_reach_50 rfl 2 rfl ?_
        refine gf_7_49 C (List.mem_cons_of_mem _ wm765) dM_reach_51 ?_
        refine x_aload_n C dM_reach_54 rfl 2 rfl ?_
        refine gf_7_50 C (List.mem_cons_of_mem _ wm766) dM_reach_55 ?_
        refine x_iload_n C dM_reach_58 rfl 0 rfl ?_
        obtain ⟨g10, h⟩ := h
        refine y_is C 73 (by decide) g10 dM_reach_59 (fun r11 er11 => ?_)
        have h := h r11 er11
        refine x_aload_n C dM_reach_60 rfl 2 rfl ?_
        refine x_dup C dM_reach_61 rfl ?_
        refine gf_7_50 C (List.mem_cons_of_mem _ wm766) dM_reach_62 ?_
        refine x_iconst (v := 1) C dM_reach_65 (by decide) ?_
        refine x_iadd C dM_reach_66 ?_
        refine pf_7_50 C (List.mem_cons_of_mem _ wm766) dM_reach_67 (fun r12 er12 => ?_)
        have h := h r12 er12
        refine x_aload_n C dM_reach_70 rfl 2 rfl ?_
        refine gf_7_40 C (List.mem_cons_of_mem _ wm756) dM_reach_71 ?_
        refine x_iload_n C dM_reach_74 rfl 0 rfl ?_
        obtain ⟨g13, h⟩ := h
        refine y_ia C 66 (by decide) g13 dM_reach_75 ?_
        refine x_if_lt (tgt := 94) C dM_reach_76 (by decide) (fun g14 => ?_) (fun g14 => ?_)
        · have h := h.1 g14
          refine x_sub [2, 1, 0] rfl ?_
          exact tM_reach_J94 C kB9 kX121 r12 (v2 + (-1)) z5 h
        · have h := h.2 g14
          refine x_aload_n C dM_reach_79 rfl 2 rfl ?_
          refine gf_7_48 C (List.mem_cons_of_mem _ wm764) dM_reach_80 ?_
          refine x_iload_n C dM_reach_83 rfl 1 rfl ?_
          refine x_aload_n C dM_reach_84 rfl 2 rfl ?_
          refine gf_7_40 C (List.mem_cons_of_mem _ wm756) dM_reach_85 ?_
          refine x_iload_n C dM_reach_88 rfl 0 rfl ?_
          obtain ⟨g20, h⟩ := h
          refine y_ia C 66 (by decide) g20 dM_reach_89 ?_
          obtain ⟨g21, h⟩ := h
          refine y_is C 72 (by decide) g21 dM_reach_90 (fun r22 er22 => ?_)
          have h := h r22 er22
          refine x_iinc (j := 1) (v := (v2 + (-1)) + 1) C [(2, .int ((v2 + (-1)) + 1)), (3, .int z5), (0, .ref (ob G 7))] dM_reach_91 rfl rfl (by decide) rfl ?_
          refine x_sub [2, 0, 1] rfl ?_
          exact tM_reach_J94 C kB9 kX121 r22 ((v2 + (-1)) + 1) z5 h
def qM_reach (a : L_) (K : S_ → Prop) (r : S_) (p0 : Int32) : Prop :=
  vp_in 0 (ln a 72) ∧ ∀ r2 : S_, r2 = sA r 72 (upd (ar r 72) (0 : Int32).toNatClampNeg p0) → ∃ n23 : Nat, qM_reach_L9 a (fun r => K r) n23 r2 1
set_option maxRecDepth 100000 in
set_option maxHeartbeats 4000000 in
theorem cM_reach {a : L_} {r : S_} {K : S_ → Prop} (p0 : Int32) (h : qM_reach a K r p0) : vx_Mv l yM_reach (Cond.code yM_reach prog_9_method_29_code 4 none :: wAll) { frames := 1, cells := 0, slots := 0, locals := 22 } D vwCl (tysG G) nwAll (wo G a r) [.ref (ob G 7), .int p0] 0 0 (fun w => ∃ r1, w = wo G a r1 ∧ K r1) := by
  unfold qM_reach at h
  refine x_metv (cc := prog_9_method_29_code) (maxL := 4) (ret := none) (lv0 := [(0, .ref (ob G 7)), (1, .int p0)]) (by decide) rfl (Nat.le_of_ble_eq_true rfl) rfl ?_
  intro p e s m args below meth c A C hA hlocks hr
  refine x_iconst (v := 1) C dM_reach_0 (by decide) ?_
  refine x_istore_n C [(2, .int 1), (0, .ref (ob G 7)), (1, .int p0)] dM_reach_1 rfl (by decide) rfl ?_
  refine x_aload_n C dM_reach_2 rfl 1 rfl ?_
  refine gf_7_48 C (List.mem_cons_of_mem _ wm764) dM_reach_3 ?_
  refine x_iconst (v := 0) C dM_reach_6 (by decide) ?_
  refine x_iload_n C dM_reach_7 rfl 2 rfl ?_
  obtain ⟨g1, h⟩ := h
  refine y_is C 72 (by decide) g1 dM_reach_8 (fun r2 er2 => ?_)
  have h := h r2 er2
  obtain ⟨n23, h⟩ := h
  refine x_sub [1, 0] rfl ?_
  refine tM_reach_L9 C (fun r h => ?_) n23 r2 1 h
  · exact x_vret C hA hlocks hr ⟨r, rfl, h⟩ dM_reach_121
set_option maxRecDepth 100000 in
set_option maxHeartbeats 4000000 in
theorem kM_reach {p : Program} {l : Launch} {e : Env} {R : Room} {s : State} {m : MethodId} {args : Array Value} {below : List Frame} {meth : Method} {c : Code} {cells slots : Nat} {Q : State → Prop} {A : Nat → Prop} {D : va_G} {nL pc : Nat} {cc : ByteArray} {cw : Cond} {own : String} {lv : List (Nat × Value)} {st : List Value} {G : G_} {a : L_} {r : S_} {K : S_ → Prop} {p0 : Int32} (C : vx_C p s m args c cc nL (cw :: wAll) own D vwCl (tysG G) nwAll A) {i : Nat} (hl : Cond.methodLink own i yM_reach ∈ wAll) (hR : 1 + 1 ≤ R.frames ∧ 8 + (4 + 11) + 22 ≤ R.locals) (hst : (st.map fun v => v.category).sum ≤ 8) (hd : decode cc pc = .ok (.invokevirtual i, 3)) (hcs : cells ≤ R.cells ∧ slots ≤ R.slots) (h : qM_reach a K r p0) (k : ∀ (r1 : S_), K r1 → vx_V p l e R s m args below meth c A D vwCl nL cells slots Q (wo G a r1) (pc + 3) lv st) : vx_V p l e R s m args below meth c A D vwCl nL cells slots Q (wo G a r) pc lv (.int p0 :: .ref (ob G 7) :: st) := by
  refine x_callVv C (CC := "ClassInferenceModel") (ci := 7) (q0 := 7) (fs := fl7 G a r) (As := [.int p0]) rfl rfl (cM_reach p0 h) (cwV (C := "ClassInferenceModel") 1 C.1.2.2.2.2 (goodV hl wm1037 wp45 wm9 wm1038) rfl rfl rfl (by decide +kernel) hR) rfl hst hd hcs (fun w hw => ?_)
  obtain ⟨r1, rfl, h⟩ := hw
  exact k r1 h
def qM_copyStatic_J107 (a : L_) (KB7 : S_ → Int32 → Int32 → Prop) (KX113 : S_ → Int32 → Prop) (r : S_) (v1 : Int32) (v2 : Int32) : Prop :=
  KB7 r v1 (v2 + 1)
set_option maxRecDepth 100000 in
set_option maxHeartbeats 4000000 in
theorem tM_copyStatic_J107 (C : vx_C p s m args c prog_9_method_30_code 5 (Cond.code yM_copyStatic prog_9_method_30_code 5 (some .int) :: wAll) "ClassInferenceModel" D vwCl (tysG G) nwAll A) {a : L_} {KB7 : S_ → Int32 → Int32 → Prop} {KX113 : S_ → Int32 → Prop} (kB7 : ∀ (r : S_) (v1 : Int32) (v2 : Int32), KB7 r v1 v2 → vx_V p l e { frames := 2, cells := 0, slots := 0, locals := 43 } s m args below meth c A D vwCl 5 0 0 Q (wo G a r) 7 [(0, .ref (ob G 7)), (1, .int v1), (2, .int v2)] []) (kX113 : ∀ (r : S_) (v1 : Int32), KX113 r v1 → vx_V p l e { frames := 2, cells := 0, slots := 0, locals := 43 } s m args below meth c A D vwCl 5 0 0 Q (wo G a r) 113 [(0, .ref (ob G 7)), (1, .int v1)] []) (r : S_) (v1 : Int32) (v2 : Int32) (h : qM_copyStatic_J107 a KB7 KX113 r v1 v2) : vx_V p l e { frames := 2, cells := 0, slots := 0, locals := 43 } s m args below meth c A D vwCl 5 0 0 Q (wo G a r) 107 [(0, .ref (ob G 7)), (1, .int v1), (2, .int v2)] [] := by
  unfold qM_copyStatic_J107 at h
  refine x_iinc (j := 2) (v := v2 + 1) C [(2, .int (v2 + 1)), (0, .ref (ob G 7)), (1, .int v1)] dM_copyStatic_107 rfl rfl (by decide) rfl ?_
  refine x_goto (tgt := 7) C dM_copyStatic_110 (by decide) ?_
  refine x_sub [1, 2, 0] rfl ?_
  exact kB7 r v1 (v2 + 1) h
def qM_copyStatic_J106 (a : L_) (KB7 : S_ → Int32 → Int32 → Prop) (KX113 : S_ → Int32 → Prop) (r : S_) (v1 : Int32) (v2 : Int32) (u0 : Int32) (u1 : Int32) : Prop :=
  vp_in u1 (ln a 74) ∧ ∀ r19 : S_, r19 = sA r 74 (upd (ar r 74) u1.toNatClampNeg u0) → qM_copyStatic_J107 a KB7 KX113 r19 v1 v2
set_option maxRecDepth 100000 in
set_option maxHeartbeats 4000000 in
theorem tM_copyStatic_J106 (C : vx_C p s m args c prog_9_method_30_code 5 (Cond.code yM_copyStatic prog_9_method_30_code 5 (some .int) :: wAll) "ClassInferenceModel" D vwCl (tysG G) nwAll A) {a : L_} {KB7 : S_ → Int32 → Int32 → Prop} {KX113 : S_ → Int32 → Prop} (kB7 : ∀ (r : S_) (v1 : Int32) (v2 : Int32), KB7 r v1 v2 → vx_V p l e { frames := 2, cells := 0, slots := 0, locals := 43 } s m args below meth c A D vwCl 5 0 0 Q (wo G a r) 7 [(0, .ref (ob G 7)), (1, .int v1), (2, .int v2)] []) (kX113 : ∀ (r : S_) (v1 : Int32), KX113 r v1 → vx_V p l e { frames := 2, cells := 0, slots := 0, locals := 43 } s m args below meth c A D vwCl 5 0 0 Q (wo G a r) 113 [(0, .ref (ob G 7)), (1, .int v1)] []) (r : S_) (v1 : Int32) (v2 : Int32) (u0 : Int32) (u1 : Int32) (h : qM_copyStatic_J106 a KB7 KX113 r v1 v2 u0 u1) : vx_V p l e { frames := 2, cells := 0, slots := 0, locals := 43 } s m args below meth c A D vwCl 5 0 0 Q (wo G a r) 106 [(0, .ref (ob G 7)), (1, .int v1), (2, .int v2)] [.int u0, .int u1, .ref (ad a 74)] := by
  unfold qM_copyStatic_J106 at h
  obtain ⟨g18, h⟩ := h
  refine y_is C 74 (by decide) g18 dM_copyStatic_106 (fun r19 er19 => ?_)
  have h := h r19 er19
  refine x_sub [0, 1, 2] rfl ?_
  exact tM_copyStatic_J107 C kB7 kX113 r19 v1 v2 h
def qM_copyStatic_J70 (a : L_) (KB7 : S_ → Int32 → Int32 → Prop) (KX113 : S_ → Int32 → Prop) (r : S_) (v1 : Int32) (v2 : Int32) (v3 : Int32) (u0 : Int32) : Prop :=
  vp_in v2 (ln a 37) ∧ ((0 ≤ (ar r 37 v2.toNatClampNeg)) → vp_in v2 (ln a 37) ∧ qM_newTerm a (fun z16 r17 => qM_copyStatic_J106 a KB7 KX113 r17 v1 v2 z16 v2) r (ar r 37 v2.toNatClampNeg) v3 u0) ∧ ((¬ 0 ≤ (ar r 37 v2.toNatClampNeg)) → qM_fresh a (fun z20 r21 => qM_copyStatic_J106 a KB7 KX113 r21 v1 v2 z20 v2) r)
set_option maxRecDepth 100000 in
set_option maxHeartbeats 4000000 in
theorem tM_copyStatic_J70 (C : vx_C p s m args c prog_9_method_30_code 5 (Cond.code yM_copyStatic prog_9_method_30_code 5 (some .int) :: wAll) "ClassInferenceModel" D vwCl (tysG G) nwAll A) {a : L_} {KB7 : S_ → Int32 → Int32 → Prop} {KX113 : S_ → Int32 → Prop} (kB7 : ∀ (r : S_) (v1 : Int32) (v2 : Int32), KB7 r v1 v2 → vx_V p l e { frames := 2, cells := 0, slots := 0, locals := 43 } s m args below meth c A D vwCl 5 0 0 Q (wo G a r) 7 [(0, .ref (ob G 7)), (1, .int v1), (2, .int v2)] []) (kX113 : ∀ (r : S_) (v1 : Int32), KX113 r v1 → vx_V p l e { frames := 2, cells := 0, slots := 0, locals := 43 } s m args below meth c A D vwCl 5 0 0 Q (wo G a r) 113 [(0, .ref (ob G 7)), (1, .int v1)] []) (r : S_) (v1 : Int32) (v2 : Int32) (v3 : Int32) (u0 : Int32) (h : qM_copyStatic_J70 a KB7 KX113 r v1 v2 v3 u0) : vx_V p l e { frames := 2, cells := 0, slots := 0, locals := 43 } s m args below meth c A D vwCl 5 0 0 Q (wo G a r) 70 [(0, .ref (ob G 7)), (1, .int v1), (2, .int v2), (3, .int v3)] [.int u0] := by
  unfold qM_copyStatic_J70 at h
  refine x_istore C [(4, .int u0), (0, .ref (ob G 7)), (1, .int v1), (2, .int v2), (3, .int v3)] dM_copyStatic_70 (by decide) rfl ?_
  refine x_aload_n C dM_copyStatic_72 rfl 1 rfl ?_
  refine gf_7_51 C (List.mem_cons_of_mem _ wm767) dM_copyStatic_73 ?_
  refine x_iload_n C dM_copyStatic_76 rfl 3 rfl ?_
  refine x_aload_n C dM_copyStatic_77 rfl 1 rfl ?_
  refine gf_7_4 C (List.mem_cons_of_mem _ wm720) dM_copyStatic_78 ?_
  refine x_iload_n C dM_copyStatic_81 rfl 3 rfl ?_
  obtain ⟨g13, h⟩ := h
  refine y_ia C 37 (by decide) g13 dM_copyStatic_82 ?_
  refine x_if_ge (tgt := 93) C dM_copyStatic_83 (by decide) (fun g14 => ?_) (fun g14 => ?_)
  · have h := h.1 g14
    refine x_aload_n C dM_copyStatic_93 rfl 1 rfl ?_
    refine x_aload_n C dM_copyStatic_94 rfl 1 rfl ?_
    refine gf_7_4 C (List.mem_cons_of_mem _ wm720) dM_copyStatic_95 ?_
    refine x_iload_n C dM_copyStatic_98 rfl 3 rfl ?_
    obtain ⟨g15, h⟩ := h
    refine y_ia C 37 (by decide) g15 dM_copyStatic_99 ?_
    refine x_iload_n C dM_copyStatic_100 rfl 4 rfl ?_
    refine x_iload C dM_copyStatic_101 0 rfl ?_
    refine kM_newTerm C wm1043 ⟨Nat.le_of_ble_eq_true rfl, Nat.le_of_ble_eq_true rfl⟩ (Nat.le_of_ble_eq_true rfl) dM_copyStatic_103 ⟨Nat.zero_le _, Nat.zero_le _⟩ h (fun z16 r17 h => ?_)
    refine x_sub [1, 2, 3] rfl ?_
    exact tM_copyStatic_J106 C kB7 kX113 r17 v1 v2 z16 v2 h
  · have h := h.2 g14
    refine x_aload_n C dM_copyStatic_86 rfl 1 rfl ?_
    refine kM_fresh C wm1062 ⟨Nat.le_of_ble_eq_true rfl, Nat.le_of_ble_eq_true rfl⟩ (Nat.le_of_ble_eq_true rfl) dM_copyStatic_87 ⟨Nat.zero_le _, Nat.zero_le _⟩ h (fun z20 r21 h => ?_)
    refine x_goto (tgt := 106) C dM_copyStatic_90 (by decide) ?_
    refine x_sub [1, 2, 3] rfl ?_
    exact tM_copyStatic_J106 C kB7 kX113 r21 v1 v2 z20 v2 h
def qM_copyStatic_J45 (a : L_) (KB7 : S_ → Int32 → Int32 → Prop) (KX113 : S_ → Int32 → Prop) (r : S_) (v1 : Int32) (v2 : Int32) (u0 : Int32) : Prop :=
  vp_in v2 (ln a 39) ∧ ((0 ≤ (ar r 39 v2.toNatClampNeg)) → vp_in v2 (ln a 39) ∧ vp_in (ar r 39 v2.toNatClampNeg) (ln a 74) ∧ qM_copyStatic_J70 a KB7 KX113 r v1 v2 u0 (ar r 74 (ar r 39 v2.toNatClampNeg).toNatClampNeg)) ∧ ((¬ 0 ≤ (ar r 39 v2.toNatClampNeg)) → qM_copyStatic_J70 a KB7 KX113 r v1 v2 u0 (-1))
set_option maxRecDepth 100000 in
set_option maxHeartbeats 4000000 in
theorem tM_copyStatic_J45 (C : vx_C p s m args c prog_9_method_30_code 5 (Cond.code yM_copyStatic prog_9_method_30_code 5 (some .int) :: wAll) "ClassInferenceModel" D vwCl (tysG G) nwAll A) {a : L_} {KB7 : S_ → Int32 → Int32 → Prop} {KX113 : S_ → Int32 → Prop} (kB7 : ∀ (r : S_) (v1 : Int32) (v2 : Int32), KB7 r v1 v2 → vx_V p l e { frames := 2, cells := 0, slots := 0, locals := 43 } s m args below meth c A D vwCl 5 0 0 Q (wo G a r) 7 [(0, .ref (ob G 7)), (1, .int v1), (2, .int v2)] []) (kX113 : ∀ (r : S_) (v1 : Int32), KX113 r v1 → vx_V p l e { frames := 2, cells := 0, slots := 0, locals := 43 } s m args below meth c A D vwCl 5 0 0 Q (wo G a r) 113 [(0, .ref (ob G 7)), (1, .int v1)] []) (r : S_) (v1 : Int32) (v2 : Int32) (u0 : Int32) (h : qM_copyStatic_J45 a KB7 KX113 r v1 v2 u0) : vx_V p l e { frames := 2, cells := 0, slots := 0, locals := 43 } s m args below meth c A D vwCl 5 0 0 Q (wo G a r) 45 [(0, .ref (ob G 7)), (1, .int v1), (2, .int v2)] [.int u0] := by
  unfold qM_copyStatic_J45 at h
  refine x_istore_n C [(3, .int u0), (0, .ref (ob G 7)), (1, .int v1), (2, .int v2)] dM_copyStatic_45 rfl (by decide) rfl ?_
  refine x_aload_n C dM_copyStatic_46 rfl 1 rfl ?_
  refine gf_7_6 C (List.mem_cons_of_mem _ wm722) dM_copyStatic_47 ?_
  refine x_iload_n C dM_copyStatic_50 rfl 3 rfl ?_
  obtain ⟨g9, h⟩ := h
  refine y_ia C 39 (by decide) g9 dM_copyStatic_51 ?_
  refine x_if_ge (tgt := 59) C dM_copyStatic_52 (by decide) (fun g10 => ?_) (fun g10 => ?_)
  · have h := h.1 g10
    refine x_aload_n C dM_copyStatic_59 rfl 1 rfl ?_
    refine gf_7_51 C (List.mem_cons_of_mem _ wm767) dM_copyStatic_60 ?_
    refine x_aload_n C dM_copyStatic_63 rfl 1 rfl ?_
    refine gf_7_6 C (List.mem_cons_of_mem _ wm722) dM_copyStatic_64 ?_
    refine x_iload_n C dM_copyStatic_67 rfl 3 rfl ?_
    obtain ⟨g11, h⟩ := h
    refine y_ia C 39 (by decide) g11 dM_copyStatic_68 ?_
    obtain ⟨g12, h⟩ := h
    refine y_ia C 74 (by decide) g12 dM_copyStatic_69 ?_
    refine x_sub [1, 2, 3, 0] rfl ?_
    exact tM_copyStatic_J70 C kB7 kX113 r v1 v2 u0 (ar r 74 (ar r 39 v2.toNatClampNeg).toNatClampNeg) h
  · have h := h.2 g10
    refine x_iconst (v := (-1)) C dM_copyStatic_55 (by decide) ?_
    refine x_goto (tgt := 70) C dM_copyStatic_56 (by decide) ?_
    refine x_sub [1, 2, 3, 0] rfl ?_
    exact tM_copyStatic_J70 C kB7 kX113 r v1 v2 u0 (-1) h
def qM_copyStatic_L7 (a : L_) (KX113 : S_ → Int32 → Prop) : Nat → S_ → Int32 → Int32 → Prop
  | 0, _, _, _ => False
  | n + 1, r, v1, v2 => ((v1 < v2) → KX113 r v1) ∧ ((¬ v1 < v2) → vp_in v2 (ln a 88) ∧ (((ar r 88 v2.toNatClampNeg) = 0) → qM_copyStatic_J107 a (qM_copyStatic_L7 a KX113 n) KX113 r v1 v2) ∧ ((¬ (ar r 88 v2.toNatClampNeg) = 0) → vp_in v2 (ln a 38) ∧ ((0 ≤ (ar r 38 v2.toNatClampNeg)) → vp_in v2 (ln a 38) ∧ vp_in (ar r 38 v2.toNatClampNeg) (ln a 74) ∧ qM_copyStatic_J45 a (qM_copyStatic_L7 a KX113 n) KX113 r v1 v2 (ar r 74 (ar r 38 v2.toNatClampNeg).toNatClampNeg)) ∧ ((¬ 0 ≤ (ar r 38 v2.toNatClampNeg)) → qM_copyStatic_J45 a (qM_copyStatic_L7 a KX113 n) KX113 r v1 v2 (-1))))
set_option maxRecDepth 100000 in
set_option maxHeartbeats 4000000 in
theorem tM_copyStatic_L7 (C : vx_C p s m args c prog_9_method_30_code 5 (Cond.code yM_copyStatic prog_9_method_30_code 5 (some .int) :: wAll) "ClassInferenceModel" D vwCl (tysG G) nwAll A) {a : L_} {KX113 : S_ → Int32 → Prop} (kX113 : ∀ (r : S_) (v1 : Int32), KX113 r v1 → vx_V p l e { frames := 2, cells := 0, slots := 0, locals := 43 } s m args below meth c A D vwCl 5 0 0 Q (wo G a r) 113 [(0, .ref (ob G 7)), (1, .int v1)] []) : ∀ (n : Nat) (r : S_) (v1 : Int32) (v2 : Int32), qM_copyStatic_L7 a KX113 n r v1 v2 → vx_V p l e { frames := 2, cells := 0, slots := 0, locals := 43 } s m args below meth c A D vwCl 5 0 0 Q (wo G a r) 7 [(0, .ref (ob G 7)), (1, .int v1), (2, .int v2)] [] := by
  intro n
  induction n with
  | zero =>
    intro r v1 v2 h
    exact (by rw [qM_copyStatic_L7] at h; exact h : False).elim
  | succ n kB7 =>
    intro r v1 v2 h
    rw [qM_copyStatic_L7] at h
    refine x_iload_n C dM_copyStatic_7 rfl 2 rfl ?_
    refine x_iload_n C dM_copyStatic_8 rfl 1 rfl ?_
    refine x_icmp_gt (tgt := 113) C dM_copyStatic_9 (by decide) (fun g2 => ?_) (fun g2 => ?_)
    · have h := h.1 g2
      refine x_sub [0, 1] rfl ?_
      exact kX113 r v1 h
    · have h := h.2 g2
      refine x_aload_n C dM_copyStatic_12 rfl 0 rfl ?_
      refine gf_7_52 C (List.mem_cons_of_mem _ wm768) dM_copyStatic_13 ?_
      refine x_iload_n C dM_copyStatic_16 rfl 2 rfl ?_
      obtain ⟨g3, h⟩ := h
      refine y_za C 88 (by decide) g3 dM_copyStatic_17 ?_
      refine x_if_eq (tgt := 107) C dM_copyStatic_18 (by decide) (fun g4 => ?_) (fun g4 => ?_)
      · have h := h.1 g4
        refine x_sub [0, 1, 2] rfl ?_
        exact tM_copyStatic_J107 C kB7 kX113 r v1 v2 h
      · have h := h.2 g4
        refine x_aload_n C dM_copyStatic_21 rfl 0 rfl ?_
        refine gf_7_5 C (List.mem_cons_of_mem _ wm721) dM_copyStatic_22 ?_
        refine x_iload_n C dM_copyStatic_25 rfl 2 rfl ?_
        obtain ⟨g5, h⟩ := h
        refine y_ia C 38 (by decide) g5 dM_copyStatic_26 ?_
        refine x_if_ge (tgt := 34) C dM_copyStatic_27 (by decide) (fun g6 => ?_) (fun g6 => ?_)
        · have h := h.1 g6
          refine x_aload_n C dM_copyStatic_34 rfl 0 rfl ?_
          refine gf_7_51 C (List.mem_cons_of_mem _ wm767) dM_copyStatic_35 ?_
          refine x_aload_n C dM_copyStatic_38 rfl 0 rfl ?_
          refine gf_7_5 C (List.mem_cons_of_mem _ wm721) dM_copyStatic_39 ?_
          refine x_iload_n C dM_copyStatic_42 rfl 2 rfl ?_
          obtain ⟨g7, h⟩ := h
          refine y_ia C 38 (by decide) g7 dM_copyStatic_43 ?_
          obtain ⟨g8, h⟩ := h
          refine y_ia C 74 (by decide) g8 dM_copyStatic_44 ?_
          refine x_sub [0, 1, 2] rfl ?_
          exact tM_copyStatic_J45 C kB7 kX113 r v1 v2 (ar r 74 (ar r 38 v2.toNatClampNeg).toNatClampNeg) h
        · have h := h.2 g6
          refine x_iconst (v := (-1)) C dM_copyStatic_30 (by decide) ?_
          refine x_goto (tgt := 45) C dM_copyStatic_31 (by decide) ?_
          refine x_sub [0, 1, 2] rfl ?_
          exact tM_copyStatic_J45 C kB7 kX113 r v1 v2 (-1) h
def qM_copyStatic (a : L_) (K : Int32 → S_ → Prop) (r : S_) (p0 : Int32) : Prop :=
  qM_markStatic a (fun r1 => ∃ n23 : Nat, qM_copyStatic_L7 a (fun r v1 => vp_in v1 (ln a 74) ∧ K (ar r 74 v1.toNatClampNeg) r) n23 r1 p0 0) r p0
set_option maxRecDepth 100000 in
set_option maxHeartbeats 4000000 in
theorem cM_copyStatic {a : L_} {r : S_} {K : Int32 → S_ → Prop} (p0 : Int32) (h : qM_copyStatic a K r p0) : vx_Mi l yM_copyStatic (Cond.code yM_copyStatic prog_9_method_30_code 5 (some .int) :: wAll) { frames := 2, cells := 0, slots := 0, locals := 43 } D vwCl (tysG G) nwAll (wo G a r) [.ref (ob G 7), .int p0] 0 0 (fun v w => ∃ r1, w = wo G a r1 ∧ K v r1) := by
  unfold qM_copyStatic at h
  refine x_meti (cc := prog_9_method_30_code) (maxL := 5) (ret := (some .int)) (lv0 := [(0, .ref (ob G 7)), (1, .int p0)]) (by decide) rfl (Nat.le_of_ble_eq_true rfl) rfl ?_
  intro p e s m args below meth c A C hA hlocks hr
  refine x_aload_n C dM_copyStatic_0 rfl 0 rfl ?_
  refine x_iload_n C dM_copyStatic_1 rfl 1 rfl ?_
  refine kM_markStatic C wm975 ⟨Nat.le_of_ble_eq_true rfl, Nat.le_of_ble_eq_true rfl⟩ (Nat.le_of_ble_eq_true rfl) dM_copyStatic_2 ⟨Nat.zero_le _, Nat.zero_le _⟩ h (fun r1 h => ?_)
  refine x_iconst (v := 0) C dM_copyStatic_5 (by decide) ?_
  refine x_istore_n C [(2, .int 0), (0, .ref (ob G 7)), (1, .int p0)] dM_copyStatic_6 rfl (by decide) rfl ?_
  obtain ⟨n23, h⟩ := h
  refine x_sub [1, 2, 0] rfl ?_
  refine tM_copyStatic_L7 C (fun r v1 h => ?_) n23 r1 p0 0 h
  · refine x_aload_n C dM_copyStatic_113 rfl 0 rfl ?_
    refine gf_7_51 C (List.mem_cons_of_mem _ wm767) dM_copyStatic_114 ?_
    refine x_iload_n C dM_copyStatic_117 rfl 1 rfl ?_
    obtain ⟨g22, h⟩ := h
    refine y_ia C 74 (by decide) g22 dM_copyStatic_118 ?_
    exact x_iret C hA hlocks hr ⟨r, rfl, h⟩ dM_copyStatic_119
set_option maxRecDepth 100000 in
set_option maxHeartbeats 4000000 in
theorem kM_copyStatic {p : Program} {l : Launch} {e : Env} {R : Room} {s : State} {m : MethodId} {args : Array Value} {below : List Frame} {meth : Method} {c : Code} {cells slots : Nat} {Q : State → Prop} {A : Nat → Prop} {D : va_G} {nL pc : Nat} {cc : ByteArray} {cw : Cond} {own : String} {lv : List (Nat × Value)} {st : List Value} {G : G_} {a : L_} {r : S_} {K : Int32 → S_ → Prop} {p0 : Int32} (C : vx_C p s m args c cc nL (cw :: wAll) own D vwCl (tysG G) nwAll A) {i : Nat} (hl : Cond.methodLink own i yM_copyStatic ∈ wAll) (hR : 2 + 1 ≤ R.frames ∧ 8 + (5 + 11) + 43 ≤ R.locals) (hst : (st.map fun v => v.category).sum ≤ 8) (hd : decode cc pc = .ok (.invokevirtual i, 3)) (hcs : cells ≤ R.cells ∧ slots ≤ R.slots) (h : qM_copyStatic a K r p0) (k : ∀ (v : Int32) (r1 : S_), K v r1 → vx_V p l e R s m args below meth c A D vwCl nL cells slots Q (wo G a r1) (pc + 3) lv (.int v :: st)) : vx_V p l e R s m args below meth c A D vwCl nL cells slots Q (wo G a r) pc lv (.int p0 :: .ref (ob G 7) :: st) := by
  refine x_callVi C (CC := "ClassInferenceModel") (ci := 7) (q0 := 7) (fs := fl7 G a r) (As := [.int p0]) rfl rfl (cM_copyStatic p0 h) (cwV (C := "ClassInferenceModel") 1 C.1.2.2.2.2 (goodV hl wm1060 wp50 wm9 wm1061) rfl rfl rfl (by decide +kernel) hR) rfl hst hd hcs (fun v w hw => ?_)
  obtain ⟨r1, rfl, h⟩ := hw
  exact k v r1 h
end MTH
