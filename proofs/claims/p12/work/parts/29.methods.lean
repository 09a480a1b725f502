section MTH
variable {p : Program} {l : Launch} {e : Env} {s : State} {m : MethodId} {args : Array Value} {below : List Frame} {meth : Method} {c : Code} {Q : State → Prop} {A : Nat → Prop} {D : va_G} {G : G_} {ws0 : va_W}
def qM_copyOf_J50 (a : L_) (KB27 : S_ → Int32 → Int32 → Int32 → Prop) (KX60 : S_ → Int32 → Int32 → Prop) (r : S_) (v1 : Int32) (v2 : Int32) (v3 : Int32) : Prop :=
  vp_in v3 (ln a 51) ∧ KB27 r v1 v2 (ar r 51 v3.toNatClampNeg)
set_option maxRecDepth 100000 in
set_option maxHeartbeats 4000000 in
theorem tM_copyOf_J50 (C : vx_C p s m args c prog_9_method_37_code 7 (Cond.code yM_copyOf prog_9_method_37_code 7 (some .int) :: wAll) "ClassInferenceModel" D vwCl (tysG G) nwAll A) {a : L_} {KB27 : S_ → Int32 → Int32 → Int32 → Prop} {KX60 : S_ → Int32 → Int32 → Prop} (kB27 : ∀ (r : S_) (v1 : Int32) (v2 : Int32) (v3 : Int32), KB27 r v1 v2 v3 → vx_V p l e { frames := 2, cells := 0, slots := 0, locals := 45 } s m args below meth c A D vwCl 7 0 0 Q (wo G a r) 27 [(0, .ref (ob G 7)), (1, .int v1), (2, .int v2), (3, .int v3)] []) (kX60 : ∀ (r : S_) (v1 : Int32) (v2 : Int32), KX60 r v1 v2 → vx_V p l e { frames := 2, cells := 0, slots := 0, locals := 45 } s m args below meth c A D vwCl 7 0 0 Q (wo G a r) 60 [(0, .ref (ob G 7)), (1, .int v1), (2, .int v2)] []) (r : S_) (v1 : Int32) (v2 : Int32) (v3 : Int32) (h : qM_copyOf_J50 a KB27 KX60 r v1 v2 v3) : vx_V p l e { frames := 2, cells := 0, slots := 0, locals := 45 } s m args below meth c A D vwCl 7 0 0 Q (wo G a r) 50 [(0, .ref (ob G 7)), (1, .int v1), (2, .int v2), (3, .int v3)] [] := by
  unfold qM_copyOf_J50 at h
  refine x_aload_n C dM_copyOf_50 rfl 0 rfl ?_
  refine gf_7_23 C (List.mem_cons_of_mem _ wm739) dM_copyOf_51 ?_
  refine x_iload_n C dM_copyOf_54 rfl 3 rfl ?_
  obtain ⟨g7, h⟩ := h
  refine y_ia C 51 (by decide) g7 dM_copyOf_55 ?_
  refine x_istore_n C [(3, .int (ar r 51 v3.toNatClampNeg)), (0, .ref (ob G 7)), (1, .int v1), (2, .int v2)] dM_copyOf_56 rfl (by decide) rfl ?_
  refine x_goto (tgt := 27) C dM_copyOf_57 (by decide) ?_
  refine x_sub [1, 2, 3, 0] rfl ?_
  exact kB27 r v1 v2 (ar r 51 v3.toNatClampNeg) h
def qM_copyOf_L27 (a : L_) (KX60 : S_ → Int32 → Int32 → Prop) : Nat → S_ → Int32 → Int32 → Int32 → Prop
  | 0, _, _, _, _ => False
  | n + 1, r, v1, v2, v3 => ((v3 < 0) → KX60 r v1 v2) ∧ ((¬ v3 < 0) → qM_kindOf a r (fun z5 => ((¬ z5 = 1) → qM_copyOf_J50 a (qM_copyOf_L27 a KX60 n) KX60 r v1 v2 v3) ∧ ((z5 = 1) → vp_in v3 (ln a 56) ∧ qM_reach a (fun r9 => qM_copyOf_J50 a (qM_copyOf_L27 a KX60 n) KX60 r9 v1 v2 v3) r (ar r 56 v3.toNatClampNeg))) v3)
set_option maxRecDepth 100000 in
set_option maxHeartbeats 4000000 in
theorem tM_copyOf_L27 (C : vx_C p s m args c prog_9_method_37_code 7 (Cond.code yM_copyOf prog_9_method_37_code 7 (some .int) :: wAll) "ClassInferenceModel" D vwCl (tysG G) nwAll A) {a : L_} {KX60 : S_ → Int32 → Int32 → Prop} (kX60 : ∀ (r : S_) (v1 : Int32) (v2 : Int32), KX60 r v1 v2 → vx_V p l e { frames := 2, cells := 0, slots := 0, locals := 45 } s m args below meth c A D vwCl 7 0 0 Q (wo G a r) 60 [(0, .ref (ob G 7)), (1, .int v1), (2, .int v2)] []) : ∀ (n : Nat) (r : S_) (v1 : Int32) (v2 : Int32) (v3 : Int32), qM_copyOf_L27 a KX60 n r v1 v2 v3 → vx_V p l e { frames := 2, cells := 0, slots := 0, locals := 45 } s m args below meth c A D vwCl 7 0 0 Q (wo G a r) 27 [(0, .ref (ob G 7)), (1, .int v1), (2, .int v2), (3, .int v3)] [] := by
  intro n
  induction n with
  | zero =>
    intro r v1 v2 v3 h
    exact (by rw [qM_copyOf_L27] at h; exact h : False).elim
  | succ n kB27 =>
    intro r v1 v2 v3 h
    rw [qM_copyOf_L27] at h
    refine x_iload_n C dM_copyOf_27 rfl 3 rfl ?_
    refine x_if_lt (tgt := 60) C dM_copyOf_28 (by decide) (fun g4 => ?_) (fun g4 => ?_)
    · have h := h.1 g4
      refine x_sub [0, 1, 2] rfl ?_
      exact kX60 r v1 v2 h
    · have h := h.2 g4
      refine x_aload_n C dM_copyOf_31 rfl 0 rfl ?_
      refine x_iload_n C dM_copyOf_32 rfl 3 rfl ?_
      refine kM_kindOf C wm1019 ⟨Nat.le_of_ble_eq_true rfl, Nat.le_of_ble_eq_true rfl⟩ (Nat.le_of_ble_eq_true rfl) dM_copyOf_33 ⟨Nat.zero_le _, Nat.zero_le _⟩ h (fun z5 h => ?_)
      refine x_iconst (v := 1) C dM_copyOf_36 (by decide) ?_
      refine x_icmp_ne (tgt := 50) C dM_copyOf_37 (by decide) (fun g6 => ?_) (fun g6 => ?_)
      · have h := h.1 g6
        refine x_sub [0, 1, 2, 3] rfl ?_
        exact tM_copyOf_J50 C kB27 kX60 r v1 v2 v3 h
      · have h := h.2 g6
        refine x_aload_n C dM_copyOf_40 rfl 0 rfl ?_
        refine x_aload_n C dM_copyOf_41 rfl 0 rfl ?_
        refine gf_7_28 C (List.mem_cons_of_mem _ wm744) dM_copyOf_42 ?_
        refine x_iload_n C dM_copyOf_45 rfl 3 rfl ?_
        obtain ⟨g8, h⟩ := h
        refine y_ia C 56 (by decide) g8 dM_copyOf_46 ?_
        refine kM_reach C wm1035 ⟨Nat.le_of_ble_eq_true rfl, Nat.le_of_ble_eq_true rfl⟩ (Nat.le_of_ble_eq_true rfl) dM_copyOf_47 ⟨Nat.zero_le _, Nat.zero_le _⟩ h (fun r9 h => ?_)
        refine x_sub [0, 1, 2, 3] rfl ?_
        exact tM_copyOf_J50 C kB27 kX60 r9 v1 v2 v3 h
def qM_copyOf_J253 (a : L_) (KB101 : S_ → Int32 → Int32 → Int32 → Int32 → Prop) (KX256 : S_ → Int32 → Int32 → Prop) (r : S_) (v1 : Int32) (v2 : Int32) (v3 : Int32) (v4 : Int32) : Prop :=
  KB101 r v1 v2 v3 v4
set_option maxRecDepth 100000 in
set_option maxHeartbeats 4000000 in
theorem tM_copyOf_J253 (C : vx_C p s m args c prog_9_method_37_code 7 (Cond.code yM_copyOf prog_9_method_37_code 7 (some .int) :: wAll) "ClassInferenceModel" D vwCl (tysG G) nwAll A) {a : L_} {KB101 : S_ → Int32 → Int32 → Int32 → Int32 → Prop} {KX256 : S_ → Int32 → Int32 → Prop} (kB101 : ∀ (r : S_) (v1 : Int32) (v2 : Int32) (v3 : Int32) (v4 : Int32), KB101 r v1 v2 v3 v4 → vx_V p l e { frames := 2, cells := 0, slots := 0, locals := 45 } s m args below meth c A D vwCl 7 0 0 Q (wo G a r) 101 [(0, .ref (ob G 7)), (1, .int v1), (2, .int v2), (3, .int v3), (4, .int v4)] []) (kX256 : ∀ (r : S_) (v1 : Int32) (v3 : Int32), KX256 r v1 v3 → vx_V p l e { frames := 2, cells := 0, slots := 0, locals := 45 } s m args below meth c A D vwCl 7 0 0 Q (wo G a r) 256 [(0, .ref (ob G 7)), (1, .int v1), (3, .int v3)] []) (r : S_) (v1 : Int32) (v2 : Int32) (v3 : Int32) (v4 : Int32) (h : qM_copyOf_J253 a KB101 KX256 r v1 v2 v3 v4) : vx_V p l e { frames := 2, cells := 0, slots := 0, locals := 45 } s m args below meth c A D vwCl 7 0 0 Q (wo G a r) 253 [(0, .ref (ob G 7)), (1, .int v1), (2, .int v2), (3, .int v3), (4, .int v4)] [] := by
  unfold qM_copyOf_J253 at h
  refine x_goto (tgt := 101) C dM_copyOf_253 (by decide) ?_
  refine x_sub [0, 1, 2, 3, 4] rfl ?_
  exact kB101 r v1 v2 v3 v4 h
def qM_copyOf_J226 (a : L_) (KB101 : S_ → Int32 → Int32 → Int32 → Int32 → Prop) (KX256 : S_ → Int32 → Int32 → Prop) (r : S_) (v1 : Int32) (v2 : Int32) (v3 : Int32) (v4 : Int32) (v5 : Int32) : Prop :=
  vp_in v5 (ln a 67) ∧ (((ar r 67 v5.toNatClampNeg) < 0) → qM_copyOf_J253 a KB101 KX256 r v1 v2 v3 v4) ∧ ((¬ (ar r 67 v5.toNatClampNeg) < 0) → vp_in v5 (ln a 67) ∧ vp_in v4 (ln a 72) ∧ ∀ r40 : S_, r40 = sA r 72 (upd (ar r 72) v4.toNatClampNeg (ar r 67 v5.toNatClampNeg)) → qM_copyOf_J253 a KB101 KX256 r40 v1 v2 v3 (v4 + 1))
set_option maxRecDepth 100000 in
set_option maxHeartbeats 4000000 in
theorem tM_copyOf_J226 (C : vx_C p s m args c prog_9_method_37_code 7 (Cond.code yM_copyOf prog_9_method_37_code 7 (some .int) :: wAll) "ClassInferenceModel" D vwCl (tysG G) nwAll A) {a : L_} {KB101 : S_ → Int32 → Int32 → Int32 → Int32 → Prop} {KX256 : S_ → Int32 → Int32 → Prop} (kB101 : ∀ (r : S_) (v1 : Int32) (v2 : Int32) (v3 : Int32) (v4 : Int32), KB101 r v1 v2 v3 v4 → vx_V p l e { frames := 2, cells := 0, slots := 0, locals := 45 } s m args below meth c A D vwCl 7 0 0 Q (wo G a r) 101 [(0, .ref (ob G 7)), (1, .int v1), (2, .int v2), (3, .int v3), (4, .int v4)] []) (kX256 : ∀ (r : S_) (v1 : Int32) (v3 : Int32), KX256 r v1 v3 → vx_V p l e { frames := 2, cells := 0, slots := 0, locals := 45 } s m args below meth c A D vwCl 7 0 0 Q (wo G a r) 256 [(0, .ref (ob G 7)), (1, .int v1), (3, .int v3)] []) (r : S_) (v1 : Int32) (v2 : Int32) (v3 : Int32) (v4 : Int32) (v5 : Int32) (h : qM_copyOf_J226 a KB101 KX256 r v1 v2 v3 v4 v5) : vx_V p l e { frames := 2, cells := 0, slots := 0, locals := 45 } s m args below meth c A D vwCl 7 0 0 Q (wo G a r) 226 [(0, .ref (ob G 7)), (1, .int v1), (2, .int v2), (3, .int v3), (4, .int v4), (5, .int v5)] [] := by
  unfold qM_copyOf_J226 at h
  refine x_aload_n C dM_copyOf_226 rfl 0 rfl ?_
  refine gf_7_41 C (List.mem_cons_of_mem _ wm757) dM_copyOf_227 ?_
  refine x_iload C dM_copyOf_230 5 rfl ?_
  obtain ⟨g36, h⟩ := h
  refine y_ia C 67 (by decide) g36 dM_copyOf_232 ?_
  refine x_if_lt (tgt := 253) C dM_copyOf_233 (by decide) (fun g37 => ?_) (fun g37 => ?_)
  · have h := h.1 g37
    refine x_sub [0, 1, 2, 3, 4] rfl ?_
    exact tM_copyOf_J253 C kB101 kX256 r v1 v2 v3 v4 h
  · have h := h.2 g37
    refine x_aload_n C dM_copyOf_236 rfl 0 rfl ?_
    refine gf_7_48 C (List.mem_cons_of_mem _ wm764) dM_copyOf_237 ?_
    refine x_iload C dM_copyOf_240 4 rfl ?_
    refine x_aload_n C dM_copyOf_242 rfl 0 rfl ?_
    refine gf_7_41 C (List.mem_cons_of_mem _ wm757) dM_copyOf_243 ?_
    refine x_iload C dM_copyOf_246 5 rfl ?_
    obtain ⟨g38, h⟩ := h
    refine y_ia C 67 (by decide) g38 dM_copyOf_248 ?_
    obtain ⟨g39, h⟩ := h
    refine y_is C 72 (by decide) g39 dM_copyOf_249 (fun r40 er40 => ?_)
    have h := h r40 er40
    refine x_iinc (j := 4) (v := v4 + 1) C [(4, .int (v4 + 1)), (0, .ref (ob G 7)), (1, .int v1), (2, .int v2), (3, .int v3), (5, .int v5)] dM_copyOf_250 rfl rfl (by decide) rfl ?_
    refine x_sub [1, 2, 3, 4, 0] rfl ?_
    exact tM_copyOf_J253 C kB101 kX256 r40 v1 v2 v3 (v4 + 1) h
def qM_copyOf_L101 (a : L_) (KX256 : S_ → Int32 → Int32 → Prop) : Nat → S_ → Int32 → Int32 → Int32 → Int32 → Prop
  | 0, _, _, _, _, _ => False
  | n + 1, r, v1, v2, v3, v4 => ((v4 ≤ 0) → KX256 r v1 v3) ∧ ((¬ v4 ≤ 0) → vp_in (v4 + (-1)) (ln a 72) ∧ qM_find a r (fun z19 => vp_in z19 (ln a 68) ∧ (((ar r 68 z19.toNatClampNeg) = (fi r 29)) → qM_copyOf_J253 a (qM_copyOf_L101 a KX256 n) KX256 r v1 v2 v3 (v4 + (-1))) ∧ ((¬ (ar r 68 z19.toNatClampNeg) = (fi r 29)) → vp_in z19 (ln a 68) ∧ (((ar r 68 z19.toNatClampNeg) = v2) → qM_copyOf_J253 a (qM_copyOf_L101 a KX256 n) KX256 r v1 v2 v3 (v4 + (-1))) ∧ ((¬ (ar r 68 z19.toNatClampNeg) = v2) → vp_in z19 (ln a 68) ∧ ∀ r25 : S_, r25 = sA r 68 (upd (ar r 68) z19.toNatClampNeg (fi r 29)) → vp_in (fi r25 30) (ln a 73) ∧ ∀ r27 : S_, r27 = sA r25 73 (upd (ar r25 73) (fi r25 30).toNatClampNeg z19) → ∀ r28 : S_, r28 = sF r27 30 ((fi r27 30) + 1) → vp_in z19 (ln a 65) ∧ qM_newTerm a (fun z30 r31 => vp_in z19 (ln a 69) ∧ ∀ r33 : S_, r33 = sA r31 69 (upd (ar r31 69) z19.toNatClampNeg z30) → vp_in z19 (ln a 66) ∧ (((ar r33 66 z19.toNatClampNeg) < 0) → qM_copyOf_J226 a (qM_copyOf_L101 a KX256 n) KX256 r33 v1 v2 v3 (v4 + (-1)) z19) ∧ ((¬ (ar r33 66 z19.toNatClampNeg) < 0) → vp_in z19 (ln a 66) ∧ vp_in (v4 + (-1)) (ln a 72) ∧ ∀ r43 : S_, r43 = sA r33 72 (upd (ar r33 72) (v4 + (-1)).toNatClampNeg (ar r33 66 z19.toNatClampNeg)) → qM_copyOf_J226 a (qM_copyOf_L101 a KX256 n) KX256 r43 v1 v2 v3 ((v4 + (-1)) + 1) z19)) r28 (ar r28 65 z19.toNatClampNeg) (-1) (-1)))) (ar r 72 (v4 + (-1)).toNatClampNeg))
set_option maxRecDepth 100000 in
set_option maxHeartbeats 4000000 in
theorem tM_copyOf_L101 (C : vx_C p s m args c prog_9_method_37_code 7 (Cond.code yM_copyOf prog_9_method_37_code 7 (some .int) :: wAll) "ClassInferenceModel" D vwCl (tysG G) nwAll A) {a : L_} {KX256 : S_ → Int32 → Int32 → Prop} (kX256 : ∀ (r : S_) (v1 : Int32) (v3 : Int32), KX256 r v1 v3 → vx_V p l e { frames := 2, cells := 0, slots := 0, locals := 45 } s m args below meth c A D vwCl 7 0 0 Q (wo G a r) 256 [(0, .ref (ob G 7)), (1, .int v1), (3, .int v3)] []) : ∀ (n : Nat) (r : S_) (v1 : Int32) (v2 : Int32) (v3 : Int32) (v4 : Int32), qM_copyOf_L101 a KX256 n r v1 v2 v3 v4 → vx_V p l e { frames := 2, cells := 0, slots := 0, locals := 45 } s m args below meth c A D vwCl 7 0 0 Q (wo G a r) 101 [(0, .ref (ob G 7)), (1, .int v1), (2, .int v2), (3, .int v3), (4, .int v4)] [] := by
  intro n
  induction n with
  | zero =>
    intro r v1 v2 v3 v4 h
    exact (by rw [qM_copyOf_L101] at h; exact h : False).elim
  | succ n kB101 =>
    intro r v1 v2 v3 v4 h
    rw [qM_copyOf_L101] at h
    refine x_iload C dM_copyOf_101 4 rfl ?_
    refine x_if_le (tgt := 256) C dM_copyOf_103 (by decide) (fun g17 => ?_) (fun g17 => ?_)
    · have h := h.1 g17
      refine x_sub [0, 1, 3] rfl ?_
      exact kX256 r v1 v3 h
    · have h := h.2 g17
      refine x_iinc (j := 4) (v := v4 + (-1)) C [(4, .int (v4 + (-1))), (0, .ref (ob G 7)), (1, .int v1), (2, .int v2), (3, .int v3)] dM_copyOf_106 rfl rfl (by decide) rfl ?_
      refine x_aload_n C dM_copyOf_109 rfl 1 rfl ?_
      refine x_aload_n C dM_copyOf_110 rfl 1 rfl ?_
      refine gf_7_48 C (List.mem_cons_of_mem _ wm764) dM_copyOf_111 ?_
      refine x_iload C dM_copyOf_114 0 rfl ?_
      obtain ⟨g18, h⟩ := h
      refine y_ia C 72 (by decide) g18 dM_copyOf_116 ?_
      refine kM_find C wm1039 ⟨Nat.le_of_ble_eq_true rfl, Nat.le_of_ble_eq_true rfl⟩ (Nat.le_of_ble_eq_true rfl) dM_copyOf_117 ⟨Nat.zero_le _, Nat.zero_le _⟩ h (fun z19 h => ?_)
      refine x_istore C [(5, .int z19), (4, .int (v4 + (-1))), (0, .ref (ob G 7)), (1, .int v1), (2, .int v2), (3, .int v3)] dM_copyOf_120 (by decide) rfl ?_
      refine x_aload_n C dM_copyOf_122 rfl 2 rfl ?_
      refine gf_7_42 C (List.mem_cons_of_mem _ wm758) dM_copyOf_123 ?_
      refine x_iload C dM_copyOf_126 0 rfl ?_
      obtain ⟨g20, h⟩ := h
      refine y_ia C 68 (by decide) g20 dM_copyOf_128 ?_
      refine x_aload_n C dM_copyOf_129 rfl 2 rfl ?_
      refine gf_7_43 C (List.mem_cons_of_mem _ wm759) dM_copyOf_130 ?_
      refine x_icmp_eq (tgt := 253) C dM_copyOf_133 (by decide) (fun g21 => ?_) (fun g21 => ?_)
      · have h := h.1 g21
        refine x_sub [2, 3, 4, 5, 1] rfl ?_
        exact tM_copyOf_J253 C kB101 kX256 r v1 v2 v3 (v4 + (-1)) h
      · have h := h.2 g21
        refine x_aload_n C dM_copyOf_136 rfl 2 rfl ?_
        refine gf_7_42 C (List.mem_cons_of_mem _ wm758) dM_copyOf_137 ?_
        refine x_iload C dM_copyOf_140 0 rfl ?_
        obtain ⟨g22, h⟩ := h
        refine y_ia C 68 (by decide) g22 dM_copyOf_142 ?_
        refine x_iload_n C dM_copyOf_143 rfl 4 rfl ?_
        refine x_icmp_eq (tgt := 253) C dM_copyOf_144 (by decide) (fun g23 => ?_) (fun g23 => ?_)
        · have h := h.1 g23
          refine x_sub [2, 3, 4, 5, 1] rfl ?_
          exact tM_copyOf_J253 C kB101 kX256 r v1 v2 v3 (v4 + (-1)) h
        · have h := h.2 g23
          refine x_aload_n C dM_copyOf_147 rfl 2 rfl ?_
          refine gf_7_42 C (List.mem_cons_of_mem _ wm758) dM_copyOf_148 ?_
          refine x_iload C dM_copyOf_151 0 rfl ?_
          refine x_aload_n C dM_copyOf_153 rfl 2 rfl ?_
          refine gf_7_43 C (List.mem_cons_of_mem _ wm759) dM_copyOf_154 ?_
          obtain ⟨g24, h⟩ := h
          refine y_is C 68 (by decide) g24 dM_copyOf_157 (fun r25 er25 => ?_)
          have h := h r25 er25
          refine x_aload_n C dM_copyOf_158 rfl 2 rfl ?_
          refine gf_7_49 C (List.mem_cons_of_mem _ wm765) dM_copyOf_159 ?_
          refine x_aload_n C dM_copyOf_162 rfl 2 rfl ?_
          refine gf_7_50 C (List.mem_cons_of_mem _ wm766) dM_copyOf_163 ?_
          refine x_iload C dM_copyOf_166 0 rfl ?_
          obtain ⟨g26, h⟩ := h
          refine y_is C 73 (by decide) g26 dM_copyOf_168 (fun r27 er27 => ?_)
          have h := h r27 er27
          refine x_aload_n C dM_copyOf_169 rfl 2 rfl ?_
          refine x_dup C dM_copyOf_170 rfl ?_
          refine gf_7_50 C (List.mem_cons_of_mem _ wm766) dM_copyOf_171 ?_
          refine x_iconst (v := 1) C dM_copyOf_174 (by decide) ?_
          refine x_iadd C dM_copyOf_175 ?_
          refine pf_7_50 C (List.mem_cons_of_mem _ wm766) dM_copyOf_176 (fun r28 er28 => ?_)
          have h := h r28 er28
          refine x_aload_n C dM_copyOf_179 rfl 2 rfl ?_
          refine gf_7_44 C (List.mem_cons_of_mem _ wm760) dM_copyOf_180 ?_
          refine x_iload C dM_copyOf_183 0 rfl ?_
          refine x_aload_n C dM_copyOf_185 rfl 2 rfl ?_
          refine x_aload_n C dM_copyOf_186 rfl 2 rfl ?_
          refine gf_7_39 C (List.mem_cons_of_mem _ wm755) dM_copyOf_187 ?_
          refine x_iload C dM_copyOf_190 0 rfl ?_
          obtain ⟨g29, h⟩ := h
          refine y_ia C 65 (by decide) g29 dM_copyOf_192 ?_
          refine x_iconst (v := (-1)) C dM_copyOf_193 (by decide) ?_
          refine x_iconst (v := (-1)) C dM_copyOf_194 (by decide) ?_
          refine kM_newTerm C wm1043 ⟨Nat.le_of_ble_eq_true rfl, Nat.le_of_ble_eq_true rfl⟩ (Nat.le_of_ble_eq_true rfl) dM_copyOf_195 ⟨Nat.zero_le _, Nat.zero_le _⟩ h (fun z30 r31 h => ?_)
          obtain ⟨g32, h⟩ := h
          refine y_is C 69 (by decide) g32 dM_copyOf_198 (fun r33 er33 => ?_)
          have h := h r33 er33
          refine x_aload_n C dM_copyOf_199 rfl 2 rfl ?_
          refine gf_7_40 C (List.mem_cons_of_mem _ wm756) dM_copyOf_200 ?_
          refine x_iload C dM_copyOf_203 0 rfl ?_
          obtain ⟨g34, h⟩ := h
          refine y_ia C 66 (by decide) g34 dM_copyOf_205 ?_
          refine x_if_lt (tgt := 226) C dM_copyOf_206 (by decide) (fun g35 => ?_) (fun g35 => ?_)
          · have h := h.1 g35
            refine x_sub [2, 3, 4, 5, 1, 0] rfl ?_
            exact tM_copyOf_J226 C kB101 kX256 r33 v1 v2 v3 (v4 + (-1)) z19 h
          · have h := h.2 g35
            refine x_aload_n C dM_copyOf_209 rfl 2 rfl ?_
            refine gf_7_48 C (List.mem_cons_of_mem _ wm764) dM_copyOf_210 ?_
            refine x_iload C dM_copyOf_213 1 rfl ?_
            refine x_aload_n C dM_copyOf_215 rfl 2 rfl ?_
            refine gf_7_40 C (List.mem_cons_of_mem _ wm756) dM_copyOf_216 ?_
            refine x_iload C dM_copyOf_219 0 rfl ?_
            obtain ⟨g41, h⟩ := h
            refine y_ia C 66 (by decide) g41 dM_copyOf_221 ?_
            obtain ⟨g42, h⟩ := h
            refine y_is C 72 (by decide) g42 dM_copyOf_222 (fun r43 er43 => ?_)
            have h := h r43 er43
            refine x_iinc (j := 1) (v := (v4 + (-1)) + 1) C [(4, .int ((v4 + (-1)) + 1)), (5, .int z19), (0, .ref (ob G 7)), (1, .int v1), (2, .int v2), (3, .int v3)] dM_copyOf_223 rfl rfl (by decide) rfl ?_
            refine x_sub [2, 3, 4, 5, 0, 1] rfl ?_
            exact tM_copyOf_J226 C kB101 kX256 r43 v1 v2 v3 ((v4 + (-1)) + 1) z19 h
def qM_copyOf_L259 (a : L_) (KX329 : S_ → Int32 → Int32 → Prop) : Nat → S_ → Int32 → Int32 → Int32 → Prop
  | 0, _, _, _, _ => False
  | n + 1, r, v1, v3, v5 => (((fi r 30) ≤ v5) → KX329 r v1 v3) ∧ ((¬ (fi r 30) ≤ v5) → vp_in v5 (ln a 73) ∧ vp_in (ar r 73 v5.toNatClampNeg) (ln a 69) ∧ vp_in (ar r 73 v5.toNatClampNeg) (ln a 66) ∧ qM_copied a r (fun z48 => vp_in (ar r 69 (ar r 73 v5.toNatClampNeg).toNatClampNeg) (ln a 66) ∧ ∀ r50 : S_, r50 = sA r 66 (upd (ar r 66) (ar r 69 (ar r 73 v5.toNatClampNeg).toNatClampNeg).toNatClampNeg z48) → vp_in (ar r 73 v5.toNatClampNeg) (ln a 69) ∧ vp_in (ar r 73 v5.toNatClampNeg) (ln a 67) ∧ qM_copied a r50 (fun z53 => vp_in (ar r50 69 (ar r 73 v5.toNatClampNeg).toNatClampNeg) (ln a 67) ∧ ∀ r55 : S_, r55 = sA r50 67 (upd (ar r50 67) (ar r50 69 (ar r 73 v5.toNatClampNeg).toNatClampNeg).toNatClampNeg z53) → (qM_copyOf_L259 a KX329 n) r55 v1 v3 (v5 + 1)) (ar r50 67 (ar r 73 v5.toNatClampNeg).toNatClampNeg)) (ar r 66 (ar r 73 v5.toNatClampNeg).toNatClampNeg))
set_option maxRecDepth 100000 in
set_option maxHeartbeats 4000000 in
theorem tM_copyOf_L259 (C : vx_C p s m args c prog_9_method_37_code 7 (Cond.code yM_copyOf prog_9_method_37_code 7 (some .int) :: wAll) "ClassInferenceModel" D vwCl (tysG G) nwAll A) {a : L_} {KX329 : S_ → Int32 → Int32 → Prop} (kX329 : ∀ (r : S_) (v1 : Int32) (v3 : Int32), KX329 r v1 v3 → vx_V p l e { frames := 2, cells := 0, slots := 0, locals := 45 } s m args below meth c A D vwCl 7 0 0 Q (wo G a r) 329 [(0, .ref (ob G 7)), (1, .int v1), (3, .int v3)] []) : ∀ (n : Nat) (r : S_) (v1 : Int32) (v3 : Int32) (v5 : Int32), qM_copyOf_L259 a KX329 n r v1 v3 v5 → vx_V p l e { frames := 2, cells := 0, slots := 0, locals := 45 } s m args below meth c A D vwCl 7 0 0 Q (wo G a r) 259 [(0, .ref (ob G 7)), (1, .int v1), (3, .int v3), (5, .int v5)] [] := by
  intro n
  induction n with
  | zero =>
    intro r v1 v3 v5 h
    exact (by rw [qM_copyOf_L259] at h; exact h : False).elim
  | succ n kB259 =>
    intro r v1 v3 v5 h
    rw [qM_copyOf_L259] at h
    refine x_iload C dM_copyOf_259 3 rfl ?_
    refine x_aload_n C dM_copyOf_261 rfl 0 rfl ?_
    refine gf_7_50 C (List.mem_cons_of_mem _ wm766) dM_copyOf_262 ?_
    refine x_icmp_ge (tgt := 329) C dM_copyOf_265 (by decide) (fun g44 => ?_) (fun g44 => ?_)
    · have h := h.1 g44
      refine x_sub [0, 1, 2] rfl ?_
      exact kX329 r v1 v3 h
    · have h := h.2 g44
      refine x_aload_n C dM_copyOf_268 rfl 0 rfl ?_
      refine gf_7_49 C (List.mem_cons_of_mem _ wm765) dM_copyOf_269 ?_
      refine x_iload C dM_copyOf_272 3 rfl ?_
      obtain ⟨g45, h⟩ := h
      refine y_ia C 73 (by decide) g45 dM_copyOf_274 ?_
      refine x_istore C [(6, .int (ar r 73 v5.toNatClampNeg)), (0, .ref (ob G 7)), (1, .int v1), (3, .int v3), (5, .int v5)] dM_copyOf_275 (by decide) rfl ?_
      refine x_aload_n C dM_copyOf_277 rfl 1 rfl ?_
      refine gf_7_40 C (List.mem_cons_of_mem _ wm756) dM_copyOf_278 ?_
      refine x_aload_n C dM_copyOf_281 rfl 1 rfl ?_
      refine gf_7_44 C (List.mem_cons_of_mem _ wm760) dM_copyOf_282 ?_
      refine x_iload C dM_copyOf_285 0 rfl ?_
      obtain ⟨g46, h⟩ := h
      refine y_ia C 69 (by decide) g46 dM_copyOf_287 ?_
      refine x_aload_n C dM_copyOf_288 rfl 1 rfl ?_
      refine x_aload_n C dM_copyOf_289 rfl 1 rfl ?_
      refine gf_7_40 C (List.mem_cons_of_mem _ wm756) dM_copyOf_290 ?_
      refine x_iload C dM_copyOf_293 0 rfl ?_
      obtain ⟨g47, h⟩ := h
      refine y_ia C 66 (by decide) g47 dM_copyOf_295 ?_
      refine kM_copied C wm1047 ⟨Nat.le_of_ble_eq_true rfl, Nat.le_of_ble_eq_true rfl⟩ (Nat.le_of_ble_eq_true rfl) dM_copyOf_296 ⟨Nat.zero_le _, Nat.zero_le _⟩ h (fun z48 h => ?_)
      obtain ⟨g49, h⟩ := h
      refine y_is C 66 (by decide) g49 dM_copyOf_299 (fun r50 er50 => ?_)
      have h := h r50 er50
      refine x_aload_n C dM_copyOf_300 rfl 1 rfl ?_
      refine gf_7_41 C (List.mem_cons_of_mem _ wm757) dM_copyOf_301 ?_
      refine x_aload_n C dM_copyOf_304 rfl 1 rfl ?_
      refine gf_7_44 C (List.mem_cons_of_mem _ wm760) dM_copyOf_305 ?_
      refine x_iload C dM_copyOf_308 0 rfl ?_
      obtain ⟨g51, h⟩ := h
      refine y_ia C 69 (by decide) g51 dM_copyOf_310 ?_
      refine x_aload_n C dM_copyOf_311 rfl 1 rfl ?_
      refine x_aload_n C dM_copyOf_312 rfl 1 rfl ?_
      refine gf_7_41 C (List.mem_cons_of_mem _ wm757) dM_copyOf_313 ?_
      refine x_iload C dM_copyOf_316 0 rfl ?_
      obtain ⟨g52, h⟩ := h
      refine y_ia C 67 (by decide) g52 dM_copyOf_318 ?_
      refine kM_copied C wm1047 ⟨Nat.le_of_ble_eq_true rfl, Nat.le_of_ble_eq_true rfl⟩ (Nat.le_of_ble_eq_true rfl) dM_copyOf_319 ⟨Nat.zero_le _, Nat.zero_le _⟩ h (fun z53 h => ?_)
      obtain ⟨g54, h⟩ := h
      refine y_is C 67 (by decide) g54 dM_copyOf_322 (fun r55 er55 => ?_)
      have h := h r55 er55
      refine x_iinc (j := 4) (v := v5 + 1) C [(5, .int (v5 + 1)), (6, .int (ar r 73 v5.toNatClampNeg)), (0, .ref (ob G 7)), (1, .int v1), (3, .int v3)] dM_copyOf_323 rfl rfl (by decide) rfl ?_
      refine x_goto (tgt := 259) C dM_copyOf_326 (by decide) ?_
      refine x_sub [2, 3, 4, 0] rfl ?_
      exact kB259 r55 v1 v3 (v5 + 1) h
def qM_copyOf_L337 (a : L_) (KX402 : S_ → Int32 → Prop) : Nat → S_ → Int32 → Int32 → Int32 → Prop
  | 0, _, _, _, _ => False
  | n + 1, r, v1, v3, v5 => vp_in v1 (ln a 57) ∧ vp_in v1 (ln a 58) ∧ ((((ar r 57 v1.toNatClampNeg) + (ar r 58 v1.toNatClampNeg)) ≤ v5) → KX402 r v3) ∧ ((¬ ((ar r 57 v1.toNatClampNeg) + (ar r 58 v1.toNatClampNeg)) ≤ v5) → vp_in v5 (ln a 62) ∧ qM_copied a r (fun z61 => vp_in v5 (ln a 63) ∧ qM_addWant a (fun r63 => vp_in v5 (ln a 63) ∧ qM_ones a r63 (fun z65 => ∀ r66 : S_, r66 = sF r63 35 ((fi r63 35) + z65) → (qM_copyOf_L337 a KX402 n) r66 v1 v3 (v5 + 1)) (ar r63 63 v5.toNatClampNeg)) r z61 (ar r 63 v5.toNatClampNeg)) (ar r 62 v5.toNatClampNeg))
set_option maxRecDepth 100000 in
set_option maxHeartbeats 4000000 in
theorem tM_copyOf_L337 (C : vx_C p s m args c prog_9_method_37_code 7 (Cond.code yM_copyOf prog_9_method_37_code 7 (some .int) :: wAll) "ClassInferenceModel" D vwCl (tysG G) nwAll A) {a : L_} {KX402 : S_ → Int32 → Prop} (kX402 : ∀ (r : S_) (v3 : Int32), KX402 r v3 → vx_V p l e { frames := 2, cells := 0, slots := 0, locals := 45 } s m args below meth c A D vwCl 7 0 0 Q (wo G a r) 402 [(0, .ref (ob G 7)), (3, .int v3)] []) : ∀ (n : Nat) (r : S_) (v1 : Int32) (v3 : Int32) (v5 : Int32), qM_copyOf_L337 a KX402 n r v1 v3 v5 → vx_V p l e { frames := 2, cells := 0, slots := 0, locals := 45 } s m args below meth c A D vwCl 7 0 0 Q (wo G a r) 337 [(0, .ref (ob G 7)), (1, .int v1), (3, .int v3), (5, .int v5)] [] := by
  intro n
  induction n with
  | zero =>
    intro r v1 v3 v5 h
    exact (by rw [qM_copyOf_L337] at h; exact h : False).elim
  | succ n kB337 =>
    intro r v1 v3 v5 h
    rw [qM_copyOf_L337] at h
    refine x_iload C dM_copyOf_337 3 rfl ?_
    refine x_aload_n C dM_copyOf_339 rfl 0 rfl ?_
    refine gf_7_29 C (List.mem_cons_of_mem _ wm745) dM_copyOf_340 ?_
    refine x_iload_n C dM_copyOf_343 rfl 1 rfl ?_
    obtain ⟨g57, h⟩ := h
    refine y_ia C 57 (by decide) g57 dM_copyOf_344 ?_
    refine x_aload_n C dM_copyOf_345 rfl 0 rfl ?_
    refine gf_7_30 C (List.mem_cons_of_mem _ wm746) dM_copyOf_346 ?_
    refine x_iload_n C dM_copyOf_349 rfl 1 rfl ?_
    obtain ⟨g58, h⟩ := h
    refine y_ia C 58 (by decide) g58 dM_copyOf_350 ?_
    refine x_iadd C dM_copyOf_351 ?_
    refine x_icmp_ge (tgt := 402) C dM_copyOf_352 (by decide) (fun g59 => ?_) (fun g59 => ?_)
    · have h := h.1 g59
      refine x_sub [0, 2] rfl ?_
      exact kX402 r v3 h
    · have h := h.2 g59
      refine x_aload_n C dM_copyOf_355 rfl 0 rfl ?_
      refine x_aload_n C dM_copyOf_356 rfl 0 rfl ?_
      refine x_aload_n C dM_copyOf_357 rfl 0 rfl ?_
      refine gf_7_35 C (List.mem_cons_of_mem _ wm751) dM_copyOf_358 ?_
      refine x_iload C dM_copyOf_361 3 rfl ?_
      obtain ⟨g60, h⟩ := h
      refine y_ia C 62 (by decide) g60 dM_copyOf_363 ?_
      refine kM_copied C wm1047 ⟨Nat.le_of_ble_eq_true rfl, Nat.le_of_ble_eq_true rfl⟩ (Nat.le_of_ble_eq_true rfl) dM_copyOf_364 ⟨Nat.zero_le _, Nat.zero_le _⟩ h (fun z61 h => ?_)
      refine x_aload_n C dM_copyOf_367 rfl 0 rfl ?_
      refine gf_7_36 C (List.mem_cons_of_mem _ wm752) dM_copyOf_368 ?_
      refine x_iload C dM_copyOf_371 3 rfl ?_
      obtain ⟨g62, h⟩ := h
      refine y_ia C 63 (by decide) g62 dM_copyOf_373 ?_
      refine kM_addWant C wm1051 ⟨Nat.le_of_ble_eq_true rfl, Nat.le_of_ble_eq_true rfl⟩ (Nat.le_of_ble_eq_true rfl) dM_copyOf_374 ⟨Nat.zero_le _, Nat.zero_le _⟩ h (fun r63 h => ?_)
      refine x_aload_n C dM_copyOf_377 rfl 0 rfl ?_
      refine x_aload_n C dM_copyOf_378 rfl 0 rfl ?_
      refine gf_7_59 C (List.mem_cons_of_mem _ wm775) dM_copyOf_379 ?_
      refine x_aload_n C dM_copyOf_382 rfl 0 rfl ?_
      refine gf_7_36 C (List.mem_cons_of_mem _ wm752) dM_copyOf_383 ?_
      refine x_iload C dM_copyOf_386 3 rfl ?_
      obtain ⟨g64, h⟩ := h
      refine y_ia C 63 (by decide) g64 dM_copyOf_388 ?_
      refine kM_ones C wm1055 ⟨Nat.le_of_ble_eq_true rfl, Nat.le_of_ble_eq_true rfl⟩ (Nat.le_of_ble_eq_true rfl) dM_copyOf_389 ⟨Nat.zero_le _, Nat.zero_le _⟩ h (fun z65 h => ?_)
      refine x_iadd C dM_copyOf_392 ?_
      refine pf_7_59 C (List.mem_cons_of_mem _ wm775) dM_copyOf_393 (fun r66 er66 => ?_)
      have h := h r66 er66
      refine x_iinc (j := 3) (v := v5 + 1) C [(5, .int (v5 + 1)), (0, .ref (ob G 7)), (1, .int v1), (3, .int v3)] dM_copyOf_396 rfl rfl (by decide) rfl ?_
      refine x_goto (tgt := 337) C dM_copyOf_399 (by decide) ?_
      refine x_sub [1, 2, 3, 0] rfl ?_
      exact kB337 r66 v1 v3 (v5 + 1) h
def qM_copyOf (a : L_) (K : Int32 → S_ → Prop) (r : S_) (p0 : Int32) : Prop :=
  ∀ r1 : S_, r1 = sF r 30 0 → ∀ r2 : S_, r2 = sF r1 29 ((fi r1 29) + 1) → vp_in p0 (ln a 51) ∧ ∃ n71 : Nat, qM_copyOf_L27 a (fun r v1 v2 => ∀ r10 : S_, r10 = sF r 30 0 → vp_in v1 (ln a 53) ∧ vp_in (ar r10 53 v1.toNatClampNeg) (ln a 55) ∧ qM_find a r10 (fun z13 => vp_in 0 (ln a 72) ∧ ∀ r15 : S_, r15 = sA r10 72 (upd (ar r10 72) (0 : Int32).toNatClampNeg z13) → ∀ r16 : S_, r16 = sF r15 29 ((fi r15 29) + 1) → ∃ n70 : Nat, qM_copyOf_L101 a (fun r v1 v3 => ∃ n69 : Nat, qM_copyOf_L259 a (fun r v1 v3 => vp_in v1 (ln a 57) ∧ ∃ n68 : Nat, qM_copyOf_L337 a (fun r v3 => qM_copied a r (fun z67 => K z67 r) v3) n68 r v1 v3 (ar r 57 v1.toNatClampNeg)) n69 r v1 v3 0) n70 r16 v1 v2 z13 1) (ar r10 55 (ar r10 53 v1.toNatClampNeg).toNatClampNeg)) n71 r2 p0 (fi r2 29) (ar r2 51 p0.toNatClampNeg)
set_option maxRecDepth 100000 in
set_option maxHeartbeats 4000000 in
theorem cM_copyOf {a : L_} {r : S_} {K : Int32 → S_ → Prop} (p0 : Int32) (h : qM_copyOf a K r p0) : vx_Mi l yM_copyOf (Cond.code yM_copyOf prog_9_method_37_code 7 (some .int) :: wAll) { frames := 2, cells := 0, slots := 0, locals := 45 } D vwCl (tysG G) nwAll (wo G a r) [.ref (ob G 7), .int p0] 0 0 (fun v w => ∃ r1, w = wo G a r1 ∧ K v r1) := by
  unfold qM_copyOf at h
  refine x_meti (cc := prog_9_method_37_code) (maxL := 7) (ret := (some .int)) (lv0 := [(0, .ref (ob G 7)), (1, .int p0)]) (by decide) rfl (Nat.le_of_ble_eq_true rfl) rfl ?_
  intro p e s m args below meth c A C hA hlocks hr
  refine x_aload_n C dM_copyOf_0 rfl 0 rfl ?_
  refine x_iconst (v := 0) C dM_copyOf_1 (by decide) ?_
  refine pf_7_50 C (List.mem_cons_of_mem _ wm766) dM_copyOf_2 (fun r1 er1 => ?_)
  have h := h r1 er1
  refine x_aload_n C dM_copyOf_5 rfl 0 rfl ?_
  refine x_dup C dM_copyOf_6 rfl ?_
  refine gf_7_43 C (List.mem_cons_of_mem _ wm759) dM_copyOf_7 ?_
  refine x_iconst (v := 1) C dM_copyOf_10 (by decide) ?_
  refine x_iadd C dM_copyOf_11 ?_
  refine pf_7_43 C (List.mem_cons_of_mem _ wm759) dM_copyOf_12 (fun r2 er2 => ?_)
  have h := h r2 er2
  refine x_aload_n C dM_copyOf_15 rfl 0 rfl ?_
  refine gf_7_43 C (List.mem_cons_of_mem _ wm759) dM_copyOf_16 ?_
  refine x_istore_n C [(2, .int (fi r2 29)), (0, .ref (ob G 7)), (1, .int p0)] dM_copyOf_19 rfl (by decide) rfl ?_
  refine x_aload_n C dM_copyOf_20 rfl 1 rfl ?_
  refine gf_7_23 C (List.mem_cons_of_mem _ wm739) dM_copyOf_21 ?_
  refine x_iload_n C dM_copyOf_24 rfl 2 rfl ?_
  obtain ⟨g3, h⟩ := h
  refine y_ia C 51 (by decide) g3 dM_copyOf_25 ?_
  refine x_istore_n C [(3, .int (ar r2 51 p0.toNatClampNeg)), (2, .int (fi r2 29)), (0, .ref (ob G 7)), (1, .int p0)] dM_copyOf_26 rfl (by decide) rfl ?_
  obtain ⟨n71, h⟩ := h
  refine x_sub [2, 3, 1, 0] rfl ?_
  refine tM_copyOf_L27 C (fun r v1 v2 h => ?_) n71 r2 p0 (fi r2 29) (ar r2 51 p0.toNatClampNeg) h
  · refine x_aload_n C dM_copyOf_60 rfl 0 rfl ?_
    refine x_iconst (v := 0) C dM_copyOf_61 (by decide) ?_
    refine pf_7_50 C (List.mem_cons_of_mem _ wm766) dM_copyOf_62 (fun r10 er10 => ?_)
    have h := h r10 er10
    refine x_aload_n C dM_copyOf_65 rfl 0 rfl ?_
    refine x_aload_n C dM_copyOf_66 rfl 0 rfl ?_
    refine gf_7_27 C (List.mem_cons_of_mem _ wm743) dM_copyOf_67 ?_
    refine x_aload_n C dM_copyOf_70 rfl 0 rfl ?_
    refine gf_7_25 C (List.mem_cons_of_mem _ wm741) dM_copyOf_71 ?_
    refine x_iload_n C dM_copyOf_74 rfl 1 rfl ?_
    obtain ⟨g11, h⟩ := h
    refine y_ia C 53 (by decide) g11 dM_copyOf_75 ?_
    obtain ⟨g12, h⟩ := h
    refine y_ia C 55 (by decide) g12 dM_copyOf_76 ?_
    refine kM_find C wm1039 ⟨Nat.le_of_ble_eq_true rfl, Nat.le_of_ble_eq_true rfl⟩ (Nat.le_of_ble_eq_true rfl) dM_copyOf_77 ⟨Nat.zero_le _, Nat.zero_le _⟩ h (fun z13 h => ?_)
    refine x_istore_n C [(3, .int z13), (0, .ref (ob G 7)), (1, .int v1), (2, .int v2)] dM_copyOf_80 rfl (by decide) rfl ?_
    refine x_iconst (v := 1) C dM_copyOf_81 (by decide) ?_
    refine x_istore C [(4, .int 1), (3, .int z13), (0, .ref (ob G 7)), (1, .int v1), (2, .int v2)] dM_copyOf_82 (by decide) rfl ?_
    refine x_aload_n C dM_copyOf_84 rfl 2 rfl ?_
    refine gf_7_48 C (List.mem_cons_of_mem _ wm764) dM_copyOf_85 ?_
    refine x_iconst (v := 0) C dM_copyOf_88 (by decide) ?_
    refine x_iload_n C dM_copyOf_89 rfl 1 rfl ?_
    obtain ⟨g14, h⟩ := h
    refine y_is C 72 (by decide) g14 dM_copyOf_90 (fun r15 er15 => ?_)
    have h := h r15 er15
    refine x_aload_n C dM_copyOf_91 rfl 2 rfl ?_
    refine x_dup C dM_copyOf_92 rfl ?_
    refine gf_7_43 C (List.mem_cons_of_mem _ wm759) dM_copyOf_93 ?_
    refine x_iconst (v := 1) C dM_copyOf_96 (by decide) ?_
    refine x_iadd C dM_copyOf_97 ?_
    refine pf_7_43 C (List.mem_cons_of_mem _ wm759) dM_copyOf_98 (fun r16 er16 => ?_)
    have h := h r16 er16
    obtain ⟨n70, h⟩ := h
    refine x_sub [2, 3, 4, 1, 0] rfl ?_
    refine tM_copyOf_L101 C (fun r v1 v3 h => ?_) n70 r16 v1 v2 z13 1 h
    · refine x_iconst (v := 0) C dM_copyOf_256 (by decide) ?_
      refine x_istore C [(5, .int 0), (0, .ref (ob G 7)), (1, .int v1), (3, .int v3)] dM_copyOf_257 (by decide) rfl ?_
      obtain ⟨n69, h⟩ := h
      refine x_sub [1, 2, 3, 0] rfl ?_
      refine tM_copyOf_L259 C (fun r v1 v3 h => ?_) n69 r v1 v3 0 h
      · refine x_aload_n C dM_copyOf_329 rfl 0 rfl ?_
        refine gf_7_29 C (List.mem_cons_of_mem _ wm745) dM_copyOf_330 ?_
        refine x_iload_n C dM_copyOf_333 rfl 1 rfl ?_
        obtain ⟨g56, h⟩ := h
        refine y_ia C 57 (by decide) g56 dM_copyOf_334 ?_
        refine x_istore C [(5, .int (ar r 57 v1.toNatClampNeg)), (0, .ref (ob G 7)), (1, .int v1), (3, .int v3)] dM_copyOf_335 (by decide) rfl ?_
        obtain ⟨n68, h⟩ := h
        refine x_sub [1, 2, 3, 0] rfl ?_
        refine tM_copyOf_L337 C (fun r v3 h => ?_) n68 r v1 v3 (ar r 57 v1.toNatClampNeg) h
        · refine x_aload_n C dM_copyOf_402 rfl 0 rfl ?_
          refine x_iload_n C dM_copyOf_403 rfl 1 rfl ?_
          refine kM_copied C wm1047 ⟨Nat.le_of_ble_eq_true rfl, Nat.le_of_ble_eq_true rfl⟩ (Nat.le_of_ble_eq_true rfl) dM_copyOf_404 ⟨Nat.zero_le _, Nat.zero_le _⟩ h (fun z67 h => ?_)
          exact x_iret C hA hlocks hr ⟨r, rfl, h⟩ dM_copyOf_407
set_option maxRecDepth 100000 in
set_option maxHeartbeats 4000000 in
theorem kM_copyOf {p : Program} {l : Launch} {e : Env} {R : Room} {s : State} {m : MethodId} {args : Array Value} {below : List Frame} {meth : Method} {c : Code} {cells slots : Nat} {Q : State → Prop} {A : Nat → Prop} {D : va_G} {nL pc : Nat} {cc : ByteArray} {cw : Cond} {own : String} {lv : List (Nat × Value)} {st : List Value} {G : G_} {a : L_} {r : S_} {K : Int32 → S_ → Prop} {p0 : Int32} (C : vx_C p s m args c cc nL (cw :: wAll) own D vwCl (tysG G) nwAll A) {i : Nat} (hl : Cond.methodLink own i yM_copyOf ∈ wAll) (hR : 2 + 1 ≤ R.frames ∧ 8 + (7 + 11) + 45 ≤ R.locals) (hst : (st.map fun v => v.category).sum ≤ 8) (hd : decode cc pc = .ok (.invokevirtual i, 3)) (hcs : cells ≤ R.cells ∧ slots ≤ R.slots) (h : qM_copyOf a K r p0) (k : ∀ (v : Int32) (r1 : S_), K v r1 → vx_V p l e R s m args below meth c A D vwCl nL cells slots Q (wo G a r1) (pc + 3) lv (.int v :: st)) : vx_V p l e R s m args below meth c A D vwCl nL cells slots Q (wo G a r) pc lv (.int p0 :: .ref (ob G 7) :: st) := by
  refine x_callVi C (CC := "ClassInferenceModel") (ci := 7) (q0 := 7) (fs := fl7 G a r) (As := [.int p0]) rfl rfl (cM_copyOf p0 h) (cwV (C := "ClassInferenceModel") 1 C.1.2.2.2.2 (goodV hl wm1033 wp44 wm9 wm1034) rfl rfl rfl (by decide +kernel) hR) rfl hst hd hcs (fun v w hw => ?_)
  obtain ⟨r1, rfl, h⟩ := hw
  exact k v r1 h
end MTH
