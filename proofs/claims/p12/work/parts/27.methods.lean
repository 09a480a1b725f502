section MTH
variable {p : Program} {l : Launch} {e : Env} {s : State} {m : MethodId} {args : Array Value} {below : List Frame} {meth : Method} {c : Code} {Q : State → Prop} {A : Nat → Prop} {D : va_G} {G : G_} {ws0 : va_W}
def qM_least_J75 (a : L_) (r : S_) (KB31 : Int32 → Int32 → Int32 → Int32 → Int32 → Prop) (KX83 : Int32 → Int32 → Int32 → Int32 → Prop) (v1 : Int32) (v2 : Int32) (v3 : Int32) (v5 : Int32) (u0 : Int32) : Prop :=
  KB31 v1 v2 v3 u0 (v5 + 1)
set_option maxRecDepth 100000 in
set_option maxHeartbeats 4000000 in
theorem tM_least_J75 (C : vx_C p s m args c prog_9_method_33_code 6 (Cond.code yM_least prog_9_method_33_code 6 (some .int) :: wAll) "ClassInferenceModel" D vwCl (tysG G) nwAll A) {a : L_} {r : S_} {KB31 : Int32 → Int32 → Int32 → Int32 → Int32 → Prop} {KX83 : Int32 → Int32 → Int32 → Int32 → Prop} (kB31 : ∀ (v1 : Int32) (v2 : Int32) (v3 : Int32) (v4 : Int32) (v5 : Int32), KB31 v1 v2 v3 v4 v5 → vx_V p l e { frames := 1, cells := 0, slots := 0, locals := 23 } s m args below meth c A D vwCl 6 0 0 Q (wo G a r) 31 [(0, .ref (ob G 7)), (1, .int v1), (2, .int v2), (3, .int v3), (4, .int v4), (5, .int v5)] []) (kX83 : ∀ (v1 : Int32) (v2 : Int32) (v3 : Int32) (v4 : Int32), KX83 v1 v2 v3 v4 → vx_V p l e { frames := 1, cells := 0, slots := 0, locals := 23 } s m args below meth c A D vwCl 6 0 0 Q (wo G a r) 83 [(0, .ref (ob G 7)), (1, .int v1), (2, .int v2), (3, .int v3), (4, .int v4)] []) (v1 : Int32) (v2 : Int32) (v3 : Int32) (v5 : Int32) (u0 : Int32) (h : qM_least_J75 a r KB31 KX83 v1 v2 v3 v5 u0) : vx_V p l e { frames := 1, cells := 0, slots := 0, locals := 23 } s m args below meth c A D vwCl 6 0 0 Q (wo G a r) 75 [(0, .ref (ob G 7)), (1, .int v1), (2, .int v2), (3, .int v3), (5, .int v5)] [.int u0] := by
  unfold qM_least_J75 at h
  refine x_istore C [(4, .int u0), (0, .ref (ob G 7)), (1, .int v1), (2, .int v2), (3, .int v3), (5, .int v5)] dM_least_75 (by decide) rfl ?_
  refine x_iinc (j := 5) (v := v5 + 1) C [(5, .int (v5 + 1)), (4, .int u0), (0, .ref (ob G 7)), (1, .int v1), (2, .int v2), (3, .int v3)] dM_least_77 rfl rfl (by decide) rfl ?_
  refine x_goto (tgt := 31) C dM_least_80 (by decide) ?_
  refine x_sub [2, 3, 4, 5, 1, 0] rfl ?_
  exact kB31 v1 v2 v3 u0 (v5 + 1) h
def qM_least_J74 (a : L_) (r : S_) (KB31 : Int32 → Int32 → Int32 → Int32 → Int32 → Prop) (KX83 : Int32 → Int32 → Int32 → Int32 → Prop) (v1 : Int32) (v2 : Int32) (v3 : Int32) (v5 : Int32) : Prop :=
  qM_least_J75 a r KB31 KX83 v1 v2 v3 v5 0
set_option maxRecDepth 100000 in
set_option maxHeartbeats 4000000 in
theorem tM_least_J74 (C : vx_C p s m args c prog_9_method_33_code 6 (Cond.code yM_least prog_9_method_33_code 6 (some .int) :: wAll) "ClassInferenceModel" D vwCl (tysG G) nwAll A) {a : L_} {r : S_} {KB31 : Int32 → Int32 → Int32 → Int32 → Int32 → Prop} {KX83 : Int32 → Int32 → Int32 → Int32 → Prop} (kB31 : ∀ (v1 : Int32) (v2 : Int32) (v3 : Int32) (v4 : Int32) (v5 : Int32), KB31 v1 v2 v3 v4 v5 → vx_V p l e { frames := 1, cells := 0, slots := 0, locals := 23 } s m args below meth c A D vwCl 6 0 0 Q (wo G a r) 31 [(0, .ref (ob G 7)), (1, .int v1), (2, .int v2), (3, .int v3), (4, .int v4), (5, .int v5)] []) (kX83 : ∀ (v1 : Int32) (v2 : Int32) (v3 : Int32) (v4 : Int32), KX83 v1 v2 v3 v4 → vx_V p l e { frames := 1, cells := 0, slots := 0, locals := 23 } s m args below meth c A D vwCl 6 0 0 Q (wo G a r) 83 [(0, .ref (ob G 7)), (1, .int v1), (2, .int v2), (3, .int v3), (4, .int v4)] []) (v1 : Int32) (v2 : Int32) (v3 : Int32) (v5 : Int32) (h : qM_least_J74 a r KB31 KX83 v1 v2 v3 v5) : vx_V p l e { frames := 1, cells := 0, slots := 0, locals := 23 } s m args below meth c A D vwCl 6 0 0 Q (wo G a r) 74 [(0, .ref (ob G 7)), (1, .int v1), (2, .int v2), (3, .int v3), (5, .int v5)] [] := by
  unfold qM_least_J74 at h
  refine x_iconst (v := 0) C dM_least_74 (by decide) ?_
  refine x_sub [0, 1, 2, 3, 4] rfl ?_
  exact tM_least_J75 C kB31 kX83 v1 v2 v3 v5 0 h
def qM_least_J70 (a : L_) (r : S_) (KB31 : Int32 → Int32 → Int32 → Int32 → Int32 → Prop) (KX83 : Int32 → Int32 → Int32 → Int32 → Prop) (v1 : Int32) (v2 : Int32) (v3 : Int32) (v5 : Int32) : Prop :=
  qM_least_J75 a r KB31 KX83 v1 v2 v3 v5 1
set_option maxRecDepth 100000 in
set_option maxHeartbeats 4000000 in
theorem tM_least_J70 (C : vx_C p s m args c prog_9_method_33_code 6 (Cond.code yM_least prog_9_method_33_code 6 (some .int) :: wAll) "ClassInferenceModel" D vwCl (tysG G) nwAll A) {a : L_} {r : S_} {KB31 : Int32 → Int32 → Int32 → Int32 → Int32 → Prop} {KX83 : Int32 → Int32 → Int32 → Int32 → Prop} (kB31 : ∀ (v1 : Int32) (v2 : Int32) (v3 : Int32) (v4 : Int32) (v5 : Int32), KB31 v1 v2 v3 v4 v5 → vx_V p l e { frames := 1, cells := 0, slots := 0, locals := 23 } s m args below meth c A D vwCl 6 0 0 Q (wo G a r) 31 [(0, .ref (ob G 7)), (1, .int v1), (2, .int v2), (3, .int v3), (4, .int v4), (5, .int v5)] []) (kX83 : ∀ (v1 : Int32) (v2 : Int32) (v3 : Int32) (v4 : Int32), KX83 v1 v2 v3 v4 → vx_V p l e { frames := 1, cells := 0, slots := 0, locals := 23 } s m args below meth c A D vwCl 6 0 0 Q (wo G a r) 83 [(0, .ref (ob G 7)), (1, .int v1), (2, .int v2), (3, .int v3), (4, .int v4)] []) (v1 : Int32) (v2 : Int32) (v3 : Int32) (v5 : Int32) (h : qM_least_J70 a r KB31 KX83 v1 v2 v3 v5) : vx_V p l e { frames := 1, cells := 0, slots := 0, locals := 23 } s m args below meth c A D vwCl 6 0 0 Q (wo G a r) 70 [(0, .ref (ob G 7)), (1, .int v1), (2, .int v2), (3, .int v3), (5, .int v5)] [] := by
  unfold qM_least_J70 at h
  refine x_iconst (v := 1) C dM_least_70 (by decide) ?_
  refine x_goto (tgt := 75) C dM_least_71 (by decide) ?_
  refine x_sub [0, 1, 2, 3, 4] rfl ?_
  exact tM_least_J75 C kB31 kX83 v1 v2 v3 v5 1 h
def qM_least_L31 (a : L_) (r : S_) (KX83 : Int32 → Int32 → Int32 → Int32 → Prop) : Nat → Int32 → Int32 → Int32 → Int32 → Int32 → Prop
  | 0, _, _, _, _, _ => False
  | n + 1, v1, v2, v3, v4, v5 => (((fi r 23) ≤ v5) → KX83 v1 v2 v3 v4) ∧ ((¬ (fi r 23) ≤ v5) → ((v4 = 0) → qM_least_J74 a r (qM_least_L31 a r KX83 n) KX83 v1 v2 v3 v5) ∧ ((¬ v4 = 0) → ((v5 = v3) → qM_least_J70 a r (qM_least_L31 a r KX83 n) KX83 v1 v2 v3 v5) ∧ ((¬ v5 = v3) → ((((v1 >>> (v5 &&& 31)) &&& 1) = 0) → qM_least_J70 a r (qM_least_L31 a r KX83 n) KX83 v1 v2 v3 v5) ∧ ((¬ ((v1 >>> (v5 &&& 31)) &&& 1) = 0) → qM_isUnder a r (fun z7 => zb z7 → ((¬ z7 = 0) → qM_least_J74 a r (qM_least_L31 a r KX83 n) KX83 v1 v2 v3 v5) ∧ ((z7 = 0) → qM_least_J70 a r (qM_least_L31 a r KX83 n) KX83 v1 v2 v3 v5)) v5 v3))))
set_option maxRecDepth 100000 in
set_option maxHeartbeats 4000000 in
theorem tM_least_L31 (C : vx_C p s m args c prog_9_method_33_code 6 (Cond.code yM_least prog_9_method_33_code 6 (some .int) :: wAll) "ClassInferenceModel" D vwCl (tysG G) nwAll A) {a : L_} {r : S_} {KX83 : Int32 → Int32 → Int32 → Int32 → Prop} (kX83 : ∀ (v1 : Int32) (v2 : Int32) (v3 : Int32) (v4 : Int32), KX83 v1 v2 v3 v4 → vx_V p l e { frames := 1, cells := 0, slots := 0, locals := 23 } s m args below meth c A D vwCl 6 0 0 Q (wo G a r) 83 [(0, .ref (ob G 7)), (1, .int v1), (2, .int v2), (3, .int v3), (4, .int v4)] []) : ∀ (n : Nat) (v1 : Int32) (v2 : Int32) (v3 : Int32) (v4 : Int32) (v5 : Int32), qM_least_L31 a r KX83 n v1 v2 v3 v4 v5 → vx_V p l e { frames := 1, cells := 0, slots := 0, locals := 23 } s m args below meth c A D vwCl 6 0 0 Q (wo G a r) 31 [(0, .ref (ob G 7)), (1, .int v1), (2, .int v2), (3, .int v3), (4, .int v4), (5, .int v5)] [] := by
  intro n
  induction n with
  | zero =>
    intro v1 v2 v3 v4 v5 h
    exact (by rw [qM_least_L31] at h; exact h : False).elim
  | succ n kB31 =>
    intro v1 v2 v3 v4 v5 h
    rw [qM_least_L31] at h
    refine x_iload C dM_least_31 5 rfl ?_
    refine x_aload_n C dM_least_33 rfl 0 rfl ?_
    refine gf_7_8 C (List.mem_cons_of_mem _ wm724) dM_least_34 ?_
    refine x_icmp_ge (tgt := 83) C dM_least_37 (by decide) (fun g3 => ?_) (fun g3 => ?_)
    · have h := h.1 g3
      refine x_sub [0, 1, 2, 3, 4] rfl ?_
      exact kX83 v1 v2 v3 v4 h
    · have h := h.2 g3
      refine x_iload C dM_least_40 4 rfl ?_
      refine x_if_eq (tgt := 74) C dM_least_42 (by decide) (fun g4 => ?_) (fun g4 => ?_)
      · have h := h.1 g4
        refine x_sub [0, 1, 2, 3, 5] rfl ?_
        exact tM_least_J74 C kB31 kX83 v1 v2 v3 v5 h
      · have h := h.2 g4
        refine x_iload C dM_least_45 5 rfl ?_
        refine x_iload_n C dM_least_47 rfl 3 rfl ?_
        refine x_icmp_eq (tgt := 70) C dM_least_48 (by decide) (fun g5 => ?_) (fun g5 => ?_)
        · have h := h.1 g5
          refine x_sub [0, 1, 2, 3, 5] rfl ?_
          exact tM_least_J70 C kB31 kX83 v1 v2 v3 v5 h
        · have h := h.2 g5
          refine x_iload_n C dM_least_51 rfl 1 rfl ?_
          refine x_iload C dM_least_52 5 rfl ?_
          refine x_ishr C dM_least_54 ?_
          refine x_iconst (v := 1) C dM_least_55 (by decide) ?_
          refine x_iand C dM_least_56 ?_
          refine x_if_eq (tgt := 70) C dM_least_57 (by decide) (fun g6 => ?_) (fun g6 => ?_)
          · have h := h.1 g6
            refine x_sub [0, 1, 2, 3, 5] rfl ?_
            exact tM_least_J70 C kB31 kX83 v1 v2 v3 v5 h
          · have h := h.2 g6
            refine x_aload_n C dM_least_60 rfl 0 rfl ?_
            refine x_iload C dM_least_61 5 rfl ?_
            refine x_iload_n C dM_least_63 rfl 3 rfl ?_
            refine kM_isUnder C wm987 ⟨Nat.le_of_ble_eq_true rfl, Nat.le_of_ble_eq_true rfl⟩ (Nat.le_of_ble_eq_true rfl) dM_least_64 ⟨Nat.zero_le _, Nat.zero_le _⟩ h (fun z7 hzz7 h => ?_)
            have h := h hzz7
            refine x_if_ne (tgt := 74) C dM_least_67 (by decide) (fun g8 => ?_) (fun g8 => ?_)
            · have h := h.1 g8
              refine x_sub [0, 1, 2, 3, 5] rfl ?_
              exact tM_least_J74 C kB31 kX83 v1 v2 v3 v5 h
            · have h := h.2 g8
              refine x_sub [0, 1, 2, 3, 5] rfl ?_
              exact tM_least_J70 C kB31 kX83 v1 v2 v3 v5 h
def qM_least_J97 (a : L_) (r : S_) (KB4 : Int32 → Int32 → Int32 → Prop) (KX104 : Int32 → Prop) (v1 : Int32) (v3 : Int32) (u0 : Int32) : Prop :=
  KB4 v1 u0 (v3 + 1)
set_option maxRecDepth 100000 in
set_option maxHeartbeats 4000000 in
theorem tM_least_J97 (C : vx_C p s m args c prog_9_method_33_code 6 (Cond.code yM_least prog_9_method_33_code 6 (some .int) :: wAll) "ClassInferenceModel" D vwCl (tysG G) nwAll A) {a : L_} {r : S_} {KB4 : Int32 → Int32 → Int32 → Prop} {KX104 : Int32 → Prop} (kB4 : ∀ (v1 : Int32) (v2 : Int32) (v3 : Int32), KB4 v1 v2 v3 → vx_V p l e { frames := 1, cells := 0, slots := 0, locals := 23 } s m args below meth c A D vwCl 6 0 0 Q (wo G a r) 4 [(0, .ref (ob G 7)), (1, .int v1), (2, .int v2), (3, .int v3)] []) (kX104 : ∀ (v2 : Int32), KX104 v2 → vx_V p l e { frames := 1, cells := 0, slots := 0, locals := 23 } s m args below meth c A D vwCl 6 0 0 Q (wo G a r) 104 [(2, .int v2)] []) (v1 : Int32) (v3 : Int32) (u0 : Int32) (h : qM_least_J97 a r KB4 KX104 v1 v3 u0) : vx_V p l e { frames := 1, cells := 0, slots := 0, locals := 23 } s m args below meth c A D vwCl 6 0 0 Q (wo G a r) 97 [(0, .ref (ob G 7)), (1, .int v1), (3, .int v3)] [.int u0] := by
  unfold qM_least_J97 at h
  refine x_istore_n C [(2, .int u0), (0, .ref (ob G 7)), (1, .int v1), (3, .int v3)] dM_least_97 rfl (by decide) rfl ?_
  refine x_iinc (j := 3) (v := v3 + 1) C [(3, .int (v3 + 1)), (2, .int u0), (0, .ref (ob G 7)), (1, .int v1)] dM_least_98 rfl rfl (by decide) rfl ?_
  refine x_goto (tgt := 4) C dM_least_101 (by decide) ?_
  refine x_sub [2, 3, 1, 0] rfl ?_
  exact kB4 v1 u0 (v3 + 1) h
def qM_least_J26 (a : L_) (r : S_) (KB4 : Int32 → Int32 → Int32 → Prop) (KX104 : Int32 → Prop) (v1 : Int32) (v2 : Int32) (v3 : Int32) (u0 : Int32) : Prop :=
  ∃ n10 : Nat, qM_least_L31 a r (fun v1 v2 v3 v4 => ((v4 = 0) → qM_least_J97 a r KB4 KX104 v1 v3 v2) ∧ ((¬ v4 = 0) → qM_least_J97 a r KB4 KX104 v1 v3 (v2 ||| (1 <<< (v3 &&& 31))))) n10 v1 v2 v3 u0 0
set_option maxRecDepth 100000 in
set_option maxHeartbeats 4000000 in
theorem tM_least_J26 (C : vx_C p s m args c prog_9_method_33_code 6 (Cond.code yM_least prog_9_method_33_code 6 (some .int) :: wAll) "ClassInferenceModel" D vwCl (tysG G) nwAll A) {a : L_} {r : S_} {KB4 : Int32 → Int32 → Int32 → Prop} {KX104 : Int32 → Prop} (kB4 : ∀ (v1 : Int32) (v2 : Int32) (v3 : Int32), KB4 v1 v2 v3 → vx_V p l e { frames := 1, cells := 0, slots := 0, locals := 23 } s m args below meth c A D vwCl 6 0 0 Q (wo G a r) 4 [(0, .ref (ob G 7)), (1, .int v1), (2, .int v2), (3, .int v3)] []) (kX104 : ∀ (v2 : Int32), KX104 v2 → vx_V p l e { frames := 1, cells := 0, slots := 0, locals := 23 } s m args below meth c A D vwCl 6 0 0 Q (wo G a r) 104 [(2, .int v2)] []) (v1 : Int32) (v2 : Int32) (v3 : Int32) (u0 : Int32) (h : qM_least_J26 a r KB4 KX104 v1 v2 v3 u0) : vx_V p l e { frames := 1, cells := 0, slots := 0, locals := 23 } s m args below meth c A D vwCl 6 0 0 Q (wo G a r) 26 [(0, .ref (ob G 7)), (1, .int v1), (2, .int v2), (3, .int v3)] [.int u0] := by
  unfold qM_least_J26 at h
  refine x_istore C [(4, .int u0), (0, .ref (ob G 7)), (1, .int v1), (2, .int v2), (3, .int v3)] dM_least_26 (by decide) rfl ?_
  refine x_iconst (v := 0) C dM_least_28 (by decide) ?_
  refine x_istore C [(5, .int 0), (4, .int u0), (0, .ref (ob G 7)), (1, .int v1), (2, .int v2), (3, .int v3)] dM_least_29 (by decide) rfl ?_
  obtain ⟨n10, h⟩ := h
  refine x_sub [2, 3, 4, 5, 1, 0] rfl ?_
  refine tM_least_L31 C (fun v1 v2 v3 v4 h => ?_) n10 v1 v2 v3 u0 0 h
  · refine x_iload C dM_least_83 4 rfl ?_
    refine x_if_eq (tgt := 96) C dM_least_85 (by decide) (fun g9 => ?_) (fun g9 => ?_)
    · have h := h.1 g9
      refine x_iload_n C dM_least_96 rfl 2 rfl ?_
      refine x_sub [0, 1, 3] rfl ?_
      exact tM_least_J97 C kB4 kX104 v1 v3 v2 h
    · have h := h.2 g9
      refine x_iload_n C dM_least_88 rfl 2 rfl ?_
      refine x_iconst (v := 1) C dM_least_89 (by decide) ?_
      refine x_iload_n C dM_least_90 rfl 3 rfl ?_
      refine x_ishl C dM_least_91 ?_
      refine x_ior C dM_least_92 ?_
      refine x_goto (tgt := 97) C dM_least_93 (by decide) ?_
      refine x_sub [0, 1, 3] rfl ?_
      exact tM_least_J97 C kB4 kX104 v1 v3 (v2 ||| (1 <<< (v3 &&& 31))) h
def qM_least_L4 (a : L_) (r : S_) (KX104 : Int32 → Prop) : Nat → Int32 → Int32 → Int32 → Prop
  | 0, _, _, _ => False
  | n + 1, v1, v2, v3 => (((fi r 23) ≤ v3) → KX104 v2) ∧ ((¬ (fi r 23) ≤ v3) → ((¬ ((v1 >>> (v3 &&& 31)) &&& 1) = 1) → qM_least_J26 a r (qM_least_L4 a r KX104 n) KX104 v1 v2 v3 0) ∧ ((((v1 >>> (v3 &&& 31)) &&& 1) = 1) → qM_least_J26 a r (qM_least_L4 a r KX104 n) KX104 v1 v2 v3 1))
set_option maxRecDepth 100000 in
set_option maxHeartbeats 4000000 in
theorem tM_least_L4 (C : vx_C p s m args c prog_9_method_33_code 6 (Cond.code yM_least prog_9_method_33_code 6 (some .int) :: wAll) "ClassInferenceModel" D vwCl (tysG G) nwAll A) {a : L_} {r : S_} {KX104 : Int32 → Prop} (kX104 : ∀ (v2 : Int32), KX104 v2 → vx_V p l e { frames := 1, cells := 0, slots := 0, locals := 23 } s m args below meth c A D vwCl 6 0 0 Q (wo G a r) 104 [(2, .int v2)] []) : ∀ (n : Nat) (v1 : Int32) (v2 : Int32) (v3 : Int32), qM_least_L4 a r KX104 n v1 v2 v3 → vx_V p l e { frames := 1, cells := 0, slots := 0, locals := 23 } s m args below meth c A D vwCl 6 0 0 Q (wo G a r) 4 [(0, .ref (ob G 7)), (1, .int v1), (2, .int v2), (3, .int v3)] [] := by
  intro n
  induction n with
  | zero =>
    intro v1 v2 v3 h
    exact (by rw [qM_least_L4] at h; exact h : False).elim
  | succ n kB4 =>
    intro v1 v2 v3 h
    rw [qM_least_L4] at h
    refine x_iload_n C dM_least_4 rfl 3 rfl ?_
    refine x_aload_n C dM_least_5 rfl 0 rfl ?_
    refine gf_7_8 C (List.mem_cons_of_mem _ wm724) dM_least_6 ?_
    refine x_icmp_ge (tgt := 104) C dM_least_9 (by decide) (fun g1 => ?_) (fun g1 => ?_)
    · have h := h.1 g1
      refine x_sub [2] rfl ?_
      exact kX104 v2 h
    · have h := h.2 g1
      refine x_iload_n C dM_least_12 rfl 1 rfl ?_
      refine x_iload_n C dM_least_13 rfl 3 rfl ?_
      refine x_ishr C dM_least_14 ?_
      refine x_iconst (v := 1) C dM_least_15 (by decide) ?_
      refine x_iand C dM_least_16 ?_
      refine x_iconst (v := 1) C dM_least_17 (by decide) ?_
      refine x_icmp_ne (tgt := 25) C dM_least_18 (by decide) (fun g2 => ?_) (fun g2 => ?_)
      · have h := h.1 g2
        refine x_iconst (v := 0) C dM_least_25 (by decide) ?_
        refine x_sub [0, 1, 2, 3] rfl ?_
        exact tM_least_J26 C kB4 kX104 v1 v2 v3 0 h
      · have h := h.2 g2
        refine x_iconst (v := 1) C dM_least_21 (by decide) ?_
        refine x_goto (tgt := 26) C dM_least_22 (by decide) ?_
        refine x_sub [0, 1, 2, 3] rfl ?_
        exact tM_least_J26 C kB4 kX104 v1 v2 v3 1 h
def qM_least (a : L_) (r : S_) (K : Int32 → Prop) (p0 : Int32) : Prop :=
  ∃ n11 : Nat, qM_least_L4 a r (fun v2 => K v2) n11 p0 0 0
set_option maxRecDepth 100000 in
set_option maxHeartbeats 4000000 in
theorem cM_least {a : L_} {r : S_} {K : Int32 → Prop} (p0 : Int32) (h : qM_least a r K p0) : vx_Mi l yM_least (Cond.code yM_least prog_9_method_33_code 6 (some .int) :: wAll) { frames := 1, cells := 0, slots := 0, locals := 23 } D vwCl (tysG G) nwAll (wo G a r) [.ref (ob G 7), .int p0] 0 0 (fun v w => w = wo G a r ∧ K v) := by
  unfold qM_least at h
  refine x_meti (cc := prog_9_method_33_code) (maxL := 6) (ret := (some .int)) (lv0 := [(0, .ref (ob G 7)), (1, .int p0)]) (by decide) rfl (Nat.le_of_ble_eq_true rfl) rfl ?_
  intro p e s m args below meth c A C hA hlocks hr
  refine x_iconst (v := 0) C dM_least_0 (by decide) ?_
  refine x_istore_n C [(2, .int 0), (0, .ref (ob G 7)), (1, .int p0)] dM_least_1 rfl (by decide) rfl ?_
  refine x_iconst (v := 0) C dM_least_2 (by decide) ?_
  refine x_istore_n C [(3, .int 0), (2, .int 0), (0, .ref (ob G 7)), (1, .int p0)] dM_least_3 rfl (by decide) rfl ?_
  obtain ⟨n11, h⟩ := h
  refine x_sub [2, 3, 1, 0] rfl ?_
  refine tM_least_L4 C (fun v2 h => ?_) n11 p0 0 0 h
  · refine x_iload_n C dM_least_104 rfl 0 rfl ?_
    exact x_iret C hA hlocks hr ⟨rfl, h⟩ dM_least_105
set_option maxRecDepth 100000 in
set_option maxHeartbeats 4000000 in
theorem kM_least {p : Program} {l : Launch} {e : Env} {R : Room} {s : State} {m : MethodId} {args : Array Value} {below : List Frame} {meth : Method} {c : Code} {cells slots : Nat} {Q : State → Prop} {A : Nat → Prop} {D : va_G} {nL pc : Nat} {cc : ByteArray} {cw : Cond} {own : String} {lv : List (Nat × Value)} {st : List Value} {G : G_} {a : L_} {r : S_} {K : Int32 → Prop} {p0 : Int32} (C : vx_C p s m args c cc nL (cw :: wAll) own D vwCl (tysG G) nwAll A) {i : Nat} (hl : Cond.methodLink own i yM_least ∈ wAll) (hR : 1 + 1 ≤ R.frames ∧ 8 + (6 + 11) + 23 ≤ R.locals) (hst : (st.map fun v => v.category).sum ≤ 8) (hd : decode cc pc = .ok (.invokevirtual i, 3)) (hcs : cells ≤ R.cells ∧ slots ≤ R.slots) (h : qM_least a r K p0) (k : ∀ (v : Int32), K v → vx_V p l e R s m args below meth c A D vwCl nL cells slots Q (wo G a r) (pc + 3) lv (.int v :: st)) : vx_V p l e R s m args below meth c A D vwCl nL cells slots Q (wo G a r) pc lv (.int p0 :: .ref (ob G 7) :: st) := by
  refine x_callVi C (CC := "ClassInferenceModel") (ci := 7) (q0 := 7) (fs := fl7 G a r) (As := [.int p0]) rfl rfl (cM_least p0 h) (cwV (C := "ClassInferenceModel") 1 C.1.2.2.2.2 (goodV hl wm1092 wp58 wm9 wm1093) rfl rfl rfl (by decide +kernel) hR) rfl hst hd hcs (fun v w hw => ?_)
  obtain ⟨rfl, h⟩ := hw
  exact k v h
def qM_ones_L4 (a : L_) (r : S_) (KX24 : Int32 → Prop) : Nat → Int32 → Int32 → Int32 → Prop
  | 0, _, _, _ => False
  | n + 1, v0, v1, v2 => ((8 ≤ v2) → KX24 v1) ∧ ((¬ 8 ≤ v2) → (qM_ones_L4 a r KX24 n) v0 (v1 + ((v0 >>> (v2 &&& 31)) &&& 1)) (v2 + 1))
set_option maxRecDepth 100000 in
set_option maxHeartbeats 4000000 in
theorem tM_ones_L4 (C : vx_C p s m args c prog_9_method_34_code 3 (Cond.code yM_ones prog_9_method_34_code 3 (some .int) :: wAll) "ClassInferenceModel" D vwCl (tysG G) nwAll A) {a : L_} {r : S_} {KX24 : Int32 → Prop} (kX24 : ∀ (v1 : Int32), KX24 v1 → vx_V p l e { frames := 0, cells := 0, slots := 0, locals := 0 } s m args below meth c A D vwCl 3 0 0 Q (wo G a r) 24 [(1, .int v1)] []) : ∀ (n : Nat) (v0 : Int32) (v1 : Int32) (v2 : Int32), qM_ones_L4 a r KX24 n v0 v1 v2 → vx_V p l e { frames := 0, cells := 0, slots := 0, locals := 0 } s m args below meth c A D vwCl 3 0 0 Q (wo G a r) 4 [(0, .int v0), (1, .int v1), (2, .int v2)] [] := by
  intro n
  induction n with
  | zero =>
    intro v0 v1 v2 h
    exact (by rw [qM_ones_L4] at h; exact h : False).elim
  | succ n kB4 =>
    intro v0 v1 v2 h
    rw [qM_ones_L4] at h
    refine x_iload_n C dM_ones_4 rfl 2 rfl ?_
    refine x_bipush (v := 8) C dM_ones_5 (by decide) ?_
    refine x_icmp_ge (tgt := 24) C dM_ones_7 (by decide) (fun g1 => ?_) (fun g1 => ?_)
    · have h := h.1 g1
      refine x_sub [1] rfl ?_
      exact kX24 v1 h
    · have h := h.2 g1
      refine x_iload_n C dM_ones_10 rfl 1 rfl ?_
      refine x_iload_n C dM_ones_11 rfl 0 rfl ?_
      refine x_iload_n C dM_ones_12 rfl 2 rfl ?_
      refine x_ishr C dM_ones_13 ?_
      refine x_iconst (v := 1) C dM_ones_14 (by decide) ?_
      refine x_iand C dM_ones_15 ?_
      refine x_iadd C dM_ones_16 ?_
      refine x_istore_n C [(1, .int (v1 + ((v0 >>> (v2 &&& 31)) &&& 1))), (0, .int v0), (2, .int v2)] dM_ones_17 rfl (by decide) rfl ?_
      refine x_iinc (j := 2) (v := v2 + 1) C [(2, .int (v2 + 1)), (1, .int (v1 + ((v0 >>> (v2 &&& 31)) &&& 1))), (0, .int v0)] dM_ones_18 rfl rfl (by decide) rfl ?_
      refine x_goto (tgt := 4) C dM_ones_21 (by decide) ?_
      refine x_sub [2, 1, 0] rfl ?_
      exact kB4 v0 (v1 + ((v0 >>> (v2 &&& 31)) &&& 1)) (v2 + 1) h
def qM_ones (a : L_) (r : S_) (K : Int32 → Prop) (p0 : Int32) : Prop :=
  ∃ n2 : Nat, qM_ones_L4 a r (fun v1 => K v1) n2 p0 0 0
set_option maxRecDepth 100000 in
set_option maxHeartbeats 4000000 in
theorem cM_ones {a : L_} {r : S_} {K : Int32 → Prop} (p0 : Int32) (h : qM_ones a r K p0) : vx_Mi l yM_ones (Cond.code yM_ones prog_9_method_34_code 3 (some .int) :: wAll) { frames := 0, cells := 0, slots := 0, locals := 0 } D vwCl (tysG G) nwAll (wo G a r) [.int p0] 0 0 (fun v w => w = wo G a r ∧ K v) := by
  unfold qM_ones at h
  refine x_meti (cc := prog_9_method_34_code) (maxL := 3) (ret := (some .int)) (lv0 := [(0, .int p0)]) (by decide) rfl (Nat.le_of_ble_eq_true rfl) rfl ?_
  intro p e s m args below meth c A C hA hlocks hr
  refine x_iconst (v := 0) C dM_ones_0 (by decide) ?_
  refine x_istore_n C [(1, .int 0), (0, .int p0)] dM_ones_1 rfl (by decide) rfl ?_
  refine x_iconst (v := 0) C dM_ones_2 (by decide) ?_
  refine x_istore_n C [(2, .int 0), (1, .int 0), (0, .int p0)] dM_ones_3 rfl (by decide) rfl ?_
  obtain ⟨n2, h⟩ := h
  refine x_sub [2, 1, 0] rfl ?_
  refine tM_ones_L4 C (fun v1 h => ?_) n2 p0 0 0 h
  · refine x_iload_n C dM_ones_24 rfl 0 rfl ?_
    exact x_iret C hA hlocks hr ⟨rfl, h⟩ dM_ones_25
set_option maxRecDepth 100000 in
set_option maxHeartbeats 4000000 in
theorem kM_ones {p : Program} {l : Launch} {e : Env} {R : Room} {s : State} {m : MethodId} {args : Array Value} {below : List Frame} {meth : Method} {c : Code} {cells slots : Nat} {Q : State → Prop} {A : Nat → Prop} {D : va_G} {nL pc : Nat} {cc : ByteArray} {cw : Cond} {own : String} {lv : List (Nat × Value)} {st : List Value} {G : G_} {a : L_} {r : S_} {K : Int32 → Prop} {p0 : Int32} (C : vx_C p s m args c cc nL (cw :: wAll) own D vwCl (tysG G) nwAll A) {i : Nat} (hl : Cond.methodLink own i yM_ones ∈ wAll) (hR : 0 + 1 ≤ R.frames ∧ 8 + (3 + 11) + 0 ≤ R.locals) (hst : (st.map fun v => v.category).sum ≤ 8) (hd : decode cc pc = .ok (.invokestatic i, 3)) (hcs : cells ≤ R.cells ∧ slots ≤ R.slots) (h : qM_ones a r K p0) (k : ∀ (v : Int32), K v → vx_V p l e R s m args below meth c A D vwCl nL cells slots Q (wo G a r) (pc + 3) lv (.int v :: st)) : vx_V p l e R s m args below meth c A D vwCl nL cells slots Q (wo G a r) pc lv (.int p0 :: st) := by
  refine x_callSi C (As := [.int p0]) (cM_ones p0 h) (va_cwS 1 C.1.2.2.2.2 (goodS hl wm1056 wm9 wm1057) rfl rfl rfl (by decide +kernel) hR) rfl hst hd hcs (fun v w hw => ?_)
  obtain ⟨rfl, h⟩ := hw
  exact k v h
def qM_takeNeeds_J66 (a : L_) (KB7 : S_ → Int32 → Prop) (KX86 : S_ → Prop) (r : S_) (v1 : Int32) (v2 : Int32) : Prop :=
  vp_in v2 (ln a 70) ∧ ∀ r7 : S_, r7 = sA r 70 (upd (ar r 70) v2.toNatClampNeg 0) → vp_in v2 (ln a 71) ∧ ∀ r9 : S_, r9 = sA r7 71 (upd (ar r7 71) v2.toNatClampNeg 0) → KB7 r9 (v1 + 1)
set_option maxRecDepth 100000 in
set_option maxHeartbeats 4000000 in
theorem tM_takeNeeds_J66 (C : vx_C p s m args c prog_9_method_35_code 3 (Cond.code yM_takeNeeds prog_9_method_35_code 3 none :: wAll) "ClassInferenceModel" D vwCl (tysG G) nwAll A) {a : L_} {KB7 : S_ → Int32 → Prop} {KX86 : S_ → Prop} (kB7 : ∀ (r : S_) (v1 : Int32), KB7 r v1 → vx_V p l e { frames := 0, cells := 0, slots := 0, locals := 0 } s m args below meth c A D vwCl 3 0 0 Q (wo G a r) 7 [(0, .ref (ob G 7)), (1, .int v1)] []) (kX86 : ∀ (r : S_), KX86 r → vx_V p l e { frames := 0, cells := 0, slots := 0, locals := 0 } s m args below meth c A D vwCl 3 0 0 Q (wo G a r) 86 [] []) (r : S_) (v1 : Int32) (v2 : Int32) (h : qM_takeNeeds_J66 a KB7 KX86 r v1 v2) : vx_V p l e { frames := 0, cells := 0, slots := 0, locals := 0 } s m args below meth c A D vwCl 3 0 0 Q (wo G a r) 66 [(0, .ref (ob G 7)), (1, .int v1), (2, .int v2)] [] := by
  unfold qM_takeNeeds_J66 at h
  refine x_aload_n C dM_takeNeeds_66 rfl 0 rfl ?_
  refine gf_7_46 C (List.mem_cons_of_mem _ wm762) dM_takeNeeds_67 ?_
  refine x_iload_n C dM_takeNeeds_70 rfl 2 rfl ?_
  refine x_iconst (v := 0) C dM_takeNeeds_71 (by decide) ?_
  obtain ⟨g6, h⟩ := h
  refine y_is C 70 (by decide) g6 dM_takeNeeds_72 (fun r7 er7 => ?_)
  have h := h r7 er7
  refine x_aload_n C dM_takeNeeds_73 rfl 0 rfl ?_
  refine gf_7_47 C (List.mem_cons_of_mem _ wm763) dM_takeNeeds_74 ?_
  refine x_iload_n C dM_takeNeeds_77 rfl 2 rfl ?_
  refine x_iconst (v := 0) C dM_takeNeeds_78 (by decide) ?_
  obtain ⟨g8, h⟩ := h
  refine y_is C 71 (by decide) g8 dM_takeNeeds_79 (fun r9 er9 => ?_)
  have h := h r9 er9
  refine x_iinc (j := 1) (v := v1 + 1) C [(1, .int (v1 + 1)), (0, .ref (ob G 7)), (2, .int v2)] dM_takeNeeds_80 rfl rfl (by decide) rfl ?_
  refine x_goto (tgt := 7) C dM_takeNeeds_83 (by decide) ?_
  refine x_sub [1, 0] rfl ?_
  exact kB7 r9 (v1 + 1) h
def qM_takeNeeds_L7 (a : L_) (KX86 : S_ → Prop) : Nat → S_ → Int32 → Prop
  | 0, _, _ => False
  | n + 1, r, v1 => (((fi r 30) ≤ v1) → KX86 r) ∧ ((¬ (fi r 30) ≤ v1) → vp_in v1 (ln a 73) ∧ vp_in (ar r 73 v1.toNatClampNeg) (ln a 65) ∧ ((0 ≤ (ar r 65 (ar r 73 v1.toNatClampNeg).toNatClampNeg)) → qM_takeNeeds_J66 a (qM_takeNeeds_L7 a KX86 n) KX86 r v1 (ar r 73 v1.toNatClampNeg)) ∧ ((¬ 0 ≤ (ar r 65 (ar r 73 v1.toNatClampNeg).toNatClampNeg)) → vp_in (fi r 40) (ln a 84) ∧ ∀ r11 : S_, r11 = sA r 84 (upd (ar r 84) (fi r 40).toNatClampNeg (ar r 73 v1.toNatClampNeg)) → vp_in (ar r 73 v1.toNatClampNeg) (ln a 70) ∧ vp_in (fi r11 40) (ln a 85) ∧ ∀ r14 : S_, r14 = sA r11 85 (upd (ar r11 85) (fi r11 40).toNatClampNeg (ar r11 70 (ar r 73 v1.toNatClampNeg).toNatClampNeg)) → ∀ r15 : S_, r15 = sF r14 40 ((fi r14 40) + 1) → qM_takeNeeds_J66 a (qM_takeNeeds_L7 a KX86 n) KX86 r15 v1 (ar r 73 v1.toNatClampNeg)))
set_option maxRecDepth 100000 in
set_option maxHeartbeats 4000000 in
theorem tM_takeNeeds_L7 (C : vx_C p s m args c prog_9_method_35_code 3 (Cond.code yM_takeNeeds prog_9_method_35_code 3 none :: wAll) "ClassInferenceModel" D vwCl (tysG G) nwAll A) {a : L_} {KX86 : S_ → Prop} (kX86 : ∀ (r : S_), KX86 r → vx_V p l e { frames := 0, cells := 0, slots := 0, locals := 0 } s m args below meth c A D vwCl 3 0 0 Q (wo G a r) 86 [] []) : ∀ (n : Nat) (r : S_) (v1 : Int32), qM_takeNeeds_L7 a KX86 n r v1 → vx_V p l e { frames := 0, cells := 0, slots := 0, locals := 0 } s m args below meth c A D vwCl 3 0 0 Q (wo G a r) 7 [(0, .ref (ob G 7)), (1, .int v1)] [] := by
  intro n
  induction n with
  | zero =>
    intro r v1 h
    exact (by rw [qM_takeNeeds_L7] at h; exact h : False).elim
  | succ n kB7 =>
    intro r v1 h
    rw [qM_takeNeeds_L7] at h
    refine x_iload_n C dM_takeNeeds_7 rfl 1 rfl ?_
    refine x_aload_n C dM_takeNeeds_8 rfl 0 rfl ?_
    refine gf_7_50 C (List.mem_cons_of_mem _ wm766) dM_takeNeeds_9 ?_
    refine x_icmp_ge (tgt := 86) C dM_takeNeeds_12 (by decide) (fun g2 => ?_) (fun g2 => ?_)
    · have h := h.1 g2
      refine x_sub [] rfl ?_
      exact kX86 r h
    · have h := h.2 g2
      refine x_aload_n C dM_takeNeeds_15 rfl 0 rfl ?_
      refine gf_7_49 C (List.mem_cons_of_mem _ wm765) dM_takeNeeds_16 ?_
      refine x_iload_n C dM_takeNeeds_19 rfl 1 rfl ?_
      obtain ⟨g3, h⟩ := h
      refine y_ia C 73 (by decide) g3 dM_takeNeeds_20 ?_
      refine x_istore_n C [(2, .int (ar r 73 v1.toNatClampNeg)), (0, .ref (ob G 7)), (1, .int v1)] dM_takeNeeds_21 rfl (by decide) rfl ?_
      refine x_aload_n C dM_takeNeeds_22 rfl 1 rfl ?_
      refine gf_7_39 C (List.mem_cons_of_mem _ wm755) dM_takeNeeds_23 ?_
      refine x_iload_n C dM_takeNeeds_26 rfl 0 rfl ?_
      obtain ⟨g4, h⟩ := h
      refine y_ia C 65 (by decide) g4 dM_takeNeeds_27 ?_
      refine x_if_ge (tgt := 66) C dM_takeNeeds_28 (by decide) (fun g5 => ?_) (fun g5 => ?_)
      · have h := h.1 g5
        refine x_sub [1, 2, 0] rfl ?_
        exact tM_takeNeeds_J66 C kB7 kX86 r v1 (ar r 73 v1.toNatClampNeg) h
      · have h := h.2 g5
        refine x_aload_n C dM_takeNeeds_31 rfl 1 rfl ?_
        refine gf_7_72 C (List.mem_cons_of_mem _ wm788) dM_takeNeeds_32 ?_
        refine x_aload_n C dM_takeNeeds_35 rfl 1 rfl ?_
        refine gf_7_71 C (List.mem_cons_of_mem _ wm787) dM_takeNeeds_36 ?_
        refine x_iload_n C dM_takeNeeds_39 rfl 0 rfl ?_
        obtain ⟨g10, h⟩ := h
        refine y_is C 84 (by decide) g10 dM_takeNeeds_40 (fun r11 er11 => ?_)
        have h := h r11 er11
        refine x_aload_n C dM_takeNeeds_41 rfl 1 rfl ?_
        refine gf_7_73 C (List.mem_cons_of_mem _ wm789) dM_takeNeeds_42 ?_
        refine x_aload_n C dM_takeNeeds_45 rfl 1 rfl ?_
        refine gf_7_71 C (List.mem_cons_of_mem _ wm787) dM_takeNeeds_46 ?_
        refine x_aload_n C dM_takeNeeds_49 rfl 1 rfl ?_
        refine gf_7_46 C (List.mem_cons_of_mem _ wm762) dM_takeNeeds_50 ?_
        refine x_iload_n C dM_takeNeeds_53 rfl 0 rfl ?_
        obtain ⟨g12, h⟩ := h
        refine y_ia C 70 (by decide) g12 dM_takeNeeds_54 ?_
        obtain ⟨g13, h⟩ := h
        refine y_is C 85 (by decide) g13 dM_takeNeeds_55 (fun r14 er14 => ?_)
        have h := h r14 er14
        refine x_aload_n C dM_takeNeeds_56 rfl 1 rfl ?_
        refine x_dup C dM_takeNeeds_57 rfl ?_
        refine gf_7_71 C (List.mem_cons_of_mem _ wm787) dM_takeNeeds_58 ?_
        refine x_iconst (v := 1) C dM_takeNeeds_61 (by decide) ?_
        refine x_iadd C dM_takeNeeds_62 ?_
        refine pf_7_71 C (List.mem_cons_of_mem _ wm787) dM_takeNeeds_63 (fun r15 er15 => ?_)
        have h := h r15 er15
        refine x_sub [1, 2, 0] rfl ?_
        exact tM_takeNeeds_J66 C kB7 kX86 r15 v1 (ar r 73 v1.toNatClampNeg) h
def qM_takeNeeds (a : L_) (K : S_ → Prop) (r : S_) : Prop :=
  ∀ r1 : S_, r1 = sF r 40 0 → ∃ n16 : Nat, qM_takeNeeds_L7 a (fun r => K r) n16 r1 0
set_option maxRecDepth 100000 in
set_option maxHeartbeats 4000000 in
theorem cM_takeNeeds {a : L_} {r : S_} {K : S_ → Prop} (h : qM_takeNeeds a K r ) : vx_Mv l yM_takeNeeds (Cond.code yM_takeNeeds prog_9_method_35_code 3 none :: wAll) { frames := 0, cells := 0, slots := 0, locals := 0 } D vwCl (tysG G) nwAll (wo G a r) [.ref (ob G 7)] 0 0 (fun w => ∃ r1, w = wo G a r1 ∧ K r1) := by
  unfold qM_takeNeeds at h
  refine x_metv (cc := prog_9_method_35_code) (maxL := 3) (ret := none) (lv0 := [(0, .ref (ob G 7))]) (by decide) rfl (Nat.le_of_ble_eq_true rfl) rfl ?_
  intro p e s m args below meth c A C hA hlocks hr
  refine x_aload_n C dM_takeNeeds_0 rfl 0 rfl ?_
  refine x_iconst (v := 0) C dM_takeNeeds_1 (by decide) ?_
  refine pf_7_71 C (List.mem_cons_of_mem _ wm787) dM_takeNeeds_2 (fun r1 er1 => ?_)
  have h := h r1 er1
  refine x_iconst (v := 0) C dM_takeNeeds_5 (by decide) ?_
  refine x_istore_n C [(1, .int 0), (0, .ref (ob G 7))] dM_takeNeeds_6 rfl (by decide) rfl ?_
  obtain ⟨n16, h⟩ := h
  refine x_sub [1, 0] rfl ?_
  refine tM_takeNeeds_L7 C (fun r h => ?_) n16 r1 0 h
  · exact x_vret C hA hlocks hr ⟨r, rfl, h⟩ dM_takeNeeds_86
set_option maxRecDepth 100000 in
set_option maxHeartbeats 4000000 in
theorem kM_takeNeeds {p : Program} {l : Launch} {e : Env} {R : Room} {s : State} {m : MethodId} {args : Array Value} {below : List Frame} {meth : Method} {c : Code} {cells slots : Nat} {Q : State → Prop} {A : Nat → Prop} {D : va_G} {nL pc : Nat} {cc : ByteArray} {cw : Cond} {own : String} {lv : List (Nat × Value)} {st : List Value} {G : G_} {a : L_} {r : S_} {K : S_ → Prop} (C : vx_C p s m args c cc nL (cw :: wAll) own D vwCl (tysG G) nwAll A) {i : Nat} (hl : Cond.methodLink own i yM_takeNeeds ∈ wAll) (hR : 0 + 1 ≤ R.frames ∧ 8 + (3 + 11) + 0 ≤ R.locals) (hst : (st.map fun v => v.category).sum ≤ 8) (hd : decode cc pc = .ok (.invokevirtual i, 3)) (hcs : cells ≤ R.cells ∧ slots ≤ R.slots) (h : qM_takeNeeds a K r ) (k : ∀ (r1 : S_), K r1 → vx_V p l e R s m args below meth c A D vwCl nL cells slots Q (wo G a r1) (pc + 3) lv st) : vx_V p l e R s m args below meth c A D vwCl nL cells slots Q (wo G a r) pc lv (.ref (ob G 7) :: st) := by
  refine x_callVv C (CC := "ClassInferenceModel") (ci := 7) (q0 := 7) (fs := fl7 G a r) (As := []) rfl rfl (cM_takeNeeds  h) (cwV (C := "ClassInferenceModel") 0 C.1.2.2.2.2 (goodV hl wm1088 wp57 wm9 wm1089) rfl rfl rfl (by decide +kernel) hR) rfl hst hd hcs (fun w hw => ?_)
  obtain ⟨r1, rfl, h⟩ := hw
  exact k r1 h
end MTH
