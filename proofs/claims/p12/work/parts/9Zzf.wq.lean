/-! wq -/
section WQ
theorem wq_K_methodOf {a : L_} {r : S_} {K : Int32 → Prop} {K2 : Int32 → Prop} {K3 : Int32 → Prop} {p0 : Int32} (hK : ∀ (x0 : Int32), K x0 → K2 x0 → K3 x0) : qK_methodOf a r K p0 → wK_methodOf a r K2 p0 → wK_methodOf a r K3 p0 := by
  unfold qK_methodOf wK_methodOf
  repeat' (first | (with_reducible exact hK _) | (with_reducible refine wj_vp ?_) | (with_reducible refine cj_and ?_ ?_) | (with_reducible refine wj_exn ?_) | (with_reducible refine wj_exk ?_) | (with_reducible refine wj_eq ?_) | (with_reducible refine cj_imp ?_) | (with_reducible refine cj_all ?_) | (with_reducible intro _))
theorem wq_K_slot {a : L_} {r : S_} {K : Int32 → Prop} {K2 : Int32 → Prop} {K3 : Int32 → Prop} {p0 : Int32} {p1 : Int32} (hK : ∀ (x0 : Int32), K x0 → K2 x0 → K3 x0) : qK_slot a r K p0 p1 → wK_slot a r K2 p0 p1 → wK_slot a r K3 p0 p1 := by
  unfold qK_slot wK_slot
  repeat' (first | (with_reducible exact hK _) | (with_reducible refine wj_vp ?_) | (with_reducible refine cj_and ?_ ?_) | (with_reducible refine wj_exn ?_) | (with_reducible refine wj_exk ?_) | (with_reducible refine wj_eq ?_) | (with_reducible refine cj_imp ?_) | (with_reducible refine cj_all ?_) | (with_reducible intro _))
theorem wq_E_has {a : L_} {r : S_} {K : Int32 → Prop} {K2 : Int32 → Prop} {K3 : Int32 → Prop} {p0 : Int32} (hK : ∀ (x0 : Int32), K x0 → K2 x0 → K3 x0) : qE_has a r K p0 → wE_has a r K2 p0 → wE_has a r K3 p0 := by
  unfold qE_has wE_has
  repeat' (first | (with_reducible exact hK _) | (with_reducible refine wj_vp ?_) | (with_reducible refine cj_and ?_ ?_) | (with_reducible refine wj_exn ?_) | (with_reducible refine wj_exk ?_) | (with_reducible refine wj_eq ?_) | (with_reducible refine cj_imp ?_) | (with_reducible refine cj_all ?_) | (with_reducible intro _))
theorem wq_D_sizeOf {a : L_} {r : S_} {K : Int64 → Prop} {K2 : Int64 → Prop} {K3 : Int64 → Prop} {p0 : Int32} (hK : ∀ (x0 : Int64), K x0 → K2 x0 → K3 x0) : qD_sizeOf a r K p0 → wD_sizeOf a r K2 p0 → wD_sizeOf a r K3 p0 := by
  unfold qD_sizeOf wD_sizeOf
  repeat' (first | (with_reducible exact hK _) | (with_reducible refine wj_vp ?_) | (with_reducible refine cj_and ?_ ?_) | (with_reducible refine wj_exn ?_) | (with_reducible refine wj_exk ?_) | (with_reducible refine wj_eq ?_) | (with_reducible refine cj_imp ?_) | (with_reducible refine cj_all ?_) | (with_reducible intro _))
theorem wq_K_lowest_J35 {a : L_} {r : S_} {KB4 : Int32 → Int32 → Int32 → Prop} {KB42 : Int32 → Int32 → Int32 → Prop} {KB43 : Int32 → Int32 → Int32 → Prop} {KX41 : Int32 → Int32 → Prop} {KX412 : Int32 → Int32 → Prop} {KX413 : Int32 → Int32 → Prop} {v1 : Int32} {v2 : Int32} {v3 : Int32} (hKB4 : ∀ (x0 : Int32) (x1 : Int32) (x2 : Int32), KB4 x0 x1 x2 → KB42 x0 x1 x2 → KB43 x0 x1 x2) (hKX41 : ∀ (x0 : Int32) (x1 : Int32), KX41 x0 x1 → KX412 x0 x1 → KX413 x0 x1) : qK_lowest_J35 a r KB4 KX41 v1 v2 v3 → wK_lowest_J35 a r KB42 KX412 v1 v2 v3 → wK_lowest_J35 a r KB43 KX413 v1 v2 v3 := by
  unfold qK_lowest_J35 wK_lowest_J35
  repeat' (first | (with_reducible exact hKB4 _ _ _) | (with_reducible exact hKX41 _ _) | (with_reducible refine wj_vp ?_) | (with_reducible refine cj_and ?_ ?_) | (with_reducible refine wj_exn ?_) | (with_reducible refine wj_exk ?_) | (with_reducible refine wj_eq ?_) | (with_reducible refine cj_imp ?_) | (with_reducible refine cj_all ?_) | (with_reducible intro _))
theorem wq_K_lowest_L4 {a : L_} {r : S_} {KX41 : Int32 → Int32 → Prop} {KX412 : Int32 → Int32 → Prop} {KX413 : Int32 → Int32 → Prop} (hKX41 : ∀ (x0 : Int32) (x1 : Int32), KX41 x0 x1 → KX412 x0 x1 → KX413 x0 x1) : ∀ (n : Nat) (m : Nat) (w0 : Int32) (w1 : Int32) (w2 : Int32), qK_lowest_L4 a r KX41 n w0 w1 w2 → wK_lowest_L4 a r KX412 m w0 w1 w2 → wK_lowest_L4 a r KX413 m w0 w1 w2 := by
  intro n
  induction n with
  | zero => intro m w0 w1 w2 h; exact h.elim
  | succ n ih =>
    intro m w0 w1 w2
    cases m with
    | zero => intro _ _; trivial
    | succ m =>
      rw [qK_lowest_L4, wK_lowest_L4, wK_lowest_L4]
      repeat' (first | (with_reducible exact hKX41 _ _) | (with_reducible exact ih _ _ _ _) | (with_reducible refine wq_K_lowest_J35 ?_ ?_) | (with_reducible refine wj_vp ?_) | (with_reducible refine cj_and ?_ ?_) | (with_reducible refine wj_exn ?_) | (with_reducible refine wj_exk ?_) | (with_reducible refine wj_eq ?_) | (with_reducible refine cj_imp ?_) | (with_reducible refine cj_all ?_) | (with_reducible intro _))
theorem wq_K_lowest {a : L_} {r : S_} {K : Int32 → Prop} {K2 : Int32 → Prop} {K3 : Int32 → Prop} {p0 : Int32} (hK : ∀ (x0 : Int32), K x0 → K2 x0 → K3 x0) : qK_lowest a r K p0 → wK_lowest a r K2 p0 → wK_lowest a r K3 p0 := by
  unfold qK_lowest wK_lowest
  repeat' (first | (with_reducible exact hK _) | (with_reducible refine wq_K_lowest_L4 ?_ _ _ _ _ _) | (with_reducible refine wj_vp ?_) | (with_reducible refine cj_and ?_ ?_) | (with_reducible refine wj_exn ?_) | (with_reducible refine wj_exk ?_) | (with_reducible refine wj_eq ?_) | (with_reducible refine cj_imp ?_) | (with_reducible refine cj_all ?_) | (with_reducible intro _))
theorem wq_K_haveInstances_J34 {a : L_} {r : S_} {KB2 : Int32 → Int32 → Int32 → Prop} {KB22 : Int32 → Int32 → Int32 → Prop} {KB23 : Int32 → Int32 → Int32 → Prop} {KX32 : Prop} {KX322 : Prop} {KX323 : Prop} {KX40 : Prop} {KX402 : Prop} {KX403 : Prop} {v1 : Int32} {v2 : Int32} {v3 : Int32} (hKB2 : ∀ (x0 : Int32) (x1 : Int32) (x2 : Int32), KB2 x0 x1 x2 → KB22 x0 x1 x2 → KB23 x0 x1 x2) (hKX32 : KX32  → KX322  → KX323 ) (hKX40 : KX40  → KX402  → KX403 ) : qK_haveInstances_J34 a r KB2 KX32 KX40 v1 v2 v3 → wK_haveInstances_J34 a r KB22 KX322 KX402 v1 v2 v3 → wK_haveInstances_J34 a r KB23 KX323 KX403 v1 v2 v3 := by
  unfold qK_haveInstances_J34 wK_haveInstances_J34
  repeat' (first | (with_reducible exact hKB2 _ _ _) | (with_reducible exact hKX32) | (with_reducible exact hKX40) | (with_reducible refine wj_vp ?_) | (with_reducible refine cj_and ?_ ?_) | (with_reducible refine wj_exn ?_) | (with_reducible refine wj_exk ?_) | (with_reducible refine wj_eq ?_) | (with_reducible refine cj_imp ?_) | (with_reducible refine cj_all ?_) | (with_reducible intro _))
theorem wq_K_haveInstances_L2 {a : L_} {r : S_} {KX32 : Prop} {KX322 : Prop} {KX323 : Prop} {KX40 : Prop} {KX402 : Prop} {KX403 : Prop} (hKX32 : KX32  → KX322  → KX323 ) (hKX40 : KX40  → KX402  → KX403 ) : ∀ (n : Nat) (m : Nat) (w0 : Int32) (w1 : Int32) (w2 : Int32), qK_haveInstances_L2 a r KX32 KX40 n w0 w1 w2 → wK_haveInstances_L2 a r KX322 KX402 m w0 w1 w2 → wK_haveInstances_L2 a r KX323 KX403 m w0 w1 w2 := by
  intro n
  induction n with
  | zero => intro m w0 w1 w2 h; exact h.elim
  | succ n ih =>
    intro m w0 w1 w2
    cases m with
    | zero => intro _ _; trivial
    | succ m =>
      rw [qK_haveInstances_L2, wK_haveInstances_L2, wK_haveInstances_L2]
      repeat' (first | (with_reducible exact hKX32) | (with_reducible exact hKX40) | (with_reducible exact ih _ _ _ _) | (with_reducible refine wq_K_haveInstances_J34 ?_ ?_ ?_) | (with_reducible refine wq_K_slot ?_) | (with_reducible refine wj_vp ?_) | (with_reducible refine cj_and ?_ ?_) | (with_reducible refine wj_exn ?_) | (with_reducible refine wj_exk ?_) | (with_reducible refine wj_eq ?_) | (with_reducible refine cj_imp ?_) | (with_reducible refine cj_all ?_) | (with_reducible intro _))
theorem wq_K_haveInstances {a : L_} {r : S_} {K : Int32 → Prop} {K2 : Int32 → Prop} {K3 : Int32 → Prop} {p0 : Int32} {p1 : Int32} (hK : ∀ (x0 : Int32), K x0 → K2 x0 → K3 x0) : qK_haveInstances a r K p0 p1 → wK_haveInstances a r K2 p0 p1 → wK_haveInstances a r K3 p0 p1 := by
  unfold qK_haveInstances wK_haveInstances
  repeat' (first | (with_reducible exact hK _) | (with_reducible refine wq_K_haveInstances_L2 ?_ ?_ _ _ _ _ _) | (with_reducible refine wj_vp ?_) | (with_reducible refine cj_and ?_ ?_) | (with_reducible refine wj_exn ?_) | (with_reducible refine wj_exk ?_) | (with_reducible refine wj_eq ?_) | (with_reducible refine cj_imp ?_) | (with_reducible refine cj_all ?_) | (with_reducible intro _))
theorem wq_K_joined_J37 {a : L_} {r : S_} {m0 : Nat} {KB6 : Int32 → Int32 → Int32 → Int32 → Prop} {KB62 : Int32 → Int32 → Int32 → Int32 → Prop} {KB63 : Int32 → Int32 → Int32 → Int32 → Prop} {KX43 : Int32 → Prop} {KX432 : Int32 → Prop} {KX433 : Int32 → Prop} {v2 : Int32} {v3 : Int32} {v4 : Int32} {v5 : Int32} (hKB6 : ∀ (x0 : Int32) (x1 : Int32) (x2 : Int32) (x3 : Int32), KB6 x0 x1 x2 x3 → KB62 x0 x1 x2 x3 → KB63 x0 x1 x2 x3) (hKX43 : ∀ (x0 : Int32), KX43 x0 → KX432 x0 → KX433 x0) : qK_joined_J37 a r m0 KB6 KX43 v2 v3 v4 v5 → wK_joined_J37 a r m0 KB62 KX432 v2 v3 v4 v5 → wK_joined_J37 a r m0 KB63 KX433 v2 v3 v4 v5 := by
  unfold qK_joined_J37 wK_joined_J37
  repeat' (first | (with_reducible exact hKB6 _ _ _ _) | (with_reducible exact hKX43 _) | (with_reducible refine wj_vp ?_) | (with_reducible refine cj_and ?_ ?_) | (with_reducible refine wj_exn ?_) | (with_reducible refine wj_exk ?_) | (with_reducible refine wj_eq ?_) | (with_reducible refine cj_imp ?_) | (with_reducible refine cj_all ?_) | (with_reducible intro _))
theorem wq_K_joined_L6 {a : L_} {r : S_} {m0 : Nat} {KX43 : Int32 → Prop} {KX432 : Int32 → Prop} {KX433 : Int32 → Prop} (hKX43 : ∀ (x0 : Int32), KX43 x0 → KX432 x0 → KX433 x0) : ∀ (n : Nat) (m : Nat) (w0 : Int32) (w1 : Int32) (w2 : Int32) (w3 : Int32), qK_joined_L6 a r m0 KX43 n w0 w1 w2 w3 → wK_joined_L6 a r m0 KX432 m w0 w1 w2 w3 → wK_joined_L6 a r m0 KX433 m w0 w1 w2 w3 := by
  intro n
  induction n with
  | zero => intro m w0 w1 w2 w3 h; exact h.elim
  | succ n ih =>
    intro m w0 w1 w2 w3
    cases m with
    | zero => intro _ _; trivial
    | succ m =>
      rw [qK_joined_L6, wK_joined_L6, wK_joined_L6]
      repeat' (first | (with_reducible exact hKX43 _) | (with_reducible exact ih _ _ _ _ _) | (with_reducible refine wq_K_joined_J37 ?_ ?_) | (with_reducible refine wq_K_slot ?_) | (with_reducible refine wj_vp ?_) | (with_reducible refine cj_and ?_ ?_) | (with_reducible refine wj_exn ?_) | (with_reducible refine wj_exk ?_) | (with_reducible refine wj_eq ?_) | (with_reducible refine cj_imp ?_) | (with_reducible refine cj_all ?_) | (with_reducible intro _))
theorem wq_K_joined {a : L_} {r : S_} {m0 : Nat} {K : Int32 → Prop} {K2 : Int32 → Prop} {K3 : Int32 → Prop} {p1 : Int32} {p2 : Int32} (hK : ∀ (x0 : Int32), K x0 → K2 x0 → K3 x0) : qK_joined a r m0 K p1 p2 → wK_joined a r m0 K2 p1 p2 → wK_joined a r m0 K3 p1 p2 := by
  unfold qK_joined wK_joined
  repeat' (first | (with_reducible exact hK _) | (with_reducible refine wq_K_joined_L6 ?_ _ _ _ _ _ _) | (with_reducible refine wj_vp ?_) | (with_reducible refine cj_and ?_ ?_) | (with_reducible refine wj_exn ?_) | (with_reducible refine wj_exk ?_) | (with_reducible refine wj_eq ?_) | (with_reducible refine cj_imp ?_) | (with_reducible refine cj_all ?_) | (with_reducible intro _))
theorem wq_E_nodesOf {a : L_} {r : S_} {K : Int32 → Prop} {K2 : Int32 → Prop} {K3 : Int32 → Prop} {p0 : Int32} (hK : ∀ (x0 : Int32), K x0 → K2 x0 → K3 x0) : qE_nodesOf a r K p0 → wE_nodesOf a r K2 p0 → wE_nodesOf a r K3 p0 := by
  unfold qE_nodesOf wE_nodesOf
  repeat' (first | (with_reducible exact hK _) | (with_reducible refine wj_vp ?_) | (with_reducible refine cj_and ?_ ?_) | (with_reducible refine wj_exn ?_) | (with_reducible refine wj_exk ?_) | (with_reducible refine wj_eq ?_) | (with_reducible refine cj_imp ?_) | (with_reducible refine cj_all ?_) | (with_reducible intro _))
theorem wq_Y_enter {a : L_} {K : S_ → Prop} {K2 : S_ → Prop} {K3 : S_ → Prop} {r : S_} {p0 : Int32} {p1 : Int32} {p2 : Int32} (hK : ∀ (x0 : S_), K x0 → K2 x0 → K3 x0) : qY_enter a K r p0 p1 p2 → wY_enter a K2 r p0 p1 p2 → wY_enter a K3 r p0 p1 p2 := by
  unfold qY_enter wY_enter
  repeat' (first | (with_reducible exact hK _) | (with_reducible refine wj_vp ?_) | (with_reducible refine cj_and ?_ ?_) | (with_reducible refine wj_exn ?_) | (with_reducible refine wj_exk ?_) | (with_reducible refine wj_eq ?_) | (with_reducible refine cj_imp ?_) | (with_reducible refine cj_all ?_) | (with_reducible intro _))
theorem wq_Y_leave {a : L_} {K : S_ → Prop} {K2 : S_ → Prop} {K3 : S_ → Prop} {r : S_} (hK : ∀ (x0 : S_), K x0 → K2 x0 → K3 x0) : qY_leave a K r → wY_leave a K2 r → wY_leave a K3 r := by
  unfold qY_leave wY_leave
  repeat' (first | (with_reducible exact hK _) | (with_reducible refine wj_vp ?_) | (with_reducible refine cj_and ?_ ?_) | (with_reducible refine wj_exn ?_) | (with_reducible refine wj_exk ?_) | (with_reducible refine wj_eq ?_) | (with_reducible refine cj_imp ?_) | (with_reducible refine cj_all ?_) | (with_reducible intro _))
theorem wq_G_startWalk {a : L_} {K : S_ → Prop} {K2 : S_ → Prop} {K3 : S_ → Prop} {r : S_} (hK : ∀ (x0 : S_), K x0 → K2 x0 → K3 x0) : qG_startWalk a K r → wG_startWalk a K2 r → wG_startWalk a K3 r := by
  unfold qG_startWalk wG_startWalk
  repeat' (first | (with_reducible exact hK _) | (with_reducible refine wj_vp ?_) | (with_reducible refine cj_and ?_ ?_) | (with_reducible refine wj_exn ?_) | (with_reducible refine wj_exk ?_) | (with_reducible refine wj_eq ?_) | (with_reducible refine cj_imp ?_) | (with_reducible refine cj_all ?_) | (with_reducible intro _))
theorem wq_G_settled_L4 {a : L_} {KX36 : S_ → Int32 → Int32 → Prop} {KX362 : S_ → Int32 → Int32 → Prop} {KX363 : S_ → Int32 → Int32 → Prop} (hKX36 : ∀ (x0 : S_) (x1 : Int32) (x2 : Int32), KX36 x0 x1 x2 → KX362 x0 x1 x2 → KX363 x0 x1 x2) : ∀ (n : Nat) (m : Nat) (w0 : S_) (w1 : Int32) (w2 : Int32) (w3 : Int32), qG_settled_L4 a KX36 n w0 w1 w2 w3 → wG_settled_L4 a KX362 m w0 w1 w2 w3 → wG_settled_L4 a KX363 m w0 w1 w2 w3 := by
  intro n
  induction n with
  | zero => intro m w0 w1 w2 w3 h; exact h.elim
  | succ n ih =>
    intro m w0 w1 w2 w3
    cases m with
    | zero => intro _ _; trivial
    | succ m =>
      rw [qG_settled_L4, wG_settled_L4, wG_settled_L4]
      repeat' (first | (with_reducible exact hKX36 _ _ _) | (with_reducible exact ih _ _ _ _ _) | (with_reducible refine wj_vp ?_) | (with_reducible refine cj_and ?_ ?_) | (with_reducible refine wj_exn ?_) | (with_reducible refine wj_exk ?_) | (with_reducible refine wj_eq ?_) | (with_reducible refine cj_imp ?_) | (with_reducible refine cj_all ?_) | (with_reducible intro _))
theorem wq_G_settled_J36 {a : L_} {K : Int32 → S_ → Prop} {K2 : Int32 → S_ → Prop} {K3 : Int32 → S_ → Prop} {r : S_} {v1 : Int32} {v2 : Int32} (hK : ∀ (x0 : Int32) (x1 : S_), K x0 x1 → K2 x0 x1 → K3 x0 x1) : qG_settled_J36 a K r v1 v2 → wG_settled_J36 a K2 r v1 v2 → wG_settled_J36 a K3 r v1 v2 := by
  unfold qG_settled_J36 wG_settled_J36
  repeat' (first | (with_reducible exact hK _ _) | (with_reducible refine wj_vp ?_) | (with_reducible refine cj_and ?_ ?_) | (with_reducible refine wj_exn ?_) | (with_reducible refine wj_exk ?_) | (with_reducible refine wj_eq ?_) | (with_reducible refine cj_imp ?_) | (with_reducible refine cj_all ?_) | (with_reducible intro _))
theorem wq_G_settled {a : L_} {K : Int32 → S_ → Prop} {K2 : Int32 → S_ → Prop} {K3 : Int32 → S_ → Prop} {r : S_} {p0 : Int32} (hK : ∀ (x0 : Int32) (x1 : S_), K x0 x1 → K2 x0 x1 → K3 x0 x1) : qG_settled a K r p0 → wG_settled a K2 r p0 → wG_settled a K3 r p0 := by
  unfold qG_settled wG_settled
  repeat' (first | (with_reducible exact hK _ _) | (with_reducible refine wq_G_settled_L4 ?_ _ _ _ _ _ _) | (with_reducible refine wq_G_settled_J36 ?_) | (with_reducible refine wj_vp ?_) | (with_reducible refine cj_and ?_ ?_) | (with_reducible refine wj_exn ?_) | (with_reducible refine wj_exk ?_) | (with_reducible refine wj_eq ?_) | (with_reducible refine cj_imp ?_) | (with_reducible refine cj_all ?_) | (with_reducible intro _))
theorem wq_G_push {a : L_} {K : S_ → Prop} {K2 : S_ → Prop} {K3 : S_ → Prop} {r : S_} {p0 : Int32} (hK : ∀ (x0 : S_), K x0 → K2 x0 → K3 x0) : qG_push a K r p0 → wG_push a K2 r p0 → wG_push a K3 r p0 := by
  unfold qG_push wG_push
  repeat' (first | (with_reducible exact hK _) | (with_reducible refine wj_vp ?_) | (with_reducible refine cj_and ?_ ?_) | (with_reducible refine wj_exn ?_) | (with_reducible refine wj_exk ?_) | (with_reducible refine wj_eq ?_) | (with_reducible refine cj_imp ?_) | (with_reducible refine cj_all ?_) | (with_reducible intro _))
theorem wq_G_walk_J166 {a : L_} {KB16 : S_ → Int32 → Prop} {KB162 : S_ → Int32 → Prop} {KB163 : S_ → Int32 → Prop} {KX172 : S_ → Prop} {KX1722 : S_ → Prop} {KX1723 : S_ → Prop} {r : S_} {v2 : Int32} (hKB16 : ∀ (x0 : S_) (x1 : Int32), KB16 x0 x1 → KB162 x0 x1 → KB163 x0 x1) (hKX172 : ∀ (x0 : S_), KX172 x0 → KX1722 x0 → KX1723 x0) : qG_walk_J166 a KB16 KX172 r v2 → wG_walk_J166 a KB162 KX1722 r v2 → wG_walk_J166 a KB163 KX1723 r v2 := by
  unfold qG_walk_J166 wG_walk_J166
  repeat' (first | (with_reducible exact hKB16 _ _) | (with_reducible exact hKX172 _) | (with_reducible refine wj_vp ?_) | (with_reducible refine cj_and ?_ ?_) | (with_reducible refine wj_exn ?_) | (with_reducible refine wj_exk ?_) | (with_reducible refine wj_eq ?_) | (with_reducible refine cj_imp ?_) | (with_reducible refine cj_all ?_) | (with_reducible intro _))
theorem wq_G_walk_J142 {a : L_} {KB16 : S_ → Int32 → Prop} {KB162 : S_ → Int32 → Prop} {KB163 : S_ → Int32 → Prop} {KX172 : S_ → Prop} {KX1722 : S_ → Prop} {KX1723 : S_ → Prop} {r : S_} {v2 : Int32} {v3 : Int32} (hKB16 : ∀ (x0 : S_) (x1 : Int32), KB16 x0 x1 → KB162 x0 x1 → KB163 x0 x1) (hKX172 : ∀ (x0 : S_), KX172 x0 → KX1722 x0 → KX1723 x0) : qG_walk_J142 a KB16 KX172 r v2 v3 → wG_walk_J142 a KB162 KX1722 r v2 v3 → wG_walk_J142 a KB163 KX1723 r v2 v3 := by
  unfold qG_walk_J142 wG_walk_J142
  repeat' (first | (with_reducible exact hKB16 _ _) | (with_reducible exact hKX172 _) | (with_reducible refine wq_G_walk_J166 ?_ ?_) | (with_reducible refine wq_G_settled ?_) | (with_reducible refine wq_G_push ?_) | (with_reducible refine wj_vp ?_) | (with_reducible refine cj_and ?_ ?_) | (with_reducible refine wj_exn ?_) | (with_reducible refine wj_exk ?_) | (with_reducible refine wj_eq ?_) | (with_reducible refine cj_imp ?_) | (with_reducible refine cj_all ?_) | (with_reducible intro _))
theorem wq_G_walk_L16 {a : L_} {KX172 : S_ → Prop} {KX1722 : S_ → Prop} {KX1723 : S_ → Prop} (hKX172 : ∀ (x0 : S_), KX172 x0 → KX1722 x0 → KX1723 x0) : ∀ (n : Nat) (m : Nat) (w0 : S_) (w1 : Int32), qG_walk_L16 a KX172 n w0 w1 → wG_walk_L16 a KX1722 m w0 w1 → wG_walk_L16 a KX1723 m w0 w1 := by
  intro n
  induction n with
  | zero => intro m w0 w1 h; exact h.elim
  | succ n ih =>
    intro m w0 w1
    cases m with
    | zero => intro _ _; trivial
    | succ m =>
      rw [qG_walk_L16, wG_walk_L16, wG_walk_L16]
      repeat' (first | (with_reducible exact hKX172 _) | (with_reducible exact ih _ _ _) | (with_reducible refine wq_G_push ?_) | (with_reducible refine wq_G_walk_J142 ?_ ?_) | (with_reducible refine wq_G_settled ?_) | (with_reducible refine wq_G_walk_J166 ?_ ?_) | (with_reducible refine wj_vp ?_) | (with_reducible refine cj_and ?_ ?_) | (with_reducible refine wj_exn ?_) | (with_reducible refine wj_exk ?_) | (with_reducible refine wj_eq ?_) | (with_reducible refine cj_imp ?_) | (with_reducible refine cj_all ?_) | (with_reducible intro _))
theorem wq_G_walk {a : L_} {K : S_ → Prop} {K2 : S_ → Prop} {K3 : S_ → Prop} {r : S_} {p0 : Int32} (hK : ∀ (x0 : S_), K x0 → K2 x0 → K3 x0) : qG_walk a K r p0 → wG_walk a K2 r p0 → wG_walk a K3 r p0 := by
  unfold qG_walk wG_walk
  repeat' (first | (with_reducible exact hK _) | (with_reducible refine wq_G_settled ?_) | (with_reducible refine wq_G_push ?_) | (with_reducible refine wq_G_walk_L16 ?_ _ _ _ _) | (with_reducible refine wj_vp ?_) | (with_reducible refine cj_and ?_ ?_) | (with_reducible refine wj_exn ?_) | (with_reducible refine wj_exk ?_) | (with_reducible refine wj_eq ?_) | (with_reducible refine cj_imp ?_) | (with_reducible refine cj_all ?_) | (with_reducible intro _))
theorem wq_Y_markBound_J40 {a : L_} {KB9 : S_ → Int32 → Prop} {KB92 : S_ → Int32 → Prop} {KB93 : S_ → Int32 → Prop} {KX46 : S_ → Prop} {KX462 : S_ → Prop} {KX463 : S_ → Prop} {r : S_} {v1 : Int32} (hKB9 : ∀ (x0 : S_) (x1 : Int32), KB9 x0 x1 → KB92 x0 x1 → KB93 x0 x1) (hKX46 : ∀ (x0 : S_), KX46 x0 → KX462 x0 → KX463 x0) : qY_markBound_J40 a KB9 KX46 r v1 → wY_markBound_J40 a KB92 KX462 r v1 → wY_markBound_J40 a KB93 KX463 r v1 := by
  unfold qY_markBound_J40 wY_markBound_J40
  repeat' (first | (with_reducible exact hKB9 _ _) | (with_reducible exact hKX46 _) | (with_reducible refine wj_vp ?_) | (with_reducible refine cj_and ?_ ?_) | (with_reducible refine wj_exn ?_) | (with_reducible refine wj_exk ?_) | (with_reducible refine wj_eq ?_) | (with_reducible refine cj_imp ?_) | (with_reducible refine cj_all ?_) | (with_reducible intro _))
theorem wq_Y_markBound_L9 {a : L_} {KX46 : S_ → Prop} {KX462 : S_ → Prop} {KX463 : S_ → Prop} (hKX46 : ∀ (x0 : S_), KX46 x0 → KX462 x0 → KX463 x0) : ∀ (n : Nat) (m : Nat) (w0 : S_) (w1 : Int32), qY_markBound_L9 a KX46 n w0 w1 → wY_markBound_L9 a KX462 m w0 w1 → wY_markBound_L9 a KX463 m w0 w1 := by
  intro n
  induction n with
  | zero => intro m w0 w1 h; exact h.elim
  | succ n ih =>
    intro m w0 w1
    cases m with
    | zero => intro _ _; trivial
    | succ m =>
      rw [qY_markBound_L9, wY_markBound_L9, wY_markBound_L9]
      repeat' (first | (with_reducible exact hKX46 _) | (with_reducible exact ih _ _ _) | (with_reducible refine wq_Y_markBound_J40 ?_ ?_) | (with_reducible refine wq_G_walk ?_) | (with_reducible refine wj_vp ?_) | (with_reducible refine cj_and ?_ ?_) | (with_reducible refine wj_exn ?_) | (with_reducible refine wj_exk ?_) | (with_reducible refine wj_eq ?_) | (with_reducible refine cj_imp ?_) | (with_reducible refine cj_all ?_) | (with_reducible intro _))
theorem wq_Y_markBound_L48 {a : L_} {KX86 : S_ → Prop} {KX862 : S_ → Prop} {KX863 : S_ → Prop} (hKX86 : ∀ (x0 : S_), KX86 x0 → KX862 x0 → KX863 x0) : ∀ (n : Nat) (m : Nat) (w0 : S_) (w1 : Int32), qY_markBound_L48 a KX86 n w0 w1 → wY_markBound_L48 a KX862 m w0 w1 → wY_markBound_L48 a KX863 m w0 w1 := by
  intro n
  induction n with
  | zero => intro m w0 w1 h; exact h.elim
  | succ n ih =>
    intro m w0 w1
    cases m with
    | zero => intro _ _; trivial
    | succ m =>
      rw [qY_markBound_L48, wY_markBound_L48, wY_markBound_L48]
      repeat' (first | (with_reducible exact hKX86 _) | (with_reducible exact ih _ _ _) | (with_reducible refine wj_vp ?_) | (with_reducible refine cj_and ?_ ?_) | (with_reducible refine wj_exn ?_) | (with_reducible refine wj_exk ?_) | (with_reducible refine wj_eq ?_) | (with_reducible refine cj_imp ?_) | (with_reducible refine cj_all ?_) | (with_reducible intro _))
theorem wq_Y_markBound {a : L_} {K : S_ → Prop} {K2 : S_ → Prop} {K3 : S_ → Prop} {r : S_} (hK : ∀ (x0 : S_), K x0 → K2 x0 → K3 x0) : qY_markBound a K r → wY_markBound a K2 r → wY_markBound a K3 r := by
  unfold qY_markBound wY_markBound
  repeat' (first | (with_reducible exact hK _) | (with_reducible refine wq_G_startWalk ?_) | (with_reducible refine wq_Y_markBound_L9 ?_ _ _ _ _) | (with_reducible refine wq_Y_markBound_L48 ?_ _ _ _ _) | (with_reducible refine wj_vp ?_) | (with_reducible refine cj_and ?_ ?_) | (with_reducible refine wj_exn ?_) | (with_reducible refine wj_exk ?_) | (with_reducible refine wj_eq ?_) | (with_reducible refine cj_imp ?_) | (with_reducible refine cj_all ?_) | (with_reducible intro _))
theorem wq_G_isVariable {a : L_} {r : S_} {K : Int32 → Prop} {K2 : Int32 → Prop} {K3 : Int32 → Prop} {p0 : Int32} (hK : ∀ (x0 : Int32), K x0 → K2 x0 → K3 x0) : qG_isVariable a r K p0 → wG_isVariable a r K2 p0 → wG_isVariable a r K3 p0 := by
  unfold qG_isVariable wG_isVariable
  repeat' (first | (with_reducible exact hK _) | (with_reducible refine wj_vp ?_) | (with_reducible refine cj_and ?_ ?_) | (with_reducible refine wj_exn ?_) | (with_reducible refine wj_exk ?_) | (with_reducible refine wj_eq ?_) | (with_reducible refine cj_imp ?_) | (with_reducible refine cj_all ?_) | (with_reducible intro _))
theorem wq_G_firstOf {a : L_} {K : Int32 → S_ → Prop} {K2 : Int32 → S_ → Prop} {K3 : Int32 → S_ → Prop} {r : S_} {p0 : Int32} (hK : ∀ (x0 : Int32) (x1 : S_), K x0 x1 → K2 x0 x1 → K3 x0 x1) : qG_firstOf a K r p0 → wG_firstOf a K2 r p0 → wG_firstOf a K3 r p0 := by
  unfold qG_firstOf wG_firstOf
  repeat' (first | (with_reducible exact hK _ _) | (with_reducible refine wq_G_settled ?_) | (with_reducible refine wj_vp ?_) | (with_reducible refine cj_and ?_ ?_) | (with_reducible refine wj_exn ?_) | (with_reducible refine wj_exk ?_) | (with_reducible refine wj_eq ?_) | (with_reducible refine cj_imp ?_) | (with_reducible refine cj_all ?_) | (with_reducible intro _))
theorem wq_Y_holdsOpen {a : L_} {r : S_} {K : Int32 → Prop} {K2 : Int32 → Prop} {K3 : Int32 → Prop} {p0 : Int32} (hK : ∀ (x0 : Int32), K x0 → K2 x0 → K3 x0) : qY_holdsOpen a r K p0 → wY_holdsOpen a r K2 p0 → wY_holdsOpen a r K3 p0 := by
  unfold qY_holdsOpen wY_holdsOpen
  repeat' (first | (with_reducible exact hK _) | (with_reducible refine wj_vp ?_) | (with_reducible refine cj_and ?_ ?_) | (with_reducible refine wj_exn ?_) | (with_reducible refine wj_exk ?_) | (with_reducible refine wj_eq ?_) | (with_reducible refine cj_imp ?_) | (with_reducible refine cj_all ?_) | (with_reducible intro _))
theorem wq_G_secondOf {a : L_} {K : Int32 → S_ → Prop} {K2 : Int32 → S_ → Prop} {K3 : Int32 → S_ → Prop} {r : S_} {p0 : Int32} (hK : ∀ (x0 : Int32) (x1 : S_), K x0 x1 → K2 x0 x1 → K3 x0 x1) : qG_secondOf a K r p0 → wG_secondOf a K2 r p0 → wG_secondOf a K3 r p0 := by
  unfold qG_secondOf wG_secondOf
  repeat' (first | (with_reducible exact hK _ _) | (with_reducible refine wq_G_settled ?_) | (with_reducible refine wj_vp ?_) | (with_reducible refine cj_and ?_ ?_) | (with_reducible refine wj_exn ?_) | (with_reducible refine wj_exk ?_) | (with_reducible refine wj_eq ?_) | (with_reducible refine cj_imp ?_) | (with_reducible refine cj_all ?_) | (with_reducible intro _))
theorem wq_Y_markOpen_J128 {a : L_} {KB17 : S_ → Int32 → Prop} {KB172 : S_ → Int32 → Prop} {KB173 : S_ → Int32 → Prop} {KX135 : S_ → Prop} {KX1352 : S_ → Prop} {KX1353 : S_ → Prop} {r : S_} {v2 : Int32} {u0 : Int32} {u1 : Int32} (hKB17 : ∀ (x0 : S_) (x1 : Int32), KB17 x0 x1 → KB172 x0 x1 → KB173 x0 x1) (hKX135 : ∀ (x0 : S_), KX135 x0 → KX1352 x0 → KX1353 x0) : qY_markOpen_J128 a KB17 KX135 r v2 u0 u1 → wY_markOpen_J128 a KB172 KX1352 r v2 u0 u1 → wY_markOpen_J128 a KB173 KX1353 r v2 u0 u1 := by
  unfold qY_markOpen_J128 wY_markOpen_J128
  repeat' (first | (with_reducible exact hKB17 _ _) | (with_reducible exact hKX135 _) | (with_reducible refine wj_vp ?_) | (with_reducible refine cj_and ?_ ?_) | (with_reducible refine wj_exn ?_) | (with_reducible refine wj_exk ?_) | (with_reducible refine wj_eq ?_) | (with_reducible refine cj_imp ?_) | (with_reducible refine cj_all ?_) | (with_reducible intro _))
theorem wq_Y_markOpen_J108 {a : L_} {KB17 : S_ → Int32 → Prop} {KB172 : S_ → Int32 → Prop} {KB173 : S_ → Int32 → Prop} {KX135 : S_ → Prop} {KX1352 : S_ → Prop} {KX1353 : S_ → Prop} {r : S_} {v2 : Int32} {v3 : Int32} {u0 : Int32} (hKB17 : ∀ (x0 : S_) (x1 : Int32), KB17 x0 x1 → KB172 x0 x1 → KB173 x0 x1) (hKX135 : ∀ (x0 : S_), KX135 x0 → KX1352 x0 → KX1353 x0) : qY_markOpen_J108 a KB17 KX135 r v2 v3 u0 → wY_markOpen_J108 a KB172 KX1352 r v2 v3 u0 → wY_markOpen_J108 a KB173 KX1353 r v2 v3 u0 := by
  unfold qY_markOpen_J108 wY_markOpen_J108
  repeat' (first | (with_reducible exact hKB17 _ _) | (with_reducible exact hKX135 _) | (with_reducible refine wq_Y_markOpen_J128 ?_ ?_) | (with_reducible refine wj_vp ?_) | (with_reducible refine cj_and ?_ ?_) | (with_reducible refine wj_exn ?_) | (with_reducible refine wj_exk ?_) | (with_reducible refine wj_eq ?_) | (with_reducible refine cj_imp ?_) | (with_reducible refine cj_all ?_) | (with_reducible intro _))
theorem wq_Y_markOpen_J103 {a : L_} {KB17 : S_ → Int32 → Prop} {KB172 : S_ → Int32 → Prop} {KB173 : S_ → Int32 → Prop} {KX135 : S_ → Prop} {KX1352 : S_ → Prop} {KX1353 : S_ → Prop} {r : S_} {v2 : Int32} {v3 : Int32} (hKB17 : ∀ (x0 : S_) (x1 : Int32), KB17 x0 x1 → KB172 x0 x1 → KB173 x0 x1) (hKX135 : ∀ (x0 : S_), KX135 x0 → KX1352 x0 → KX1353 x0) : qY_markOpen_J103 a KB17 KX135 r v2 v3 → wY_markOpen_J103 a KB172 KX1352 r v2 v3 → wY_markOpen_J103 a KB173 KX1353 r v2 v3 := by
  unfold qY_markOpen_J103 wY_markOpen_J103
  repeat' (first | (with_reducible exact hKB17 _ _) | (with_reducible exact hKX135 _) | (with_reducible refine wq_Y_markOpen_J108 ?_ ?_) | (with_reducible refine wj_vp ?_) | (with_reducible refine cj_and ?_ ?_) | (with_reducible refine wj_exn ?_) | (with_reducible refine wj_exk ?_) | (with_reducible refine wj_eq ?_) | (with_reducible refine cj_imp ?_) | (with_reducible refine cj_all ?_) | (with_reducible intro _))
theorem wq_Y_markOpen_L17 {a : L_} {KX135 : S_ → Prop} {KX1352 : S_ → Prop} {KX1353 : S_ → Prop} (hKX135 : ∀ (x0 : S_), KX135 x0 → KX1352 x0 → KX1353 x0) : ∀ (n : Nat) (m : Nat) (w0 : S_) (w1 : Int32), qY_markOpen_L17 a KX135 n w0 w1 → wY_markOpen_L17 a KX1352 m w0 w1 → wY_markOpen_L17 a KX1353 m w0 w1 := by
  intro n
  induction n with
  | zero => intro m w0 w1 h; exact h.elim
  | succ n ih =>
    intro m w0 w1
    cases m with
    | zero => intro _ _; trivial
    | succ m =>
      rw [qY_markOpen_L17, wY_markOpen_L17, wY_markOpen_L17]
      repeat' (first | (with_reducible exact hKX135 _) | (with_reducible exact ih _ _ _) | (with_reducible refine wq_G_isVariable ?_) | (with_reducible refine wq_G_firstOf ?_) | (with_reducible refine wq_Y_holdsOpen ?_) | (with_reducible refine wq_Y_markOpen_J103 ?_ ?_) | (with_reducible refine wq_G_secondOf ?_) | (with_reducible refine wq_Y_markOpen_J108 ?_ ?_) | (with_reducible refine wj_vp ?_) | (with_reducible refine cj_and ?_ ?_) | (with_reducible refine wj_exn ?_) | (with_reducible refine wj_exk ?_) | (with_reducible refine wj_eq ?_) | (with_reducible refine cj_imp ?_) | (with_reducible refine cj_all ?_) | (with_reducible intro _))
theorem wq_Y_markOpen {a : L_} {K : S_ → Prop} {K2 : S_ → Prop} {K3 : S_ → Prop} {r : S_} {p0 : Int32} (hK : ∀ (x0 : S_), K x0 → K2 x0 → K3 x0) : qY_markOpen a K r p0 → wY_markOpen a K2 r p0 → wY_markOpen a K3 r p0 := by
  unfold qY_markOpen wY_markOpen
  repeat' (first | (with_reducible exact hK _) | (with_reducible refine wq_G_startWalk ?_) | (with_reducible refine wq_G_walk ?_) | (with_reducible refine wq_Y_markOpen_L17 ?_ _ _ _ _) | (with_reducible refine wj_vp ?_) | (with_reducible refine cj_and ?_ ?_) | (with_reducible refine wj_exn ?_) | (with_reducible refine wj_exk ?_) | (with_reducible refine wj_eq ?_) | (with_reducible refine cj_imp ?_) | (with_reducible refine cj_all ?_) | (with_reducible intro _))
theorem wq_Y_gatherAsked_J40 {a : L_} {KB9 : S_ → Int32 → Int32 → Prop} {KB92 : S_ → Int32 → Int32 → Prop} {KB93 : S_ → Int32 → Int32 → Prop} {KX46 : S_ → Int32 → Prop} {KX462 : S_ → Int32 → Prop} {KX463 : S_ → Int32 → Prop} {r : S_} {v1 : Int32} {v2 : Int32} (hKB9 : ∀ (x0 : S_) (x1 : Int32) (x2 : Int32), KB9 x0 x1 x2 → KB92 x0 x1 x2 → KB93 x0 x1 x2) (hKX46 : ∀ (x0 : S_) (x1 : Int32), KX46 x0 x1 → KX462 x0 x1 → KX463 x0 x1) : qY_gatherAsked_J40 a KB9 KX46 r v1 v2 → wY_gatherAsked_J40 a KB92 KX462 r v1 v2 → wY_gatherAsked_J40 a KB93 KX463 r v1 v2 := by
  unfold qY_gatherAsked_J40 wY_gatherAsked_J40
  repeat' (first | (with_reducible exact hKB9 _ _ _) | (with_reducible exact hKX46 _ _) | (with_reducible refine wj_vp ?_) | (with_reducible refine cj_and ?_ ?_) | (with_reducible refine wj_exn ?_) | (with_reducible refine wj_exk ?_) | (with_reducible refine wj_eq ?_) | (with_reducible refine cj_imp ?_) | (with_reducible refine cj_all ?_) | (with_reducible intro _))
theorem wq_Y_gatherAsked_L9 {a : L_} {KX46 : S_ → Int32 → Prop} {KX462 : S_ → Int32 → Prop} {KX463 : S_ → Int32 → Prop} (hKX46 : ∀ (x0 : S_) (x1 : Int32), KX46 x0 x1 → KX462 x0 x1 → KX463 x0 x1) : ∀ (n : Nat) (m : Nat) (w0 : S_) (w1 : Int32) (w2 : Int32), qY_gatherAsked_L9 a KX46 n w0 w1 w2 → wY_gatherAsked_L9 a KX462 m w0 w1 w2 → wY_gatherAsked_L9 a KX463 m w0 w1 w2 := by
  intro n
  induction n with
  | zero => intro m w0 w1 w2 h; exact h.elim
  | succ n ih =>
    intro m w0 w1 w2
    cases m with
    | zero => intro _ _; trivial
    | succ m =>
      rw [qY_gatherAsked_L9, wY_gatherAsked_L9, wY_gatherAsked_L9]
      repeat' (first | (with_reducible exact hKX46 _ _) | (with_reducible exact ih _ _ _ _) | (with_reducible refine wq_Y_gatherAsked_J40 ?_ ?_) | (with_reducible refine wq_G_walk ?_) | (with_reducible refine wj_vp ?_) | (with_reducible refine cj_and ?_ ?_) | (with_reducible refine wj_exn ?_) | (with_reducible refine wj_exk ?_) | (with_reducible refine wj_eq ?_) | (with_reducible refine cj_imp ?_) | (with_reducible refine cj_all ?_) | (with_reducible intro _))
theorem wq_Y_gatherAsked_L48 {a : L_} {KX83 : S_ → Int32 → Prop} {KX832 : S_ → Int32 → Prop} {KX833 : S_ → Int32 → Prop} (hKX83 : ∀ (x0 : S_) (x1 : Int32), KX83 x0 x1 → KX832 x0 x1 → KX833 x0 x1) : ∀ (n : Nat) (m : Nat) (w0 : S_) (w1 : Int32) (w2 : Int32), qY_gatherAsked_L48 a KX83 n w0 w1 w2 → wY_gatherAsked_L48 a KX832 m w0 w1 w2 → wY_gatherAsked_L48 a KX833 m w0 w1 w2 := by
  intro n
  induction n with
  | zero => intro m w0 w1 w2 h; exact h.elim
  | succ n ih =>
    intro m w0 w1 w2
    cases m with
    | zero => intro _ _; trivial
    | succ m =>
      rw [qY_gatherAsked_L48, wY_gatherAsked_L48, wY_gatherAsked_L48]
      repeat' (first | (with_reducible exact hKX83 _ _) | (with_reducible exact ih _ _ _ _) | (with_reducible refine wj_vp ?_) | (with_reducible refine cj_and ?_ ?_) | (with_reducible refine wj_exn ?_) | (with_reducible refine wj_exk ?_) | (with_reducible refine wj_eq ?_) | (with_reducible refine cj_imp ?_) | (with_reducible refine cj_all ?_) | (with_reducible intro _))
theorem wq_Y_gatherAsked_J146 {a : L_} {KB85 : S_ → Int32 → Prop} {KB852 : S_ → Int32 → Prop} {KB853 : S_ → Int32 → Prop} {KX152 : S_ → Prop} {KX1522 : S_ → Prop} {KX1523 : S_ → Prop} {r : S_} {v2 : Int32} (hKB85 : ∀ (x0 : S_) (x1 : Int32), KB85 x0 x1 → KB852 x0 x1 → KB853 x0 x1) (hKX152 : ∀ (x0 : S_), KX152 x0 → KX1522 x0 → KX1523 x0) : qY_gatherAsked_J146 a KB85 KX152 r v2 → wY_gatherAsked_J146 a KB852 KX1522 r v2 → wY_gatherAsked_J146 a KB853 KX1523 r v2 := by
  unfold qY_gatherAsked_J146 wY_gatherAsked_J146
  repeat' (first | (with_reducible exact hKB85 _ _) | (with_reducible exact hKX152 _) | (with_reducible refine wj_vp ?_) | (with_reducible refine cj_and ?_ ?_) | (with_reducible refine wj_exn ?_) | (with_reducible refine wj_exk ?_) | (with_reducible refine wj_eq ?_) | (with_reducible refine cj_imp ?_) | (with_reducible refine cj_all ?_) | (with_reducible intro _))
theorem wq_Y_gatherAsked_L85 {a : L_} {KX152 : S_ → Prop} {KX1522 : S_ → Prop} {KX1523 : S_ → Prop} (hKX152 : ∀ (x0 : S_), KX152 x0 → KX1522 x0 → KX1523 x0) : ∀ (n : Nat) (m : Nat) (w0 : S_) (w1 : Int32), qY_gatherAsked_L85 a KX152 n w0 w1 → wY_gatherAsked_L85 a KX1522 m w0 w1 → wY_gatherAsked_L85 a KX1523 m w0 w1 := by
  intro n
  induction n with
  | zero => intro m w0 w1 h; exact h.elim
  | succ n ih =>
    intro m w0 w1
    cases m with
    | zero => intro _ _; trivial
    | succ m =>
      rw [qY_gatherAsked_L85, wY_gatherAsked_L85, wY_gatherAsked_L85]
      repeat' (first | (with_reducible exact hKX152 _) | (with_reducible exact ih _ _ _) | (with_reducible refine wq_Y_gatherAsked_J146 ?_ ?_) | (with_reducible refine wq_G_settled ?_) | (with_reducible refine wj_vp ?_) | (with_reducible refine cj_and ?_ ?_) | (with_reducible refine wj_exn ?_) | (with_reducible refine wj_exk ?_) | (with_reducible refine wj_eq ?_) | (with_reducible refine cj_imp ?_) | (with_reducible refine cj_all ?_) | (with_reducible intro _))
theorem wq_Y_gatherAsked {a : L_} {K : S_ → Prop} {K2 : S_ → Prop} {K3 : S_ → Prop} {r : S_} {p0 : Int32} (hK : ∀ (x0 : S_), K x0 → K2 x0 → K3 x0) : qY_gatherAsked a K r p0 → wY_gatherAsked a K2 r p0 → wY_gatherAsked a K3 r p0 := by
  unfold qY_gatherAsked wY_gatherAsked
  repeat' (first | (with_reducible exact hK _) | (with_reducible refine wq_G_startWalk ?_) | (with_reducible refine wq_Y_gatherAsked_L9 ?_ _ _ _ _ _) | (with_reducible refine wq_Y_gatherAsked_L48 ?_ _ _ _ _ _) | (with_reducible refine wq_Y_gatherAsked_L85 ?_ _ _ _ _) | (with_reducible refine wj_vp ?_) | (with_reducible refine cj_and ?_ ?_) | (with_reducible refine wj_exn ?_) | (with_reducible refine wj_exk ?_) | (with_reducible refine wj_eq ?_) | (with_reducible refine cj_imp ?_) | (with_reducible refine cj_all ?_) | (with_reducible intro _))
theorem wq_J_bitCount {a : L_} {r : S_} {K : Int32 → Prop} {K2 : Int32 → Prop} {K3 : Int32 → Prop} {p0 : Int32} (hK : ∀ (x0 : Int32), K x0 → K2 x0 → K3 x0) : qJ_bitCount a r K p0 → wJ_bitCount a r K2 p0 → wJ_bitCount a r K3 p0 := by
  unfold qJ_bitCount wJ_bitCount
  repeat' (first | (with_reducible exact hK _) | (with_reducible refine wj_vp ?_) | (with_reducible refine cj_and ?_ ?_) | (with_reducible refine wj_exn ?_) | (with_reducible refine wj_exk ?_) | (with_reducible refine wj_eq ?_) | (with_reducible refine cj_imp ?_) | (with_reducible refine cj_all ?_) | (with_reducible intro _))
theorem wq_Y_settleVariable {a : L_} {K : Int32 → S_ → Prop} {K2 : Int32 → S_ → Prop} {K3 : Int32 → S_ → Prop} {r : S_} {p0 : Int32} {p1 : Int32} (hK : ∀ (x0 : Int32) (x1 : S_), K x0 x1 → K2 x0 x1 → K3 x0 x1) : qY_settleVariable a K r p0 p1 → wY_settleVariable a K2 r p0 p1 → wY_settleVariable a K3 r p0 p1 := by
  unfold qY_settleVariable wY_settleVariable
  repeat' (first | (with_reducible exact hK _ _) | (with_reducible refine wq_K_lowest ?_) | (with_reducible refine wq_J_bitCount ?_) | (with_reducible refine wj_vp ?_) | (with_reducible refine cj_and ?_ ?_) | (with_reducible refine wj_exn ?_) | (with_reducible refine wj_exk ?_) | (with_reducible refine wj_eq ?_) | (with_reducible refine cj_imp ?_) | (with_reducible refine cj_all ?_) | (with_reducible intro _))
theorem wq_Y_handDown_J82 {a : L_} {K : S_ → Prop} {K2 : S_ → Prop} {K3 : S_ → Prop} {r : S_} {v2 : Int32} {v3 : Int32} {v5 : Int32} (hK : ∀ (x0 : S_), K x0 → K2 x0 → K3 x0) : qY_handDown_J82 a K r v2 v3 v5 → wY_handDown_J82 a K2 r v2 v3 v5 → wY_handDown_J82 a K3 r v2 v3 v5 := by
  unfold qY_handDown_J82 wY_handDown_J82
  repeat' (first | (with_reducible exact hK _) | (with_reducible refine wq_K_joined ?_) | (with_reducible refine wj_vp ?_) | (with_reducible refine cj_and ?_ ?_) | (with_reducible refine wj_exn ?_) | (with_reducible refine wj_exk ?_) | (with_reducible refine wj_eq ?_) | (with_reducible refine cj_imp ?_) | (with_reducible refine cj_all ?_) | (with_reducible intro _))
theorem wq_Y_handDown_J27 {a : L_} {K : S_ → Prop} {K2 : S_ → Prop} {K3 : S_ → Prop} {r : S_} {v1 : Int32} {v2 : Int32} {v3 : Int32} (hK : ∀ (x0 : S_), K x0 → K2 x0 → K3 x0) : qY_handDown_J27 a K r v1 v2 v3 → wY_handDown_J27 a K2 r v1 v2 v3 → wY_handDown_J27 a K3 r v1 v2 v3 := by
  unfold qY_handDown_J27 wY_handDown_J27
  repeat' (first | (with_reducible exact hK _) | (with_reducible refine wq_G_firstOf ?_) | (with_reducible refine wq_G_secondOf ?_) | (with_reducible refine wq_Y_handDown_J82 ?_) | (with_reducible refine wq_K_joined ?_) | (with_reducible refine wj_vp ?_) | (with_reducible refine cj_and ?_ ?_) | (with_reducible refine wj_exn ?_) | (with_reducible refine wj_exk ?_) | (with_reducible refine wj_eq ?_) | (with_reducible refine cj_imp ?_) | (with_reducible refine cj_all ?_) | (with_reducible intro _))
theorem wq_Y_handDown {a : L_} {K : S_ → Prop} {K2 : S_ → Prop} {K3 : S_ → Prop} {r : S_} {p0 : Int32} {p1 : Int32} (hK : ∀ (x0 : S_), K x0 → K2 x0 → K3 x0) : qY_handDown a K r p0 p1 → wY_handDown a K2 r p0 p1 → wY_handDown a K3 r p0 p1 := by
  unfold qY_handDown wY_handDown
  repeat' (first | (with_reducible exact hK _) | (with_reducible refine wq_K_haveInstances ?_) | (with_reducible refine wq_Y_handDown_J27 ?_) | (with_reducible refine wj_vp ?_) | (with_reducible refine cj_and ?_ ?_) | (with_reducible refine wj_exn ?_) | (with_reducible refine wj_exk ?_) | (with_reducible refine wj_eq ?_) | (with_reducible refine cj_imp ?_) | (with_reducible refine cj_all ?_) | (with_reducible intro _))
theorem wq_Y_settle_J120 {a : L_} {KB37 : S_ → Int32 → Int32 → Prop} {KB372 : S_ → Int32 → Int32 → Prop} {KB373 : S_ → Int32 → Int32 → Prop} {KX126 : S_ → Int32 → Prop} {KX1262 : S_ → Int32 → Prop} {KX1263 : S_ → Int32 → Prop} {r : S_} {v3 : Int32} {v4 : Int32} (hKB37 : ∀ (x0 : S_) (x1 : Int32) (x2 : Int32), KB37 x0 x1 x2 → KB372 x0 x1 x2 → KB373 x0 x1 x2) (hKX126 : ∀ (x0 : S_) (x1 : Int32), KX126 x0 x1 → KX1262 x0 x1 → KX1263 x0 x1) : qY_settle_J120 a KB37 KX126 r v3 v4 → wY_settle_J120 a KB372 KX1262 r v3 v4 → wY_settle_J120 a KB373 KX1263 r v3 v4 := by
  unfold qY_settle_J120 wY_settle_J120
  repeat' (first | (with_reducible exact hKB37 _ _ _) | (with_reducible exact hKX126 _ _) | (with_reducible refine wj_vp ?_) | (with_reducible refine cj_and ?_ ?_) | (with_reducible refine wj_exn ?_) | (with_reducible refine wj_exk ?_) | (with_reducible refine wj_eq ?_) | (with_reducible refine cj_imp ?_) | (with_reducible refine cj_all ?_) | (with_reducible intro _))
theorem wq_Y_settle_L37 {a : L_} {KX126 : S_ → Int32 → Prop} {KX1262 : S_ → Int32 → Prop} {KX1263 : S_ → Int32 → Prop} (hKX126 : ∀ (x0 : S_) (x1 : Int32), KX126 x0 x1 → KX1262 x0 x1 → KX1263 x0 x1) : ∀ (n : Nat) (m : Nat) (w0 : S_) (w1 : Int32) (w2 : Int32), qY_settle_L37 a KX126 n w0 w1 w2 → wY_settle_L37 a KX1262 m w0 w1 w2 → wY_settle_L37 a KX1263 m w0 w1 w2 := by
  intro n
  induction n with
  | zero => intro m w0 w1 w2 h; exact h.elim
  | succ n ih =>
    intro m w0 w1 w2
    cases m with
    | zero => intro _ _; trivial
    | succ m =>
      rw [qY_settle_L37, wY_settle_L37, wY_settle_L37]
      repeat' (first | (with_reducible exact hKX126 _ _) | (with_reducible exact ih _ _ _ _) | (with_reducible refine wq_G_isVariable ?_) | (with_reducible refine wq_Y_handDown ?_) | (with_reducible refine wq_Y_settle_J120 ?_ ?_) | (with_reducible refine wq_Y_settleVariable ?_) | (with_reducible refine wj_vp ?_) | (with_reducible refine cj_and ?_ ?_) | (with_reducible refine wj_exn ?_) | (with_reducible refine wj_exk ?_) | (with_reducible refine wj_eq ?_) | (with_reducible refine cj_imp ?_) | (with_reducible refine cj_all ?_) | (with_reducible intro _))
theorem wq_Y_settle {a : L_} {K : Int32 → S_ → Prop} {K2 : Int32 → S_ → Prop} {K3 : Int32 → S_ → Prop} {r : S_} {p0 : Int32} {p1 : Int32} (hK : ∀ (x0 : Int32) (x1 : S_), K x0 x1 → K2 x0 x1 → K3 x0 x1) : qY_settle a K r p0 p1 → wY_settle a K2 r p0 p1 → wY_settle a K3 r p0 p1 := by
  unfold qY_settle wY_settle
  repeat' (first | (with_reducible exact hK _ _) | (with_reducible refine wq_Y_markBound ?_) | (with_reducible refine wq_Y_markOpen ?_) | (with_reducible refine wq_Y_gatherAsked ?_) | (with_reducible refine wq_Y_settle_L37 ?_ _ _ _ _ _) | (with_reducible refine wj_vp ?_) | (with_reducible refine cj_and ?_ ?_) | (with_reducible refine wj_exn ?_) | (with_reducible refine wj_exk ?_) | (with_reducible refine wj_eq ?_) | (with_reducible refine cj_imp ?_) | (with_reducible refine cj_all ?_) | (with_reducible intro _))
theorem wq_G_clear {a : L_} {K : S_ → Prop} {K2 : S_ → Prop} {K3 : S_ → Prop} {r : S_} (hK : ∀ (x0 : S_), K x0 → K2 x0 → K3 x0) : qG_clear a K r → wG_clear a K2 r → wG_clear a K3 r := by
  unfold qG_clear wG_clear
  repeat' (first | (with_reducible exact hK _) | (with_reducible refine wj_vp ?_) | (with_reducible refine cj_and ?_ ?_) | (with_reducible refine wj_exn ?_) | (with_reducible refine wj_exk ?_) | (with_reducible refine wj_eq ?_) | (with_reducible refine cj_imp ?_) | (with_reducible refine cj_all ?_) | (with_reducible intro _))
theorem wq_G_pushPair {a : L_} {K : S_ → Prop} {K2 : S_ → Prop} {K3 : S_ → Prop} {r : S_} {p0 : Int32} {p1 : Int32} (hK : ∀ (x0 : S_), K x0 → K2 x0 → K3 x0) : qG_pushPair a K r p0 p1 → wG_pushPair a K2 r p0 p1 → wG_pushPair a K3 r p0 p1 := by
  unfold qG_pushPair wG_pushPair
  repeat' (first | (with_reducible exact hK _) | (with_reducible refine wq_G_push ?_) | (with_reducible refine wj_vp ?_) | (with_reducible refine cj_and ?_ ?_) | (with_reducible refine wj_exn ?_) | (with_reducible refine wj_exk ?_) | (with_reducible refine wj_eq ?_) | (with_reducible refine cj_imp ?_) | (with_reducible refine cj_all ?_) | (with_reducible intro _))
theorem wq_G_move {a : L_} {K : S_ → Prop} {K2 : S_ → Prop} {K3 : S_ → Prop} {r : S_} {p0 : Int32} {p1 : Int32} (hK : ∀ (x0 : S_), K x0 → K2 x0 → K3 x0) : qG_move a K r p0 p1 → wG_move a K2 r p0 p1 → wG_move a K3 r p0 p1 := by
  unfold qG_move wG_move
  repeat' (first | (with_reducible exact hK _) | (with_reducible refine wj_vp ?_) | (with_reducible refine cj_and ?_ ?_) | (with_reducible refine wj_exn ?_) | (with_reducible refine wj_exk ?_) | (with_reducible refine wj_eq ?_) | (with_reducible refine cj_imp ?_) | (with_reducible refine cj_all ?_) | (with_reducible intro _))
theorem wq_G_unifyTops {a : L_} {K : S_ → Prop} {K2 : S_ → Prop} {K3 : S_ → Prop} {r : S_} {p0 : Int32} {p1 : Int32} (hK : ∀ (x0 : S_), K x0 → K2 x0 → K3 x0) : qG_unifyTops a K r p0 p1 → wG_unifyTops a K2 r p0 p1 → wG_unifyTops a K3 r p0 p1 := by
  unfold qG_unifyTops wG_unifyTops
  repeat' (first | (with_reducible exact hK _) | (with_reducible refine wq_G_isVariable ?_) | (with_reducible refine wq_G_pushPair ?_) | (with_reducible refine wq_G_move ?_) | (with_reducible refine wj_vp ?_) | (with_reducible refine cj_and ?_ ?_) | (with_reducible refine wj_exn ?_) | (with_reducible refine wj_exk ?_) | (with_reducible refine wj_eq ?_) | (with_reducible refine cj_imp ?_) | (with_reducible refine cj_all ?_) | (with_reducible intro _))
theorem wq_G_unify_L13 {a : L_} {KX75 : S_ → Prop} {KX752 : S_ → Prop} {KX753 : S_ → Prop} (hKX75 : ∀ (x0 : S_), KX75 x0 → KX752 x0 → KX753 x0) : ∀ (n : Nat) (m : Nat) (w0 : S_) (w1 : Int32), qG_unify_L13 a KX75 n w0 w1 → wG_unify_L13 a KX752 m w0 w1 → wG_unify_L13 a KX753 m w0 w1 := by
  intro n
  induction n with
  | zero => intro m w0 w1 h; exact h.elim
  | succ n ih =>
    intro m w0 w1
    cases m with
    | zero => intro _ _; trivial
    | succ m =>
      rw [qG_unify_L13, wG_unify_L13, wG_unify_L13]
      repeat' (first | (with_reducible exact hKX75 _) | (with_reducible exact ih _ _ _) | (with_reducible refine wq_G_settled ?_) | (with_reducible refine wq_G_unifyTops ?_) | (with_reducible refine wj_vp ?_) | (with_reducible refine cj_and ?_ ?_) | (with_reducible refine wj_exn ?_) | (with_reducible refine wj_exk ?_) | (with_reducible refine wj_eq ?_) | (with_reducible refine cj_imp ?_) | (with_reducible refine cj_all ?_) | (with_reducible intro _))
theorem wq_G_unify {a : L_} {K : S_ → Prop} {K2 : S_ → Prop} {K3 : S_ → Prop} {r : S_} {p0 : Int32} {p1 : Int32} (hK : ∀ (x0 : S_), K x0 → K2 x0 → K3 x0) : qG_unify a K r p0 p1 → wG_unify a K2 r p0 p1 → wG_unify a K3 r p0 p1 := by
  unfold qG_unify wG_unify
  repeat' (first | (with_reducible exact hK _) | (with_reducible refine wq_G_pushPair ?_) | (with_reducible refine wq_G_unify_L13 ?_ _ _ _ _) | (with_reducible refine wj_vp ?_) | (with_reducible refine cj_and ?_ ?_) | (with_reducible refine wj_exn ?_) | (with_reducible refine wj_exk ?_) | (with_reducible refine wj_eq ?_) | (with_reducible refine cj_imp ?_) | (with_reducible refine cj_all ?_) | (with_reducible intro _))
theorem wq_G_valueOf {a : L_} {K : Int32 → S_ → Prop} {K2 : Int32 → S_ → Prop} {K3 : Int32 → S_ → Prop} {r : S_} {p0 : Int32} (hK : ∀ (x0 : Int32) (x1 : S_), K x0 x1 → K2 x0 x1 → K3 x0 x1) : qG_valueOf a K r p0 → wG_valueOf a K2 r p0 → wG_valueOf a K3 r p0 := by
  unfold qG_valueOf wG_valueOf
  repeat' (first | (with_reducible exact hK _ _) | (with_reducible refine wq_G_settled ?_) | (with_reducible refine wj_vp ?_) | (with_reducible refine cj_and ?_ ?_) | (with_reducible refine wj_exn ?_) | (with_reducible refine wj_exk ?_) | (with_reducible refine wj_eq ?_) | (with_reducible refine cj_imp ?_) | (with_reducible refine cj_all ?_) | (with_reducible intro _))
theorem wq_G_comesLater {a : L_} {r : S_} {K : Int32 → Prop} {K2 : Int32 → Prop} {K3 : Int32 → Prop} {p0 : Int32} {p1 : Int32} (hK : ∀ (x0 : Int32), K x0 → K2 x0 → K3 x0) : qG_comesLater a r K p0 p1 → wG_comesLater a r K2 p0 p1 → wG_comesLater a r K3 p0 p1 := by
  unfold qG_comesLater wG_comesLater
  repeat' (first | (with_reducible exact hK _) | (with_reducible refine wj_vp ?_) | (with_reducible refine cj_and ?_ ?_) | (with_reducible refine wj_exn ?_) | (with_reducible refine wj_exk ?_) | (with_reducible refine wj_eq ?_) | (with_reducible refine cj_imp ?_) | (with_reducible refine cj_all ?_) | (with_reducible intro _))
theorem wq_G_isCircular_L6 {a : L_} {KX25 : S_ → Prop} {KX252 : S_ → Prop} {KX253 : S_ → Prop} (hKX25 : ∀ (x0 : S_), KX25 x0 → KX252 x0 → KX253 x0) : ∀ (n : Nat) (m : Nat) (w0 : S_) (w1 : Int32), qG_isCircular_L6 a KX25 n w0 w1 → wG_isCircular_L6 a KX252 m w0 w1 → wG_isCircular_L6 a KX253 m w0 w1 := by
  intro n
  induction n with
  | zero => intro m w0 w1 h; exact h.elim
  | succ n ih =>
    intro m w0 w1
    cases m with
    | zero => intro _ _; trivial
    | succ m =>
      rw [qG_isCircular_L6, wG_isCircular_L6, wG_isCircular_L6]
      repeat' (first | (with_reducible exact hKX25 _) | (with_reducible exact ih _ _ _) | (with_reducible refine wq_G_walk ?_) | (with_reducible refine wj_vp ?_) | (with_reducible refine cj_and ?_ ?_) | (with_reducible refine wj_exn ?_) | (with_reducible refine wj_exk ?_) | (with_reducible refine wj_eq ?_) | (with_reducible refine cj_imp ?_) | (with_reducible refine cj_all ?_) | (with_reducible intro _))
theorem wq_G_isCircular_L27 {a : L_} {KX53 : S_ → Prop} {KX532 : S_ → Prop} {KX533 : S_ → Prop} (hKX53 : ∀ (x0 : S_), KX53 x0 → KX532 x0 → KX533 x0) : ∀ (n : Nat) (m : Nat) (w0 : S_) (w1 : Int32), qG_isCircular_L27 a KX53 n w0 w1 → wG_isCircular_L27 a KX532 m w0 w1 → wG_isCircular_L27 a KX533 m w0 w1 := by
  intro n
  induction n with
  | zero => intro m w0 w1 h; exact h.elim
  | succ n ih =>
    intro m w0 w1
    cases m with
    | zero => intro _ _; trivial
    | succ m =>
      rw [qG_isCircular_L27, wG_isCircular_L27, wG_isCircular_L27]
      repeat' (first | (with_reducible exact hKX53 _) | (with_reducible exact ih _ _ _) | (with_reducible refine wj_vp ?_) | (with_reducible refine cj_and ?_ ?_) | (with_reducible refine wj_exn ?_) | (with_reducible refine wj_exk ?_) | (with_reducible refine wj_eq ?_) | (with_reducible refine cj_imp ?_) | (with_reducible refine cj_all ?_) | (with_reducible intro _))
theorem wq_G_isCircular_L55 {a : L_} {KX99 : S_ → Prop} {KX992 : S_ → Prop} {KX993 : S_ → Prop} {KX107 : S_ → Prop} {KX1072 : S_ → Prop} {KX1073 : S_ → Prop} (hKX99 : ∀ (x0 : S_), KX99 x0 → KX992 x0 → KX993 x0) (hKX107 : ∀ (x0 : S_), KX107 x0 → KX1072 x0 → KX1073 x0) : ∀ (n : Nat) (m : Nat) (w0 : S_) (w1 : Int32), qG_isCircular_L55 a KX99 KX107 n w0 w1 → wG_isCircular_L55 a KX992 KX1072 m w0 w1 → wG_isCircular_L55 a KX993 KX1073 m w0 w1 := by
  intro n
  induction n with
  | zero => intro m w0 w1 h; exact h.elim
  | succ n ih =>
    intro m w0 w1
    cases m with
    | zero => intro _ _; trivial
    | succ m =>
      rw [qG_isCircular_L55, wG_isCircular_L55, wG_isCircular_L55]
      repeat' (first | (with_reducible exact hKX99 _) | (with_reducible exact hKX107 _) | (with_reducible exact ih _ _ _) | (with_reducible refine wq_G_firstOf ?_) | (with_reducible refine wq_G_comesLater ?_) | (with_reducible refine wq_G_secondOf ?_) | (with_reducible refine wj_vp ?_) | (with_reducible refine cj_and ?_ ?_) | (with_reducible refine wj_exn ?_) | (with_reducible refine wj_exk ?_) | (with_reducible refine wj_eq ?_) | (with_reducible refine cj_imp ?_) | (with_reducible refine cj_all ?_) | (with_reducible intro _))
theorem wq_G_isCircular {a : L_} {K : Int32 → S_ → Prop} {K2 : Int32 → S_ → Prop} {K3 : Int32 → S_ → Prop} {r : S_} (hK : ∀ (x0 : Int32) (x1 : S_), K x0 x1 → K2 x0 x1 → K3 x0 x1) : qG_isCircular a K r → wG_isCircular a K2 r → wG_isCircular a K3 r := by
  unfold qG_isCircular wG_isCircular
  repeat' (first | (with_reducible exact hK _ _) | (with_reducible refine wq_G_startWalk ?_) | (with_reducible refine wq_G_isCircular_L6 ?_ _ _ _ _) | (with_reducible refine wq_G_isCircular_L27 ?_ _ _ _ _) | (with_reducible refine wq_G_isCircular_L55 ?_ ?_ _ _ _ _) | (with_reducible refine wj_vp ?_) | (with_reducible refine cj_and ?_ ?_) | (with_reducible refine wj_exn ?_) | (with_reducible refine wj_exk ?_) | (with_reducible refine wj_eq ?_) | (with_reducible refine cj_imp ?_) | (with_reducible refine cj_all ?_) | (with_reducible intro _))
theorem wq_D_addBuilt {a : L_} {K : S_ → Prop} {K2 : S_ → Prop} {K3 : S_ → Prop} {r : S_} {p0 : Int32} {p1 : Int32} {p2 : Int32} (hK : ∀ (x0 : S_), K x0 → K2 x0 → K3 x0) : qD_addBuilt a K r p0 p1 p2 → wD_addBuilt a K2 r p0 p1 p2 → wD_addBuilt a K3 r p0 p1 p2 := by
  unfold qD_addBuilt wD_addBuilt
  repeat' (first | (with_reducible exact hK _) | (with_reducible refine wq_D_sizeOf ?_) | (with_reducible refine wj_vp ?_) | (with_reducible refine cj_and ?_ ?_) | (with_reducible refine wj_exn ?_) | (with_reducible refine wj_exk ?_) | (with_reducible refine wj_eq ?_) | (with_reducible refine cj_imp ?_) | (with_reducible refine cj_all ?_) | (with_reducible intro _))
theorem wq_D_addVariable {a : L_} {K : S_ → Prop} {K2 : S_ → Prop} {K3 : S_ → Prop} {r : S_} {p0 : Int32} (hK : ∀ (x0 : S_), K x0 → K2 x0 → K3 x0) : qD_addVariable a K r p0 → wD_addVariable a K2 r p0 → wD_addVariable a K3 r p0 := by
  unfold qD_addVariable wD_addVariable
  repeat' (first | (with_reducible exact hK _) | (with_reducible refine wq_J_bitCount ?_) | (with_reducible refine wq_D_addBuilt ?_) | (with_reducible refine wj_vp ?_) | (with_reducible refine cj_and ?_ ?_) | (with_reducible refine wj_exn ?_) | (with_reducible refine wj_exk ?_) | (with_reducible refine wj_eq ?_) | (with_reducible refine cj_imp ?_) | (with_reducible refine cj_all ?_) | (with_reducible intro _))
theorem wq_D_nodes {a : L_} {r : S_} {K : Int32 → Prop} {K2 : Int32 → Prop} {K3 : Int32 → Prop} (hK : ∀ (x0 : Int32), K x0 → K2 x0 → K3 x0) : qD_nodes a r K → wD_nodes a r K2 → wD_nodes a r K3 := by
  unfold qD_nodes wD_nodes
  repeat' (first | (with_reducible exact hK _) | (with_reducible refine wj_vp ?_) | (with_reducible refine cj_and ?_ ?_) | (with_reducible refine wj_exn ?_) | (with_reducible refine wj_exk ?_) | (with_reducible refine wj_eq ?_) | (with_reducible refine cj_imp ?_) | (with_reducible refine cj_all ?_) | (with_reducible intro _))
theorem wq_M_markStatic_J23 {a : L_} {KB2 : S_ → Int32 → Int32 → Prop} {KB22 : S_ → Int32 → Int32 → Prop} {KB23 : S_ → Int32 → Int32 → Prop} {KX30 : S_ → Int32 → Prop} {KX302 : S_ → Int32 → Prop} {KX303 : S_ → Int32 → Prop} {r : S_} {v1 : Int32} {v2 : Int32} {u0 : Int32} {u1 : Int32} (hKB2 : ∀ (x0 : S_) (x1 : Int32) (x2 : Int32), KB2 x0 x1 x2 → KB22 x0 x1 x2 → KB23 x0 x1 x2) (hKX30 : ∀ (x0 : S_) (x1 : Int32), KX30 x0 x1 → KX302 x0 x1 → KX303 x0 x1) : qM_markStatic_J23 a KB2 KX30 r v1 v2 u0 u1 → wM_markStatic_J23 a KB22 KX302 r v1 v2 u0 u1 → wM_markStatic_J23 a KB23 KX303 r v1 v2 u0 u1 := by
  unfold qM_markStatic_J23 wM_markStatic_J23
  repeat' (first | (with_reducible exact hKB2 _ _ _) | (with_reducible exact hKX30 _ _) | (with_reducible refine wj_vp ?_) | (with_reducible refine cj_and ?_ ?_) | (with_reducible refine wj_exn ?_) | (with_reducible refine wj_exk ?_) | (with_reducible refine wj_eq ?_) | (with_reducible refine cj_imp ?_) | (with_reducible refine cj_all ?_) | (with_reducible intro _))
theorem wq_M_markStatic_L2 {a : L_} {KX30 : S_ → Int32 → Prop} {KX302 : S_ → Int32 → Prop} {KX303 : S_ → Int32 → Prop} (hKX30 : ∀ (x0 : S_) (x1 : Int32), KX30 x0 x1 → KX302 x0 x1 → KX303 x0 x1) : ∀ (n : Nat) (m : Nat) (w0 : S_) (w1 : Int32) (w2 : Int32), qM_markStatic_L2 a KX30 n w0 w1 w2 → wM_markStatic_L2 a KX302 m w0 w1 w2 → wM_markStatic_L2 a KX303 m w0 w1 w2 := by
  intro n
  induction n with
  | zero => intro m w0 w1 w2 h; exact h.elim
  | succ n ih =>
    intro m w0 w1 w2
    cases m with
    | zero => intro _ _; trivial
    | succ m =>
      rw [qM_markStatic_L2, wM_markStatic_L2, wM_markStatic_L2]
      repeat' (first | (with_reducible exact hKX30 _ _) | (with_reducible exact ih _ _ _ _) | (with_reducible refine wq_M_markStatic_J23 ?_ ?_) | (with_reducible refine wj_vp ?_) | (with_reducible refine cj_and ?_ ?_) | (with_reducible refine wj_exn ?_) | (with_reducible refine wj_exk ?_) | (with_reducible refine wj_eq ?_) | (with_reducible refine cj_imp ?_) | (with_reducible refine cj_all ?_) | (with_reducible intro _))
theorem wq_M_markStatic_J96 {a : L_} {KB32 : S_ → Int32 → Prop} {KB322 : S_ → Int32 → Prop} {KB323 : S_ → Int32 → Prop} {KX102 : S_ → Prop} {KX1022 : S_ → Prop} {KX1023 : S_ → Prop} {r : S_} {v2 : Int32} (hKB32 : ∀ (x0 : S_) (x1 : Int32), KB32 x0 x1 → KB322 x0 x1 → KB323 x0 x1) (hKX102 : ∀ (x0 : S_), KX102 x0 → KX1022 x0 → KX1023 x0) : qM_markStatic_J96 a KB32 KX102 r v2 → wM_markStatic_J96 a KB322 KX1022 r v2 → wM_markStatic_J96 a KB323 KX1023 r v2 := by
  unfold qM_markStatic_J96 wM_markStatic_J96
  repeat' (first | (with_reducible exact hKB32 _ _) | (with_reducible exact hKX102 _) | (with_reducible refine wj_vp ?_) | (with_reducible refine cj_and ?_ ?_) | (with_reducible refine wj_exn ?_) | (with_reducible refine wj_exk ?_) | (with_reducible refine wj_eq ?_) | (with_reducible refine cj_imp ?_) | (with_reducible refine cj_all ?_) | (with_reducible intro _))
theorem wq_M_markStatic_J66 {a : L_} {KB32 : S_ → Int32 → Prop} {KB322 : S_ → Int32 → Prop} {KB323 : S_ → Int32 → Prop} {KX102 : S_ → Prop} {KX1022 : S_ → Prop} {KX1023 : S_ → Prop} {r : S_} {v2 : Int32} (hKB32 : ∀ (x0 : S_) (x1 : Int32), KB32 x0 x1 → KB322 x0 x1 → KB323 x0 x1) (hKX102 : ∀ (x0 : S_), KX102 x0 → KX1022 x0 → KX1023 x0) : qM_markStatic_J66 a KB32 KX102 r v2 → wM_markStatic_J66 a KB322 KX1022 r v2 → wM_markStatic_J66 a KB323 KX1023 r v2 := by
  unfold qM_markStatic_J66 wM_markStatic_J66
  repeat' (first | (with_reducible exact hKB32 _ _) | (with_reducible exact hKX102 _) | (with_reducible refine wq_M_markStatic_J96 ?_ ?_) | (with_reducible refine wj_vp ?_) | (with_reducible refine cj_and ?_ ?_) | (with_reducible refine wj_exn ?_) | (with_reducible refine wj_exk ?_) | (with_reducible refine wj_eq ?_) | (with_reducible refine cj_imp ?_) | (with_reducible refine cj_all ?_) | (with_reducible intro _))
theorem wq_M_markStatic_L32 {a : L_} {KX102 : S_ → Prop} {KX1022 : S_ → Prop} {KX1023 : S_ → Prop} (hKX102 : ∀ (x0 : S_), KX102 x0 → KX1022 x0 → KX1023 x0) : ∀ (n : Nat) (m : Nat) (w0 : S_) (w1 : Int32), qM_markStatic_L32 a KX102 n w0 w1 → wM_markStatic_L32 a KX1022 m w0 w1 → wM_markStatic_L32 a KX1023 m w0 w1 := by
  intro n
  induction n with
  | zero => intro m w0 w1 h; exact h.elim
  | succ n ih =>
    intro m w0 w1
    cases m with
    | zero => intro _ _; trivial
    | succ m =>
      rw [qM_markStatic_L32, wM_markStatic_L32, wM_markStatic_L32]
      repeat' (first | (with_reducible exact hKX102 _) | (with_reducible exact ih _ _ _) | (with_reducible refine wq_M_markStatic_J66 ?_ ?_) | (with_reducible refine wj_vp ?_) | (with_reducible refine cj_and ?_ ?_) | (with_reducible refine wj_exn ?_) | (with_reducible refine wj_exk ?_) | (with_reducible refine wj_eq ?_) | (with_reducible refine cj_imp ?_) | (with_reducible refine cj_all ?_) | (with_reducible intro _))
theorem wq_M_markStatic {a : L_} {K : S_ → Prop} {K2 : S_ → Prop} {K3 : S_ → Prop} {r : S_} {p0 : Int32} (hK : ∀ (x0 : S_), K x0 → K2 x0 → K3 x0) : qM_markStatic a K r p0 → wM_markStatic a K2 r p0 → wM_markStatic a K3 r p0 := by
  unfold qM_markStatic wM_markStatic
  repeat' (first | (with_reducible exact hK _) | (with_reducible refine wq_M_markStatic_L2 ?_ _ _ _ _ _) | (with_reducible refine wq_M_markStatic_L32 ?_ _ _ _ _) | (with_reducible refine wj_vp ?_) | (with_reducible refine cj_and ?_ ?_) | (with_reducible refine wj_exn ?_) | (with_reducible refine wj_exk ?_) | (with_reducible refine wj_eq ?_) | (with_reducible refine cj_imp ?_) | (with_reducible refine cj_all ?_) | (with_reducible intro _))
theorem wq_M_isUnder_L2 {a : L_} {r : S_} {KX21 : Int32 → Int32 → Prop} {KX212 : Int32 → Int32 → Prop} {KX213 : Int32 → Int32 → Prop} (hKX21 : ∀ (x0 : Int32) (x1 : Int32), KX21 x0 x1 → KX212 x0 x1 → KX213 x0 x1) : ∀ (n : Nat) (m : Nat) (w0 : Int32) (w1 : Int32), qM_isUnder_L2 a r KX21 n w0 w1 → wM_isUnder_L2 a r KX212 m w0 w1 → wM_isUnder_L2 a r KX213 m w0 w1 := by
  intro n
  induction n with
  | zero => intro m w0 w1 h; exact h.elim
  | succ n ih =>
    intro m w0 w1
    cases m with
    | zero => intro _ _; trivial
    | succ m =>
      rw [qM_isUnder_L2, wM_isUnder_L2, wM_isUnder_L2]
      repeat' (first | (with_reducible exact hKX21 _ _) | (with_reducible exact ih _ _ _) | (with_reducible refine wj_vp ?_) | (with_reducible refine cj_and ?_ ?_) | (with_reducible refine wj_exn ?_) | (with_reducible refine wj_exk ?_) | (with_reducible refine wj_eq ?_) | (with_reducible refine cj_imp ?_) | (with_reducible refine cj_all ?_) | (with_reducible intro _))
theorem wq_M_isUnder_J21 {a : L_} {r : S_} {K : Int32 → Prop} {K2 : Int32 → Prop} {K3 : Int32 → Prop} {v2 : Int32} {v3 : Int32} (hK : ∀ (x0 : Int32), K x0 → K2 x0 → K3 x0) : qM_isUnder_J21 a r K v2 v3 → wM_isUnder_J21 a r K2 v2 v3 → wM_isUnder_J21 a r K3 v2 v3 := by
  unfold qM_isUnder_J21 wM_isUnder_J21
  repeat' (first | (with_reducible exact hK _) | (with_reducible refine wj_vp ?_) | (with_reducible refine cj_and ?_ ?_) | (with_reducible refine wj_exn ?_) | (with_reducible refine wj_exk ?_) | (with_reducible refine wj_eq ?_) | (with_reducible refine cj_imp ?_) | (with_reducible refine cj_all ?_) | (with_reducible intro _))
theorem wq_M_isUnder {a : L_} {r : S_} {K : Int32 → Prop} {K2 : Int32 → Prop} {K3 : Int32 → Prop} {p0 : Int32} {p1 : Int32} (hK : ∀ (x0 : Int32), K x0 → K2 x0 → K3 x0) : qM_isUnder a r K p0 p1 → wM_isUnder a r K2 p0 p1 → wM_isUnder a r K3 p0 p1 := by
  unfold qM_isUnder wM_isUnder
  repeat' (first | (with_reducible exact hK _) | (with_reducible refine wq_M_isUnder_L2 ?_ _ _ _ _) | (with_reducible refine wq_M_isUnder_J21 ?_) | (with_reducible refine wj_vp ?_) | (with_reducible refine cj_and ?_ ?_) | (with_reducible refine wj_exn ?_) | (with_reducible refine wj_exk ?_) | (with_reducible refine wj_eq ?_) | (with_reducible refine cj_imp ?_) | (with_reducible refine cj_all ?_) | (with_reducible intro _))
theorem wq_M_isExpression {a : L_} {r : S_} {K : Int32 → Prop} {K2 : Int32 → Prop} {K3 : Int32 → Prop} {p0 : Int32} (hK : ∀ (x0 : Int32), K x0 → K2 x0 → K3 x0) : qM_isExpression a r K p0 → wM_isExpression a r K2 p0 → wM_isExpression a r K3 p0 := by
  unfold qM_isExpression wM_isExpression
  repeat' (first | (with_reducible exact hK _) | (with_reducible refine wj_vp ?_) | (with_reducible refine cj_and ?_ ?_) | (with_reducible refine wj_exn ?_) | (with_reducible refine wj_exk ?_) | (with_reducible refine wj_eq ?_) | (with_reducible refine cj_imp ?_) | (with_reducible refine cj_all ?_) | (with_reducible intro _))
theorem wq_M_addNode {a : L_} {K : Int32 → S_ → Prop} {K2 : Int32 → S_ → Prop} {K3 : Int32 → S_ → Prop} {r : S_} {p0 : Int32} {p1 : Int32} {p2 : Int32} (hK : ∀ (x0 : Int32) (x1 : S_), K x0 x1 → K2 x0 x1 → K3 x0 x1) : qM_addNode a K r p0 p1 p2 → wM_addNode a K2 r p0 p1 p2 → wM_addNode a K3 r p0 p1 p2 := by
  unfold qM_addNode wM_addNode
  repeat' (first | (with_reducible exact hK _ _) | (with_reducible refine wj_vp ?_) | (with_reducible refine cj_and ?_ ?_) | (with_reducible refine wj_exn ?_) | (with_reducible refine wj_exk ?_) | (with_reducible refine wj_eq ?_) | (with_reducible refine cj_imp ?_) | (with_reducible refine cj_all ?_) | (with_reducible intro _))
theorem wq_M_kindOf {a : L_} {r : S_} {K : Int32 → Prop} {K2 : Int32 → Prop} {K3 : Int32 → Prop} {p0 : Int32} (hK : ∀ (x0 : Int32), K x0 → K2 x0 → K3 x0) : qM_kindOf a r K p0 → wM_kindOf a r K2 p0 → wM_kindOf a r K3 p0 := by
  unfold qM_kindOf wM_kindOf
  repeat' (first | (with_reducible exact hK _) | (with_reducible refine wj_vp ?_) | (with_reducible refine cj_and ?_ ?_) | (with_reducible refine wj_exn ?_) | (with_reducible refine wj_exk ?_) | (with_reducible refine wj_eq ?_) | (with_reducible refine cj_imp ?_) | (with_reducible refine cj_all ?_) | (with_reducible intro _))
theorem wq_M_spread_J165 {a : L_} {KB15 : S_ → Int32 → Prop} {KB152 : S_ → Int32 → Prop} {KB153 : S_ → Int32 → Prop} {KX171 : S_ → Prop} {KX1712 : S_ → Prop} {KX1713 : S_ → Prop} {r : S_} {v3 : Int32} (hKB15 : ∀ (x0 : S_) (x1 : Int32), KB15 x0 x1 → KB152 x0 x1 → KB153 x0 x1) (hKX171 : ∀ (x0 : S_), KX171 x0 → KX1712 x0 → KX1713 x0) : qM_spread_J165 a KB15 KX171 r v3 → wM_spread_J165 a KB152 KX1712 r v3 → wM_spread_J165 a KB153 KX1713 r v3 := by
  unfold qM_spread_J165 wM_spread_J165
  repeat' (first | (with_reducible exact hKB15 _ _) | (with_reducible exact hKX171 _) | (with_reducible refine wj_vp ?_) | (with_reducible refine cj_and ?_ ?_) | (with_reducible refine wj_exn ?_) | (with_reducible refine wj_exk ?_) | (with_reducible refine wj_eq ?_) | (with_reducible refine cj_imp ?_) | (with_reducible refine cj_all ?_) | (with_reducible intro _))
theorem wq_M_spread_L15 {a : L_} {KX171 : S_ → Prop} {KX1712 : S_ → Prop} {KX1713 : S_ → Prop} (hKX171 : ∀ (x0 : S_), KX171 x0 → KX1712 x0 → KX1713 x0) : ∀ (n : Nat) (m : Nat) (w0 : S_) (w1 : Int32), qM_spread_L15 a KX171 n w0 w1 → wM_spread_L15 a KX1712 m w0 w1 → wM_spread_L15 a KX1713 m w0 w1 := by
  intro n
  induction n with
  | zero => intro m w0 w1 h; exact h.elim
  | succ n ih =>
    intro m w0 w1
    cases m with
    | zero => intro _ _; trivial
    | succ m =>
      rw [qM_spread_L15, wM_spread_L15, wM_spread_L15]
      repeat' (first | (with_reducible exact hKX171 _) | (with_reducible exact ih _ _ _) | (with_reducible refine wq_M_spread_J165 ?_ ?_) | (with_reducible refine wq_M_addNode ?_) | (with_reducible refine wj_vp ?_) | (with_reducible refine cj_and ?_ ?_) | (with_reducible refine wj_exn ?_) | (with_reducible refine wj_exk ?_) | (with_reducible refine wj_eq ?_) | (with_reducible refine cj_imp ?_) | (with_reducible refine cj_all ?_) | (with_reducible intro _))
theorem wq_M_spread {a : L_} {K : S_ → Prop} {K2 : S_ → Prop} {K3 : S_ → Prop} {r : S_} {p0 : Int32} (hK : ∀ (x0 : S_), K x0 → K2 x0 → K3 x0) : qM_spread a K r p0 → wM_spread a K2 r p0 → wM_spread a K3 r p0 := by
  unfold qM_spread wM_spread
  repeat' (first | (with_reducible exact hK _) | (with_reducible refine wq_M_addNode ?_) | (with_reducible refine wq_M_spread_L15 ?_ _ _ _ _) | (with_reducible refine wj_vp ?_) | (with_reducible refine cj_and ?_ ?_) | (with_reducible refine wj_exn ?_) | (with_reducible refine wj_exk ?_) | (with_reducible refine wj_eq ?_) | (with_reducible refine cj_imp ?_) | (with_reducible refine cj_all ?_) | (with_reducible intro _))
theorem wq_M_binder_J88 {a : L_} {r : S_} {KB22 : Int32 → Int32 → Int32 → Prop} {KB222 : Int32 → Int32 → Int32 → Prop} {KB223 : Int32 → Int32 → Int32 → Prop} {KX85 : Int32 → Prop} {KX852 : Int32 → Prop} {KX853 : Int32 → Prop} {KX103 : Prop} {KX1032 : Prop} {KX1033 : Prop} {v2 : Int32} {v4 : Int32} (hKB22 : ∀ (x0 : Int32) (x1 : Int32) (x2 : Int32), KB22 x0 x1 x2 → KB222 x0 x1 x2 → KB223 x0 x1 x2) (hKX85 : ∀ (x0 : Int32), KX85 x0 → KX852 x0 → KX853 x0) (hKX103 : KX103  → KX1032  → KX1033 ) : qM_binder_J88 a r KB22 KX85 KX103 v2 v4 → wM_binder_J88 a r KB222 KX852 KX1032 v2 v4 → wM_binder_J88 a r KB223 KX853 KX1033 v2 v4 := by
  unfold qM_binder_J88 wM_binder_J88
  repeat' (first | (with_reducible exact hKB22 _ _ _) | (with_reducible exact hKX85 _) | (with_reducible exact hKX103) | (with_reducible refine wj_vp ?_) | (with_reducible refine cj_and ?_ ?_) | (with_reducible refine wj_exn ?_) | (with_reducible refine wj_exk ?_) | (with_reducible refine wj_eq ?_) | (with_reducible refine cj_imp ?_) | (with_reducible refine cj_all ?_) | (with_reducible intro _))
theorem wq_M_binder_J62 {a : L_} {r : S_} {KB22 : Int32 → Int32 → Int32 → Prop} {KB222 : Int32 → Int32 → Int32 → Prop} {KB223 : Int32 → Int32 → Int32 → Prop} {KX85 : Int32 → Prop} {KX852 : Int32 → Prop} {KX853 : Int32 → Prop} {KX103 : Prop} {KX1032 : Prop} {KX1033 : Prop} {v2 : Int32} {v4 : Int32} {u0 : Int32} (hKB22 : ∀ (x0 : Int32) (x1 : Int32) (x2 : Int32), KB22 x0 x1 x2 → KB222 x0 x1 x2 → KB223 x0 x1 x2) (hKX85 : ∀ (x0 : Int32), KX85 x0 → KX852 x0 → KX853 x0) (hKX103 : KX103  → KX1032  → KX1033 ) : qM_binder_J62 a r KB22 KX85 KX103 v2 v4 u0 → wM_binder_J62 a r KB222 KX852 KX1032 v2 v4 u0 → wM_binder_J62 a r KB223 KX853 KX1033 v2 v4 u0 := by
  unfold qM_binder_J62 wM_binder_J62
  repeat' (first | (with_reducible exact hKB22 _ _ _) | (with_reducible exact hKX85 _) | (with_reducible exact hKX103) | (with_reducible refine wq_M_binder_J88 ?_ ?_ ?_) | (with_reducible refine wj_vp ?_) | (with_reducible refine cj_and ?_ ?_) | (with_reducible refine wj_exn ?_) | (with_reducible refine wj_exk ?_) | (with_reducible refine wj_eq ?_) | (with_reducible refine cj_imp ?_) | (with_reducible refine cj_all ?_) | (with_reducible intro _))
theorem wq_M_binder_J57 {a : L_} {r : S_} {KB22 : Int32 → Int32 → Int32 → Prop} {KB222 : Int32 → Int32 → Int32 → Prop} {KB223 : Int32 → Int32 → Int32 → Prop} {KX85 : Int32 → Prop} {KX852 : Int32 → Prop} {KX853 : Int32 → Prop} {KX103 : Prop} {KX1032 : Prop} {KX1033 : Prop} {v2 : Int32} {v4 : Int32} (hKB22 : ∀ (x0 : Int32) (x1 : Int32) (x2 : Int32), KB22 x0 x1 x2 → KB222 x0 x1 x2 → KB223 x0 x1 x2) (hKX85 : ∀ (x0 : Int32), KX85 x0 → KX852 x0 → KX853 x0) (hKX103 : KX103  → KX1032  → KX1033 ) : qM_binder_J57 a r KB22 KX85 KX103 v2 v4 → wM_binder_J57 a r KB222 KX852 KX1032 v2 v4 → wM_binder_J57 a r KB223 KX853 KX1033 v2 v4 := by
  unfold qM_binder_J57 wM_binder_J57
  repeat' (first | (with_reducible exact hKB22 _ _ _) | (with_reducible exact hKX85 _) | (with_reducible exact hKX103) | (with_reducible refine wq_M_binder_J62 ?_ ?_ ?_) | (with_reducible refine wj_vp ?_) | (with_reducible refine cj_and ?_ ?_) | (with_reducible refine wj_exn ?_) | (with_reducible refine wj_exk ?_) | (with_reducible refine wj_eq ?_) | (with_reducible refine cj_imp ?_) | (with_reducible refine cj_all ?_) | (with_reducible intro _))
theorem wq_M_binder_J61 {a : L_} {r : S_} {KB22 : Int32 → Int32 → Int32 → Prop} {KB222 : Int32 → Int32 → Int32 → Prop} {KB223 : Int32 → Int32 → Int32 → Prop} {KX85 : Int32 → Prop} {KX852 : Int32 → Prop} {KX853 : Int32 → Prop} {KX103 : Prop} {KX1032 : Prop} {KX1033 : Prop} {v2 : Int32} {v4 : Int32} (hKB22 : ∀ (x0 : Int32) (x1 : Int32) (x2 : Int32), KB22 x0 x1 x2 → KB222 x0 x1 x2 → KB223 x0 x1 x2) (hKX85 : ∀ (x0 : Int32), KX85 x0 → KX852 x0 → KX853 x0) (hKX103 : KX103  → KX1032  → KX1033 ) : qM_binder_J61 a r KB22 KX85 KX103 v2 v4 → wM_binder_J61 a r KB222 KX852 KX1032 v2 v4 → wM_binder_J61 a r KB223 KX853 KX1033 v2 v4 := by
  unfold qM_binder_J61 wM_binder_J61
  repeat' (first | (with_reducible exact hKB22 _ _ _) | (with_reducible exact hKX85 _) | (with_reducible exact hKX103) | (with_reducible refine wq_M_binder_J62 ?_ ?_ ?_) | (with_reducible refine wj_vp ?_) | (with_reducible refine cj_and ?_ ?_) | (with_reducible refine wj_exn ?_) | (with_reducible refine wj_exk ?_) | (with_reducible refine wj_eq ?_) | (with_reducible refine cj_imp ?_) | (with_reducible refine cj_all ?_) | (with_reducible intro _))
theorem wq_M_binder_L22 {a : L_} {r : S_} {KX85 : Int32 → Prop} {KX852 : Int32 → Prop} {KX853 : Int32 → Prop} {KX103 : Prop} {KX1032 : Prop} {KX1033 : Prop} (hKX85 : ∀ (x0 : Int32), KX85 x0 → KX852 x0 → KX853 x0) (hKX103 : KX103  → KX1032  → KX1033 ) : ∀ (n : Nat) (m : Nat) (w0 : Int32) (w1 : Int32) (w2 : Int32), qM_binder_L22 a r KX85 KX103 n w0 w1 w2 → wM_binder_L22 a r KX852 KX1032 m w0 w1 w2 → wM_binder_L22 a r KX853 KX1033 m w0 w1 w2 := by
  intro n
  induction n with
  | zero => intro m w0 w1 w2 h; exact h.elim
  | succ n ih =>
    intro m w0 w1 w2
    cases m with
    | zero => intro _ _; trivial
    | succ m =>
      rw [qM_binder_L22, wM_binder_L22, wM_binder_L22]
      repeat' (first | (with_reducible exact hKX85 _) | (with_reducible exact hKX103) | (with_reducible exact ih _ _ _ _) | (with_reducible refine wq_M_kindOf ?_) | (with_reducible refine wq_M_binder_J57 ?_ ?_ ?_) | (with_reducible refine wq_M_binder_J61 ?_ ?_ ?_) | (with_reducible refine wj_vp ?_) | (with_reducible refine cj_and ?_ ?_) | (with_reducible refine wj_exn ?_) | (with_reducible refine wj_exk ?_) | (with_reducible refine wj_eq ?_) | (with_reducible refine cj_imp ?_) | (with_reducible refine cj_all ?_) | (with_reducible intro _))
theorem wq_M_binder {a : L_} {r : S_} {K : Int32 → Prop} {K2 : Int32 → Prop} {K3 : Int32 → Prop} {p0 : Int32} (hK : ∀ (x0 : Int32), K x0 → K2 x0 → K3 x0) : qM_binder a r K p0 → wM_binder a r K2 p0 → wM_binder a r K3 p0 := by
  unfold qM_binder wM_binder
  repeat' (first | (with_reducible exact hK _) | (with_reducible refine wq_M_binder_L22 ?_ ?_ _ _ _ _ _) | (with_reducible refine wj_vp ?_) | (with_reducible refine cj_and ?_ ?_) | (with_reducible refine wj_exn ?_) | (with_reducible refine wj_exk ?_) | (with_reducible refine wj_eq ?_) | (with_reducible refine cj_imp ?_) | (with_reducible refine cj_all ?_) | (with_reducible intro _))
theorem wq_M_newTerm {a : L_} {K : Int32 → S_ → Prop} {K2 : Int32 → S_ → Prop} {K3 : Int32 → S_ → Prop} {r : S_} {p0 : Int32} {p1 : Int32} {p2 : Int32} (hK : ∀ (x0 : Int32) (x1 : S_), K x0 x1 → K2 x0 x1 → K3 x0 x1) : qM_newTerm a K r p0 p1 p2 → wM_newTerm a K2 r p0 p1 p2 → wM_newTerm a K3 r p0 p1 p2 := by
  unfold qM_newTerm wM_newTerm
  repeat' (first | (with_reducible exact hK _ _) | (with_reducible refine wj_vp ?_) | (with_reducible refine cj_and ?_ ?_) | (with_reducible refine wj_exn ?_) | (with_reducible refine wj_exk ?_) | (with_reducible refine wj_eq ?_) | (with_reducible refine cj_imp ?_) | (with_reducible refine cj_all ?_) | (with_reducible intro _))
theorem wq_M_fresh {a : L_} {K : Int32 → S_ → Prop} {K2 : Int32 → S_ → Prop} {K3 : Int32 → S_ → Prop} {r : S_} (hK : ∀ (x0 : Int32) (x1 : S_), K x0 x1 → K2 x0 x1 → K3 x0 x1) : qM_fresh a K r → wM_fresh a K2 r → wM_fresh a K3 r := by
  unfold qM_fresh wM_fresh
  repeat' (first | (with_reducible exact hK _ _) | (with_reducible refine wq_M_newTerm ?_) | (with_reducible refine wj_vp ?_) | (with_reducible refine cj_and ?_ ?_) | (with_reducible refine wj_exn ?_) | (with_reducible refine wj_exk ?_) | (with_reducible refine wj_eq ?_) | (with_reducible refine cj_imp ?_) | (with_reducible refine cj_all ?_) | (with_reducible intro _))
theorem wq_M_arrow {a : L_} {K : Int32 → S_ → Prop} {K2 : Int32 → S_ → Prop} {K3 : Int32 → S_ → Prop} {r : S_} {p0 : Int32} {p1 : Int32} (hK : ∀ (x0 : Int32) (x1 : S_), K x0 x1 → K2 x0 x1 → K3 x0 x1) : qM_arrow a K r p0 p1 → wM_arrow a K2 r p0 p1 → wM_arrow a K3 r p0 p1 := by
  unfold qM_arrow wM_arrow
  repeat' (first | (with_reducible exact hK _ _) | (with_reducible refine wq_M_newTerm ?_) | (with_reducible refine wj_vp ?_) | (with_reducible refine cj_and ?_ ?_) | (with_reducible refine wj_exn ?_) | (with_reducible refine wj_exk ?_) | (with_reducible refine wj_eq ?_) | (with_reducible refine cj_imp ?_) | (with_reducible refine cj_all ?_) | (with_reducible intro _))
theorem wq_M_find_L2 {a : L_} {r : S_} {KX22 : Int32 → Prop} {KX222 : Int32 → Prop} {KX223 : Int32 → Prop} (hKX22 : ∀ (x0 : Int32), KX22 x0 → KX222 x0 → KX223 x0) : ∀ (n : Nat) (m : Nat) (w0 : Int32), qM_find_L2 a r KX22 n w0 → wM_find_L2 a r KX222 m w0 → wM_find_L2 a r KX223 m w0 := by
  intro n
  induction n with
  | zero => intro m w0 h; exact h.elim
  | succ n ih =>
    intro m w0
    cases m with
    | zero => intro _ _; trivial
    | succ m =>
      rw [qM_find_L2, wM_find_L2, wM_find_L2]
      repeat' (first | (with_reducible exact hKX22 _) | (with_reducible exact ih _ _) | (with_reducible refine wj_vp ?_) | (with_reducible refine cj_and ?_ ?_) | (with_reducible refine wj_exn ?_) | (with_reducible refine wj_exk ?_) | (with_reducible refine wj_eq ?_) | (with_reducible refine cj_imp ?_) | (with_reducible refine cj_all ?_) | (with_reducible intro _))
theorem wq_M_find {a : L_} {r : S_} {K : Int32 → Prop} {K2 : Int32 → Prop} {K3 : Int32 → Prop} {p0 : Int32} (hK : ∀ (x0 : Int32), K x0 → K2 x0 → K3 x0) : qM_find a r K p0 → wM_find a r K2 p0 → wM_find a r K3 p0 := by
  unfold qM_find wM_find
  repeat' (first | (with_reducible exact hK _) | (with_reducible refine wq_M_find_L2 ?_ _ _ _) | (with_reducible refine wj_vp ?_) | (with_reducible refine cj_and ?_ ?_) | (with_reducible refine wj_exn ?_) | (with_reducible refine wj_exk ?_) | (with_reducible refine wj_eq ?_) | (with_reducible refine cj_imp ?_) | (with_reducible refine cj_all ?_) | (with_reducible intro _))
theorem wq_M_unify_J257 {a : L_} {KB16 : S_ → Int32 → Prop} {KB162 : S_ → Int32 → Prop} {KB163 : S_ → Int32 → Prop} {KX260 : S_ → Prop} {KX2602 : S_ → Prop} {KX2603 : S_ → Prop} {r : S_} {v3 : Int32} (hKB16 : ∀ (x0 : S_) (x1 : Int32), KB16 x0 x1 → KB162 x0 x1 → KB163 x0 x1) (hKX260 : ∀ (x0 : S_), KX260 x0 → KX2602 x0 → KX2603 x0) : qM_unify_J257 a KB16 KX260 r v3 → wM_unify_J257 a KB162 KX2602 r v3 → wM_unify_J257 a KB163 KX2603 r v3 := by
  unfold qM_unify_J257 wM_unify_J257
  repeat' (first | (with_reducible exact hKB16 _ _) | (with_reducible exact hKX260 _) | (with_reducible refine wj_vp ?_) | (with_reducible refine cj_and ?_ ?_) | (with_reducible refine wj_exn ?_) | (with_reducible refine wj_exk ?_) | (with_reducible refine wj_eq ?_) | (with_reducible refine cj_imp ?_) | (with_reducible refine cj_all ?_) | (with_reducible intro _))
theorem wq_M_unify_J219 {a : L_} {KB16 : S_ → Int32 → Prop} {KB162 : S_ → Int32 → Prop} {KB163 : S_ → Int32 → Prop} {KX260 : S_ → Prop} {KX2602 : S_ → Prop} {KX2603 : S_ → Prop} {r : S_} {v3 : Int32} {v4 : Int32} {v5 : Int32} {v6 : Int32} (hKB16 : ∀ (x0 : S_) (x1 : Int32), KB16 x0 x1 → KB162 x0 x1 → KB163 x0 x1) (hKX260 : ∀ (x0 : S_), KX260 x0 → KX2602 x0 → KX2603 x0) : qM_unify_J219 a KB16 KX260 r v3 v4 v5 v6 → wM_unify_J219 a KB162 KX2602 r v3 v4 v5 v6 → wM_unify_J219 a KB163 KX2603 r v3 v4 v5 v6 := by
  unfold qM_unify_J219 wM_unify_J219
  repeat' (first | (with_reducible exact hKB16 _ _) | (with_reducible exact hKX260 _) | (with_reducible refine wq_M_unify_J257 ?_ ?_) | (with_reducible refine wj_vp ?_) | (with_reducible refine cj_and ?_ ?_) | (with_reducible refine wj_exn ?_) | (with_reducible refine wj_exk ?_) | (with_reducible refine wj_eq ?_) | (with_reducible refine cj_imp ?_) | (with_reducible refine cj_all ?_) | (with_reducible intro _))
theorem wq_M_unify_J180 {a : L_} {KB16 : S_ → Int32 → Prop} {KB162 : S_ → Int32 → Prop} {KB163 : S_ → Int32 → Prop} {KX260 : S_ → Prop} {KX2602 : S_ → Prop} {KX2603 : S_ → Prop} {r : S_} {v3 : Int32} {v4 : Int32} {v5 : Int32} {u0 : Int32} (hKB16 : ∀ (x0 : S_) (x1 : Int32), KB16 x0 x1 → KB162 x0 x1 → KB163 x0 x1) (hKX260 : ∀ (x0 : S_), KX260 x0 → KX2602 x0 → KX2603 x0) : qM_unify_J180 a KB16 KX260 r v3 v4 v5 u0 → wM_unify_J180 a KB162 KX2602 r v3 v4 v5 u0 → wM_unify_J180 a KB163 KX2603 r v3 v4 v5 u0 := by
  unfold qM_unify_J180 wM_unify_J180
  repeat' (first | (with_reducible exact hKB16 _ _) | (with_reducible exact hKX260 _) | (with_reducible refine wq_M_unify_J219 ?_ ?_) | (with_reducible refine wj_vp ?_) | (with_reducible refine cj_and ?_ ?_) | (with_reducible refine wj_exn ?_) | (with_reducible refine wj_exk ?_) | (with_reducible refine wj_eq ?_) | (with_reducible refine cj_imp ?_) | (with_reducible refine cj_all ?_) | (with_reducible intro _))
theorem wq_M_unify_J145 {a : L_} {KB16 : S_ → Int32 → Prop} {KB162 : S_ → Int32 → Prop} {KB163 : S_ → Int32 → Prop} {KX260 : S_ → Prop} {KX2602 : S_ → Prop} {KX2603 : S_ → Prop} {r : S_} {v3 : Int32} {v4 : Int32} {v5 : Int32} {u0 : Int32} (hKB16 : ∀ (x0 : S_) (x1 : Int32), KB16 x0 x1 → KB162 x0 x1 → KB163 x0 x1) (hKX260 : ∀ (x0 : S_), KX260 x0 → KX2602 x0 → KX2603 x0) : qM_unify_J145 a KB16 KX260 r v3 v4 v5 u0 → wM_unify_J145 a KB162 KX2602 r v3 v4 v5 u0 → wM_unify_J145 a KB163 KX2603 r v3 v4 v5 u0 := by
  unfold qM_unify_J145 wM_unify_J145
  repeat' (first | (with_reducible exact hKB16 _ _) | (with_reducible exact hKX260 _) | (with_reducible refine wq_M_unify_J180 ?_ ?_) | (with_reducible refine wj_vp ?_) | (with_reducible refine cj_and ?_ ?_) | (with_reducible refine wj_exn ?_) | (with_reducible refine wj_exk ?_) | (with_reducible refine wj_eq ?_) | (with_reducible refine cj_imp ?_) | (with_reducible refine cj_all ?_) | (with_reducible intro _))
theorem wq_M_unify_J115 {a : L_} {KB16 : S_ → Int32 → Prop} {KB162 : S_ → Int32 → Prop} {KB163 : S_ → Int32 → Prop} {KX260 : S_ → Prop} {KX2602 : S_ → Prop} {KX2603 : S_ → Prop} {r : S_} {v3 : Int32} {v4 : Int32} {v5 : Int32} (hKB16 : ∀ (x0 : S_) (x1 : Int32), KB16 x0 x1 → KB162 x0 x1 → KB163 x0 x1) (hKX260 : ∀ (x0 : S_), KX260 x0 → KX2602 x0 → KX2603 x0) : qM_unify_J115 a KB16 KX260 r v3 v4 v5 → wM_unify_J115 a KB162 KX2602 r v3 v4 v5 → wM_unify_J115 a KB163 KX2603 r v3 v4 v5 := by
  unfold qM_unify_J115 wM_unify_J115
  repeat' (first | (with_reducible exact hKB16 _ _) | (with_reducible exact hKX260 _) | (with_reducible refine wq_M_unify_J257 ?_ ?_) | (with_reducible refine wq_M_unify_J145 ?_ ?_) | (with_reducible refine wj_vp ?_) | (with_reducible refine cj_and ?_ ?_) | (with_reducible refine wj_exn ?_) | (with_reducible refine wj_exk ?_) | (with_reducible refine wj_eq ?_) | (with_reducible refine cj_imp ?_) | (with_reducible refine cj_all ?_) | (with_reducible intro _))
theorem wq_M_unify_J86 {a : L_} {KB16 : S_ → Int32 → Prop} {KB162 : S_ → Int32 → Prop} {KB163 : S_ → Int32 → Prop} {KX260 : S_ → Prop} {KX2602 : S_ → Prop} {KX2603 : S_ → Prop} {r : S_} {v3 : Int32} {v4 : Int32} {v5 : Int32} (hKB16 : ∀ (x0 : S_) (x1 : Int32), KB16 x0 x1 → KB162 x0 x1 → KB163 x0 x1) (hKX260 : ∀ (x0 : S_), KX260 x0 → KX2602 x0 → KX2603 x0) : qM_unify_J86 a KB16 KX260 r v3 v4 v5 → wM_unify_J86 a KB162 KX2602 r v3 v4 v5 → wM_unify_J86 a KB163 KX2603 r v3 v4 v5 := by
  unfold qM_unify_J86 wM_unify_J86
  repeat' (first | (with_reducible exact hKB16 _ _) | (with_reducible exact hKX260 _) | (with_reducible refine wq_M_unify_J115 ?_ ?_) | (with_reducible refine wq_M_unify_J257 ?_ ?_) | (with_reducible refine wj_vp ?_) | (with_reducible refine cj_and ?_ ?_) | (with_reducible refine wj_exn ?_) | (with_reducible refine wj_exk ?_) | (with_reducible refine wj_eq ?_) | (with_reducible refine cj_imp ?_) | (with_reducible refine cj_all ?_) | (with_reducible intro _))
theorem wq_M_unify_L16 {a : L_} {KX260 : S_ → Prop} {KX2602 : S_ → Prop} {KX2603 : S_ → Prop} (hKX260 : ∀ (x0 : S_), KX260 x0 → KX2602 x0 → KX2603 x0) : ∀ (n : Nat) (m : Nat) (w0 : S_) (w1 : Int32), qM_unify_L16 a KX260 n w0 w1 → wM_unify_L16 a KX2602 m w0 w1 → wM_unify_L16 a KX2603 m w0 w1 := by
  intro n
  induction n with
  | zero => intro m w0 w1 h; exact h.elim
  | succ n ih =>
    intro m w0 w1
    cases m with
    | zero => intro _ _; trivial
    | succ m =>
      rw [qM_unify_L16, wM_unify_L16, wM_unify_L16]
      repeat' (first | (with_reducible exact hKX260 _) | (with_reducible exact ih _ _ _) | (with_reducible refine wq_M_find ?_) | (with_reducible refine wq_M_unify_J86 ?_ ?_) | (with_reducible refine wq_M_unify_J257 ?_ ?_) | (with_reducible refine wj_vp ?_) | (with_reducible refine cj_and ?_ ?_) | (with_reducible refine wj_exn ?_) | (with_reducible refine wj_exk ?_) | (with_reducible refine wj_eq ?_) | (with_reducible refine cj_imp ?_) | (with_reducible refine cj_all ?_) | (with_reducible intro _))
theorem wq_M_unify {a : L_} {K : S_ → Prop} {K2 : S_ → Prop} {K3 : S_ → Prop} {r : S_} {p0 : Int32} {p1 : Int32} (hK : ∀ (x0 : S_), K x0 → K2 x0 → K3 x0) : qM_unify a K r p0 p1 → wM_unify a K2 r p0 p1 → wM_unify a K3 r p0 p1 := by
  unfold qM_unify wM_unify
  repeat' (first | (with_reducible exact hK _) | (with_reducible refine wq_M_unify_L16 ?_ _ _ _ _) | (with_reducible refine wj_vp ?_) | (with_reducible refine cj_and ?_ ?_) | (with_reducible refine wj_exn ?_) | (with_reducible refine wj_exk ?_) | (with_reducible refine wj_eq ?_) | (with_reducible refine cj_imp ?_) | (with_reducible refine cj_all ?_) | (with_reducible intro _))
theorem wq_M_isTold_J17 {a : L_} {r : S_} {K : Int32 → Prop} {K2 : Int32 → Prop} {K3 : Int32 → Prop} (hK : ∀ (x0 : Int32), K x0 → K2 x0 → K3 x0) : qM_isTold_J17 a r K → wM_isTold_J17 a r K2 → wM_isTold_J17 a r K3 := by
  unfold qM_isTold_J17 wM_isTold_J17
  repeat' (first | (with_reducible exact hK _) | (with_reducible refine wj_vp ?_) | (with_reducible refine cj_and ?_ ?_) | (with_reducible refine wj_exn ?_) | (with_reducible refine wj_exk ?_) | (with_reducible refine wj_eq ?_) | (with_reducible refine cj_imp ?_) | (with_reducible refine cj_all ?_) | (with_reducible intro _))
theorem wq_M_isTold {a : L_} {r : S_} {K : Int32 → Prop} {K2 : Int32 → Prop} {K3 : Int32 → Prop} {p0 : Int32} (hK : ∀ (x0 : Int32), K x0 → K2 x0 → K3 x0) : qM_isTold a r K p0 → wM_isTold a r K2 p0 → wM_isTold a r K3 p0 := by
  unfold qM_isTold wM_isTold
  repeat' (first | (with_reducible exact hK _) | (with_reducible refine wq_M_isTold_J17 ?_) | (with_reducible refine wq_M_find ?_) | (with_reducible refine wj_vp ?_) | (with_reducible refine cj_and ?_ ?_) | (with_reducible refine wj_exn ?_) | (with_reducible refine wj_exk ?_) | (with_reducible refine wj_eq ?_) | (with_reducible refine cj_imp ?_) | (with_reducible refine cj_all ?_) | (with_reducible intro _))
theorem wq_M_needNoRing_L2 {a : L_} {KX23 : S_ → Prop} {KX232 : S_ → Prop} {KX233 : S_ → Prop} (hKX23 : ∀ (x0 : S_), KX23 x0 → KX232 x0 → KX233 x0) : ∀ (n : Nat) (m : Nat) (w0 : S_) (w1 : Int32), qM_needNoRing_L2 a KX23 n w0 w1 → wM_needNoRing_L2 a KX232 m w0 w1 → wM_needNoRing_L2 a KX233 m w0 w1 := by
  intro n
  induction n with
  | zero => intro m w0 w1 h; exact h.elim
  | succ n ih =>
    intro m w0 w1
    cases m with
    | zero => intro _ _; trivial
    | succ m =>
      rw [qM_needNoRing_L2, wM_needNoRing_L2, wM_needNoRing_L2]
      repeat' (first | (with_reducible exact hKX23 _) | (with_reducible exact ih _ _ _) | (with_reducible refine wj_vp ?_) | (with_reducible refine cj_and ?_ ?_) | (with_reducible refine wj_exn ?_) | (with_reducible refine wj_exk ?_) | (with_reducible refine wj_eq ?_) | (with_reducible refine cj_imp ?_) | (with_reducible refine cj_all ?_) | (with_reducible intro _))
theorem wq_M_needNoRing_J146 {a : L_} {KB44 : S_ → Int32 → Int32 → Int32 → Prop} {KB442 : S_ → Int32 → Int32 → Int32 → Prop} {KB443 : S_ → Int32 → Int32 → Int32 → Prop} {KX152 : S_ → Int32 → Int32 → Prop} {KX1522 : S_ → Int32 → Int32 → Prop} {KX1523 : S_ → Int32 → Int32 → Prop} {r : S_} {v1 : Int32} {v2 : Int32} {v3 : Int32} (hKB44 : ∀ (x0 : S_) (x1 : Int32) (x2 : Int32) (x3 : Int32), KB44 x0 x1 x2 x3 → KB442 x0 x1 x2 x3 → KB443 x0 x1 x2 x3) (hKX152 : ∀ (x0 : S_) (x1 : Int32) (x2 : Int32), KX152 x0 x1 x2 → KX1522 x0 x1 x2 → KX1523 x0 x1 x2) : qM_needNoRing_J146 a KB44 KX152 r v1 v2 v3 → wM_needNoRing_J146 a KB442 KX1522 r v1 v2 v3 → wM_needNoRing_J146 a KB443 KX1523 r v1 v2 v3 := by
  unfold qM_needNoRing_J146 wM_needNoRing_J146
  repeat' (first | (with_reducible exact hKB44 _ _ _ _) | (with_reducible exact hKX152 _ _ _) | (with_reducible refine wj_vp ?_) | (with_reducible refine cj_and ?_ ?_) | (with_reducible refine wj_exn ?_) | (with_reducible refine wj_exk ?_) | (with_reducible refine wj_eq ?_) | (with_reducible refine cj_imp ?_) | (with_reducible refine cj_all ?_) | (with_reducible intro _))
theorem wq_M_needNoRing_J145 {a : L_} {KB44 : S_ → Int32 → Int32 → Int32 → Prop} {KB442 : S_ → Int32 → Int32 → Int32 → Prop} {KB443 : S_ → Int32 → Int32 → Int32 → Prop} {KX152 : S_ → Int32 → Int32 → Prop} {KX1522 : S_ → Int32 → Int32 → Prop} {KX1523 : S_ → Int32 → Int32 → Prop} {r : S_} {v1 : Int32} {v3 : Int32} {u0 : Int32} (hKB44 : ∀ (x0 : S_) (x1 : Int32) (x2 : Int32) (x3 : Int32), KB44 x0 x1 x2 x3 → KB442 x0 x1 x2 x3 → KB443 x0 x1 x2 x3) (hKX152 : ∀ (x0 : S_) (x1 : Int32) (x2 : Int32), KX152 x0 x1 x2 → KX1522 x0 x1 x2 → KX1523 x0 x1 x2) : qM_needNoRing_J145 a KB44 KX152 r v1 v3 u0 → wM_needNoRing_J145 a KB442 KX1522 r v1 v3 u0 → wM_needNoRing_J145 a KB443 KX1523 r v1 v3 u0 := by
  unfold qM_needNoRing_J145 wM_needNoRing_J145
  repeat' (first | (with_reducible exact hKB44 _ _ _ _) | (with_reducible exact hKX152 _ _ _) | (with_reducible refine wq_M_needNoRing_J146 ?_ ?_) | (with_reducible refine wj_vp ?_) | (with_reducible refine cj_and ?_ ?_) | (with_reducible refine wj_exn ?_) | (with_reducible refine wj_exk ?_) | (with_reducible refine wj_eq ?_) | (with_reducible refine cj_imp ?_) | (with_reducible refine cj_all ?_) | (with_reducible intro _))
theorem wq_M_needNoRing_J144 {a : L_} {KB44 : S_ → Int32 → Int32 → Int32 → Prop} {KB442 : S_ → Int32 → Int32 → Int32 → Prop} {KB443 : S_ → Int32 → Int32 → Int32 → Prop} {KX152 : S_ → Int32 → Int32 → Prop} {KX1522 : S_ → Int32 → Int32 → Prop} {KX1523 : S_ → Int32 → Int32 → Prop} {r : S_} {v1 : Int32} {v3 : Int32} (hKB44 : ∀ (x0 : S_) (x1 : Int32) (x2 : Int32) (x3 : Int32), KB44 x0 x1 x2 x3 → KB442 x0 x1 x2 x3 → KB443 x0 x1 x2 x3) (hKX152 : ∀ (x0 : S_) (x1 : Int32) (x2 : Int32), KX152 x0 x1 x2 → KX1522 x0 x1 x2 → KX1523 x0 x1 x2) : qM_needNoRing_J144 a KB44 KX152 r v1 v3 → wM_needNoRing_J144 a KB442 KX1522 r v1 v3 → wM_needNoRing_J144 a KB443 KX1523 r v1 v3 := by
  unfold qM_needNoRing_J144 wM_needNoRing_J144
  repeat' (first | (with_reducible exact hKB44 _ _ _ _) | (with_reducible exact hKX152 _ _ _) | (with_reducible refine wq_M_needNoRing_J145 ?_ ?_) | (with_reducible refine wj_vp ?_) | (with_reducible refine cj_and ?_ ?_) | (with_reducible refine wj_exn ?_) | (with_reducible refine wj_exk ?_) | (with_reducible refine wj_eq ?_) | (with_reducible refine cj_imp ?_) | (with_reducible refine cj_all ?_) | (with_reducible intro _))
theorem wq_M_needNoRing_J126 {a : L_} {KB44 : S_ → Int32 → Int32 → Int32 → Prop} {KB442 : S_ → Int32 → Int32 → Int32 → Prop} {KB443 : S_ → Int32 → Int32 → Int32 → Prop} {KX152 : S_ → Int32 → Int32 → Prop} {KX1522 : S_ → Int32 → Int32 → Prop} {KX1523 : S_ → Int32 → Int32 → Prop} {r : S_} {v2 : Int32} {v3 : Int32} {u0 : Int32} (hKB44 : ∀ (x0 : S_) (x1 : Int32) (x2 : Int32) (x3 : Int32), KB44 x0 x1 x2 x3 → KB442 x0 x1 x2 x3 → KB443 x0 x1 x2 x3) (hKX152 : ∀ (x0 : S_) (x1 : Int32) (x2 : Int32), KX152 x0 x1 x2 → KX1522 x0 x1 x2 → KX1523 x0 x1 x2) : qM_needNoRing_J126 a KB44 KX152 r v2 v3 u0 → wM_needNoRing_J126 a KB442 KX1522 r v2 v3 u0 → wM_needNoRing_J126 a KB443 KX1523 r v2 v3 u0 := by
  unfold qM_needNoRing_J126 wM_needNoRing_J126
  repeat' (first | (with_reducible exact hKB44 _ _ _ _) | (with_reducible exact hKX152 _ _ _) | (with_reducible refine wq_M_needNoRing_J144 ?_ ?_) | (with_reducible refine wq_M_needNoRing_J145 ?_ ?_) | (with_reducible refine wj_vp ?_) | (with_reducible refine cj_and ?_ ?_) | (with_reducible refine wj_exn ?_) | (with_reducible refine wj_exk ?_) | (with_reducible refine wj_eq ?_) | (with_reducible refine cj_imp ?_) | (with_reducible refine cj_all ?_) | (with_reducible intro _))
theorem wq_M_needNoRing_J121 {a : L_} {KB44 : S_ → Int32 → Int32 → Int32 → Prop} {KB442 : S_ → Int32 → Int32 → Int32 → Prop} {KB443 : S_ → Int32 → Int32 → Int32 → Prop} {KX152 : S_ → Int32 → Int32 → Prop} {KX1522 : S_ → Int32 → Int32 → Prop} {KX1523 : S_ → Int32 → Int32 → Prop} {r : S_} {v2 : Int32} {v3 : Int32} (hKB44 : ∀ (x0 : S_) (x1 : Int32) (x2 : Int32) (x3 : Int32), KB44 x0 x1 x2 x3 → KB442 x0 x1 x2 x3 → KB443 x0 x1 x2 x3) (hKX152 : ∀ (x0 : S_) (x1 : Int32) (x2 : Int32), KX152 x0 x1 x2 → KX1522 x0 x1 x2 → KX1523 x0 x1 x2) : qM_needNoRing_J121 a KB44 KX152 r v2 v3 → wM_needNoRing_J121 a KB442 KX1522 r v2 v3 → wM_needNoRing_J121 a KB443 KX1523 r v2 v3 := by
  unfold qM_needNoRing_J121 wM_needNoRing_J121
  repeat' (first | (with_reducible exact hKB44 _ _ _ _) | (with_reducible exact hKX152 _ _ _) | (with_reducible refine wq_M_needNoRing_J126 ?_ ?_) | (with_reducible refine wj_vp ?_) | (with_reducible refine cj_and ?_ ?_) | (with_reducible refine wj_exn ?_) | (with_reducible refine wj_exk ?_) | (with_reducible refine wj_eq ?_) | (with_reducible refine cj_imp ?_) | (with_reducible refine cj_all ?_) | (with_reducible intro _))
theorem wq_M_needNoRing_J107 {a : L_} {KB44 : S_ → Int32 → Int32 → Int32 → Prop} {KB442 : S_ → Int32 → Int32 → Int32 → Prop} {KB443 : S_ → Int32 → Int32 → Int32 → Prop} {KX152 : S_ → Int32 → Int32 → Prop} {KX1522 : S_ → Int32 → Int32 → Prop} {KX1523 : S_ → Int32 → Int32 → Prop} {r : S_} {v1 : Int32} {v2 : Int32} {v3 : Int32} {u0 : Int32} {u1 : Int32} (hKB44 : ∀ (x0 : S_) (x1 : Int32) (x2 : Int32) (x3 : Int32), KB44 x0 x1 x2 x3 → KB442 x0 x1 x2 x3 → KB443 x0 x1 x2 x3) (hKX152 : ∀ (x0 : S_) (x1 : Int32) (x2 : Int32), KX152 x0 x1 x2 → KX1522 x0 x1 x2 → KX1523 x0 x1 x2) : qM_needNoRing_J107 a KB44 KX152 r v1 v2 v3 u0 u1 → wM_needNoRing_J107 a KB442 KX1522 r v1 v2 v3 u0 u1 → wM_needNoRing_J107 a KB443 KX1523 r v1 v2 v3 u0 u1 := by
  unfold qM_needNoRing_J107 wM_needNoRing_J107
  repeat' (first | (with_reducible exact hKB44 _ _ _ _) | (with_reducible exact hKX152 _ _ _) | (with_reducible refine wq_M_needNoRing_J121 ?_ ?_) | (with_reducible refine wq_M_needNoRing_J126 ?_ ?_) | (with_reducible refine wj_vp ?_) | (with_reducible refine cj_and ?_ ?_) | (with_reducible refine wj_exn ?_) | (with_reducible refine wj_exk ?_) | (with_reducible refine wj_eq ?_) | (with_reducible refine cj_imp ?_) | (with_reducible refine cj_all ?_) | (with_reducible intro _))
theorem wq_M_needNoRing_J106 {a : L_} {KB44 : S_ → Int32 → Int32 → Int32 → Prop} {KB442 : S_ → Int32 → Int32 → Int32 → Prop} {KB443 : S_ → Int32 → Int32 → Int32 → Prop} {KX152 : S_ → Int32 → Int32 → Prop} {KX1522 : S_ → Int32 → Int32 → Prop} {KX1523 : S_ → Int32 → Int32 → Prop} {r : S_} {v1 : Int32} {v2 : Int32} {v3 : Int32} {u0 : Int32} (hKB44 : ∀ (x0 : S_) (x1 : Int32) (x2 : Int32) (x3 : Int32), KB44 x0 x1 x2 x3 → KB442 x0 x1 x2 x3 → KB443 x0 x1 x2 x3) (hKX152 : ∀ (x0 : S_) (x1 : Int32) (x2 : Int32), KX152 x0 x1 x2 → KX1522 x0 x1 x2 → KX1523 x0 x1 x2) : qM_needNoRing_J106 a KB44 KX152 r v1 v2 v3 u0 → wM_needNoRing_J106 a KB442 KX1522 r v1 v2 v3 u0 → wM_needNoRing_J106 a KB443 KX1523 r v1 v2 v3 u0 := by
  unfold qM_needNoRing_J106 wM_needNoRing_J106
  repeat' (first | (with_reducible exact hKB44 _ _ _ _) | (with_reducible exact hKX152 _ _ _) | (with_reducible refine wq_M_needNoRing_J107 ?_ ?_) | (with_reducible refine wj_vp ?_) | (with_reducible refine cj_and ?_ ?_) | (with_reducible refine wj_exn ?_) | (with_reducible refine wj_exk ?_) | (with_reducible refine wj_eq ?_) | (with_reducible refine cj_imp ?_) | (with_reducible refine cj_all ?_) | (with_reducible intro _))
theorem wq_M_needNoRing_L44 {a : L_} {KX152 : S_ → Int32 → Int32 → Prop} {KX1522 : S_ → Int32 → Int32 → Prop} {KX1523 : S_ → Int32 → Int32 → Prop} (hKX152 : ∀ (x0 : S_) (x1 : Int32) (x2 : Int32), KX152 x0 x1 x2 → KX1522 x0 x1 x2 → KX1523 x0 x1 x2) : ∀ (n : Nat) (m : Nat) (w0 : S_) (w1 : Int32) (w2 : Int32) (w3 : Int32), qM_needNoRing_L44 a KX152 n w0 w1 w2 w3 → wM_needNoRing_L44 a KX1522 m w0 w1 w2 w3 → wM_needNoRing_L44 a KX1523 m w0 w1 w2 w3 := by
  intro n
  induction n with
  | zero => intro m w0 w1 w2 w3 h; exact h.elim
  | succ n ih =>
    intro m w0 w1 w2 w3
    cases m with
    | zero => intro _ _; trivial
    | succ m =>
      rw [qM_needNoRing_L44, wM_needNoRing_L44, wM_needNoRing_L44]
      repeat' (first | (with_reducible exact hKX152 _ _ _) | (with_reducible exact ih _ _ _ _ _) | (with_reducible refine wq_M_needNoRing_J146 ?_ ?_) | (with_reducible refine wq_M_isTold ?_) | (with_reducible refine wq_M_needNoRing_J106 ?_ ?_) | (with_reducible refine wq_M_needNoRing_J107 ?_ ?_) | (with_reducible refine wj_vp ?_) | (with_reducible refine cj_and ?_ ?_) | (with_reducible refine wj_exn ?_) | (with_reducible refine wj_exk ?_) | (with_reducible refine wj_eq ?_) | (with_reducible refine cj_imp ?_) | (with_reducible refine cj_all ?_) | (with_reducible intro _))
theorem wq_M_needNoRing_L27 {a : L_} {KX155 : S_ → Int32 → Prop} {KX1552 : S_ → Int32 → Prop} {KX1553 : S_ → Int32 → Prop} (hKX155 : ∀ (x0 : S_) (x1 : Int32), KX155 x0 x1 → KX1552 x0 x1 → KX1553 x0 x1) : ∀ (n : Nat) (m : Nat) (w0 : S_) (w1 : Int32) (w2 : Int32), qM_needNoRing_L27 a KX155 n w0 w1 w2 → wM_needNoRing_L27 a KX1552 m w0 w1 w2 → wM_needNoRing_L27 a KX1553 m w0 w1 w2 := by
  intro n
  induction n with
  | zero => intro m w0 w1 w2 h; exact h.elim
  | succ n ih =>
    intro m w0 w1 w2
    cases m with
    | zero => intro _ _; trivial
    | succ m =>
      rw [qM_needNoRing_L27, wM_needNoRing_L27, wM_needNoRing_L27]
      repeat' (first | (with_reducible exact hKX155 _ _) | (with_reducible exact ih _ _ _ _) | (with_reducible refine wq_M_needNoRing_L44 ?_ _ _ _ _ _ _) | (with_reducible refine wj_vp ?_) | (with_reducible refine cj_and ?_ ?_) | (with_reducible refine wj_exn ?_) | (with_reducible refine wj_exk ?_) | (with_reducible refine wj_eq ?_) | (with_reducible refine cj_imp ?_) | (with_reducible refine cj_all ?_) | (with_reducible intro _))
theorem wq_M_needNoRing_J172 {a : L_} {K : S_ → Prop} {K2 : S_ → Prop} {K3 : S_ → Prop} {r : S_} {u0 : Int32} (hK : ∀ (x0 : S_), K x0 → K2 x0 → K3 x0) : qM_needNoRing_J172 a K r u0 → wM_needNoRing_J172 a K2 r u0 → wM_needNoRing_J172 a K3 r u0 := by
  unfold qM_needNoRing_J172 wM_needNoRing_J172
  repeat' (first | (with_reducible exact hK _) | (with_reducible refine wj_vp ?_) | (with_reducible refine cj_and ?_ ?_) | (with_reducible refine wj_exn ?_) | (with_reducible refine wj_exk ?_) | (with_reducible refine wj_eq ?_) | (with_reducible refine cj_imp ?_) | (with_reducible refine cj_all ?_) | (with_reducible intro _))
theorem wq_M_needNoRing_J167 {a : L_} {K : S_ → Prop} {K2 : S_ → Prop} {K3 : S_ → Prop} {r : S_} (hK : ∀ (x0 : S_), K x0 → K2 x0 → K3 x0) : qM_needNoRing_J167 a K r → wM_needNoRing_J167 a K2 r → wM_needNoRing_J167 a K3 r := by
  unfold qM_needNoRing_J167 wM_needNoRing_J167
  repeat' (first | (with_reducible exact hK _) | (with_reducible refine wq_M_needNoRing_J172 ?_) | (with_reducible refine wj_vp ?_) | (with_reducible refine cj_and ?_ ?_) | (with_reducible refine wj_exn ?_) | (with_reducible refine wj_exk ?_) | (with_reducible refine wj_eq ?_) | (with_reducible refine cj_imp ?_) | (with_reducible refine cj_all ?_) | (with_reducible intro _))
theorem wq_M_needNoRing_J155 {a : L_} {K : S_ → Prop} {K2 : S_ → Prop} {K3 : S_ → Prop} {r : S_} {v2 : Int32} (hK : ∀ (x0 : S_), K x0 → K2 x0 → K3 x0) : qM_needNoRing_J155 a K r v2 → wM_needNoRing_J155 a K2 r v2 → wM_needNoRing_J155 a K3 r v2 := by
  unfold qM_needNoRing_J155 wM_needNoRing_J155
  repeat' (first | (with_reducible exact hK _) | (with_reducible refine wq_M_needNoRing_J167 ?_) | (with_reducible refine wq_M_needNoRing_J172 ?_) | (with_reducible refine wj_vp ?_) | (with_reducible refine cj_and ?_ ?_) | (with_reducible refine wj_exn ?_) | (with_reducible refine wj_exk ?_) | (with_reducible refine wj_eq ?_) | (with_reducible refine cj_imp ?_) | (with_reducible refine cj_all ?_) | (with_reducible intro _))
theorem wq_M_needNoRing {a : L_} {K : S_ → Prop} {K2 : S_ → Prop} {K3 : S_ → Prop} {r : S_} (hK : ∀ (x0 : S_), K x0 → K2 x0 → K3 x0) : qM_needNoRing a K r → wM_needNoRing a K2 r → wM_needNoRing a K3 r := by
  unfold qM_needNoRing wM_needNoRing
  repeat' (first | (with_reducible exact hK _) | (with_reducible refine wq_M_needNoRing_L2 ?_ _ _ _ _) | (with_reducible refine wq_M_needNoRing_L27 ?_ _ _ _ _ _) | (with_reducible refine wq_M_needNoRing_J155 ?_) | (with_reducible refine wj_vp ?_) | (with_reducible refine cj_and ?_ ?_) | (with_reducible refine wj_exn ?_) | (with_reducible refine wj_exk ?_) | (with_reducible refine wj_eq ?_) | (with_reducible refine cj_imp ?_) | (with_reducible refine cj_all ?_) | (with_reducible intro _))
theorem wq_M_reach_J118 {a : L_} {KB9 : S_ → Int32 → Prop} {KB92 : S_ → Int32 → Prop} {KB93 : S_ → Int32 → Prop} {KX121 : S_ → Prop} {KX1212 : S_ → Prop} {KX1213 : S_ → Prop} {r : S_} {v2 : Int32} (hKB9 : ∀ (x0 : S_) (x1 : Int32), KB9 x0 x1 → KB92 x0 x1 → KB93 x0 x1) (hKX121 : ∀ (x0 : S_), KX121 x0 → KX1212 x0 → KX1213 x0) : qM_reach_J118 a KB9 KX121 r v2 → wM_reach_J118 a KB92 KX1212 r v2 → wM_reach_J118 a KB93 KX1213 r v2 := by
  unfold qM_reach_J118 wM_reach_J118
  repeat' (first | (with_reducible exact hKB9 _ _) | (with_reducible exact hKX121 _) | (with_reducible refine wj_vp ?_) | (with_reducible refine cj_and ?_ ?_) | (with_reducible refine wj_exn ?_) | (with_reducible refine wj_exk ?_) | (with_reducible refine wj_eq ?_) | (with_reducible refine cj_imp ?_) | (with_reducible refine cj_all ?_) | (with_reducible intro _))
theorem wq_M_reach_J94 {a : L_} {KB9 : S_ → Int32 → Prop} {KB92 : S_ → Int32 → Prop} {KB93 : S_ → Int32 → Prop} {KX121 : S_ → Prop} {KX1212 : S_ → Prop} {KX1213 : S_ → Prop} {r : S_} {v2 : Int32} {v3 : Int32} (hKB9 : ∀ (x0 : S_) (x1 : Int32), KB9 x0 x1 → KB92 x0 x1 → KB93 x0 x1) (hKX121 : ∀ (x0 : S_), KX121 x0 → KX1212 x0 → KX1213 x0) : qM_reach_J94 a KB9 KX121 r v2 v3 → wM_reach_J94 a KB92 KX1212 r v2 v3 → wM_reach_J94 a KB93 KX1213 r v2 v3 := by
  unfold qM_reach_J94 wM_reach_J94
  repeat' (first | (with_reducible exact hKB9 _ _) | (with_reducible exact hKX121 _) | (with_reducible refine wq_M_reach_J118 ?_ ?_) | (with_reducible refine wj_vp ?_) | (with_reducible refine cj_and ?_ ?_) | (with_reducible refine wj_exn ?_) | (with_reducible refine wj_exk ?_) | (with_reducible refine wj_eq ?_) | (with_reducible refine cj_imp ?_) | (with_reducible refine cj_all ?_) | (with_reducible intro _))
theorem wq_M_reach_L9 {a : L_} {KX121 : S_ → Prop} {KX1212 : S_ → Prop} {KX1213 : S_ → Prop} (hKX121 : ∀ (x0 : S_), KX121 x0 → KX1212 x0 → KX1213 x0) : ∀ (n : Nat) (m : Nat) (w0 : S_) (w1 : Int32), qM_reach_L9 a KX121 n w0 w1 → wM_reach_L9 a KX1212 m w0 w1 → wM_reach_L9 a KX1213 m w0 w1 := by
  intro n
  induction n with
  | zero => intro m w0 w1 h; exact h.elim
  | succ n ih =>
    intro m w0 w1
    cases m with
    | zero => intro _ _; trivial
    | succ m =>
      rw [qM_reach_L9, wM_reach_L9, wM_reach_L9]
      repeat' (first | (with_reducible exact hKX121 _) | (with_reducible exact ih _ _ _) | (with_reducible refine wq_M_find ?_) | (with_reducible refine wq_M_reach_J118 ?_ ?_) | (with_reducible refine wq_M_reach_J94 ?_ ?_) | (with_reducible refine wj_vp ?_) | (with_reducible refine cj_and ?_ ?_) | (with_reducible refine wj_exn ?_) | (with_reducible refine wj_exk ?_) | (with_reducible refine wj_eq ?_) | (with_reducible refine cj_imp ?_) | (with_reducible refine cj_all ?_) | (with_reducible intro _))
theorem wq_M_reach {a : L_} {K : S_ → Prop} {K2 : S_ → Prop} {K3 : S_ → Prop} {r : S_} {p0 : Int32} (hK : ∀ (x0 : S_), K x0 → K2 x0 → K3 x0) : qM_reach a K r p0 → wM_reach a K2 r p0 → wM_reach a K3 r p0 := by
  unfold qM_reach wM_reach
  repeat' (first | (with_reducible exact hK _) | (with_reducible refine wq_M_reach_L9 ?_ _ _ _ _) | (with_reducible refine wj_vp ?_) | (with_reducible refine cj_and ?_ ?_) | (with_reducible refine wj_exn ?_) | (with_reducible refine wj_exk ?_) | (with_reducible refine wj_eq ?_) | (with_reducible refine cj_imp ?_) | (with_reducible refine cj_all ?_) | (with_reducible intro _))
theorem wq_M_copyStatic_J107 {a : L_} {KB7 : S_ → Int32 → Int32 → Prop} {KB72 : S_ → Int32 → Int32 → Prop} {KB73 : S_ → Int32 → Int32 → Prop} {KX113 : S_ → Int32 → Prop} {KX1132 : S_ → Int32 → Prop} {KX1133 : S_ → Int32 → Prop} {r : S_} {v1 : Int32} {v2 : Int32} (hKB7 : ∀ (x0 : S_) (x1 : Int32) (x2 : Int32), KB7 x0 x1 x2 → KB72 x0 x1 x2 → KB73 x0 x1 x2) (hKX113 : ∀ (x0 : S_) (x1 : Int32), KX113 x0 x1 → KX1132 x0 x1 → KX1133 x0 x1) : qM_copyStatic_J107 a KB7 KX113 r v1 v2 → wM_copyStatic_J107 a KB72 KX1132 r v1 v2 → wM_copyStatic_J107 a KB73 KX1133 r v1 v2 := by
  unfold qM_copyStatic_J107 wM_copyStatic_J107
  repeat' (first | (with_reducible exact hKB7 _ _ _) | (with_reducible exact hKX113 _ _) | (with_reducible refine wj_vp ?_) | (with_reducible refine cj_and ?_ ?_) | (with_reducible refine wj_exn ?_) | (with_reducible refine wj_exk ?_) | (with_reducible refine wj_eq ?_) | (with_reducible refine cj_imp ?_) | (with_reducible refine cj_all ?_) | (with_reducible intro _))
theorem wq_M_copyStatic_J106 {a : L_} {KB7 : S_ → Int32 → Int32 → Prop} {KB72 : S_ → Int32 → Int32 → Prop} {KB73 : S_ → Int32 → Int32 → Prop} {KX113 : S_ → Int32 → Prop} {KX1132 : S_ → Int32 → Prop} {KX1133 : S_ → Int32 → Prop} {r : S_} {v1 : Int32} {v2 : Int32} {u0 : Int32} {u1 : Int32} (hKB7 : ∀ (x0 : S_) (x1 : Int32) (x2 : Int32), KB7 x0 x1 x2 → KB72 x0 x1 x2 → KB73 x0 x1 x2) (hKX113 : ∀ (x0 : S_) (x1 : Int32), KX113 x0 x1 → KX1132 x0 x1 → KX1133 x0 x1) : qM_copyStatic_J106 a KB7 KX113 r v1 v2 u0 u1 → wM_copyStatic_J106 a KB72 KX1132 r v1 v2 u0 u1 → wM_copyStatic_J106 a KB73 KX1133 r v1 v2 u0 u1 := by
  unfold qM_copyStatic_J106 wM_copyStatic_J106
  repeat' (first | (with_reducible exact hKB7 _ _ _) | (with_reducible exact hKX113 _ _) | (with_reducible refine wq_M_copyStatic_J107 ?_ ?_) | (with_reducible refine wj_vp ?_) | (with_reducible refine cj_and ?_ ?_) | (with_reducible refine wj_exn ?_) | (with_reducible refine wj_exk ?_) | (with_reducible refine wj_eq ?_) | (with_reducible refine cj_imp ?_) | (with_reducible refine cj_all ?_) | (with_reducible intro _))
theorem wq_M_copyStatic_J70 {a : L_} {KB7 : S_ → Int32 → Int32 → Prop} {KB72 : S_ → Int32 → Int32 → Prop} {KB73 : S_ → Int32 → Int32 → Prop} {KX113 : S_ → Int32 → Prop} {KX1132 : S_ → Int32 → Prop} {KX1133 : S_ → Int32 → Prop} {r : S_} {v1 : Int32} {v2 : Int32} {v3 : Int32} {u0 : Int32} (hKB7 : ∀ (x0 : S_) (x1 : Int32) (x2 : Int32), KB7 x0 x1 x2 → KB72 x0 x1 x2 → KB73 x0 x1 x2) (hKX113 : ∀ (x0 : S_) (x1 : Int32), KX113 x0 x1 → KX1132 x0 x1 → KX1133 x0 x1) : qM_copyStatic_J70 a KB7 KX113 r v1 v2 v3 u0 → wM_copyStatic_J70 a KB72 KX1132 r v1 v2 v3 u0 → wM_copyStatic_J70 a KB73 KX1133 r v1 v2 v3 u0 := by
  unfold qM_copyStatic_J70 wM_copyStatic_J70
  repeat' (first | (with_reducible exact hKB7 _ _ _) | (with_reducible exact hKX113 _ _) | (with_reducible refine wq_M_newTerm ?_) | (with_reducible refine wq_M_copyStatic_J106 ?_ ?_) | (with_reducible refine wq_M_fresh ?_) | (with_reducible refine wj_vp ?_) | (with_reducible refine cj_and ?_ ?_) | (with_reducible refine wj_exn ?_) | (with_reducible refine wj_exk ?_) | (with_reducible refine wj_eq ?_) | (with_reducible refine cj_imp ?_) | (with_reducible refine cj_all ?_) | (with_reducible intro _))
theorem wq_M_copyStatic_J45 {a : L_} {KB7 : S_ → Int32 → Int32 → Prop} {KB72 : S_ → Int32 → Int32 → Prop} {KB73 : S_ → Int32 → Int32 → Prop} {KX113 : S_ → Int32 → Prop} {KX1132 : S_ → Int32 → Prop} {KX1133 : S_ → Int32 → Prop} {r : S_} {v1 : Int32} {v2 : Int32} {u0 : Int32} (hKB7 : ∀ (x0 : S_) (x1 : Int32) (x2 : Int32), KB7 x0 x1 x2 → KB72 x0 x1 x2 → KB73 x0 x1 x2) (hKX113 : ∀ (x0 : S_) (x1 : Int32), KX113 x0 x1 → KX1132 x0 x1 → KX1133 x0 x1) : qM_copyStatic_J45 a KB7 KX113 r v1 v2 u0 → wM_copyStatic_J45 a KB72 KX1132 r v1 v2 u0 → wM_copyStatic_J45 a KB73 KX1133 r v1 v2 u0 := by
  unfold qM_copyStatic_J45 wM_copyStatic_J45
  repeat' (first | (with_reducible exact hKB7 _ _ _) | (with_reducible exact hKX113 _ _) | (with_reducible refine wq_M_copyStatic_J70 ?_ ?_) | (with_reducible refine wj_vp ?_) | (with_reducible refine cj_and ?_ ?_) | (with_reducible refine wj_exn ?_) | (with_reducible refine wj_exk ?_) | (with_reducible refine wj_eq ?_) | (with_reducible refine cj_imp ?_) | (with_reducible refine cj_all ?_) | (with_reducible intro _))
theorem wq_M_copyStatic_L7 {a : L_} {KX113 : S_ → Int32 → Prop} {KX1132 : S_ → Int32 → Prop} {KX1133 : S_ → Int32 → Prop} (hKX113 : ∀ (x0 : S_) (x1 : Int32), KX113 x0 x1 → KX1132 x0 x1 → KX1133 x0 x1) : ∀ (n : Nat) (m : Nat) (w0 : S_) (w1 : Int32) (w2 : Int32), qM_copyStatic_L7 a KX113 n w0 w1 w2 → wM_copyStatic_L7 a KX1132 m w0 w1 w2 → wM_copyStatic_L7 a KX1133 m w0 w1 w2 := by
  intro n
  induction n with
  | zero => intro m w0 w1 w2 h; exact h.elim
  | succ n ih =>
    intro m w0 w1 w2
    cases m with
    | zero => intro _ _; trivial
    | succ m =>
      rw [qM_copyStatic_L7, wM_copyStatic_L7, wM_copyStatic_L7]
      repeat' (first | (with_reducible exact hKX113 _ _) | (with_reducible exact ih _ _ _ _) | (with_reducible refine wq_M_copyStatic_J107 ?_ ?_) | (with_reducible refine wq_M_copyStatic_J45 ?_ ?_) | (with_reducible refine wj_vp ?_) | (with_reducible refine cj_and ?_ ?_) | (with_reducible refine wj_exn ?_) | (with_reducible refine wj_exk ?_) | (with_reducible refine wj_eq ?_) | (with_reducible refine cj_imp ?_) | (with_reducible refine cj_all ?_) | (with_reducible intro _))
theorem wq_M_copyStatic {a : L_} {K : Int32 → S_ → Prop} {K2 : Int32 → S_ → Prop} {K3 : Int32 → S_ → Prop} {r : S_} {p0 : Int32} (hK : ∀ (x0 : Int32) (x1 : S_), K x0 x1 → K2 x0 x1 → K3 x0 x1) : qM_copyStatic a K r p0 → wM_copyStatic a K2 r p0 → wM_copyStatic a K3 r p0 := by
  unfold qM_copyStatic wM_copyStatic
  repeat' (first | (with_reducible exact hK _ _) | (with_reducible refine wq_M_markStatic ?_) | (with_reducible refine wq_M_copyStatic_L7 ?_ _ _ _ _ _) | (with_reducible refine wj_vp ?_) | (with_reducible refine cj_and ?_ ?_) | (with_reducible refine wj_exn ?_) | (with_reducible refine wj_exk ?_) | (with_reducible refine wj_eq ?_) | (with_reducible refine cj_imp ?_) | (with_reducible refine cj_all ?_) | (with_reducible intro _))
theorem wq_M_addWant {a : L_} {K : S_ → Prop} {K2 : S_ → Prop} {K3 : S_ → Prop} {r : S_} {p0 : Int32} {p1 : Int32} (hK : ∀ (x0 : S_), K x0 → K2 x0 → K3 x0) : qM_addWant a K r p0 p1 → wM_addWant a K2 r p0 p1 → wM_addWant a K3 r p0 p1 := by
  unfold qM_addWant wM_addWant
  repeat' (first | (with_reducible exact hK _) | (with_reducible refine wj_vp ?_) | (with_reducible refine cj_and ?_ ?_) | (with_reducible refine wj_exn ?_) | (with_reducible refine wj_exk ?_) | (with_reducible refine wj_eq ?_) | (with_reducible refine cj_imp ?_) | (with_reducible refine cj_all ?_) | (with_reducible intro _))
theorem wq_M_drive_L19 {a : L_} {KX77 : S_ → Int32 → Prop} {KX772 : S_ → Int32 → Prop} {KX773 : S_ → Int32 → Prop} (hKX77 : ∀ (x0 : S_) (x1 : Int32), KX77 x0 x1 → KX772 x0 x1 → KX773 x0 x1) : ∀ (n : Nat) (m : Nat) (w0 : S_) (w1 : Int32) (w2 : Int32), qM_drive_L19 a KX77 n w0 w1 w2 → wM_drive_L19 a KX772 m w0 w1 w2 → wM_drive_L19 a KX773 m w0 w1 w2 := by
  intro n
  induction n with
  | zero => intro m w0 w1 w2 h; exact h.elim
  | succ n ih =>
    intro m w0 w1 w2
    cases m with
    | zero => intro _ _; trivial
    | succ m =>
      rw [qM_drive_L19, wM_drive_L19, wM_drive_L19]
      repeat' (first | (with_reducible exact hKX77 _ _) | (with_reducible exact ih _ _ _ _) | (with_reducible refine wq_M_find ?_) | (with_reducible refine wj_vp ?_) | (with_reducible refine cj_and ?_ ?_) | (with_reducible refine wj_exn ?_) | (with_reducible refine wj_exk ?_) | (with_reducible refine wj_eq ?_) | (with_reducible refine cj_imp ?_) | (with_reducible refine cj_all ?_) | (with_reducible intro _))
theorem wq_M_drive_J295 {a : L_} {KB172 : S_ → Int32 → Int32 → Int32 → Int32 → Int32 → Int32 → Prop} {KB1722 : S_ → Int32 → Int32 → Int32 → Int32 → Int32 → Int32 → Prop} {KB1723 : S_ → Int32 → Int32 → Int32 → Int32 → Int32 → Int32 → Prop} {KX301 : S_ → Int32 → Int32 → Int32 → Int32 → Prop} {KX3012 : S_ → Int32 → Int32 → Int32 → Int32 → Prop} {KX3013 : S_ → Int32 → Int32 → Int32 → Int32 → Prop} {r : S_} {v2 : Int32} {v3 : Int32} {v4 : Int32} {v5 : Int32} {v6 : Int32} {v7 : Int32} (hKB172 : ∀ (x0 : S_) (x1 : Int32) (x2 : Int32) (x3 : Int32) (x4 : Int32) (x5 : Int32) (x6 : Int32), KB172 x0 x1 x2 x3 x4 x5 x6 → KB1722 x0 x1 x2 x3 x4 x5 x6 → KB1723 x0 x1 x2 x3 x4 x5 x6) (hKX301 : ∀ (x0 : S_) (x1 : Int32) (x2 : Int32) (x3 : Int32) (x4 : Int32), KX301 x0 x1 x2 x3 x4 → KX3012 x0 x1 x2 x3 x4 → KX3013 x0 x1 x2 x3 x4) : qM_drive_J295 a KB172 KX301 r v2 v3 v4 v5 v6 v7 → wM_drive_J295 a KB1722 KX3012 r v2 v3 v4 v5 v6 v7 → wM_drive_J295 a KB1723 KX3013 r v2 v3 v4 v5 v6 v7 := by
  unfold qM_drive_J295 wM_drive_J295
  repeat' (first | (with_reducible exact hKB172 _ _ _ _ _ _ _) | (with_reducible exact hKX301 _ _ _ _ _) | (with_reducible refine wj_vp ?_) | (with_reducible refine cj_and ?_ ?_) | (with_reducible refine wj_exn ?_) | (with_reducible refine wj_exk ?_) | (with_reducible refine wj_eq ?_) | (with_reducible refine cj_imp ?_) | (with_reducible refine cj_all ?_) | (with_reducible intro _))
theorem wq_M_drive_J293 {a : L_} {KB172 : S_ → Int32 → Int32 → Int32 → Int32 → Int32 → Int32 → Prop} {KB1722 : S_ → Int32 → Int32 → Int32 → Int32 → Int32 → Int32 → Prop} {KB1723 : S_ → Int32 → Int32 → Int32 → Int32 → Int32 → Int32 → Prop} {KX301 : S_ → Int32 → Int32 → Int32 → Int32 → Prop} {KX3012 : S_ → Int32 → Int32 → Int32 → Int32 → Prop} {KX3013 : S_ → Int32 → Int32 → Int32 → Int32 → Prop} {r : S_} {v2 : Int32} {v3 : Int32} {v4 : Int32} {v5 : Int32} {v7 : Int32} {u0 : Int32} (hKB172 : ∀ (x0 : S_) (x1 : Int32) (x2 : Int32) (x3 : Int32) (x4 : Int32) (x5 : Int32) (x6 : Int32), KB172 x0 x1 x2 x3 x4 x5 x6 → KB1722 x0 x1 x2 x3 x4 x5 x6 → KB1723 x0 x1 x2 x3 x4 x5 x6) (hKX301 : ∀ (x0 : S_) (x1 : Int32) (x2 : Int32) (x3 : Int32) (x4 : Int32), KX301 x0 x1 x2 x3 x4 → KX3012 x0 x1 x2 x3 x4 → KX3013 x0 x1 x2 x3 x4) : qM_drive_J293 a KB172 KX301 r v2 v3 v4 v5 v7 u0 → wM_drive_J293 a KB1722 KX3012 r v2 v3 v4 v5 v7 u0 → wM_drive_J293 a KB1723 KX3013 r v2 v3 v4 v5 v7 u0 := by
  unfold qM_drive_J293 wM_drive_J293
  repeat' (first | (with_reducible exact hKB172 _ _ _ _ _ _ _) | (with_reducible exact hKX301 _ _ _ _ _) | (with_reducible refine wq_M_drive_J295 ?_ ?_) | (with_reducible refine wj_vp ?_) | (with_reducible refine cj_and ?_ ?_) | (with_reducible refine wj_exn ?_) | (with_reducible refine wj_exk ?_) | (with_reducible refine wj_eq ?_) | (with_reducible refine cj_imp ?_) | (with_reducible refine cj_all ?_) | (with_reducible intro _))
theorem wq_M_drive_J266 {a : L_} {KB172 : S_ → Int32 → Int32 → Int32 → Int32 → Int32 → Int32 → Prop} {KB1722 : S_ → Int32 → Int32 → Int32 → Int32 → Int32 → Int32 → Prop} {KB1723 : S_ → Int32 → Int32 → Int32 → Int32 → Int32 → Int32 → Prop} {KX301 : S_ → Int32 → Int32 → Int32 → Int32 → Prop} {KX3012 : S_ → Int32 → Int32 → Int32 → Int32 → Prop} {KX3013 : S_ → Int32 → Int32 → Int32 → Int32 → Prop} {r : S_} {v2 : Int32} {v3 : Int32} {v4 : Int32} {v6 : Int32} {v7 : Int32} {v8 : Int32} {u0 : Int32} (hKB172 : ∀ (x0 : S_) (x1 : Int32) (x2 : Int32) (x3 : Int32) (x4 : Int32) (x5 : Int32) (x6 : Int32), KB172 x0 x1 x2 x3 x4 x5 x6 → KB1722 x0 x1 x2 x3 x4 x5 x6 → KB1723 x0 x1 x2 x3 x4 x5 x6) (hKX301 : ∀ (x0 : S_) (x1 : Int32) (x2 : Int32) (x3 : Int32) (x4 : Int32), KX301 x0 x1 x2 x3 x4 → KX3012 x0 x1 x2 x3 x4 → KX3013 x0 x1 x2 x3 x4) : qM_drive_J266 a KB172 KX301 r v2 v3 v4 v6 v7 v8 u0 → wM_drive_J266 a KB1722 KX3012 r v2 v3 v4 v6 v7 v8 u0 → wM_drive_J266 a KB1723 KX3013 r v2 v3 v4 v6 v7 v8 u0 := by
  unfold qM_drive_J266 wM_drive_J266
  repeat' (first | (with_reducible exact hKB172 _ _ _ _ _ _ _) | (with_reducible exact hKX301 _ _ _ _ _) | (with_reducible refine wq_M_drive_J293 ?_ ?_) | (with_reducible refine wj_vp ?_) | (with_reducible refine cj_and ?_ ?_) | (with_reducible refine wj_exn ?_) | (with_reducible refine wj_exk ?_) | (with_reducible refine wj_eq ?_) | (with_reducible refine cj_imp ?_) | (with_reducible refine cj_all ?_) | (with_reducible intro _))
theorem wq_M_drive_J238 {a : L_} {KB172 : S_ → Int32 → Int32 → Int32 → Int32 → Int32 → Int32 → Prop} {KB1722 : S_ → Int32 → Int32 → Int32 → Int32 → Int32 → Int32 → Prop} {KB1723 : S_ → Int32 → Int32 → Int32 → Int32 → Int32 → Int32 → Prop} {KX301 : S_ → Int32 → Int32 → Int32 → Int32 → Prop} {KX3012 : S_ → Int32 → Int32 → Int32 → Int32 → Prop} {KX3013 : S_ → Int32 → Int32 → Int32 → Int32 → Prop} {r : S_} {v2 : Int32} {v3 : Int32} {v4 : Int32} {v5 : Int32} {v6 : Int32} {v7 : Int32} {v8 : Int32} {u0 : Int32} (hKB172 : ∀ (x0 : S_) (x1 : Int32) (x2 : Int32) (x3 : Int32) (x4 : Int32) (x5 : Int32) (x6 : Int32), KB172 x0 x1 x2 x3 x4 x5 x6 → KB1722 x0 x1 x2 x3 x4 x5 x6 → KB1723 x0 x1 x2 x3 x4 x5 x6) (hKX301 : ∀ (x0 : S_) (x1 : Int32) (x2 : Int32) (x3 : Int32) (x4 : Int32), KX301 x0 x1 x2 x3 x4 → KX3012 x0 x1 x2 x3 x4 → KX3013 x0 x1 x2 x3 x4) : qM_drive_J238 a KB172 KX301 r v2 v3 v4 v5 v6 v7 v8 u0 → wM_drive_J238 a KB1722 KX3012 r v2 v3 v4 v5 v6 v7 v8 u0 → wM_drive_J238 a KB1723 KX3013 r v2 v3 v4 v5 v6 v7 v8 u0 := by
  unfold qM_drive_J238 wM_drive_J238
  repeat' (first | (with_reducible exact hKB172 _ _ _ _ _ _ _) | (with_reducible exact hKX301 _ _ _ _ _) | (with_reducible refine wq_M_drive_J266 ?_ ?_) | (with_reducible refine wj_vp ?_) | (with_reducible refine cj_and ?_ ?_) | (with_reducible refine wj_exn ?_) | (with_reducible refine wj_exk ?_) | (with_reducible refine wj_eq ?_) | (with_reducible refine cj_imp ?_) | (with_reducible refine cj_all ?_) | (with_reducible intro _))
theorem wq_M_drive_J233 {a : L_} {KB172 : S_ → Int32 → Int32 → Int32 → Int32 → Int32 → Int32 → Prop} {KB1722 : S_ → Int32 → Int32 → Int32 → Int32 → Int32 → Int32 → Prop} {KB1723 : S_ → Int32 → Int32 → Int32 → Int32 → Int32 → Int32 → Prop} {KX301 : S_ → Int32 → Int32 → Int32 → Int32 → Prop} {KX3012 : S_ → Int32 → Int32 → Int32 → Int32 → Prop} {KX3013 : S_ → Int32 → Int32 → Int32 → Int32 → Prop} {r : S_} {v2 : Int32} {v3 : Int32} {v4 : Int32} {v5 : Int32} {v6 : Int32} {v7 : Int32} {v8 : Int32} (hKB172 : ∀ (x0 : S_) (x1 : Int32) (x2 : Int32) (x3 : Int32) (x4 : Int32) (x5 : Int32) (x6 : Int32), KB172 x0 x1 x2 x3 x4 x5 x6 → KB1722 x0 x1 x2 x3 x4 x5 x6 → KB1723 x0 x1 x2 x3 x4 x5 x6) (hKX301 : ∀ (x0 : S_) (x1 : Int32) (x2 : Int32) (x3 : Int32) (x4 : Int32), KX301 x0 x1 x2 x3 x4 → KX3012 x0 x1 x2 x3 x4 → KX3013 x0 x1 x2 x3 x4) : qM_drive_J233 a KB172 KX301 r v2 v3 v4 v5 v6 v7 v8 → wM_drive_J233 a KB1722 KX3012 r v2 v3 v4 v5 v6 v7 v8 → wM_drive_J233 a KB1723 KX3013 r v2 v3 v4 v5 v6 v7 v8 := by
  unfold qM_drive_J233 wM_drive_J233
  repeat' (first | (with_reducible exact hKB172 _ _ _ _ _ _ _) | (with_reducible exact hKX301 _ _ _ _ _) | (with_reducible refine wq_M_drive_J238 ?_ ?_) | (with_reducible refine wj_vp ?_) | (with_reducible refine cj_and ?_ ?_) | (with_reducible refine wj_exn ?_) | (with_reducible refine wj_exk ?_) | (with_reducible refine wj_eq ?_) | (with_reducible refine cj_imp ?_) | (with_reducible refine cj_all ?_) | (with_reducible intro _))
theorem wq_M_drive_L172 {a : L_} {KX301 : S_ → Int32 → Int32 → Int32 → Int32 → Prop} {KX3012 : S_ → Int32 → Int32 → Int32 → Int32 → Prop} {KX3013 : S_ → Int32 → Int32 → Int32 → Int32 → Prop} (hKX301 : ∀ (x0 : S_) (x1 : Int32) (x2 : Int32) (x3 : Int32) (x4 : Int32), KX301 x0 x1 x2 x3 x4 → KX3012 x0 x1 x2 x3 x4 → KX3013 x0 x1 x2 x3 x4) : ∀ (n : Nat) (m : Nat) (w0 : S_) (w1 : Int32) (w2 : Int32) (w3 : Int32) (w4 : Int32) (w5 : Int32) (w6 : Int32), qM_drive_L172 a KX301 n w0 w1 w2 w3 w4 w5 w6 → wM_drive_L172 a KX3012 m w0 w1 w2 w3 w4 w5 w6 → wM_drive_L172 a KX3013 m w0 w1 w2 w3 w4 w5 w6 := by
  intro n
  induction n with
  | zero => intro m w0 w1 w2 w3 w4 w5 w6 h; exact h.elim
  | succ n ih =>
    intro m w0 w1 w2 w3 w4 w5 w6
    cases m with
    | zero => intro _ _; trivial
    | succ m =>
      rw [qM_drive_L172, wM_drive_L172, wM_drive_L172]
      repeat' (first | (with_reducible exact hKX301 _ _ _ _ _) | (with_reducible exact ih _ _ _ _ _ _ _ _) | (with_reducible refine wq_M_drive_J295 ?_ ?_) | (with_reducible refine wq_M_drive_J233 ?_ ?_) | (with_reducible refine wq_M_drive_J238 ?_ ?_) | (with_reducible refine wj_vp ?_) | (with_reducible refine cj_and ?_ ?_) | (with_reducible refine wj_exn ?_) | (with_reducible refine wj_exk ?_) | (with_reducible refine wj_eq ?_) | (with_reducible refine cj_imp ?_) | (with_reducible refine cj_all ?_) | (with_reducible intro _))
theorem wq_M_drive_J391 {a : L_} {KB77 : S_ → Int32 → Prop} {KB772 : S_ → Int32 → Prop} {KB773 : S_ → Int32 → Prop} {KX394 : S_ → Prop} {KX3942 : S_ → Prop} {KX3943 : S_ → Prop} {r : S_} {v2 : Int32} (hKB77 : ∀ (x0 : S_) (x1 : Int32), KB77 x0 x1 → KB772 x0 x1 → KB773 x0 x1) (hKX394 : ∀ (x0 : S_), KX394 x0 → KX3942 x0 → KX3943 x0) : qM_drive_J391 a KB77 KX394 r v2 → wM_drive_J391 a KB772 KX3942 r v2 → wM_drive_J391 a KB773 KX3943 r v2 := by
  unfold qM_drive_J391 wM_drive_J391
  repeat' (first | (with_reducible exact hKB77 _ _) | (with_reducible exact hKX394 _) | (with_reducible refine wj_vp ?_) | (with_reducible refine cj_and ?_ ?_) | (with_reducible refine wj_exn ?_) | (with_reducible refine wj_exk ?_) | (with_reducible refine wj_eq ?_) | (with_reducible refine cj_imp ?_) | (with_reducible refine cj_all ?_) | (with_reducible intro _))
theorem wq_M_drive_J346 {a : L_} {KB77 : S_ → Int32 → Prop} {KB772 : S_ → Int32 → Prop} {KB773 : S_ → Int32 → Prop} {KX394 : S_ → Prop} {KX3942 : S_ → Prop} {KX3943 : S_ → Prop} {r : S_} {v2 : Int32} {v3 : Int32} {v6 : Int32} (hKB77 : ∀ (x0 : S_) (x1 : Int32), KB77 x0 x1 → KB772 x0 x1 → KB773 x0 x1) (hKX394 : ∀ (x0 : S_), KX394 x0 → KX3942 x0 → KX3943 x0) : qM_drive_J346 a KB77 KX394 r v2 v3 v6 → wM_drive_J346 a KB772 KX3942 r v2 v3 v6 → wM_drive_J346 a KB773 KX3943 r v2 v3 v6 := by
  unfold qM_drive_J346 wM_drive_J346
  repeat' (first | (with_reducible exact hKB77 _ _) | (with_reducible exact hKX394 _) | (with_reducible refine wq_M_drive_J391 ?_ ?_) | (with_reducible refine wq_M_find ?_) | (with_reducible refine wj_vp ?_) | (with_reducible refine cj_and ?_ ?_) | (with_reducible refine wj_exn ?_) | (with_reducible refine wj_exk ?_) | (with_reducible refine wj_eq ?_) | (with_reducible refine cj_imp ?_) | (with_reducible refine cj_all ?_) | (with_reducible intro _))
theorem wq_M_drive_J301 {a : L_} {KB77 : S_ → Int32 → Prop} {KB772 : S_ → Int32 → Prop} {KB773 : S_ → Int32 → Prop} {KX394 : S_ → Prop} {KX3942 : S_ → Prop} {KX3943 : S_ → Prop} {r : S_} {v2 : Int32} {v3 : Int32} {v5 : Int32} {v6 : Int32} (hKB77 : ∀ (x0 : S_) (x1 : Int32), KB77 x0 x1 → KB772 x0 x1 → KB773 x0 x1) (hKX394 : ∀ (x0 : S_), KX394 x0 → KX3942 x0 → KX3943 x0) : qM_drive_J301 a KB77 KX394 r v2 v3 v5 v6 → wM_drive_J301 a KB772 KX3942 r v2 v3 v5 v6 → wM_drive_J301 a KB773 KX3943 r v2 v3 v5 v6 := by
  unfold qM_drive_J301 wM_drive_J301
  repeat' (first | (with_reducible exact hKB77 _ _) | (with_reducible exact hKX394 _) | (with_reducible refine wq_M_drive_J346 ?_ ?_) | (with_reducible refine wq_M_find ?_) | (with_reducible refine wj_vp ?_) | (with_reducible refine cj_and ?_ ?_) | (with_reducible refine wj_exn ?_) | (with_reducible refine wj_exk ?_) | (with_reducible refine wj_eq ?_) | (with_reducible refine cj_imp ?_) | (with_reducible refine cj_all ?_) | (with_reducible intro _))
theorem wq_M_drive_J134 {a : L_} {KB77 : S_ → Int32 → Prop} {KB772 : S_ → Int32 → Prop} {KB773 : S_ → Int32 → Prop} {KX394 : S_ → Prop} {KX3942 : S_ → Prop} {KX3943 : S_ → Prop} {r : S_} {v2 : Int32} {v3 : Int32} (hKB77 : ∀ (x0 : S_) (x1 : Int32), KB77 x0 x1 → KB772 x0 x1 → KB773 x0 x1) (hKX394 : ∀ (x0 : S_), KX394 x0 → KX3942 x0 → KX3943 x0) : qM_drive_J134 a KB77 KX394 r v2 v3 → wM_drive_J134 a KB772 KX3942 r v2 v3 → wM_drive_J134 a KB773 KX3943 r v2 v3 := by
  unfold qM_drive_J134 wM_drive_J134
  repeat' (first | (with_reducible exact hKB77 _ _) | (with_reducible exact hKX394 _) | (with_reducible refine wq_M_drive_L172 ?_ _ _ _ _ _ _ _ _ _) | (with_reducible refine wq_M_drive_J301 ?_ ?_) | (with_reducible refine wj_vp ?_) | (with_reducible refine cj_and ?_ ?_) | (with_reducible refine wj_exn ?_) | (with_reducible refine wj_exk ?_) | (with_reducible refine wj_eq ?_) | (with_reducible refine cj_imp ?_) | (with_reducible refine cj_all ?_) | (with_reducible intro _))
theorem wq_M_drive_L77 {a : L_} {KX394 : S_ → Prop} {KX3942 : S_ → Prop} {KX3943 : S_ → Prop} (hKX394 : ∀ (x0 : S_), KX394 x0 → KX3942 x0 → KX3943 x0) : ∀ (n : Nat) (m : Nat) (w0 : S_) (w1 : Int32), qM_drive_L77 a KX394 n w0 w1 → wM_drive_L77 a KX3942 m w0 w1 → wM_drive_L77 a KX3943 m w0 w1 := by
  intro n
  induction n with
  | zero => intro m w0 w1 h; exact h.elim
  | succ n ih =>
    intro m w0 w1
    cases m with
    | zero => intro _ _; trivial
    | succ m =>
      rw [qM_drive_L77, wM_drive_L77, wM_drive_L77]
      repeat' (first | (with_reducible exact hKX394 _) | (with_reducible exact ih _ _ _) | (with_reducible refine wq_M_drive_J134 ?_ ?_) | (with_reducible refine wj_vp ?_) | (with_reducible refine cj_and ?_ ?_) | (with_reducible refine wj_exn ?_) | (with_reducible refine wj_exk ?_) | (with_reducible refine wj_eq ?_) | (with_reducible refine cj_imp ?_) | (with_reducible refine cj_all ?_) | (with_reducible intro _))
theorem wq_M_drive {a : L_} {K : S_ → Prop} {K2 : S_ → Prop} {K3 : S_ → Prop} {r : S_} {p0 : Int32} (hK : ∀ (x0 : S_), K x0 → K2 x0 → K3 x0) : qM_drive a K r p0 → wM_drive a K2 r p0 → wM_drive a K3 r p0 := by
  unfold qM_drive wM_drive
  repeat' (first | (with_reducible exact hK _) | (with_reducible refine wq_M_drive_L19 ?_ _ _ _ _ _) | (with_reducible refine wq_M_drive_L77 ?_ _ _ _ _) | (with_reducible refine wj_vp ?_) | (with_reducible refine cj_and ?_ ?_) | (with_reducible refine wj_exn ?_) | (with_reducible refine wj_exk ?_) | (with_reducible refine wj_eq ?_) | (with_reducible refine cj_imp ?_) | (with_reducible refine cj_all ?_) | (with_reducible intro _))
theorem wq_M_least_J75 {a : L_} {r : S_} {KB31 : Int32 → Int32 → Int32 → Int32 → Int32 → Prop} {KB312 : Int32 → Int32 → Int32 → Int32 → Int32 → Prop} {KB313 : Int32 → Int32 → Int32 → Int32 → Int32 → Prop} {KX83 : Int32 → Int32 → Int32 → Int32 → Prop} {KX832 : Int32 → Int32 → Int32 → Int32 → Prop} {KX833 : Int32 → Int32 → Int32 → Int32 → Prop} {v1 : Int32} {v2 : Int32} {v3 : Int32} {v5 : Int32} {u0 : Int32} (hKB31 : ∀ (x0 : Int32) (x1 : Int32) (x2 : Int32) (x3 : Int32) (x4 : Int32), KB31 x0 x1 x2 x3 x4 → KB312 x0 x1 x2 x3 x4 → KB313 x0 x1 x2 x3 x4) (hKX83 : ∀ (x0 : Int32) (x1 : Int32) (x2 : Int32) (x3 : Int32), KX83 x0 x1 x2 x3 → KX832 x0 x1 x2 x3 → KX833 x0 x1 x2 x3) : qM_least_J75 a r KB31 KX83 v1 v2 v3 v5 u0 → wM_least_J75 a r KB312 KX832 v1 v2 v3 v5 u0 → wM_least_J75 a r KB313 KX833 v1 v2 v3 v5 u0 := by
  unfold qM_least_J75 wM_least_J75
  repeat' (first | (with_reducible exact hKB31 _ _ _ _ _) | (with_reducible exact hKX83 _ _ _ _) | (with_reducible refine wj_vp ?_) | (with_reducible refine cj_and ?_ ?_) | (with_reducible refine wj_exn ?_) | (with_reducible refine wj_exk ?_) | (with_reducible refine wj_eq ?_) | (with_reducible refine cj_imp ?_) | (with_reducible refine cj_all ?_) | (with_reducible intro _))
theorem wq_M_least_J74 {a : L_} {r : S_} {KB31 : Int32 → Int32 → Int32 → Int32 → Int32 → Prop} {KB312 : Int32 → Int32 → Int32 → Int32 → Int32 → Prop} {KB313 : Int32 → Int32 → Int32 → Int32 → Int32 → Prop} {KX83 : Int32 → Int32 → Int32 → Int32 → Prop} {KX832 : Int32 → Int32 → Int32 → Int32 → Prop} {KX833 : Int32 → Int32 → Int32 → Int32 → Prop} {v1 : Int32} {v2 : Int32} {v3 : Int32} {v5 : Int32} (hKB31 : ∀ (x0 : Int32) (x1 : Int32) (x2 : Int32) (x3 : Int32) (x4 : Int32), KB31 x0 x1 x2 x3 x4 → KB312 x0 x1 x2 x3 x4 → KB313 x0 x1 x2 x3 x4) (hKX83 : ∀ (x0 : Int32) (x1 : Int32) (x2 : Int32) (x3 : Int32), KX83 x0 x1 x2 x3 → KX832 x0 x1 x2 x3 → KX833 x0 x1 x2 x3) : qM_least_J74 a r KB31 KX83 v1 v2 v3 v5 → wM_least_J74 a r KB312 KX832 v1 v2 v3 v5 → wM_least_J74 a r KB313 KX833 v1 v2 v3 v5 := by
  unfold qM_least_J74 wM_least_J74
  repeat' (first | (with_reducible exact hKB31 _ _ _ _ _) | (with_reducible exact hKX83 _ _ _ _) | (with_reducible refine wq_M_least_J75 ?_ ?_) | (with_reducible refine wj_vp ?_) | (with_reducible refine cj_and ?_ ?_) | (with_reducible refine wj_exn ?_) | (with_reducible refine wj_exk ?_) | (with_reducible refine wj_eq ?_) | (with_reducible refine cj_imp ?_) | (with_reducible refine cj_all ?_) | (with_reducible intro _))
theorem wq_M_least_J70 {a : L_} {r : S_} {KB31 : Int32 → Int32 → Int32 → Int32 → Int32 → Prop} {KB312 : Int32 → Int32 → Int32 → Int32 → Int32 → Prop} {KB313 : Int32 → Int32 → Int32 → Int32 → Int32 → Prop} {KX83 : Int32 → Int32 → Int32 → Int32 → Prop} {KX832 : Int32 → Int32 → Int32 → Int32 → Prop} {KX833 : Int32 → Int32 → Int32 → Int32 → Prop} {v1 : Int32} {v2 : Int32} {v3 : Int32} {v5 : Int32} (hKB31 : ∀ (x0 : Int32) (x1 : Int32) (x2 : Int32) (x3 : Int32) (x4 : Int32), KB31 x0 x1 x2 x3 x4 → KB312 x0 x1 x2 x3 x4 → KB313 x0 x1 x2 x3 x4) (hKX83 : ∀ (x0 : Int32) (x1 : Int32) (x2 : Int32) (x3 : Int32), KX83 x0 x1 x2 x3 → KX832 x0 x1 x2 x3 → KX833 x0 x1 x2 x3) : qM_least_J70 a r KB31 KX83 v1 v2 v3 v5 → wM_least_J70 a r KB312 KX832 v1 v2 v3 v5 → wM_least_J70 a r KB313 KX833 v1 v2 v3 v5 := by
  unfold qM_least_J70 wM_least_J70
  repeat' (first | (with_reducible exact hKB31 _ _ _ _ _) | (with_reducible exact hKX83 _ _ _ _) | (with_reducible refine wq_M_least_J75 ?_ ?_) | (with_reducible refine wj_vp ?_) | (with_reducible refine cj_and ?_ ?_) | (with_reducible refine wj_exn ?_) | (with_reducible refine wj_exk ?_) | (with_reducible refine wj_eq ?_) | (with_reducible refine cj_imp ?_) | (with_reducible refine cj_all ?_) | (with_reducible intro _))
theorem wq_M_least_L31 {a : L_} {r : S_} {KX83 : Int32 → Int32 → Int32 → Int32 → Prop} {KX832 : Int32 → Int32 → Int32 → Int32 → Prop} {KX833 : Int32 → Int32 → Int32 → Int32 → Prop} (hKX83 : ∀ (x0 : Int32) (x1 : Int32) (x2 : Int32) (x3 : Int32), KX83 x0 x1 x2 x3 → KX832 x0 x1 x2 x3 → KX833 x0 x1 x2 x3) : ∀ (n : Nat) (m : Nat) (w0 : Int32) (w1 : Int32) (w2 : Int32) (w3 : Int32) (w4 : Int32), qM_least_L31 a r KX83 n w0 w1 w2 w3 w4 → wM_least_L31 a r KX832 m w0 w1 w2 w3 w4 → wM_least_L31 a r KX833 m w0 w1 w2 w3 w4 := by
  intro n
  induction n with
  | zero => intro m w0 w1 w2 w3 w4 h; exact h.elim
  | succ n ih =>
    intro m w0 w1 w2 w3 w4
    cases m with
    | zero => intro _ _; trivial
    | succ m =>
      rw [qM_least_L31, wM_least_L31, wM_least_L31]
      repeat' (first | (with_reducible exact hKX83 _ _ _ _) | (with_reducible exact ih _ _ _ _ _ _) | (with_reducible refine wq_M_least_J74 ?_ ?_) | (with_reducible refine wq_M_least_J70 ?_ ?_) | (with_reducible refine wq_M_isUnder ?_) | (with_reducible refine wj_vp ?_) | (with_reducible refine cj_and ?_ ?_) | (with_reducible refine wj_exn ?_) | (with_reducible refine wj_exk ?_) | (with_reducible refine wj_eq ?_) | (with_reducible refine cj_imp ?_) | (with_reducible refine cj_all ?_) | (with_reducible intro _))
theorem wq_M_least_J97 {a : L_} {r : S_} {KB4 : Int32 → Int32 → Int32 → Prop} {KB42 : Int32 → Int32 → Int32 → Prop} {KB43 : Int32 → Int32 → Int32 → Prop} {KX104 : Int32 → Prop} {KX1042 : Int32 → Prop} {KX1043 : Int32 → Prop} {v1 : Int32} {v3 : Int32} {u0 : Int32} (hKB4 : ∀ (x0 : Int32) (x1 : Int32) (x2 : Int32), KB4 x0 x1 x2 → KB42 x0 x1 x2 → KB43 x0 x1 x2) (hKX104 : ∀ (x0 : Int32), KX104 x0 → KX1042 x0 → KX1043 x0) : qM_least_J97 a r KB4 KX104 v1 v3 u0 → wM_least_J97 a r KB42 KX1042 v1 v3 u0 → wM_least_J97 a r KB43 KX1043 v1 v3 u0 := by
  unfold qM_least_J97 wM_least_J97
  repeat' (first | (with_reducible exact hKB4 _ _ _) | (with_reducible exact hKX104 _) | (with_reducible refine wj_vp ?_) | (with_reducible refine cj_and ?_ ?_) | (with_reducible refine wj_exn ?_) | (with_reducible refine wj_exk ?_) | (with_reducible refine wj_eq ?_) | (with_reducible refine cj_imp ?_) | (with_reducible refine cj_all ?_) | (with_reducible intro _))
theorem wq_M_least_J26 {a : L_} {r : S_} {KB4 : Int32 → Int32 → Int32 → Prop} {KB42 : Int32 → Int32 → Int32 → Prop} {KB43 : Int32 → Int32 → Int32 → Prop} {KX104 : Int32 → Prop} {KX1042 : Int32 → Prop} {KX1043 : Int32 → Prop} {v1 : Int32} {v2 : Int32} {v3 : Int32} {u0 : Int32} (hKB4 : ∀ (x0 : Int32) (x1 : Int32) (x2 : Int32), KB4 x0 x1 x2 → KB42 x0 x1 x2 → KB43 x0 x1 x2) (hKX104 : ∀ (x0 : Int32), KX104 x0 → KX1042 x0 → KX1043 x0) : qM_least_J26 a r KB4 KX104 v1 v2 v3 u0 → wM_least_J26 a r KB42 KX1042 v1 v2 v3 u0 → wM_least_J26 a r KB43 KX1043 v1 v2 v3 u0 := by
  unfold qM_least_J26 wM_least_J26
  repeat' (first | (with_reducible exact hKB4 _ _ _) | (with_reducible exact hKX104 _) | (with_reducible refine wq_M_least_L31 ?_ _ _ _ _ _ _ _) | (with_reducible refine wq_M_least_J97 ?_ ?_) | (with_reducible refine wj_vp ?_) | (with_reducible refine cj_and ?_ ?_) | (with_reducible refine wj_exn ?_) | (with_reducible refine wj_exk ?_) | (with_reducible refine wj_eq ?_) | (with_reducible refine cj_imp ?_) | (with_reducible refine cj_all ?_) | (with_reducible intro _))
theorem wq_M_least_L4 {a : L_} {r : S_} {KX104 : Int32 → Prop} {KX1042 : Int32 → Prop} {KX1043 : Int32 → Prop} (hKX104 : ∀ (x0 : Int32), KX104 x0 → KX1042 x0 → KX1043 x0) : ∀ (n : Nat) (m : Nat) (w0 : Int32) (w1 : Int32) (w2 : Int32), qM_least_L4 a r KX104 n w0 w1 w2 → wM_least_L4 a r KX1042 m w0 w1 w2 → wM_least_L4 a r KX1043 m w0 w1 w2 := by
  intro n
  induction n with
  | zero => intro m w0 w1 w2 h; exact h.elim
  | succ n ih =>
    intro m w0 w1 w2
    cases m with
    | zero => intro _ _; trivial
    | succ m =>
      rw [qM_least_L4, wM_least_L4, wM_least_L4]
      repeat' (first | (with_reducible exact hKX104 _) | (with_reducible exact ih _ _ _ _) | (with_reducible refine wq_M_least_J26 ?_ ?_) | (with_reducible refine wj_vp ?_) | (with_reducible refine cj_and ?_ ?_) | (with_reducible refine wj_exn ?_) | (with_reducible refine wj_exk ?_) | (with_reducible refine wj_eq ?_) | (with_reducible refine cj_imp ?_) | (with_reducible refine cj_all ?_) | (with_reducible intro _))
theorem wq_M_least {a : L_} {r : S_} {K : Int32 → Prop} {K2 : Int32 → Prop} {K3 : Int32 → Prop} {p0 : Int32} (hK : ∀ (x0 : Int32), K x0 → K2 x0 → K3 x0) : qM_least a r K p0 → wM_least a r K2 p0 → wM_least a r K3 p0 := by
  unfold qM_least wM_least
  repeat' (first | (with_reducible exact hK _) | (with_reducible refine wq_M_least_L4 ?_ _ _ _ _ _) | (with_reducible refine wj_vp ?_) | (with_reducible refine cj_and ?_ ?_) | (with_reducible refine wj_exn ?_) | (with_reducible refine wj_exk ?_) | (with_reducible refine wj_eq ?_) | (with_reducible refine cj_imp ?_) | (with_reducible refine cj_all ?_) | (with_reducible intro _))
theorem wq_M_ones_L4 {a : L_} {r : S_} {KX24 : Int32 → Prop} {KX242 : Int32 → Prop} {KX243 : Int32 → Prop} (hKX24 : ∀ (x0 : Int32), KX24 x0 → KX242 x0 → KX243 x0) : ∀ (n : Nat) (m : Nat) (w0 : Int32) (w1 : Int32) (w2 : Int32), qM_ones_L4 a r KX24 n w0 w1 w2 → wM_ones_L4 a r KX242 m w0 w1 w2 → wM_ones_L4 a r KX243 m w0 w1 w2 := by
  intro n
  induction n with
  | zero => intro m w0 w1 w2 h; exact h.elim
  | succ n ih =>
    intro m w0 w1 w2
    cases m with
    | zero => intro _ _; trivial
    | succ m =>
      rw [qM_ones_L4, wM_ones_L4, wM_ones_L4]
      repeat' (first | (with_reducible exact hKX24 _) | (with_reducible exact ih _ _ _ _) | (with_reducible refine wj_vp ?_) | (with_reducible refine cj_and ?_ ?_) | (with_reducible refine wj_exn ?_) | (with_reducible refine wj_exk ?_) | (with_reducible refine wj_eq ?_) | (with_reducible refine cj_imp ?_) | (with_reducible refine cj_all ?_) | (with_reducible intro _))
theorem wq_M_ones {a : L_} {r : S_} {K : Int32 → Prop} {K2 : Int32 → Prop} {K3 : Int32 → Prop} {p0 : Int32} (hK : ∀ (x0 : Int32), K x0 → K2 x0 → K3 x0) : qM_ones a r K p0 → wM_ones a r K2 p0 → wM_ones a r K3 p0 := by
  unfold qM_ones wM_ones
  repeat' (first | (with_reducible exact hK _) | (with_reducible refine wq_M_ones_L4 ?_ _ _ _ _ _) | (with_reducible refine wj_vp ?_) | (with_reducible refine cj_and ?_ ?_) | (with_reducible refine wj_exn ?_) | (with_reducible refine wj_exk ?_) | (with_reducible refine wj_eq ?_) | (with_reducible refine cj_imp ?_) | (with_reducible refine cj_all ?_) | (with_reducible intro _))
theorem wq_M_takeNeeds_J66 {a : L_} {KB7 : S_ → Int32 → Prop} {KB72 : S_ → Int32 → Prop} {KB73 : S_ → Int32 → Prop} {KX86 : S_ → Prop} {KX862 : S_ → Prop} {KX863 : S_ → Prop} {r : S_} {v1 : Int32} {v2 : Int32} (hKB7 : ∀ (x0 : S_) (x1 : Int32), KB7 x0 x1 → KB72 x0 x1 → KB73 x0 x1) (hKX86 : ∀ (x0 : S_), KX86 x0 → KX862 x0 → KX863 x0) : qM_takeNeeds_J66 a KB7 KX86 r v1 v2 → wM_takeNeeds_J66 a KB72 KX862 r v1 v2 → wM_takeNeeds_J66 a KB73 KX863 r v1 v2 := by
  unfold qM_takeNeeds_J66 wM_takeNeeds_J66
  repeat' (first | (with_reducible exact hKB7 _ _) | (with_reducible exact hKX86 _) | (with_reducible refine wj_vp ?_) | (with_reducible refine cj_and ?_ ?_) | (with_reducible refine wj_exn ?_) | (with_reducible refine wj_exk ?_) | (with_reducible refine wj_eq ?_) | (with_reducible refine cj_imp ?_) | (with_reducible refine cj_all ?_) | (with_reducible intro _))
theorem wq_M_takeNeeds_L7 {a : L_} {KX86 : S_ → Prop} {KX862 : S_ → Prop} {KX863 : S_ → Prop} (hKX86 : ∀ (x0 : S_), KX86 x0 → KX862 x0 → KX863 x0) : ∀ (n : Nat) (m : Nat) (w0 : S_) (w1 : Int32), qM_takeNeeds_L7 a KX86 n w0 w1 → wM_takeNeeds_L7 a KX862 m w0 w1 → wM_takeNeeds_L7 a KX863 m w0 w1 := by
  intro n
  induction n with
  | zero => intro m w0 w1 h; exact h.elim
  | succ n ih =>
    intro m w0 w1
    cases m with
    | zero => intro _ _; trivial
    | succ m =>
      rw [qM_takeNeeds_L7, wM_takeNeeds_L7, wM_takeNeeds_L7]
      repeat' (first | (with_reducible exact hKX86 _) | (with_reducible exact ih _ _ _) | (with_reducible refine wq_M_takeNeeds_J66 ?_ ?_) | (with_reducible refine wj_vp ?_) | (with_reducible refine cj_and ?_ ?_) | (with_reducible refine wj_exn ?_) | (with_reducible refine wj_exk ?_) | (with_reducible refine wj_eq ?_) | (with_reducible refine cj_imp ?_) | (with_reducible refine cj_all ?_) | (with_reducible intro _))
theorem wq_M_takeNeeds {a : L_} {K : S_ → Prop} {K2 : S_ → Prop} {K3 : S_ → Prop} {r : S_} (hK : ∀ (x0 : S_), K x0 → K2 x0 → K3 x0) : qM_takeNeeds a K r → wM_takeNeeds a K2 r → wM_takeNeeds a K3 r := by
  unfold qM_takeNeeds wM_takeNeeds
  repeat' (first | (with_reducible exact hK _) | (with_reducible refine wq_M_takeNeeds_L7 ?_ _ _ _ _) | (with_reducible refine wj_vp ?_) | (with_reducible refine cj_and ?_ ?_) | (with_reducible refine wj_exn ?_) | (with_reducible refine wj_exk ?_) | (with_reducible refine wj_eq ?_) | (with_reducible refine cj_imp ?_) | (with_reducible refine cj_all ?_) | (with_reducible intro _))
theorem wq_M_generalise_J86 {a : L_} {KB63 : S_ → Int32 → Int32 → Int32 → Prop} {KB632 : S_ → Int32 → Int32 → Int32 → Prop} {KB633 : S_ → Int32 → Int32 → Int32 → Prop} {KX96 : S_ → Int32 → Int32 → Prop} {KX962 : S_ → Int32 → Int32 → Prop} {KX963 : S_ → Int32 → Int32 → Prop} {r : S_} {v1 : Int32} {v2 : Int32} {v3 : Int32} (hKB63 : ∀ (x0 : S_) (x1 : Int32) (x2 : Int32) (x3 : Int32), KB63 x0 x1 x2 x3 → KB632 x0 x1 x2 x3 → KB633 x0 x1 x2 x3) (hKX96 : ∀ (x0 : S_) (x1 : Int32) (x2 : Int32), KX96 x0 x1 x2 → KX962 x0 x1 x2 → KX963 x0 x1 x2) : qM_generalise_J86 a KB63 KX96 r v1 v2 v3 → wM_generalise_J86 a KB632 KX962 r v1 v2 v3 → wM_generalise_J86 a KB633 KX963 r v1 v2 v3 := by
  unfold qM_generalise_J86 wM_generalise_J86
  repeat' (first | (with_reducible exact hKB63 _ _ _ _) | (with_reducible exact hKX96 _ _ _) | (with_reducible refine wj_vp ?_) | (with_reducible refine cj_and ?_ ?_) | (with_reducible refine wj_exn ?_) | (with_reducible refine wj_exk ?_) | (with_reducible refine wj_eq ?_) | (with_reducible refine cj_imp ?_) | (with_reducible refine cj_all ?_) | (with_reducible intro _))
theorem wq_M_generalise_L63 {a : L_} {KX96 : S_ → Int32 → Int32 → Prop} {KX962 : S_ → Int32 → Int32 → Prop} {KX963 : S_ → Int32 → Int32 → Prop} (hKX96 : ∀ (x0 : S_) (x1 : Int32) (x2 : Int32), KX96 x0 x1 x2 → KX962 x0 x1 x2 → KX963 x0 x1 x2) : ∀ (n : Nat) (m : Nat) (w0 : S_) (w1 : Int32) (w2 : Int32) (w3 : Int32), qM_generalise_L63 a KX96 n w0 w1 w2 w3 → wM_generalise_L63 a KX962 m w0 w1 w2 w3 → wM_generalise_L63 a KX963 m w0 w1 w2 w3 := by
  intro n
  induction n with
  | zero => intro m w0 w1 w2 w3 h; exact h.elim
  | succ n ih =>
    intro m w0 w1 w2 w3
    cases m with
    | zero => intro _ _; trivial
    | succ m =>
      rw [qM_generalise_L63, wM_generalise_L63, wM_generalise_L63]
      repeat' (first | (with_reducible exact hKX96 _ _ _) | (with_reducible exact ih _ _ _ _ _) | (with_reducible refine wq_M_kindOf ?_) | (with_reducible refine wq_M_generalise_J86 ?_ ?_) | (with_reducible refine wq_M_reach ?_) | (with_reducible refine wj_vp ?_) | (with_reducible refine cj_and ?_ ?_) | (with_reducible refine wj_exn ?_) | (with_reducible refine wj_exk ?_) | (with_reducible refine wj_eq ?_) | (with_reducible refine cj_imp ?_) | (with_reducible refine cj_all ?_) | (with_reducible intro _))
theorem wq_M_generalise_J144 {a : L_} {KB98 : S_ → Int32 → Int32 → Int32 → Prop} {KB982 : S_ → Int32 → Int32 → Int32 → Prop} {KB983 : S_ → Int32 → Int32 → Int32 → Prop} {KX150 : S_ → Int32 → Prop} {KX1502 : S_ → Int32 → Prop} {KX1503 : S_ → Int32 → Prop} {r : S_} {v1 : Int32} {v2 : Int32} {v3 : Int32} (hKB98 : ∀ (x0 : S_) (x1 : Int32) (x2 : Int32) (x3 : Int32), KB98 x0 x1 x2 x3 → KB982 x0 x1 x2 x3 → KB983 x0 x1 x2 x3) (hKX150 : ∀ (x0 : S_) (x1 : Int32), KX150 x0 x1 → KX1502 x0 x1 → KX1503 x0 x1) : qM_generalise_J144 a KB98 KX150 r v1 v2 v3 → wM_generalise_J144 a KB982 KX1502 r v1 v2 v3 → wM_generalise_J144 a KB983 KX1503 r v1 v2 v3 := by
  unfold qM_generalise_J144 wM_generalise_J144
  repeat' (first | (with_reducible exact hKB98 _ _ _ _) | (with_reducible exact hKX150 _ _) | (with_reducible refine wj_vp ?_) | (with_reducible refine cj_and ?_ ?_) | (with_reducible refine wj_exn ?_) | (with_reducible refine wj_exk ?_) | (with_reducible refine wj_eq ?_) | (with_reducible refine cj_imp ?_) | (with_reducible refine cj_all ?_) | (with_reducible intro _))
theorem wq_M_generalise_L98 {a : L_} {KX150 : S_ → Int32 → Prop} {KX1502 : S_ → Int32 → Prop} {KX1503 : S_ → Int32 → Prop} (hKX150 : ∀ (x0 : S_) (x1 : Int32), KX150 x0 x1 → KX1502 x0 x1 → KX1503 x0 x1) : ∀ (n : Nat) (m : Nat) (w0 : S_) (w1 : Int32) (w2 : Int32) (w3 : Int32), qM_generalise_L98 a KX150 n w0 w1 w2 w3 → wM_generalise_L98 a KX1502 m w0 w1 w2 w3 → wM_generalise_L98 a KX1503 m w0 w1 w2 w3 := by
  intro n
  induction n with
  | zero => intro m w0 w1 w2 w3 h; exact h.elim
  | succ n ih =>
    intro m w0 w1 w2 w3
    cases m with
    | zero => intro _ _; trivial
    | succ m =>
      rw [qM_generalise_L98, wM_generalise_L98, wM_generalise_L98]
      repeat' (first | (with_reducible exact hKX150 _ _) | (with_reducible exact ih _ _ _ _ _) | (with_reducible refine wq_M_generalise_J144 ?_ ?_) | (with_reducible refine wq_M_addWant ?_) | (with_reducible refine wj_vp ?_) | (with_reducible refine cj_and ?_ ?_) | (with_reducible refine wj_exn ?_) | (with_reducible refine wj_exk ?_) | (with_reducible refine wj_eq ?_) | (with_reducible refine cj_imp ?_) | (with_reducible refine cj_all ?_) | (with_reducible intro _))
theorem wq_M_generalise_J294 {a : L_} {KB187 : S_ → Int32 → Int32 → Prop} {KB1872 : S_ → Int32 → Int32 → Prop} {KB1873 : S_ → Int32 → Int32 → Prop} {KX300 : S_ → Int32 → Prop} {KX3002 : S_ → Int32 → Prop} {KX3003 : S_ → Int32 → Prop} {r : S_} {v1 : Int32} {v3 : Int32} (hKB187 : ∀ (x0 : S_) (x1 : Int32) (x2 : Int32), KB187 x0 x1 x2 → KB1872 x0 x1 x2 → KB1873 x0 x1 x2) (hKX300 : ∀ (x0 : S_) (x1 : Int32), KX300 x0 x1 → KX3002 x0 x1 → KX3003 x0 x1) : qM_generalise_J294 a KB187 KX300 r v1 v3 → wM_generalise_J294 a KB1872 KX3002 r v1 v3 → wM_generalise_J294 a KB1873 KX3003 r v1 v3 := by
  unfold qM_generalise_J294 wM_generalise_J294
  repeat' (first | (with_reducible exact hKB187 _ _ _) | (with_reducible exact hKX300 _ _) | (with_reducible refine wj_vp ?_) | (with_reducible refine cj_and ?_ ?_) | (with_reducible refine wj_exn ?_) | (with_reducible refine wj_exk ?_) | (with_reducible refine wj_eq ?_) | (with_reducible refine cj_imp ?_) | (with_reducible refine cj_all ?_) | (with_reducible intro _))
theorem wq_M_generalise_J291 {a : L_} {KB187 : S_ → Int32 → Int32 → Prop} {KB1872 : S_ → Int32 → Int32 → Prop} {KB1873 : S_ → Int32 → Int32 → Prop} {KX300 : S_ → Int32 → Prop} {KX3002 : S_ → Int32 → Prop} {KX3003 : S_ → Int32 → Prop} {r : S_} {v1 : Int32} {v3 : Int32} {u0 : Int32} (hKB187 : ∀ (x0 : S_) (x1 : Int32) (x2 : Int32), KB187 x0 x1 x2 → KB1872 x0 x1 x2 → KB1873 x0 x1 x2) (hKX300 : ∀ (x0 : S_) (x1 : Int32), KX300 x0 x1 → KX3002 x0 x1 → KX3003 x0 x1) : qM_generalise_J291 a KB187 KX300 r v1 v3 u0 → wM_generalise_J291 a KB1872 KX3002 r v1 v3 u0 → wM_generalise_J291 a KB1873 KX3003 r v1 v3 u0 := by
  unfold qM_generalise_J291 wM_generalise_J291
  repeat' (first | (with_reducible exact hKB187 _ _ _) | (with_reducible exact hKX300 _ _) | (with_reducible refine wq_M_generalise_J294 ?_ ?_) | (with_reducible refine wj_vp ?_) | (with_reducible refine cj_and ?_ ?_) | (with_reducible refine wj_exn ?_) | (with_reducible refine wj_exk ?_) | (with_reducible refine wj_eq ?_) | (with_reducible refine cj_imp ?_) | (with_reducible refine cj_all ?_) | (with_reducible intro _))
theorem wq_M_generalise_J286 {a : L_} {KB187 : S_ → Int32 → Int32 → Prop} {KB1872 : S_ → Int32 → Int32 → Prop} {KB1873 : S_ → Int32 → Int32 → Prop} {KX300 : S_ → Int32 → Prop} {KX3002 : S_ → Int32 → Prop} {KX3003 : S_ → Int32 → Prop} {r : S_} {v1 : Int32} {v3 : Int32} (hKB187 : ∀ (x0 : S_) (x1 : Int32) (x2 : Int32), KB187 x0 x1 x2 → KB1872 x0 x1 x2 → KB1873 x0 x1 x2) (hKX300 : ∀ (x0 : S_) (x1 : Int32), KX300 x0 x1 → KX3002 x0 x1 → KX3003 x0 x1) : qM_generalise_J286 a KB187 KX300 r v1 v3 → wM_generalise_J286 a KB1872 KX3002 r v1 v3 → wM_generalise_J286 a KB1873 KX3003 r v1 v3 := by
  unfold qM_generalise_J286 wM_generalise_J286
  repeat' (first | (with_reducible exact hKB187 _ _ _) | (with_reducible exact hKX300 _ _) | (with_reducible refine wq_M_generalise_J291 ?_ ?_) | (with_reducible refine wj_vp ?_) | (with_reducible refine cj_and ?_ ?_) | (with_reducible refine wj_exn ?_) | (with_reducible refine wj_exk ?_) | (with_reducible refine wj_eq ?_) | (with_reducible refine cj_imp ?_) | (with_reducible refine cj_all ?_) | (with_reducible intro _))
theorem wq_M_generalise_J269 {a : L_} {KB187 : S_ → Int32 → Int32 → Prop} {KB1872 : S_ → Int32 → Int32 → Prop} {KB1873 : S_ → Int32 → Int32 → Prop} {KX300 : S_ → Int32 → Prop} {KX3002 : S_ → Int32 → Prop} {KX3003 : S_ → Int32 → Prop} {r : S_} {v1 : Int32} {v3 : Int32} (hKB187 : ∀ (x0 : S_) (x1 : Int32) (x2 : Int32), KB187 x0 x1 x2 → KB1872 x0 x1 x2 → KB1873 x0 x1 x2) (hKX300 : ∀ (x0 : S_) (x1 : Int32), KX300 x0 x1 → KX3002 x0 x1 → KX3003 x0 x1) : qM_generalise_J269 a KB187 KX300 r v1 v3 → wM_generalise_J269 a KB1872 KX3002 r v1 v3 → wM_generalise_J269 a KB1873 KX3003 r v1 v3 := by
  unfold qM_generalise_J269 wM_generalise_J269
  repeat' (first | (with_reducible exact hKB187 _ _ _) | (with_reducible exact hKX300 _ _) | (with_reducible refine wq_M_generalise_J286 ?_ ?_) | (with_reducible refine wq_M_generalise_J291 ?_ ?_) | (with_reducible refine wj_vp ?_) | (with_reducible refine cj_and ?_ ?_) | (with_reducible refine wj_exn ?_) | (with_reducible refine wj_exk ?_) | (with_reducible refine wj_eq ?_) | (with_reducible refine cj_imp ?_) | (with_reducible refine cj_all ?_) | (with_reducible intro _))
theorem wq_M_generalise_L187 {a : L_} {KX300 : S_ → Int32 → Prop} {KX3002 : S_ → Int32 → Prop} {KX3003 : S_ → Int32 → Prop} (hKX300 : ∀ (x0 : S_) (x1 : Int32), KX300 x0 x1 → KX3002 x0 x1 → KX3003 x0 x1) : ∀ (n : Nat) (m : Nat) (w0 : S_) (w1 : Int32) (w2 : Int32), qM_generalise_L187 a KX300 n w0 w1 w2 → wM_generalise_L187 a KX3002 m w0 w1 w2 → wM_generalise_L187 a KX3003 m w0 w1 w2 := by
  intro n
  induction n with
  | zero => intro m w0 w1 w2 h; exact h.elim
  | succ n ih =>
    intro m w0 w1 w2
    cases m with
    | zero => intro _ _; trivial
    | succ m =>
      rw [qM_generalise_L187, wM_generalise_L187, wM_generalise_L187]
      repeat' (first | (with_reducible exact hKX300 _ _) | (with_reducible exact ih _ _ _ _) | (with_reducible refine wq_M_generalise_J269 ?_ ?_) | (with_reducible refine wq_M_least ?_) | (with_reducible refine wq_M_generalise_J294 ?_ ?_) | (with_reducible refine wj_vp ?_) | (with_reducible refine cj_and ?_ ?_) | (with_reducible refine wj_exn ?_) | (with_reducible refine wj_exk ?_) | (with_reducible refine wj_eq ?_) | (with_reducible refine cj_imp ?_) | (with_reducible refine cj_all ?_) | (with_reducible intro _))
theorem wq_M_generalise {a : L_} {K : S_ → Prop} {K2 : S_ → Prop} {K3 : S_ → Prop} {r : S_} {p0 : Int32} (hK : ∀ (x0 : S_), K x0 → K2 x0 → K3 x0) : qM_generalise a K r p0 → wM_generalise a K2 r p0 → wM_generalise a K3 r p0 := by
  unfold qM_generalise wM_generalise
  repeat' (first | (with_reducible exact hK _) | (with_reducible refine wq_M_needNoRing ?_) | (with_reducible refine wq_M_drive ?_) | (with_reducible refine wq_M_takeNeeds ?_) | (with_reducible refine wq_M_generalise_L63 ?_ _ _ _ _ _ _) | (with_reducible refine wq_M_generalise_L98 ?_ _ _ _ _ _ _) | (with_reducible refine wq_M_reach ?_) | (with_reducible refine wq_M_generalise_L187 ?_ _ _ _ _ _) | (with_reducible refine wj_vp ?_) | (with_reducible refine cj_and ?_ ?_) | (with_reducible refine wj_exn ?_) | (with_reducible refine wj_exk ?_) | (with_reducible refine wj_eq ?_) | (with_reducible refine cj_imp ?_) | (with_reducible refine cj_all ?_) | (with_reducible intro _))
theorem wq_M_copied {a : L_} {r : S_} {K : Int32 → Prop} {K2 : Int32 → Prop} {K3 : Int32 → Prop} {p0 : Int32} (hK : ∀ (x0 : Int32), K x0 → K2 x0 → K3 x0) : qM_copied a r K p0 → wM_copied a r K2 p0 → wM_copied a r K3 p0 := by
  unfold qM_copied wM_copied
  repeat' (first | (with_reducible exact hK _) | (with_reducible refine wq_M_find ?_) | (with_reducible refine wj_vp ?_) | (with_reducible refine cj_and ?_ ?_) | (with_reducible refine wj_exn ?_) | (with_reducible refine wj_exk ?_) | (with_reducible refine wj_eq ?_) | (with_reducible refine cj_imp ?_) | (with_reducible refine cj_all ?_) | (with_reducible intro _))
theorem wq_M_copyOf_J50 {a : L_} {KB27 : S_ → Int32 → Int32 → Int32 → Prop} {KB272 : S_ → Int32 → Int32 → Int32 → Prop} {KB273 : S_ → Int32 → Int32 → Int32 → Prop} {KX60 : S_ → Int32 → Int32 → Prop} {KX602 : S_ → Int32 → Int32 → Prop} {KX603 : S_ → Int32 → Int32 → Prop} {r : S_} {v1 : Int32} {v2 : Int32} {v3 : Int32} (hKB27 : ∀ (x0 : S_) (x1 : Int32) (x2 : Int32) (x3 : Int32), KB27 x0 x1 x2 x3 → KB272 x0 x1 x2 x3 → KB273 x0 x1 x2 x3) (hKX60 : ∀ (x0 : S_) (x1 : Int32) (x2 : Int32), KX60 x0 x1 x2 → KX602 x0 x1 x2 → KX603 x0 x1 x2) : qM_copyOf_J50 a KB27 KX60 r v1 v2 v3 → wM_copyOf_J50 a KB272 KX602 r v1 v2 v3 → wM_copyOf_J50 a KB273 KX603 r v1 v2 v3 := by
  unfold qM_copyOf_J50 wM_copyOf_J50
  repeat' (first | (with_reducible exact hKB27 _ _ _ _) | (with_reducible exact hKX60 _ _ _) | (with_reducible refine wj_vp ?_) | (with_reducible refine cj_and ?_ ?_) | (with_reducible refine wj_exn ?_) | (with_reducible refine wj_exk ?_) | (with_reducible refine wj_eq ?_) | (with_reducible refine cj_imp ?_) | (with_reducible refine cj_all ?_) | (with_reducible intro _))
theorem wq_M_copyOf_L27 {a : L_} {KX60 : S_ → Int32 → Int32 → Prop} {KX602 : S_ → Int32 → Int32 → Prop} {KX603 : S_ → Int32 → Int32 → Prop} (hKX60 : ∀ (x0 : S_) (x1 : Int32) (x2 : Int32), KX60 x0 x1 x2 → KX602 x0 x1 x2 → KX603 x0 x1 x2) : ∀ (n : Nat) (m : Nat) (w0 : S_) (w1 : Int32) (w2 : Int32) (w3 : Int32), qM_copyOf_L27 a KX60 n w0 w1 w2 w3 → wM_copyOf_L27 a KX602 m w0 w1 w2 w3 → wM_copyOf_L27 a KX603 m w0 w1 w2 w3 := by
  intro n
  induction n with
  | zero => intro m w0 w1 w2 w3 h; exact h.elim
  | succ n ih =>
    intro m w0 w1 w2 w3
    cases m with
    | zero => intro _ _; trivial
    | succ m =>
      rw [qM_copyOf_L27, wM_copyOf_L27, wM_copyOf_L27]
      repeat' (first | (with_reducible exact hKX60 _ _ _) | (with_reducible exact ih _ _ _ _ _) | (with_reducible refine wq_M_kindOf ?_) | (with_reducible refine wq_M_copyOf_J50 ?_ ?_) | (with_reducible refine wq_M_reach ?_) | (with_reducible refine wj_vp ?_) | (with_reducible refine cj_and ?_ ?_) | (with_reducible refine wj_exn ?_) | (with_reducible refine wj_exk ?_) | (with_reducible refine wj_eq ?_) | (with_reducible refine cj_imp ?_) | (with_reducible refine cj_all ?_) | (with_reducible intro _))
theorem wq_M_copyOf_J253 {a : L_} {KB101 : S_ → Int32 → Int32 → Int32 → Int32 → Prop} {KB1012 : S_ → Int32 → Int32 → Int32 → Int32 → Prop} {KB1013 : S_ → Int32 → Int32 → Int32 → Int32 → Prop} {KX256 : S_ → Int32 → Int32 → Prop} {KX2562 : S_ → Int32 → Int32 → Prop} {KX2563 : S_ → Int32 → Int32 → Prop} {r : S_} {v1 : Int32} {v2 : Int32} {v3 : Int32} {v4 : Int32} (hKB101 : ∀ (x0 : S_) (x1 : Int32) (x2 : Int32) (x3 : Int32) (x4 : Int32), KB101 x0 x1 x2 x3 x4 → KB1012 x0 x1 x2 x3 x4 → KB1013 x0 x1 x2 x3 x4) (hKX256 : ∀ (x0 : S_) (x1 : Int32) (x2 : Int32), KX256 x0 x1 x2 → KX2562 x0 x1 x2 → KX2563 x0 x1 x2) : qM_copyOf_J253 a KB101 KX256 r v1 v2 v3 v4 → wM_copyOf_J253 a KB1012 KX2562 r v1 v2 v3 v4 → wM_copyOf_J253 a KB1013 KX2563 r v1 v2 v3 v4 := by
  unfold qM_copyOf_J253 wM_copyOf_J253
  repeat' (first | (with_reducible exact hKB101 _ _ _ _ _) | (with_reducible exact hKX256 _ _ _) | (with_reducible refine wj_vp ?_) | (with_reducible refine cj_and ?_ ?_) | (with_reducible refine wj_exn ?_) | (with_reducible refine wj_exk ?_) | (with_reducible refine wj_eq ?_) | (with_reducible refine cj_imp ?_) | (with_reducible refine cj_all ?_) | (with_reducible intro _))
theorem wq_M_copyOf_J226 {a : L_} {KB101 : S_ → Int32 → Int32 → Int32 → Int32 → Prop} {KB1012 : S_ → Int32 → Int32 → Int32 → Int32 → Prop} {KB1013 : S_ → Int32 → Int32 → Int32 → Int32 → Prop} {KX256 : S_ → Int32 → Int32 → Prop} {KX2562 : S_ → Int32 → Int32 → Prop} {KX2563 : S_ → Int32 → Int32 → Prop} {r : S_} {v1 : Int32} {v2 : Int32} {v3 : Int32} {v4 : Int32} {v5 : Int32} (hKB101 : ∀ (x0 : S_) (x1 : Int32) (x2 : Int32) (x3 : Int32) (x4 : Int32), KB101 x0 x1 x2 x3 x4 → KB1012 x0 x1 x2 x3 x4 → KB1013 x0 x1 x2 x3 x4) (hKX256 : ∀ (x0 : S_) (x1 : Int32) (x2 : Int32), KX256 x0 x1 x2 → KX2562 x0 x1 x2 → KX2563 x0 x1 x2) : qM_copyOf_J226 a KB101 KX256 r v1 v2 v3 v4 v5 → wM_copyOf_J226 a KB1012 KX2562 r v1 v2 v3 v4 v5 → wM_copyOf_J226 a KB1013 KX2563 r v1 v2 v3 v4 v5 := by
  unfold qM_copyOf_J226 wM_copyOf_J226
  repeat' (first | (with_reducible exact hKB101 _ _ _ _ _) | (with_reducible exact hKX256 _ _ _) | (with_reducible refine wq_M_copyOf_J253 ?_ ?_) | (with_reducible refine wj_vp ?_) | (with_reducible refine cj_and ?_ ?_) | (with_reducible refine wj_exn ?_) | (with_reducible refine wj_exk ?_) | (with_reducible refine wj_eq ?_) | (with_reducible refine cj_imp ?_) | (with_reducible refine cj_all ?_) | (with_reducible intro _))
theorem wq_M_copyOf_L101 {a : L_} {KX256 : S_ → Int32 → Int32 → Prop} {KX2562 : S_ → Int32 → Int32 → Prop} {KX2563 : S_ → Int32 → Int32 → Prop} (hKX256 : ∀ (x0 : S_) (x1 : Int32) (x2 : Int32), KX256 x0 x1 x2 → KX2562 x0 x1 x2 → KX2563 x0 x1 x2) : ∀ (n : Nat) (m : Nat) (w0 : S_) (w1 : Int32) (w2 : Int32) (w3 : Int32) (w4 : Int32), qM_copyOf_L101 a KX256 n w0 w1 w2 w3 w4 → wM_copyOf_L101 a KX2562 m w0 w1 w2 w3 w4 → wM_copyOf_L101 a KX2563 m w0 w1 w2 w3 w4 := by
  intro n
  induction n with
  | zero => intro m w0 w1 w2 w3 w4 h; exact h.elim
  | succ n ih =>
    intro m w0 w1 w2 w3 w4
    cases m with
    | zero => intro _ _; trivial
    | succ m =>
      rw [qM_copyOf_L101, wM_copyOf_L101, wM_copyOf_L101]
      repeat' (first | (with_reducible exact hKX256 _ _ _) | (with_reducible exact ih _ _ _ _ _ _) | (with_reducible refine wq_M_find ?_) | (with_reducible refine wq_M_copyOf_J253 ?_ ?_) | (with_reducible refine wq_M_newTerm ?_) | (with_reducible refine wq_M_copyOf_J226 ?_ ?_) | (with_reducible refine wj_vp ?_) | (with_reducible refine cj_and ?_ ?_) | (with_reducible refine wj_exn ?_) | (with_reducible refine wj_exk ?_) | (with_reducible refine wj_eq ?_) | (with_reducible refine cj_imp ?_) | (with_reducible refine cj_all ?_) | (with_reducible intro _))
theorem wq_M_copyOf_L259 {a : L_} {KX329 : S_ → Int32 → Int32 → Prop} {KX3292 : S_ → Int32 → Int32 → Prop} {KX3293 : S_ → Int32 → Int32 → Prop} (hKX329 : ∀ (x0 : S_) (x1 : Int32) (x2 : Int32), KX329 x0 x1 x2 → KX3292 x0 x1 x2 → KX3293 x0 x1 x2) : ∀ (n : Nat) (m : Nat) (w0 : S_) (w1 : Int32) (w2 : Int32) (w3 : Int32), qM_copyOf_L259 a KX329 n w0 w1 w2 w3 → wM_copyOf_L259 a KX3292 m w0 w1 w2 w3 → wM_copyOf_L259 a KX3293 m w0 w1 w2 w3 := by
  intro n
  induction n with
  | zero => intro m w0 w1 w2 w3 h; exact h.elim
  | succ n ih =>
    intro m w0 w1 w2 w3
    cases m with
    | zero => intro _ _; trivial
    | succ m =>
      rw [qM_copyOf_L259, wM_copyOf_L259, wM_copyOf_L259]
      repeat' (first | (with_reducible exact hKX329 _ _ _) | (with_reducible exact ih _ _ _ _ _) | (with_reducible refine wq_M_copied ?_) | (with_reducible refine wj_vp ?_) | (with_reducible refine cj_and ?_ ?_) | (with_reducible refine wj_exn ?_) | (with_reducible refine wj_exk ?_) | (with_reducible refine wj_eq ?_) | (with_reducible refine cj_imp ?_) | (with_reducible refine cj_all ?_) | (with_reducible intro _))
theorem wq_M_copyOf_L337 {a : L_} {KX402 : S_ → Int32 → Prop} {KX4022 : S_ → Int32 → Prop} {KX4023 : S_ → Int32 → Prop} (hKX402 : ∀ (x0 : S_) (x1 : Int32), KX402 x0 x1 → KX4022 x0 x1 → KX4023 x0 x1) : ∀ (n : Nat) (m : Nat) (w0 : S_) (w1 : Int32) (w2 : Int32) (w3 : Int32), qM_copyOf_L337 a KX402 n w0 w1 w2 w3 → wM_copyOf_L337 a KX4022 m w0 w1 w2 w3 → wM_copyOf_L337 a KX4023 m w0 w1 w2 w3 := by
  intro n
  induction n with
  | zero => intro m w0 w1 w2 w3 h; exact h.elim
  | succ n ih =>
    intro m w0 w1 w2 w3
    cases m with
    | zero => intro _ _; trivial
    | succ m =>
      rw [qM_copyOf_L337, wM_copyOf_L337, wM_copyOf_L337]
      repeat' (first | (with_reducible exact hKX402 _ _) | (with_reducible exact ih _ _ _ _ _) | (with_reducible refine wq_M_copied ?_) | (with_reducible refine wq_M_addWant ?_) | (with_reducible refine wq_M_ones ?_) | (with_reducible refine wj_vp ?_) | (with_reducible refine cj_and ?_ ?_) | (with_reducible refine wj_exn ?_) | (with_reducible refine wj_exk ?_) | (with_reducible refine wj_eq ?_) | (with_reducible refine cj_imp ?_) | (with_reducible refine cj_all ?_) | (with_reducible intro _))
theorem wq_M_copyOf {a : L_} {K : Int32 → S_ → Prop} {K2 : Int32 → S_ → Prop} {K3 : Int32 → S_ → Prop} {r : S_} {p0 : Int32} (hK : ∀ (x0 : Int32) (x1 : S_), K x0 x1 → K2 x0 x1 → K3 x0 x1) : qM_copyOf a K r p0 → wM_copyOf a K2 r p0 → wM_copyOf a K3 r p0 := by
  unfold qM_copyOf wM_copyOf
  repeat' (first | (with_reducible exact hK _ _) | (with_reducible refine wq_M_copyOf_L27 ?_ _ _ _ _ _ _) | (with_reducible refine wq_M_find ?_) | (with_reducible refine wq_M_copyOf_L101 ?_ _ _ _ _ _ _ _) | (with_reducible refine wq_M_copyOf_L259 ?_ _ _ _ _ _ _) | (with_reducible refine wq_M_copyOf_L337 ?_ _ _ _ _ _ _) | (with_reducible refine wq_M_copied ?_) | (with_reducible refine wj_vp ?_) | (with_reducible refine cj_and ?_ ?_) | (with_reducible refine wj_exn ?_) | (with_reducible refine wj_exk ?_) | (with_reducible refine wj_eq ?_) | (with_reducible refine cj_imp ?_) | (with_reducible refine cj_all ?_) | (with_reducible intro _))
theorem wq_M_typeName_J46 {a : L_} {K : S_ → Prop} {K2 : S_ → Prop} {K3 : S_ → Prop} {r : S_} {u0 : Int32} {u1 : Int32} (hK : ∀ (x0 : S_), K x0 → K2 x0 → K3 x0) : qM_typeName_J46 a K r u0 u1 → wM_typeName_J46 a K2 r u0 u1 → wM_typeName_J46 a K3 r u0 u1 := by
  unfold qM_typeName_J46 wM_typeName_J46
  repeat' (first | (with_reducible exact hK _) | (with_reducible refine wj_vp ?_) | (with_reducible refine cj_and ?_ ?_) | (with_reducible refine wj_exn ?_) | (with_reducible refine wj_exk ?_) | (with_reducible refine wj_eq ?_) | (with_reducible refine cj_imp ?_) | (with_reducible refine cj_all ?_) | (with_reducible intro _))
theorem wq_M_typeName {a : L_} {K : S_ → Prop} {K2 : S_ → Prop} {K3 : S_ → Prop} {r : S_} {p0 : Int32} (hK : ∀ (x0 : S_), K x0 → K2 x0 → K3 x0) : qM_typeName a K r p0 → wM_typeName a K2 r p0 → wM_typeName a K3 r p0 := by
  unfold qM_typeName wM_typeName
  repeat' (first | (with_reducible exact hK _) | (with_reducible refine wq_M_binder ?_) | (with_reducible refine wq_M_kindOf ?_) | (with_reducible refine wq_M_copyOf ?_) | (with_reducible refine wq_M_typeName_J46 ?_) | (with_reducible refine wj_vp ?_) | (with_reducible refine cj_and ?_ ?_) | (with_reducible refine wj_exn ?_) | (with_reducible refine wj_exk ?_) | (with_reducible refine wj_eq ?_) | (with_reducible refine cj_imp ?_) | (with_reducible refine cj_all ?_) | (with_reducible intro _))
theorem wq_M_visit_J265 {a : L_} {K : Int32 → S_ → Prop} {K2 : Int32 → S_ → Prop} {K3 : Int32 → S_ → Prop} {r : S_} {v1 : Int32} (hK : ∀ (x0 : Int32) (x1 : S_), K x0 x1 → K2 x0 x1 → K3 x0 x1) : qM_visit_J265 a K r v1 → wM_visit_J265 a K2 r v1 → wM_visit_J265 a K3 r v1 := by
  unfold qM_visit_J265 wM_visit_J265
  repeat' (first | (with_reducible exact hK _ _) | (with_reducible refine wj_vp ?_) | (with_reducible refine cj_and ?_ ?_) | (with_reducible refine wj_exn ?_) | (with_reducible refine wj_exk ?_) | (with_reducible refine wj_eq ?_) | (with_reducible refine cj_imp ?_) | (with_reducible refine cj_all ?_) | (with_reducible intro _))
theorem wq_M_visit_J194 {a : L_} {K : Int32 → S_ → Prop} {K2 : Int32 → S_ → Prop} {K3 : Int32 → S_ → Prop} {r : S_} {v1 : Int32} {v2 : Int32} {v3 : Int32} (hK : ∀ (x0 : Int32) (x1 : S_), K x0 x1 → K2 x0 x1 → K3 x0 x1) : qM_visit_J194 a K r v1 v2 v3 → wM_visit_J194 a K2 r v1 v2 v3 → wM_visit_J194 a K3 r v1 v2 v3 := by
  unfold qM_visit_J194 wM_visit_J194
  repeat' (first | (with_reducible exact hK _ _) | (with_reducible refine wq_M_fresh ?_) | (with_reducible refine wq_M_arrow ?_) | (with_reducible refine wq_M_unify ?_) | (with_reducible refine wq_M_visit_J265 ?_) | (with_reducible refine wq_M_generalise ?_) | (with_reducible refine wj_vp ?_) | (with_reducible refine cj_and ?_ ?_) | (with_reducible refine wj_exn ?_) | (with_reducible refine wj_exk ?_) | (with_reducible refine wj_eq ?_) | (with_reducible refine cj_imp ?_) | (with_reducible refine cj_all ?_) | (with_reducible intro _))
theorem wq_M_visit_J120 {a : L_} {KB72 : S_ → Int32 → Int32 → Prop} {KB722 : S_ → Int32 → Int32 → Prop} {KB723 : S_ → Int32 → Int32 → Prop} {KX126 : S_ → Prop} {KX1262 : S_ → Prop} {KX1263 : S_ → Prop} {r : S_} {v4 : Int32} {v5 : Int32} (hKB72 : ∀ (x0 : S_) (x1 : Int32) (x2 : Int32), KB72 x0 x1 x2 → KB722 x0 x1 x2 → KB723 x0 x1 x2) (hKX126 : ∀ (x0 : S_), KX126 x0 → KX1262 x0 → KX1263 x0) : qM_visit_J120 a KB72 KX126 r v4 v5 → wM_visit_J120 a KB722 KX1262 r v4 v5 → wM_visit_J120 a KB723 KX1263 r v4 v5 := by
  unfold qM_visit_J120 wM_visit_J120
  repeat' (first | (with_reducible exact hKB72 _ _ _) | (with_reducible exact hKX126 _) | (with_reducible refine wj_vp ?_) | (with_reducible refine cj_and ?_ ?_) | (with_reducible refine wj_exn ?_) | (with_reducible refine wj_exk ?_) | (with_reducible refine wj_eq ?_) | (with_reducible refine cj_imp ?_) | (with_reducible refine cj_all ?_) | (with_reducible intro _))
theorem wq_M_visit_L72 {a : L_} {KX126 : S_ → Prop} {KX1262 : S_ → Prop} {KX1263 : S_ → Prop} (hKX126 : ∀ (x0 : S_), KX126 x0 → KX1262 x0 → KX1263 x0) : ∀ (n : Nat) (m : Nat) (w0 : S_) (w1 : Int32) (w2 : Int32), qM_visit_L72 a KX126 n w0 w1 w2 → wM_visit_L72 a KX1262 m w0 w1 w2 → wM_visit_L72 a KX1263 m w0 w1 w2 := by
  intro n
  induction n with
  | zero => intro m w0 w1 w2 h; exact h.elim
  | succ n ih =>
    intro m w0 w1 w2
    cases m with
    | zero => intro _ _; trivial
    | succ m =>
      rw [qM_visit_L72, wM_visit_L72, wM_visit_L72]
      repeat' (first | (with_reducible exact hKX126 _) | (with_reducible exact ih _ _ _ _) | (with_reducible refine wq_M_visit_J120 ?_ ?_) | (with_reducible refine wq_M_addWant ?_) | (with_reducible refine wj_vp ?_) | (with_reducible refine cj_and ?_ ?_) | (with_reducible refine wj_exn ?_) | (with_reducible refine wj_exk ?_) | (with_reducible refine wj_eq ?_) | (with_reducible refine cj_imp ?_) | (with_reducible refine cj_all ?_) | (with_reducible intro _))
theorem wq_M_visit {a : L_} {K : Int32 → S_ → Prop} {K2 : Int32 → S_ → Prop} {K3 : Int32 → S_ → Prop} {r : S_} {p0 : Int32} (hK : ∀ (x0 : Int32) (x1 : S_), K x0 x1 → K2 x0 x1 → K3 x0 x1) : qM_visit a K r p0 → wM_visit a K2 r p0 → wM_visit a K3 r p0 := by
  unfold qM_visit wM_visit
  repeat' (first | (with_reducible exact hK _ _) | (with_reducible refine wq_M_kindOf ?_) | (with_reducible refine wq_M_visit_J194 ?_) | (with_reducible refine wq_M_fresh ?_) | (with_reducible refine wq_M_copyStatic ?_) | (with_reducible refine wq_M_visit_L72 ?_ _ _ _ _ _) | (with_reducible refine wq_M_typeName ?_) | (with_reducible refine wj_vp ?_) | (with_reducible refine cj_and ?_ ?_) | (with_reducible refine wj_exn ?_) | (with_reducible refine wj_exk ?_) | (with_reducible refine wj_eq ?_) | (with_reducible refine cj_imp ?_) | (with_reducible refine cj_all ?_) | (with_reducible intro _))
theorem wq_M_typeAll_J53 {a : L_} {KB9 : S_ → Int32 → Prop} {KB92 : S_ → Int32 → Prop} {KB93 : S_ → Int32 → Prop} {KX56 : S_ → Prop} {KX562 : S_ → Prop} {KX563 : S_ → Prop} {r : S_} {v1 : Int32} (hKB9 : ∀ (x0 : S_) (x1 : Int32), KB9 x0 x1 → KB92 x0 x1 → KB93 x0 x1) (hKX56 : ∀ (x0 : S_), KX56 x0 → KX562 x0 → KX563 x0) : qM_typeAll_J53 a KB9 KX56 r v1 → wM_typeAll_J53 a KB92 KX562 r v1 → wM_typeAll_J53 a KB93 KX563 r v1 := by
  unfold qM_typeAll_J53 wM_typeAll_J53
  repeat' (first | (with_reducible exact hKB9 _ _) | (with_reducible exact hKX56 _) | (with_reducible refine wj_vp ?_) | (with_reducible refine cj_and ?_ ?_) | (with_reducible refine wj_exn ?_) | (with_reducible refine wj_exk ?_) | (with_reducible refine wj_eq ?_) | (with_reducible refine cj_imp ?_) | (with_reducible refine cj_all ?_) | (with_reducible intro _))
theorem wq_M_typeAll_L9 {a : L_} {KX56 : S_ → Prop} {KX562 : S_ → Prop} {KX563 : S_ → Prop} (hKX56 : ∀ (x0 : S_), KX56 x0 → KX562 x0 → KX563 x0) : ∀ (n : Nat) (m : Nat) (w0 : S_) (w1 : Int32), qM_typeAll_L9 a KX56 n w0 w1 → wM_typeAll_L9 a KX562 m w0 w1 → wM_typeAll_L9 a KX563 m w0 w1 := by
  intro n
  induction n with
  | zero => intro m w0 w1 h; exact h.elim
  | succ n ih =>
    intro m w0 w1
    cases m with
    | zero => intro _ _; trivial
    | succ m =>
      rw [qM_typeAll_L9, wM_typeAll_L9, wM_typeAll_L9]
      repeat' (first | (with_reducible exact hKX56 _) | (with_reducible exact ih _ _ _) | (with_reducible refine wq_M_visit ?_) | (with_reducible refine wq_M_typeAll_J53 ?_ ?_) | (with_reducible refine wj_vp ?_) | (with_reducible refine cj_and ?_ ?_) | (with_reducible refine wj_exn ?_) | (with_reducible refine wj_exk ?_) | (with_reducible refine wj_eq ?_) | (with_reducible refine cj_imp ?_) | (with_reducible refine cj_all ?_) | (with_reducible intro _))
theorem wq_M_typeAll {a : L_} {K : S_ → Prop} {K2 : S_ → Prop} {K3 : S_ → Prop} {r : S_} (hK : ∀ (x0 : S_), K x0 → K2 x0 → K3 x0) : qM_typeAll a K r → wM_typeAll a K2 r → wM_typeAll a K3 r := by
  unfold qM_typeAll wM_typeAll
  repeat' (first | (with_reducible exact hK _) | (with_reducible refine wq_M_typeAll_L9 ?_ _ _ _ _) | (with_reducible refine wj_vp ?_) | (with_reducible refine cj_and ?_ ?_) | (with_reducible refine wj_exn ?_) | (with_reducible refine wj_exk ?_) | (with_reducible refine wj_eq ?_) | (with_reducible refine cj_imp ?_) | (with_reducible refine cj_all ?_) | (with_reducible intro _))
theorem wq_M_sum {a : L_} {r : S_} {K : Int32 → Prop} {K2 : Int32 → Prop} {K3 : Int32 → Prop} {p0 : Int32} {p1 : Int32} (hK : ∀ (x0 : Int32), K x0 → K2 x0 → K3 x0) : qM_sum a r K p0 p1 → wM_sum a r K2 p0 p1 → wM_sum a r K3 p0 p1 := by
  unfold qM_sum wM_sum
  repeat' (first | (with_reducible exact hK _) | (with_reducible refine wj_vp ?_) | (with_reducible refine cj_and ?_ ?_) | (with_reducible refine wj_exn ?_) | (with_reducible refine wj_exk ?_) | (with_reducible refine wj_eq ?_) | (with_reducible refine cj_imp ?_) | (with_reducible refine cj_all ?_) | (with_reducible intro _))
theorem wq_M_number_J141 {a : L_} {KB27 : S_ → Int32 → Prop} {KB272 : S_ → Int32 → Prop} {KB273 : S_ → Int32 → Prop} {KX144 : S_ → Prop} {KX1442 : S_ → Prop} {KX1443 : S_ → Prop} {r : S_} {v1 : Int32} (hKB27 : ∀ (x0 : S_) (x1 : Int32), KB27 x0 x1 → KB272 x0 x1 → KB273 x0 x1) (hKX144 : ∀ (x0 : S_), KX144 x0 → KX1442 x0 → KX1443 x0) : qM_number_J141 a KB27 KX144 r v1 → wM_number_J141 a KB272 KX1442 r v1 → wM_number_J141 a KB273 KX1443 r v1 := by
  unfold qM_number_J141 wM_number_J141
  repeat' (first | (with_reducible exact hKB27 _ _) | (with_reducible exact hKX144 _) | (with_reducible refine wj_vp ?_) | (with_reducible refine cj_and ?_ ?_) | (with_reducible refine wj_exn ?_) | (with_reducible refine wj_exk ?_) | (with_reducible refine wj_eq ?_) | (with_reducible refine cj_imp ?_) | (with_reducible refine cj_all ?_) | (with_reducible intro _))
theorem wq_M_number_J117 {a : L_} {KB27 : S_ → Int32 → Prop} {KB272 : S_ → Int32 → Prop} {KB273 : S_ → Int32 → Prop} {KX144 : S_ → Prop} {KX1442 : S_ → Prop} {KX1443 : S_ → Prop} {r : S_} {v1 : Int32} {v2 : Int32} (hKB27 : ∀ (x0 : S_) (x1 : Int32), KB27 x0 x1 → KB272 x0 x1 → KB273 x0 x1) (hKX144 : ∀ (x0 : S_), KX144 x0 → KX1442 x0 → KX1443 x0) : qM_number_J117 a KB27 KX144 r v1 v2 → wM_number_J117 a KB272 KX1442 r v1 v2 → wM_number_J117 a KB273 KX1443 r v1 v2 := by
  unfold qM_number_J117 wM_number_J117
  repeat' (first | (with_reducible exact hKB27 _ _) | (with_reducible exact hKX144 _) | (with_reducible refine wq_M_number_J141 ?_ ?_) | (with_reducible refine wj_vp ?_) | (with_reducible refine cj_and ?_ ?_) | (with_reducible refine wj_exn ?_) | (with_reducible refine wj_exk ?_) | (with_reducible refine wj_eq ?_) | (with_reducible refine cj_imp ?_) | (with_reducible refine cj_all ?_) | (with_reducible intro _))
theorem wq_M_number_J93 {a : L_} {KB27 : S_ → Int32 → Prop} {KB272 : S_ → Int32 → Prop} {KB273 : S_ → Int32 → Prop} {KX144 : S_ → Prop} {KX1442 : S_ → Prop} {KX1443 : S_ → Prop} {r : S_} {v1 : Int32} {v2 : Int32} (hKB27 : ∀ (x0 : S_) (x1 : Int32), KB27 x0 x1 → KB272 x0 x1 → KB273 x0 x1) (hKX144 : ∀ (x0 : S_), KX144 x0 → KX1442 x0 → KX1443 x0) : qM_number_J93 a KB27 KX144 r v1 v2 → wM_number_J93 a KB272 KX1442 r v1 v2 → wM_number_J93 a KB273 KX1443 r v1 v2 := by
  unfold qM_number_J93 wM_number_J93
  repeat' (first | (with_reducible exact hKB27 _ _) | (with_reducible exact hKX144 _) | (with_reducible refine wq_M_number_J117 ?_ ?_) | (with_reducible refine wj_vp ?_) | (with_reducible refine cj_and ?_ ?_) | (with_reducible refine wj_exn ?_) | (with_reducible refine wj_exk ?_) | (with_reducible refine wj_eq ?_) | (with_reducible refine cj_imp ?_) | (with_reducible refine cj_all ?_) | (with_reducible intro _))
theorem wq_M_number_L27 {a : L_} {KX144 : S_ → Prop} {KX1442 : S_ → Prop} {KX1443 : S_ → Prop} (hKX144 : ∀ (x0 : S_), KX144 x0 → KX1442 x0 → KX1443 x0) : ∀ (n : Nat) (m : Nat) (w0 : S_) (w1 : Int32), qM_number_L27 a KX144 n w0 w1 → wM_number_L27 a KX1442 m w0 w1 → wM_number_L27 a KX1443 m w0 w1 := by
  intro n
  induction n with
  | zero => intro m w0 w1 h; exact h.elim
  | succ n ih =>
    intro m w0 w1
    cases m with
    | zero => intro _ _; trivial
    | succ m =>
      rw [qM_number_L27, wM_number_L27, wM_number_L27]
      repeat' (first | (with_reducible exact hKX144 _) | (with_reducible exact ih _ _ _) | (with_reducible refine wq_M_number_J141 ?_ ?_) | (with_reducible refine wq_M_number_J93 ?_ ?_) | (with_reducible refine wj_vp ?_) | (with_reducible refine cj_and ?_ ?_) | (with_reducible refine wj_exn ?_) | (with_reducible refine wj_exk ?_) | (with_reducible refine wj_eq ?_) | (with_reducible refine cj_imp ?_) | (with_reducible refine cj_all ?_) | (with_reducible intro _))
theorem wq_M_number_J205 {a : L_} {KB146 : S_ → Int32 → Prop} {KB1462 : S_ → Int32 → Prop} {KB1463 : S_ → Int32 → Prop} {KX212 : S_ → Prop} {KX2122 : S_ → Prop} {KX2123 : S_ → Prop} {r : S_} {v2 : Int32} {u0 : Int32} {u1 : Int32} (hKB146 : ∀ (x0 : S_) (x1 : Int32), KB146 x0 x1 → KB1462 x0 x1 → KB1463 x0 x1) (hKX212 : ∀ (x0 : S_), KX212 x0 → KX2122 x0 → KX2123 x0) : qM_number_J205 a KB146 KX212 r v2 u0 u1 → wM_number_J205 a KB1462 KX2122 r v2 u0 u1 → wM_number_J205 a KB1463 KX2123 r v2 u0 u1 := by
  unfold qM_number_J205 wM_number_J205
  repeat' (first | (with_reducible exact hKB146 _ _) | (with_reducible exact hKX212 _) | (with_reducible refine wj_vp ?_) | (with_reducible refine cj_and ?_ ?_) | (with_reducible refine wj_exn ?_) | (with_reducible refine wj_exk ?_) | (with_reducible refine wj_eq ?_) | (with_reducible refine cj_imp ?_) | (with_reducible refine cj_all ?_) | (with_reducible intro _))
theorem wq_M_number_L146 {a : L_} {KX212 : S_ → Prop} {KX2122 : S_ → Prop} {KX2123 : S_ → Prop} (hKX212 : ∀ (x0 : S_), KX212 x0 → KX2122 x0 → KX2123 x0) : ∀ (n : Nat) (m : Nat) (w0 : S_) (w1 : Int32), qM_number_L146 a KX212 n w0 w1 → wM_number_L146 a KX2122 m w0 w1 → wM_number_L146 a KX2123 m w0 w1 := by
  intro n
  induction n with
  | zero => intro m w0 w1 h; exact h.elim
  | succ n ih =>
    intro m w0 w1
    cases m with
    | zero => intro _ _; trivial
    | succ m =>
      rw [qM_number_L146, wM_number_L146, wM_number_L146]
      repeat' (first | (with_reducible exact hKX212 _) | (with_reducible exact ih _ _ _) | (with_reducible refine wq_M_number_J205 ?_ ?_) | (with_reducible refine wj_vp ?_) | (with_reducible refine cj_and ?_ ?_) | (with_reducible refine wj_exn ?_) | (with_reducible refine wj_exk ?_) | (with_reducible refine wj_eq ?_) | (with_reducible refine cj_imp ?_) | (with_reducible refine cj_all ?_) | (with_reducible intro _))
theorem wq_M_number {a : L_} {K : S_ → Prop} {K2 : S_ → Prop} {K3 : S_ → Prop} {r : S_} (hK : ∀ (x0 : S_), K x0 → K2 x0 → K3 x0) : qM_number a K r → wM_number a K2 r → wM_number a K3 r := by
  unfold qM_number wM_number
  repeat' (first | (with_reducible exact hK _) | (with_reducible refine wq_M_number_L27 ?_ _ _ _ _) | (with_reducible refine wq_M_number_L146 ?_ _ _ _ _) | (with_reducible refine wj_vp ?_) | (with_reducible refine cj_and ?_ ?_) | (with_reducible refine wj_exn ?_) | (with_reducible refine wj_exk ?_) | (with_reducible refine wj_eq ?_) | (with_reducible refine cj_imp ?_) | (with_reducible refine cj_all ?_) | (with_reducible intro _))
theorem wq_M_keep_J100 {a : L_} {KB16 : S_ → Int32 → Prop} {KB162 : S_ → Int32 → Prop} {KB163 : S_ → Int32 → Prop} {KX114 : S_ → Prop} {KX1142 : S_ → Prop} {KX1143 : S_ → Prop} {r : S_} {v1 : Int32} {v2 : Int32} {u0 : Int32} {u1 : Int32} (hKB16 : ∀ (x0 : S_) (x1 : Int32), KB16 x0 x1 → KB162 x0 x1 → KB163 x0 x1) (hKX114 : ∀ (x0 : S_), KX114 x0 → KX1142 x0 → KX1143 x0) : qM_keep_J100 a KB16 KX114 r v1 v2 u0 u1 → wM_keep_J100 a KB162 KX1142 r v1 v2 u0 u1 → wM_keep_J100 a KB163 KX1143 r v1 v2 u0 u1 := by
  unfold qM_keep_J100 wM_keep_J100
  repeat' (first | (with_reducible exact hKB16 _ _) | (with_reducible exact hKX114 _) | (with_reducible refine wj_vp ?_) | (with_reducible refine cj_and ?_ ?_) | (with_reducible refine wj_exn ?_) | (with_reducible refine wj_exk ?_) | (with_reducible refine wj_eq ?_) | (with_reducible refine cj_imp ?_) | (with_reducible refine cj_all ?_) | (with_reducible intro _))
theorem wq_M_keep_J71 {a : L_} {KB16 : S_ → Int32 → Prop} {KB162 : S_ → Int32 → Prop} {KB163 : S_ → Int32 → Prop} {KX114 : S_ → Prop} {KX1142 : S_ → Prop} {KX1143 : S_ → Prop} {r : S_} {v1 : Int32} {v2 : Int32} {u0 : Int32} {u1 : Int32} (hKB16 : ∀ (x0 : S_) (x1 : Int32), KB16 x0 x1 → KB162 x0 x1 → KB163 x0 x1) (hKX114 : ∀ (x0 : S_), KX114 x0 → KX1142 x0 → KX1143 x0) : qM_keep_J71 a KB16 KX114 r v1 v2 u0 u1 → wM_keep_J71 a KB162 KX1142 r v1 v2 u0 u1 → wM_keep_J71 a KB163 KX1143 r v1 v2 u0 u1 := by
  unfold qM_keep_J71 wM_keep_J71
  repeat' (first | (with_reducible exact hKB16 _ _) | (with_reducible exact hKX114 _) | (with_reducible refine wq_M_find ?_) | (with_reducible refine wq_M_keep_J100 ?_ ?_) | (with_reducible refine wj_vp ?_) | (with_reducible refine cj_and ?_ ?_) | (with_reducible refine wj_exn ?_) | (with_reducible refine wj_exk ?_) | (with_reducible refine wj_eq ?_) | (with_reducible refine cj_imp ?_) | (with_reducible refine cj_all ?_) | (with_reducible intro _))
theorem wq_M_keep_L16 {a : L_} {KX114 : S_ → Prop} {KX1142 : S_ → Prop} {KX1143 : S_ → Prop} (hKX114 : ∀ (x0 : S_), KX114 x0 → KX1142 x0 → KX1143 x0) : ∀ (n : Nat) (m : Nat) (w0 : S_) (w1 : Int32), qM_keep_L16 a KX114 n w0 w1 → wM_keep_L16 a KX1142 m w0 w1 → wM_keep_L16 a KX1143 m w0 w1 := by
  intro n
  induction n with
  | zero => intro m w0 w1 h; exact h.elim
  | succ n ih =>
    intro m w0 w1
    cases m with
    | zero => intro _ _; trivial
    | succ m =>
      rw [qM_keep_L16, wM_keep_L16, wM_keep_L16]
      repeat' (first | (with_reducible exact hKX114 _) | (with_reducible exact ih _ _ _) | (with_reducible refine wq_M_find ?_) | (with_reducible refine wq_M_keep_J71 ?_ ?_) | (with_reducible refine wj_vp ?_) | (with_reducible refine cj_and ?_ ?_) | (with_reducible refine wj_exn ?_) | (with_reducible refine wj_exk ?_) | (with_reducible refine wj_eq ?_) | (with_reducible refine cj_imp ?_) | (with_reducible refine cj_all ?_) | (with_reducible intro _))
theorem wq_M_keep_J259 {a : L_} {KB124 : S_ → Int32 → Int32 → Prop} {KB1242 : S_ → Int32 → Int32 → Prop} {KB1243 : S_ → Int32 → Int32 → Prop} {KX265 : S_ → Int32 → Prop} {KX2652 : S_ → Int32 → Prop} {KX2653 : S_ → Int32 → Prop} {r : S_} {v1 : Int32} {v2 : Int32} (hKB124 : ∀ (x0 : S_) (x1 : Int32) (x2 : Int32), KB124 x0 x1 x2 → KB1242 x0 x1 x2 → KB1243 x0 x1 x2) (hKX265 : ∀ (x0 : S_) (x1 : Int32), KX265 x0 x1 → KX2652 x0 x1 → KX2653 x0 x1) : qM_keep_J259 a KB124 KX265 r v1 v2 → wM_keep_J259 a KB1242 KX2652 r v1 v2 → wM_keep_J259 a KB1243 KX2653 r v1 v2 := by
  unfold qM_keep_J259 wM_keep_J259
  repeat' (first | (with_reducible exact hKB124 _ _ _) | (with_reducible exact hKX265 _ _) | (with_reducible refine wj_vp ?_) | (with_reducible refine cj_and ?_ ?_) | (with_reducible refine wj_exn ?_) | (with_reducible refine wj_exk ?_) | (with_reducible refine wj_eq ?_) | (with_reducible refine cj_imp ?_) | (with_reducible refine cj_all ?_) | (with_reducible intro _))
theorem wq_M_keep_J224 {a : L_} {KB124 : S_ → Int32 → Int32 → Prop} {KB1242 : S_ → Int32 → Int32 → Prop} {KB1243 : S_ → Int32 → Int32 → Prop} {KX265 : S_ → Int32 → Prop} {KX2652 : S_ → Int32 → Prop} {KX2653 : S_ → Int32 → Prop} {r : S_} {v1 : Int32} {v2 : Int32} {v3 : Int32} {v4 : Int32} {v5 : Int32} {u0 : Int32} (hKB124 : ∀ (x0 : S_) (x1 : Int32) (x2 : Int32), KB124 x0 x1 x2 → KB1242 x0 x1 x2 → KB1243 x0 x1 x2) (hKX265 : ∀ (x0 : S_) (x1 : Int32), KX265 x0 x1 → KX2652 x0 x1 → KX2653 x0 x1) : qM_keep_J224 a KB124 KX265 r v1 v2 v3 v4 v5 u0 → wM_keep_J224 a KB1242 KX2652 r v1 v2 v3 v4 v5 u0 → wM_keep_J224 a KB1243 KX2653 r v1 v2 v3 v4 v5 u0 := by
  unfold qM_keep_J224 wM_keep_J224
  repeat' (first | (with_reducible exact hKB124 _ _ _) | (with_reducible exact hKX265 _ _) | (with_reducible refine wq_M_keep_J259 ?_ ?_) | (with_reducible refine wq_M_sum ?_) | (with_reducible refine wj_vp ?_) | (with_reducible refine cj_and ?_ ?_) | (with_reducible refine wj_exn ?_) | (with_reducible refine wj_exk ?_) | (with_reducible refine wj_eq ?_) | (with_reducible refine cj_imp ?_) | (with_reducible refine cj_all ?_) | (with_reducible intro _))
theorem wq_M_keep_J219 {a : L_} {KB124 : S_ → Int32 → Int32 → Prop} {KB1242 : S_ → Int32 → Int32 → Prop} {KB1243 : S_ → Int32 → Int32 → Prop} {KX265 : S_ → Int32 → Prop} {KX2652 : S_ → Int32 → Prop} {KX2653 : S_ → Int32 → Prop} {r : S_} {v1 : Int32} {v2 : Int32} {v3 : Int32} {v4 : Int32} {v5 : Int32} (hKB124 : ∀ (x0 : S_) (x1 : Int32) (x2 : Int32), KB124 x0 x1 x2 → KB1242 x0 x1 x2 → KB1243 x0 x1 x2) (hKX265 : ∀ (x0 : S_) (x1 : Int32), KX265 x0 x1 → KX2652 x0 x1 → KX2653 x0 x1) : qM_keep_J219 a KB124 KX265 r v1 v2 v3 v4 v5 → wM_keep_J219 a KB1242 KX2652 r v1 v2 v3 v4 v5 → wM_keep_J219 a KB1243 KX2653 r v1 v2 v3 v4 v5 := by
  unfold qM_keep_J219 wM_keep_J219
  repeat' (first | (with_reducible exact hKB124 _ _ _) | (with_reducible exact hKX265 _ _) | (with_reducible refine wq_M_keep_J224 ?_ ?_) | (with_reducible refine wj_vp ?_) | (with_reducible refine cj_and ?_ ?_) | (with_reducible refine wj_exn ?_) | (with_reducible refine wj_exk ?_) | (with_reducible refine wj_eq ?_) | (with_reducible refine cj_imp ?_) | (with_reducible refine cj_all ?_) | (with_reducible intro _))
theorem wq_M_keep_J223 {a : L_} {KB124 : S_ → Int32 → Int32 → Prop} {KB1242 : S_ → Int32 → Int32 → Prop} {KB1243 : S_ → Int32 → Int32 → Prop} {KX265 : S_ → Int32 → Prop} {KX2652 : S_ → Int32 → Prop} {KX2653 : S_ → Int32 → Prop} {r : S_} {v1 : Int32} {v2 : Int32} {v3 : Int32} {v4 : Int32} {v5 : Int32} (hKB124 : ∀ (x0 : S_) (x1 : Int32) (x2 : Int32), KB124 x0 x1 x2 → KB1242 x0 x1 x2 → KB1243 x0 x1 x2) (hKX265 : ∀ (x0 : S_) (x1 : Int32), KX265 x0 x1 → KX2652 x0 x1 → KX2653 x0 x1) : qM_keep_J223 a KB124 KX265 r v1 v2 v3 v4 v5 → wM_keep_J223 a KB1242 KX2652 r v1 v2 v3 v4 v5 → wM_keep_J223 a KB1243 KX2653 r v1 v2 v3 v4 v5 := by
  unfold qM_keep_J223 wM_keep_J223
  repeat' (first | (with_reducible exact hKB124 _ _ _) | (with_reducible exact hKX265 _ _) | (with_reducible refine wq_M_keep_J224 ?_ ?_) | (with_reducible refine wj_vp ?_) | (with_reducible refine cj_and ?_ ?_) | (with_reducible refine wj_exn ?_) | (with_reducible refine wj_exk ?_) | (with_reducible refine wj_eq ?_) | (with_reducible refine cj_imp ?_) | (with_reducible refine cj_all ?_) | (with_reducible intro _))
theorem wq_M_keep_J205 {a : L_} {KB124 : S_ → Int32 → Int32 → Prop} {KB1242 : S_ → Int32 → Int32 → Prop} {KB1243 : S_ → Int32 → Int32 → Prop} {KX265 : S_ → Int32 → Prop} {KX2652 : S_ → Int32 → Prop} {KX2653 : S_ → Int32 → Prop} {r : S_} {v1 : Int32} {v2 : Int32} {v3 : Int32} {v4 : Int32} {v5 : Int32} (hKB124 : ∀ (x0 : S_) (x1 : Int32) (x2 : Int32), KB124 x0 x1 x2 → KB1242 x0 x1 x2 → KB1243 x0 x1 x2) (hKX265 : ∀ (x0 : S_) (x1 : Int32), KX265 x0 x1 → KX2652 x0 x1 → KX2653 x0 x1) : qM_keep_J205 a KB124 KX265 r v1 v2 v3 v4 v5 → wM_keep_J205 a KB1242 KX2652 r v1 v2 v3 v4 v5 → wM_keep_J205 a KB1243 KX2653 r v1 v2 v3 v4 v5 := by
  unfold qM_keep_J205 wM_keep_J205
  repeat' (first | (with_reducible exact hKB124 _ _ _) | (with_reducible exact hKX265 _ _) | (with_reducible refine wq_M_keep_J219 ?_ ?_) | (with_reducible refine wq_M_keep_J223 ?_ ?_) | (with_reducible refine wj_vp ?_) | (with_reducible refine cj_and ?_ ?_) | (with_reducible refine wj_exn ?_) | (with_reducible refine wj_exk ?_) | (with_reducible refine wj_eq ?_) | (with_reducible refine cj_imp ?_) | (with_reducible refine cj_all ?_) | (with_reducible intro _))
theorem wq_M_keep_J189 {a : L_} {KB124 : S_ → Int32 → Int32 → Prop} {KB1242 : S_ → Int32 → Int32 → Prop} {KB1243 : S_ → Int32 → Int32 → Prop} {KX265 : S_ → Int32 → Prop} {KX2652 : S_ → Int32 → Prop} {KX2653 : S_ → Int32 → Prop} {r : S_} {v1 : Int32} {v2 : Int32} {v3 : Int32} {v4 : Int32} {u0 : Int32} (hKB124 : ∀ (x0 : S_) (x1 : Int32) (x2 : Int32), KB124 x0 x1 x2 → KB1242 x0 x1 x2 → KB1243 x0 x1 x2) (hKX265 : ∀ (x0 : S_) (x1 : Int32), KX265 x0 x1 → KX2652 x0 x1 → KX2653 x0 x1) : qM_keep_J189 a KB124 KX265 r v1 v2 v3 v4 u0 → wM_keep_J189 a KB1242 KX2652 r v1 v2 v3 v4 u0 → wM_keep_J189 a KB1243 KX2653 r v1 v2 v3 v4 u0 := by
  unfold qM_keep_J189 wM_keep_J189
  repeat' (first | (with_reducible exact hKB124 _ _ _) | (with_reducible exact hKX265 _ _) | (with_reducible refine wq_M_keep_J205 ?_ ?_) | (with_reducible refine wq_M_keep_J223 ?_ ?_) | (with_reducible refine wj_vp ?_) | (with_reducible refine cj_and ?_ ?_) | (with_reducible refine wj_exn ?_) | (with_reducible refine wj_exk ?_) | (with_reducible refine wj_eq ?_) | (with_reducible refine cj_imp ?_) | (with_reducible refine cj_all ?_) | (with_reducible intro _))
theorem wq_M_keep_J163 {a : L_} {KB124 : S_ → Int32 → Int32 → Prop} {KB1242 : S_ → Int32 → Int32 → Prop} {KB1243 : S_ → Int32 → Int32 → Prop} {KX265 : S_ → Int32 → Prop} {KX2652 : S_ → Int32 → Prop} {KX2653 : S_ → Int32 → Prop} {r : S_} {v1 : Int32} {v2 : Int32} {v3 : Int32} {u0 : Int32} (hKB124 : ∀ (x0 : S_) (x1 : Int32) (x2 : Int32), KB124 x0 x1 x2 → KB1242 x0 x1 x2 → KB1243 x0 x1 x2) (hKX265 : ∀ (x0 : S_) (x1 : Int32), KX265 x0 x1 → KX2652 x0 x1 → KX2653 x0 x1) : qM_keep_J163 a KB124 KX265 r v1 v2 v3 u0 → wM_keep_J163 a KB1242 KX2652 r v1 v2 v3 u0 → wM_keep_J163 a KB1243 KX2653 r v1 v2 v3 u0 := by
  unfold qM_keep_J163 wM_keep_J163
  repeat' (first | (with_reducible exact hKB124 _ _ _) | (with_reducible exact hKX265 _ _) | (with_reducible refine wq_M_keep_J189 ?_ ?_) | (with_reducible refine wj_vp ?_) | (with_reducible refine cj_and ?_ ?_) | (with_reducible refine wj_exn ?_) | (with_reducible refine wj_exk ?_) | (with_reducible refine wj_eq ?_) | (with_reducible refine cj_imp ?_) | (with_reducible refine cj_all ?_) | (with_reducible intro _))
theorem wq_M_keep_L124 {a : L_} {KX265 : S_ → Int32 → Prop} {KX2652 : S_ → Int32 → Prop} {KX2653 : S_ → Int32 → Prop} (hKX265 : ∀ (x0 : S_) (x1 : Int32), KX265 x0 x1 → KX2652 x0 x1 → KX2653 x0 x1) : ∀ (n : Nat) (m : Nat) (w0 : S_) (w1 : Int32) (w2 : Int32), qM_keep_L124 a KX265 n w0 w1 w2 → wM_keep_L124 a KX2652 m w0 w1 w2 → wM_keep_L124 a KX2653 m w0 w1 w2 := by
  intro n
  induction n with
  | zero => intro m w0 w1 w2 h; exact h.elim
  | succ n ih =>
    intro m w0 w1 w2
    cases m with
    | zero => intro _ _; trivial
    | succ m =>
      rw [qM_keep_L124, wM_keep_L124, wM_keep_L124]
      repeat' (first | (with_reducible exact hKX265 _ _) | (with_reducible exact ih _ _ _ _) | (with_reducible refine wq_M_keep_J163 ?_ ?_) | (with_reducible refine wj_vp ?_) | (with_reducible refine cj_and ?_ ?_) | (with_reducible refine wj_exn ?_) | (with_reducible refine wj_exk ?_) | (with_reducible refine wj_eq ?_) | (with_reducible refine cj_imp ?_) | (with_reducible refine cj_all ?_) | (with_reducible intro _))
theorem wq_M_keep_L116 {a : L_} {KX268 : S_ → Prop} {KX2682 : S_ → Prop} {KX2683 : S_ → Prop} (hKX268 : ∀ (x0 : S_), KX268 x0 → KX2682 x0 → KX2683 x0) : ∀ (n : Nat) (m : Nat) (w0 : S_) (w1 : Int32), qM_keep_L116 a KX268 n w0 w1 → wM_keep_L116 a KX2682 m w0 w1 → wM_keep_L116 a KX2683 m w0 w1 := by
  intro n
  induction n with
  | zero => intro m w0 w1 h; exact h.elim
  | succ n ih =>
    intro m w0 w1
    cases m with
    | zero => intro _ _; trivial
    | succ m =>
      rw [qM_keep_L116, wM_keep_L116, wM_keep_L116]
      repeat' (first | (with_reducible exact hKX268 _) | (with_reducible exact ih _ _ _) | (with_reducible refine wq_M_keep_L124 ?_ _ _ _ _ _) | (with_reducible refine wj_vp ?_) | (with_reducible refine cj_and ?_ ?_) | (with_reducible refine wj_exn ?_) | (with_reducible refine wj_exk ?_) | (with_reducible refine wj_eq ?_) | (with_reducible refine cj_imp ?_) | (with_reducible refine cj_all ?_) | (with_reducible intro _))
theorem wq_M_keep_J390 {a : L_} {KB339 : S_ → Int32 → Int32 → Int32 → Int32 → Prop} {KB3392 : S_ → Int32 → Int32 → Int32 → Int32 → Prop} {KB3393 : S_ → Int32 → Int32 → Int32 → Int32 → Prop} {KX396 : S_ → Int32 → Int32 → Prop} {KX3962 : S_ → Int32 → Int32 → Prop} {KX3963 : S_ → Int32 → Int32 → Prop} {r : S_} {v2 : Int32} {v3 : Int32} {v4 : Int32} {v5 : Int32} (hKB339 : ∀ (x0 : S_) (x1 : Int32) (x2 : Int32) (x3 : Int32) (x4 : Int32), KB339 x0 x1 x2 x3 x4 → KB3392 x0 x1 x2 x3 x4 → KB3393 x0 x1 x2 x3 x4) (hKX396 : ∀ (x0 : S_) (x1 : Int32) (x2 : Int32), KX396 x0 x1 x2 → KX3962 x0 x1 x2 → KX3963 x0 x1 x2) : qM_keep_J390 a KB339 KX396 r v2 v3 v4 v5 → wM_keep_J390 a KB3392 KX3962 r v2 v3 v4 v5 → wM_keep_J390 a KB3393 KX3963 r v2 v3 v4 v5 := by
  unfold qM_keep_J390 wM_keep_J390
  repeat' (first | (with_reducible exact hKB339 _ _ _ _ _) | (with_reducible exact hKX396 _ _ _) | (with_reducible refine wj_vp ?_) | (with_reducible refine cj_and ?_ ?_) | (with_reducible refine wj_exn ?_) | (with_reducible refine wj_exk ?_) | (with_reducible refine wj_eq ?_) | (with_reducible refine cj_imp ?_) | (with_reducible refine cj_all ?_) | (with_reducible intro _))
theorem wq_M_keep_L339 {a : L_} {KX396 : S_ → Int32 → Int32 → Prop} {KX3962 : S_ → Int32 → Int32 → Prop} {KX3963 : S_ → Int32 → Int32 → Prop} (hKX396 : ∀ (x0 : S_) (x1 : Int32) (x2 : Int32), KX396 x0 x1 x2 → KX3962 x0 x1 x2 → KX3963 x0 x1 x2) : ∀ (n : Nat) (m : Nat) (w0 : S_) (w1 : Int32) (w2 : Int32) (w3 : Int32) (w4 : Int32), qM_keep_L339 a KX396 n w0 w1 w2 w3 w4 → wM_keep_L339 a KX3962 m w0 w1 w2 w3 w4 → wM_keep_L339 a KX3963 m w0 w1 w2 w3 w4 := by
  intro n
  induction n with
  | zero => intro m w0 w1 w2 w3 w4 h; exact h.elim
  | succ n ih =>
    intro m w0 w1 w2 w3 w4
    cases m with
    | zero => intro _ _; trivial
    | succ m =>
      rw [qM_keep_L339, wM_keep_L339, wM_keep_L339]
      repeat' (first | (with_reducible exact hKX396 _ _ _) | (with_reducible exact ih _ _ _ _ _ _) | (with_reducible refine wq_M_keep_J390 ?_ ?_) | (with_reducible refine wj_vp ?_) | (with_reducible refine cj_and ?_ ?_) | (with_reducible refine wj_exn ?_) | (with_reducible refine wj_exk ?_) | (with_reducible refine wj_eq ?_) | (with_reducible refine cj_imp ?_) | (with_reducible refine cj_all ?_) | (with_reducible intro _))
theorem wq_M_keep_J334 {a : L_} {KB297 : S_ → Int32 → Int32 → Prop} {KB2972 : S_ → Int32 → Int32 → Prop} {KB2973 : S_ → Int32 → Int32 → Prop} {KX402 : S_ → Int32 → Prop} {KX4022 : S_ → Int32 → Prop} {KX4023 : S_ → Int32 → Prop} {r : S_} {v2 : Int32} {v3 : Int32} {u0 : Int32} (hKB297 : ∀ (x0 : S_) (x1 : Int32) (x2 : Int32), KB297 x0 x1 x2 → KB2972 x0 x1 x2 → KB2973 x0 x1 x2) (hKX402 : ∀ (x0 : S_) (x1 : Int32), KX402 x0 x1 → KX4022 x0 x1 → KX4023 x0 x1) : qM_keep_J334 a KB297 KX402 r v2 v3 u0 → wM_keep_J334 a KB2972 KX4022 r v2 v3 u0 → wM_keep_J334 a KB2973 KX4023 r v2 v3 u0 := by
  unfold qM_keep_J334 wM_keep_J334
  repeat' (first | (with_reducible exact hKB297 _ _ _) | (with_reducible exact hKX402 _ _) | (with_reducible refine wq_M_keep_L339 ?_ _ _ _ _ _ _ _) | (with_reducible refine wj_vp ?_) | (with_reducible refine cj_and ?_ ?_) | (with_reducible refine wj_exn ?_) | (with_reducible refine wj_exk ?_) | (with_reducible refine wj_eq ?_) | (with_reducible refine cj_imp ?_) | (with_reducible refine cj_all ?_) | (with_reducible intro _))
theorem wq_M_keep_L297 {a : L_} {KX402 : S_ → Int32 → Prop} {KX4022 : S_ → Int32 → Prop} {KX4023 : S_ → Int32 → Prop} (hKX402 : ∀ (x0 : S_) (x1 : Int32), KX402 x0 x1 → KX4022 x0 x1 → KX4023 x0 x1) : ∀ (n : Nat) (m : Nat) (w0 : S_) (w1 : Int32) (w2 : Int32), qM_keep_L297 a KX402 n w0 w1 w2 → wM_keep_L297 a KX4022 m w0 w1 w2 → wM_keep_L297 a KX4023 m w0 w1 w2 := by
  intro n
  induction n with
  | zero => intro m w0 w1 w2 h; exact h.elim
  | succ n ih =>
    intro m w0 w1 w2
    cases m with
    | zero => intro _ _; trivial
    | succ m =>
      rw [qM_keep_L297, wM_keep_L297, wM_keep_L297]
      repeat' (first | (with_reducible exact hKX402 _ _) | (with_reducible exact ih _ _ _ _) | (with_reducible refine wq_M_keep_J334 ?_ ?_) | (with_reducible refine wq_M_least ?_) | (with_reducible refine wj_vp ?_) | (with_reducible refine cj_and ?_ ?_) | (with_reducible refine wj_exn ?_) | (with_reducible refine wj_exk ?_) | (with_reducible refine wj_eq ?_) | (with_reducible refine cj_imp ?_) | (with_reducible refine cj_all ?_) | (with_reducible intro _))
theorem wq_M_keep_L287 {a : L_} {KX408 : S_ → Prop} {KX4082 : S_ → Prop} {KX4083 : S_ → Prop} (hKX408 : ∀ (x0 : S_), KX408 x0 → KX4082 x0 → KX4083 x0) : ∀ (n : Nat) (m : Nat) (w0 : S_) (w1 : Int32), qM_keep_L287 a KX408 n w0 w1 → wM_keep_L287 a KX4082 m w0 w1 → wM_keep_L287 a KX4083 m w0 w1 := by
  intro n
  induction n with
  | zero => intro m w0 w1 h; exact h.elim
  | succ n ih =>
    intro m w0 w1
    cases m with
    | zero => intro _ _; trivial
    | succ m =>
      rw [qM_keep_L287, wM_keep_L287, wM_keep_L287]
      repeat' (first | (with_reducible exact hKX408 _) | (with_reducible exact ih _ _ _) | (with_reducible refine wq_M_keep_L297 ?_ _ _ _ _ _) | (with_reducible refine wj_vp ?_) | (with_reducible refine cj_and ?_ ?_) | (with_reducible refine wj_exn ?_) | (with_reducible refine wj_exk ?_) | (with_reducible refine wj_eq ?_) | (with_reducible refine cj_imp ?_) | (with_reducible refine cj_all ?_) | (with_reducible intro _))
theorem wq_M_keep {a : L_} {K : S_ → Prop} {K2 : S_ → Prop} {K3 : S_ → Prop} {r : S_} (hK : ∀ (x0 : S_), K x0 → K2 x0 → K3 x0) : qM_keep a K r → wM_keep a K2 r → wM_keep a K3 r := by
  unfold qM_keep wM_keep
  repeat' (first | (with_reducible exact hK _) | (with_reducible refine wq_M_find ?_) | (with_reducible refine wq_M_keep_L16 ?_ _ _ _ _) | (with_reducible refine wq_M_keep_L116 ?_ _ _ _ _) | (with_reducible refine wq_M_number ?_) | (with_reducible refine wq_M_keep_L287 ?_ _ _ _ _) | (with_reducible refine wj_vp ?_) | (with_reducible refine cj_and ?_ ?_) | (with_reducible refine wj_exn ?_) | (with_reducible refine wj_exk ?_) | (with_reducible refine wj_eq ?_) | (with_reducible refine cj_imp ?_) | (with_reducible refine cj_all ?_) | (with_reducible intro _))
theorem wq_M_infer_J167 {a : L_} {KB128 : S_ → Int32 → Prop} {KB1282 : S_ → Int32 → Prop} {KB1283 : S_ → Int32 → Prop} {KX176 : S_ → Prop} {KX1762 : S_ → Prop} {KX1763 : S_ → Prop} {r : S_} {v2 : Int32} {u0 : Int32} (hKB128 : ∀ (x0 : S_) (x1 : Int32), KB128 x0 x1 → KB1282 x0 x1 → KB1283 x0 x1) (hKX176 : ∀ (x0 : S_), KX176 x0 → KX1762 x0 → KX1763 x0) : qM_infer_J167 a KB128 KX176 r v2 u0 → wM_infer_J167 a KB1282 KX1762 r v2 u0 → wM_infer_J167 a KB1283 KX1763 r v2 u0 := by
  unfold qM_infer_J167 wM_infer_J167
  repeat' (first | (with_reducible exact hKB128 _ _) | (with_reducible exact hKX176 _) | (with_reducible refine wj_vp ?_) | (with_reducible refine cj_and ?_ ?_) | (with_reducible refine wj_exn ?_) | (with_reducible refine wj_exk ?_) | (with_reducible refine wj_eq ?_) | (with_reducible refine cj_imp ?_) | (with_reducible refine cj_all ?_) | (with_reducible intro _))
theorem wq_M_infer_J162 {a : L_} {KB128 : S_ → Int32 → Prop} {KB1282 : S_ → Int32 → Prop} {KB1283 : S_ → Int32 → Prop} {KX176 : S_ → Prop} {KX1762 : S_ → Prop} {KX1763 : S_ → Prop} {r : S_} {v2 : Int32} (hKB128 : ∀ (x0 : S_) (x1 : Int32), KB128 x0 x1 → KB1282 x0 x1 → KB1283 x0 x1) (hKX176 : ∀ (x0 : S_), KX176 x0 → KX1762 x0 → KX1763 x0) : qM_infer_J162 a KB128 KX176 r v2 → wM_infer_J162 a KB1282 KX1762 r v2 → wM_infer_J162 a KB1283 KX1763 r v2 := by
  unfold qM_infer_J162 wM_infer_J162
  repeat' (first | (with_reducible exact hKB128 _ _) | (with_reducible exact hKX176 _) | (with_reducible refine wq_M_infer_J167 ?_ ?_) | (with_reducible refine wj_vp ?_) | (with_reducible refine cj_and ?_ ?_) | (with_reducible refine wj_exn ?_) | (with_reducible refine wj_exk ?_) | (with_reducible refine wj_eq ?_) | (with_reducible refine cj_imp ?_) | (with_reducible refine cj_all ?_) | (with_reducible intro _))
theorem wq_M_infer_L128 {a : L_} {KX176 : S_ → Prop} {KX1762 : S_ → Prop} {KX1763 : S_ → Prop} (hKX176 : ∀ (x0 : S_), KX176 x0 → KX1762 x0 → KX1763 x0) : ∀ (n : Nat) (m : Nat) (w0 : S_) (w1 : Int32), qM_infer_L128 a KX176 n w0 w1 → wM_infer_L128 a KX1762 m w0 w1 → wM_infer_L128 a KX1763 m w0 w1 := by
  intro n
  induction n with
  | zero => intro m w0 w1 h; exact h.elim
  | succ n ih =>
    intro m w0 w1
    cases m with
    | zero => intro _ _; trivial
    | succ m =>
      rw [qM_infer_L128, wM_infer_L128, wM_infer_L128]
      repeat' (first | (with_reducible exact hKX176 _) | (with_reducible exact ih _ _ _) | (with_reducible refine wq_M_infer_J162 ?_ ?_) | (with_reducible refine wq_M_infer_J167 ?_ ?_) | (with_reducible refine wj_vp ?_) | (with_reducible refine cj_and ?_ ?_) | (with_reducible refine wj_exn ?_) | (with_reducible refine wj_exk ?_) | (with_reducible refine wj_eq ?_) | (with_reducible refine cj_imp ?_) | (with_reducible refine cj_all ?_) | (with_reducible intro _))
theorem wq_M_infer {a : L_} {K : Int32 → S_ → Prop} {K2 : Int32 → S_ → Prop} {K3 : Int32 → S_ → Prop} {r : S_} {p0 : Int32} (hK : ∀ (x0 : Int32) (x1 : S_), K x0 x1 → K2 x0 x1 → K3 x0 x1) : qM_infer a K r p0 → wM_infer a K2 r p0 → wM_infer a K3 r p0 := by
  unfold qM_infer wM_infer
  repeat' (first | (with_reducible exact hK _ _) | (with_reducible refine wq_M_isExpression ?_) | (with_reducible refine wq_M_spread ?_) | (with_reducible refine wq_M_typeAll ?_) | (with_reducible refine wq_M_needNoRing ?_) | (with_reducible refine wq_M_drive ?_) | (with_reducible refine wq_M_takeNeeds ?_) | (with_reducible refine wq_M_reach ?_) | (with_reducible refine wq_M_infer_L128 ?_ _ _ _ _) | (with_reducible refine wq_M_keep ?_) | (with_reducible refine wj_vp ?_) | (with_reducible refine cj_and ?_ ?_) | (with_reducible refine wj_exn ?_) | (with_reducible refine wj_exk ?_) | (with_reducible refine wj_eq ?_) | (with_reducible refine cj_imp ?_) | (with_reducible refine cj_all ?_) | (with_reducible intro _))
theorem wq_J_fill_L5 {a : L_} {m0 : Nat} {KX20 : S_ → Prop} {KX202 : S_ → Prop} {KX203 : S_ → Prop} (hKX20 : ∀ (x0 : S_), KX20 x0 → KX202 x0 → KX203 x0) : ∀ (n : Nat) (m : Nat) (w0 : S_) (w1 : Int32) (w2 : Int32) (w3 : Int32), qJ_fill_L5 a m0 KX20 n w0 w1 w2 w3 → wJ_fill_L5 a m0 KX202 m w0 w1 w2 w3 → wJ_fill_L5 a m0 KX203 m w0 w1 w2 w3 := by
  intro n
  induction n with
  | zero => intro m w0 w1 w2 w3 h; exact h.elim
  | succ n ih =>
    intro m w0 w1 w2 w3
    cases m with
    | zero => intro _ _; trivial
    | succ m =>
      rw [qJ_fill_L5, wJ_fill_L5, wJ_fill_L5]
      repeat' (first | (with_reducible exact hKX20 _) | (with_reducible exact ih _ _ _ _ _) | (with_reducible refine wj_vp ?_) | (with_reducible refine cj_and ?_ ?_) | (with_reducible refine wj_exn ?_) | (with_reducible refine wj_exk ?_) | (with_reducible refine wj_eq ?_) | (with_reducible refine cj_imp ?_) | (with_reducible refine cj_all ?_) | (with_reducible intro _))
theorem wq_J_fill {a : L_} {m0 : Nat} {K : S_ → Prop} {K2 : S_ → Prop} {K3 : S_ → Prop} {r : S_} {p1 : Int32} (hK : ∀ (x0 : S_), K x0 → K2 x0 → K3 x0) : qJ_fill a m0 K r p1 → wJ_fill a m0 K2 r p1 → wJ_fill a m0 K3 r p1 := by
  unfold qJ_fill wJ_fill
  repeat' (first | (with_reducible exact hK _) | (with_reducible refine wq_J_fill_L5 ?_ _ _ _ _ _ _) | (with_reducible refine wj_vp ?_) | (with_reducible refine cj_and ?_ ?_) | (with_reducible refine wj_exn ?_) | (with_reducible refine wj_exk ?_) | (with_reducible refine wj_eq ?_) | (with_reducible refine cj_imp ?_) | (with_reducible refine cj_all ?_) | (with_reducible intro _))
theorem wq_G_grow {K : L_ → S_ → Prop} {K2 : L_ → S_ → Prop} {K3 : L_ → S_ → Prop} {a0 : L_} {r : S_} {kc0 : Nat} {ks0 : Nat} {p0 : Int32} (hK : ∀ (x0 : L_) (x1 : S_), K x0 x1 → K2 x0 x1 → K3 x0 x1) : qG_grow K a0 r kc0 ks0 p0 → wG_grow K2 a0 r p0 → wG_grow K3 a0 r p0 := by
  unfold qG_grow wG_grow
  repeat' (first | (with_reducible exact hK _ _) | (with_reducible refine wj_vp ?_) | (with_reducible refine cj_and ?_ ?_) | (with_reducible refine wj_exk ?_) | (with_reducible refine wj_eq ?_) | (with_reducible refine cj_imp ?_) | (with_reducible refine cj_all ?_) | (with_reducible intro _))
theorem wq_G_newNode_J40 {K : Int32 → L_ → S_ → Prop} {K2 : Int32 → L_ → S_ → Prop} {K3 : Int32 → L_ → S_ → Prop} {a : L_} {r : S_} {kc : Nat} {ks : Nat} {v1 : Int32} {v2 : Int32} {v3 : Int32} (hK : ∀ (x0 : Int32) (x1 : L_) (x2 : S_), K x0 x1 x2 → K2 x0 x1 x2 → K3 x0 x1 x2) : qG_newNode_J40 K a r kc ks v1 v2 v3 → wG_newNode_J40 K2 a r v1 v2 v3 → wG_newNode_J40 K3 a r v1 v2 v3 := by
  unfold qG_newNode_J40 wG_newNode_J40
  repeat' (first | (with_reducible exact hK _ _ _) | (with_reducible refine wj_vp ?_) | (with_reducible refine cj_and ?_ ?_) | (with_reducible refine wj_exn ?_) | (with_reducible refine wj_exk ?_) | (with_reducible refine wj_eq ?_) | (with_reducible refine cj_imp ?_) | (with_reducible refine cj_all ?_) | (with_reducible intro _))
theorem wq_G_newNode {K : Int32 → L_ → S_ → Prop} {K2 : Int32 → L_ → S_ → Prop} {K3 : Int32 → L_ → S_ → Prop} {a0 : L_} {r : S_} {kc0 : Nat} {ks0 : Nat} {p0 : Int32} {p1 : Int32} {p2 : Int32} (hK : ∀ (x0 : Int32) (x1 : L_) (x2 : S_), K x0 x1 x2 → K2 x0 x1 x2 → K3 x0 x1 x2) : qG_newNode K a0 r kc0 ks0 p0 p1 p2 → wG_newNode K2 a0 r p0 p1 p2 → wG_newNode K3 a0 r p0 p1 p2 := by
  unfold qG_newNode wG_newNode
  repeat' (first | (with_reducible exact hK _ _ _) | (with_reducible refine wq_G_newNode_J40 ?_) | (with_reducible refine wq_G_grow ?_) | (with_reducible refine wj_vp ?_) | (with_reducible refine cj_and ?_ ?_) | (with_reducible refine wj_exn ?_) | (with_reducible refine wj_exk ?_) | (with_reducible refine wj_eq ?_) | (with_reducible refine cj_imp ?_) | (with_reducible refine cj_all ?_) | (with_reducible intro _))
theorem wq_G_copyOf_J92 {KB11 : L_ → S_ → Nat → Nat → Int32 → Int32 → Prop} {KB112 : L_ → S_ → Int32 → Int32 → Prop} {KB113 : L_ → S_ → Int32 → Int32 → Prop} {KX98 : L_ → S_ → Nat → Nat → Int32 → Prop} {KX982 : L_ → S_ → Int32 → Prop} {KX983 : L_ → S_ → Int32 → Prop} {a : L_} {r : S_} {kc : Nat} {ks : Nat} {v1 : Int32} {v2 : Int32} (hKB11 : ∀ (x0 : L_) (x1 : S_) (x2 : Nat) (x3 : Nat) (x4 : Int32) (x5 : Int32), KB11 x0 x1 x2 x3 x4 x5 → KB112 x0 x1 x4 x5 → KB113 x0 x1 x4 x5) (hKX98 : ∀ (x0 : L_) (x1 : S_) (x2 : Nat) (x3 : Nat) (x4 : Int32), KX98 x0 x1 x2 x3 x4 → KX982 x0 x1 x4 → KX983 x0 x1 x4) : qG_copyOf_J92 KB11 KX98 a r kc ks v1 v2 → wG_copyOf_J92 KB112 KX982 a r v1 v2 → wG_copyOf_J92 KB113 KX983 a r v1 v2 := by
  unfold qG_copyOf_J92 wG_copyOf_J92
  repeat' (first | (with_reducible exact hKB11 _ _ _ _ _ _) | (with_reducible exact hKX98 _ _ _ _ _) | (with_reducible refine wj_vp ?_) | (with_reducible refine cj_and ?_ ?_) | (with_reducible refine wj_exn ?_) | (with_reducible refine wj_exk ?_) | (with_reducible refine wj_eq ?_) | (with_reducible refine cj_imp ?_) | (with_reducible refine cj_all ?_) | (with_reducible intro _))
theorem wq_G_copyOf_L11 {KX98 : L_ → S_ → Nat → Nat → Int32 → Prop} {KX982 : L_ → S_ → Int32 → Prop} {KX983 : L_ → S_ → Int32 → Prop} (hKX98 : ∀ (x0 : L_) (x1 : S_) (x2 : Nat) (x3 : Nat) (x4 : Int32), KX98 x0 x1 x2 x3 x4 → KX982 x0 x1 x4 → KX983 x0 x1 x4) : ∀ (n : Nat) (m : Nat) (w0 : L_) (w1 : S_) (w2 : Nat) (w3 : Nat) (w4 : Int32) (w5 : Int32), qG_copyOf_L11 KX98 n w0 w1 w2 w3 w4 w5 → wG_copyOf_L11 KX982 m w0 w1 w4 w5 → wG_copyOf_L11 KX983 m w0 w1 w4 w5 := by
  intro n
  induction n with
  | zero => intro m w0 w1 w2 w3 w4 w5 h; exact h.elim
  | succ n ih =>
    intro m w0 w1 w2 w3 w4 w5
    cases m with
    | zero => intro _ _; trivial
    | succ m =>
      rw [qG_copyOf_L11, wG_copyOf_L11, wG_copyOf_L11]
      repeat' (first | (with_reducible exact hKX98 _ _ _ _ _) | (with_reducible exact ih _ _ _ _ _ _ _) | (with_reducible refine wq_G_copyOf_J92 ?_ ?_) | (with_reducible refine wq_G_valueOf ?_) | (with_reducible refine wq_G_newNode ?_) | (with_reducible refine wj_vp ?_) | (with_reducible refine cj_and ?_ ?_) | (with_reducible refine wj_exn ?_) | (with_reducible refine wj_exk ?_) | (with_reducible refine wj_eq ?_) | (with_reducible refine cj_imp ?_) | (with_reducible refine cj_all ?_) | (with_reducible intro _))
theorem wq_G_copyOf {K : Int32 → L_ → S_ → Prop} {K2 : Int32 → L_ → S_ → Prop} {K3 : Int32 → L_ → S_ → Prop} {a0 : L_} {r : S_} {kc0 : Nat} {ks0 : Nat} {p0 : Int32} (hK : ∀ (x0 : Int32) (x1 : L_) (x2 : S_), K x0 x1 x2 → K2 x0 x1 x2 → K3 x0 x1 x2) : qG_copyOf K a0 r kc0 ks0 p0 → wG_copyOf K2 a0 r p0 → wG_copyOf K3 a0 r p0 := by
  unfold qG_copyOf wG_copyOf
  repeat' (first | (with_reducible exact hK _ _ _) | (with_reducible refine wq_G_startWalk ?_) | (with_reducible refine wq_G_walk ?_) | (with_reducible refine wq_G_copyOf_L11 ?_ _ _ _ _ _ _ _ _) | (with_reducible refine wq_G_valueOf ?_) | (with_reducible refine wj_vp ?_) | (with_reducible refine cj_and ?_ ?_) | (with_reducible refine wj_exn ?_) | (with_reducible refine wj_exk ?_) | (with_reducible refine wj_eq ?_) | (with_reducible refine cj_imp ?_) | (with_reducible refine cj_all ?_) | (with_reducible intro _))
theorem wq_D_restart_J54 {K : L_ → S_ → Prop} {K2 : L_ → S_ → Prop} {K3 : L_ → S_ → Prop} {a : L_} {r : S_} {kc : Nat} {ks : Nat} {v2 : Int32} (hK : ∀ (x0 : L_) (x1 : S_), K x0 x1 → K2 x0 x1 → K3 x0 x1) : qD_restart_J54 K a r kc ks v2 → wD_restart_J54 K2 a r v2 → wD_restart_J54 K3 a r v2 := by
  unfold qD_restart_J54 wD_restart_J54
  repeat' (first | (with_reducible exact hK _ _) | (with_reducible refine wj_vp ?_) | (with_reducible refine cj_and ?_ ?_) | (with_reducible refine wj_exn ?_) | (with_reducible refine wj_exk ?_) | (with_reducible refine wj_eq ?_) | (with_reducible refine cj_imp ?_) | (with_reducible refine cj_all ?_) | (with_reducible intro _))
theorem wq_D_restart {K : L_ → S_ → Prop} {K2 : L_ → S_ → Prop} {K3 : L_ → S_ → Prop} {a0 : L_} {r : S_} {kc0 : Nat} {ks0 : Nat} {p0 : Int32} {p1 : Int32} (hK : ∀ (x0 : L_) (x1 : S_), K x0 x1 → K2 x0 x1 → K3 x0 x1) : qD_restart K a0 r kc0 ks0 p0 p1 → wD_restart K2 a0 r p0 p1 → wD_restart K3 a0 r p0 p1 := by
  unfold qD_restart wD_restart
  repeat' (first | (with_reducible exact hK _ _) | (with_reducible refine wq_D_restart_J54 ?_) | (with_reducible refine wj_vp ?_) | (with_reducible refine cj_and ?_ ?_) | (with_reducible refine wj_exk ?_) | (with_reducible refine wj_eq ?_) | (with_reducible refine cj_imp ?_) | (with_reducible refine cj_all ?_) | (with_reducible intro _))
theorem wq_Y_typeOfName_L7 {KX24 : L_ → S_ → Nat → Nat → Int32 → Prop} {KX242 : L_ → S_ → Int32 → Prop} {KX243 : L_ → S_ → Int32 → Prop} {KX76 : L_ → S_ → Nat → Nat → Prop} {KX762 : L_ → S_ → Prop} {KX763 : L_ → S_ → Prop} (hKX24 : ∀ (x0 : L_) (x1 : S_) (x2 : Nat) (x3 : Nat) (x4 : Int32), KX24 x0 x1 x2 x3 x4 → KX242 x0 x1 x4 → KX243 x0 x1 x4) (hKX76 : ∀ (x0 : L_) (x1 : S_) (x2 : Nat) (x3 : Nat), KX76 x0 x1 x2 x3 → KX762 x0 x1 → KX763 x0 x1) : ∀ (n : Nat) (m : Nat) (w0 : L_) (w1 : S_) (w2 : Nat) (w3 : Nat) (w4 : Int32) (w5 : Int32), qY_typeOfName_L7 KX24 KX76 n w0 w1 w2 w3 w4 w5 → wY_typeOfName_L7 KX242 KX762 m w0 w1 w4 w5 → wY_typeOfName_L7 KX243 KX763 m w0 w1 w4 w5 := by
  intro n
  induction n with
  | zero => intro m w0 w1 w2 w3 w4 w5 h; exact h.elim
  | succ n ih =>
    intro m w0 w1 w2 w3 w4 w5
    cases m with
    | zero => intro _ _; trivial
    | succ m =>
      rw [qY_typeOfName_L7, wY_typeOfName_L7, wY_typeOfName_L7]
      repeat' (first | (with_reducible exact hKX24 _ _ _ _ _) | (with_reducible exact hKX76 _ _ _ _) | (with_reducible exact ih _ _ _ _ _ _ _) | (with_reducible refine wj_vp ?_) | (with_reducible refine cj_and ?_ ?_) | (with_reducible refine wj_exn ?_) | (with_reducible refine wj_exk ?_) | (with_reducible refine wj_eq ?_) | (with_reducible refine cj_imp ?_) | (with_reducible refine cj_all ?_) | (with_reducible intro _))
theorem wq_Y_typeOfName {K : Int32 → L_ → S_ → Prop} {K2 : Int32 → L_ → S_ → Prop} {K3 : Int32 → L_ → S_ → Prop} {a0 : L_} {r : S_} {kc0 : Nat} {ks0 : Nat} {p0 : Int32} (hK : ∀ (x0 : Int32) (x1 : L_) (x2 : S_), K x0 x1 x2 → K2 x0 x1 x2 → K3 x0 x1 x2) : qY_typeOfName K a0 r kc0 ks0 p0 → wY_typeOfName K2 a0 r p0 → wY_typeOfName K3 a0 r p0 := by
  unfold qY_typeOfName wY_typeOfName
  repeat' (first | (with_reducible exact hK _ _ _) | (with_reducible refine wq_Y_typeOfName_L7 ?_ ?_ _ _ _ _ _ _ _ _) | (with_reducible refine wq_G_copyOf ?_) | (with_reducible refine wq_G_newNode ?_) | (with_reducible refine wj_vp ?_) | (with_reducible refine cj_and ?_ ?_) | (with_reducible refine wj_exn ?_) | (with_reducible refine wj_exk ?_) | (with_reducible refine wj_eq ?_) | (with_reducible refine cj_imp ?_) | (with_reducible refine cj_all ?_) | (with_reducible intro _))
theorem wq_Y_tell_J136 {KB35 : L_ → S_ → Nat → Nat → Int32 → Prop} {KB352 : L_ → S_ → Int32 → Prop} {KB353 : L_ → S_ → Int32 → Prop} {KX152 : L_ → S_ → Nat → Nat → Prop} {KX1522 : L_ → S_ → Prop} {KX1523 : L_ → S_ → Prop} {a : L_} {r : S_} {kc : Nat} {ks : Nat} {v2 : Int32} {v3 : Int32} (hKB35 : ∀ (x0 : L_) (x1 : S_) (x2 : Nat) (x3 : Nat) (x4 : Int32), KB35 x0 x1 x2 x3 x4 → KB352 x0 x1 x4 → KB353 x0 x1 x4) (hKX152 : ∀ (x0 : L_) (x1 : S_) (x2 : Nat) (x3 : Nat), KX152 x0 x1 x2 x3 → KX1522 x0 x1 → KX1523 x0 x1) : qY_tell_J136 KB35 KX152 a r kc ks v2 v3 → wY_tell_J136 KB352 KX1522 a r v2 v3 → wY_tell_J136 KB353 KX1523 a r v2 v3 := by
  unfold qY_tell_J136 wY_tell_J136
  repeat' (first | (with_reducible exact hKB35 _ _ _ _ _) | (with_reducible exact hKX152 _ _ _ _) | (with_reducible refine wj_vp ?_) | (with_reducible refine cj_and ?_ ?_) | (with_reducible refine wj_exn ?_) | (with_reducible refine wj_exk ?_) | (with_reducible refine wj_eq ?_) | (with_reducible refine cj_imp ?_) | (with_reducible refine cj_all ?_) | (with_reducible intro _))
theorem wq_Y_tell_L35 {KX152 : L_ → S_ → Nat → Nat → Prop} {KX1522 : L_ → S_ → Prop} {KX1523 : L_ → S_ → Prop} (hKX152 : ∀ (x0 : L_) (x1 : S_) (x2 : Nat) (x3 : Nat), KX152 x0 x1 x2 x3 → KX1522 x0 x1 → KX1523 x0 x1) : ∀ (n : Nat) (m : Nat) (w0 : L_) (w1 : S_) (w2 : Nat) (w3 : Nat) (w4 : Int32), qY_tell_L35 KX152 n w0 w1 w2 w3 w4 → wY_tell_L35 KX1522 m w0 w1 w4 → wY_tell_L35 KX1523 m w0 w1 w4 := by
  intro n
  induction n with
  | zero => intro m w0 w1 w2 w3 w4 h; exact h.elim
  | succ n ih =>
    intro m w0 w1 w2 w3 w4
    cases m with
    | zero => intro _ _; trivial
    | succ m =>
      rw [qY_tell_L35, wY_tell_L35, wY_tell_L35]
      repeat' (first | (with_reducible exact hKX152 _ _ _ _) | (with_reducible exact ih _ _ _ _ _ _) | (with_reducible refine wq_G_isVariable ?_) | (with_reducible refine wq_G_valueOf ?_) | (with_reducible refine wq_D_addBuilt ?_) | (with_reducible refine wq_Y_tell_J136 ?_ ?_) | (with_reducible refine wq_D_addVariable ?_) | (with_reducible refine wj_vp ?_) | (with_reducible refine cj_and ?_ ?_) | (with_reducible refine wj_exn ?_) | (with_reducible refine wj_exk ?_) | (with_reducible refine wj_eq ?_) | (with_reducible refine cj_imp ?_) | (with_reducible refine cj_all ?_) | (with_reducible intro _))
theorem wq_Y_tell {K : L_ → S_ → Prop} {K2 : L_ → S_ → Prop} {K3 : L_ → S_ → Prop} {a0 : L_} {r : S_} {kc0 : Nat} {ks0 : Nat} (hK : ∀ (x0 : L_) (x1 : S_), K x0 x1 → K2 x0 x1 → K3 x0 x1) : qY_tell K a0 r kc0 ks0 → wY_tell K2 a0 r → wY_tell K3 a0 r := by
  unfold qY_tell wY_tell
  repeat' (first | (with_reducible exact hK _ _) | (with_reducible refine wq_G_startWalk ?_) | (with_reducible refine wq_G_walk ?_) | (with_reducible refine wq_D_restart ?_) | (with_reducible refine wq_Y_tell_L35 ?_ _ _ _ _ _ _ _) | (with_reducible refine wj_vp ?_) | (with_reducible refine cj_and ?_ ?_) | (with_reducible refine wj_exn ?_) | (with_reducible refine wj_exk ?_) | (with_reducible refine wj_eq ?_) | (with_reducible refine cj_imp ?_) | (with_reducible refine cj_all ?_) | (with_reducible intro _))
theorem wq_Y_writeOut_B_J113 {T : (Int32 → L_ → S_ → Prop) → L_ → S_ → Nat → Nat → Int32 → Prop} {T2 : (Int32 → L_ → S_ → Prop) → L_ → S_ → Int32 → Prop} {T3 : (Int32 → L_ → S_ → Prop) → L_ → S_ → Int32 → Prop} {K : Int32 → L_ → S_ → Prop} {K2 : Int32 → L_ → S_ → Prop} {K3 : Int32 → L_ → S_ → Prop} {a : L_} {r : S_} {kc : Nat} {ks : Nat} {v2 : Int32} {v5 : Int32} {u0 : Int32} (hT : ∀ (K K2 K3 : Int32 → L_ → S_ → Prop), (∀ x y z, K x y z → K2 x y z → K3 x y z) → ∀ a r kc ks e, T K a r kc ks e → T2 K2 a r e → T3 K3 a r  e) (hK : ∀ (x0 : Int32) (x1 : L_) (x2 : S_), K x0 x1 x2 → K2 x0 x1 x2 → K3 x0 x1 x2) : qY_writeOut_B_J113 T K a r kc ks v2 v5 u0 → wY_writeOut_B_J113 T2 K2 a r v2 v5 u0 → wY_writeOut_B_J113 T3 K3 a r v2 v5 u0 := by
  unfold qY_writeOut_B_J113 wY_writeOut_B_J113
  repeat' (first | (with_reducible exact hT) | (with_reducible refine hT _ _ _ ?_ _ _ _ _ _) | (with_reducible exact hK _ _ _) | (with_reducible refine wq_G_newNode ?_) | (with_reducible refine wj_vp ?_) | (with_reducible refine cj_and ?_ ?_) | (with_reducible refine wj_exn ?_) | (with_reducible refine wj_exk ?_) | (with_reducible refine wj_eq ?_) | (with_reducible refine cj_imp ?_) | (with_reducible refine cj_all ?_) | (with_reducible intro _))
theorem wq_Y_writeOut_B_J95 {T : (Int32 → L_ → S_ → Prop) → L_ → S_ → Nat → Nat → Int32 → Prop} {T2 : (Int32 → L_ → S_ → Prop) → L_ → S_ → Int32 → Prop} {T3 : (Int32 → L_ → S_ → Prop) → L_ → S_ → Int32 → Prop} {K : Int32 → L_ → S_ → Prop} {K2 : Int32 → L_ → S_ → Prop} {K3 : Int32 → L_ → S_ → Prop} {a : L_} {r : S_} {kc : Nat} {ks : Nat} {v2 : Int32} {v4 : Int32} {u0 : Int32} (hT : ∀ (K K2 K3 : Int32 → L_ → S_ → Prop), (∀ x y z, K x y z → K2 x y z → K3 x y z) → ∀ a r kc ks e, T K a r kc ks e → T2 K2 a r e → T3 K3 a r  e) (hK : ∀ (x0 : Int32) (x1 : L_) (x2 : S_), K x0 x1 x2 → K2 x0 x1 x2 → K3 x0 x1 x2) : qY_writeOut_B_J95 T K a r kc ks v2 v4 u0 → wY_writeOut_B_J95 T2 K2 a r v2 v4 u0 → wY_writeOut_B_J95 T3 K3 a r v2 v4 u0 := by
  unfold qY_writeOut_B_J95 wY_writeOut_B_J95
  repeat' (first | (with_reducible exact hT) | (with_reducible refine hT _ _ _ ?_ _ _ _ _ _) | (with_reducible exact hK _ _ _) | (with_reducible refine wq_Y_writeOut_B_J113 ?_ ?_) | (with_reducible refine wj_vp ?_) | (with_reducible refine cj_and ?_ ?_) | (with_reducible refine wj_exn ?_) | (with_reducible refine wj_exk ?_) | (with_reducible refine wj_eq ?_) | (with_reducible refine cj_imp ?_) | (with_reducible refine cj_all ?_) | (with_reducible intro _))
theorem wq_Y_writeOut_B_J52 {T : (Int32 → L_ → S_ → Prop) → L_ → S_ → Nat → Nat → Int32 → Prop} {T2 : (Int32 → L_ → S_ → Prop) → L_ → S_ → Int32 → Prop} {T3 : (Int32 → L_ → S_ → Prop) → L_ → S_ → Int32 → Prop} {K : Int32 → L_ → S_ → Prop} {K2 : Int32 → L_ → S_ → Prop} {K3 : Int32 → L_ → S_ → Prop} {a : L_} {r : S_} {kc : Nat} {ks : Nat} {v3 : Int32} {u0 : Int32} {u1 : Int32} (hT : ∀ (K K2 K3 : Int32 → L_ → S_ → Prop), (∀ x y z, K x y z → K2 x y z → K3 x y z) → ∀ a r kc ks e, T K a r kc ks e → T2 K2 a r e → T3 K3 a r  e) (hK : ∀ (x0 : Int32) (x1 : L_) (x2 : S_), K x0 x1 x2 → K2 x0 x1 x2 → K3 x0 x1 x2) : qY_writeOut_B_J52 T K a r kc ks v3 u0 u1 → wY_writeOut_B_J52 T2 K2 a r v3 u0 u1 → wY_writeOut_B_J52 T3 K3 a r v3 u0 u1 := by
  unfold qY_writeOut_B_J52 wY_writeOut_B_J52
  repeat' (first | (with_reducible exact hT) | (with_reducible refine hT _ _ _ ?_ _ _ _ _ _) | (with_reducible exact hK _ _ _) | (with_reducible refine wj_vp ?_) | (with_reducible refine cj_and ?_ ?_) | (with_reducible refine wj_exn ?_) | (with_reducible refine wj_exk ?_) | (with_reducible refine wj_eq ?_) | (with_reducible refine cj_imp ?_) | (with_reducible refine cj_all ?_) | (with_reducible intro _))
theorem wq_Y_writeOut_B {T : (Int32 → L_ → S_ → Prop) → L_ → S_ → Nat → Nat → Int32 → Prop} {T2 : (Int32 → L_ → S_ → Prop) → L_ → S_ → Int32 → Prop} {T3 : (Int32 → L_ → S_ → Prop) → L_ → S_ → Int32 → Prop} {K : Int32 → L_ → S_ → Prop} {K2 : Int32 → L_ → S_ → Prop} {K3 : Int32 → L_ → S_ → Prop} {a0 : L_} {r : S_} {kc0 : Nat} {ks0 : Nat} {p0 : Int32} (hT : ∀ (K K2 K3 : Int32 → L_ → S_ → Prop), (∀ x y z, K x y z → K2 x y z → K3 x y z) → ∀ a r kc ks e, T K a r kc ks e → T2 K2 a r e → T3 K3 a r  e) (hK : ∀ (x0 : Int32) (x1 : L_) (x2 : S_), K x0 x1 x2 → K2 x0 x1 x2 → K3 x0 x1 x2) : qY_writeOut_B T K a0 r kc0 ks0 p0 → wY_writeOut_B T2 K2 a0 r p0 → wY_writeOut_B T3 K3 a0 r p0 := by
  unfold qY_writeOut_B wY_writeOut_B
  repeat' (first | (with_reducible exact hT) | (with_reducible refine hT _ _ _ ?_ _ _ _ _ _) | (with_reducible exact hK _ _ _) | (with_reducible refine wq_Y_writeOut_B_J95 ?_ ?_) | (with_reducible refine wq_Y_writeOut_B_J52 ?_ ?_) | (with_reducible refine wq_G_newNode ?_) | (with_reducible refine wj_vp ?_) | (with_reducible refine cj_and ?_ ?_) | (with_reducible refine wj_exn ?_) | (with_reducible refine wj_exk ?_) | (with_reducible refine wj_eq ?_) | (with_reducible refine cj_imp ?_) | (with_reducible refine cj_all ?_) | (with_reducible intro _))
theorem wq_Y_writeOut : ∀ (d : Nat) {K K2 K3 : Int32 → L_ → S_ → Prop} (hK : ∀ x y z, K x y z → K2 x y z → K3 x y z) (a : L_) (r : S_) (kc ks : Nat) (p0 : Int32), qY_writeOut d K a r kc ks p0 → wY_writeOut d K2 a r p0 → wY_writeOut d K3 a r  p0 := by
  intro d
  induction d with
  | zero => intro K K2 K3 hK a r kc ks p0 h; exact h.elim
  | succ d ih =>
    intro K K2 K3 hK a r kc ks p0
    rw [qY_writeOut, wY_writeOut, wY_writeOut]
    exact wq_Y_writeOut_B (fun _ _ _ h a r kc ks e => ih h a r kc ks e) hK
theorem wq_Y_freshCopy {K : Int32 → L_ → S_ → Prop} {K2 : Int32 → L_ → S_ → Prop} {K3 : Int32 → L_ → S_ → Prop} {a0 : L_} {r : S_} {kc0 : Nat} {ks0 : Nat} {p0 : Int32} (hK : ∀ (x0 : Int32) (x1 : L_) (x2 : S_), K x0 x1 x2 → K2 x0 x1 x2 → K3 x0 x1 x2) : qY_freshCopy K a0 r kc0 ks0 p0 → wY_freshCopy K2 a0 r p0 → wY_freshCopy K3 a0 r p0 := by
  unfold qY_freshCopy wY_freshCopy
  repeat' (first | (with_reducible exact hK _ _ _) | (with_reducible refine wq_J_fill ?_) | (with_reducible refine wq_Y_writeOut _ ?_ _ _ _ _ _) | (with_reducible refine wj_vp ?_) | (with_reducible refine cj_and ?_ ?_) | (with_reducible refine wj_exn ?_) | (with_reducible refine wj_exk ?_) | (with_reducible refine wj_eq ?_) | (with_reducible refine cj_imp ?_) | (with_reducible refine cj_all ?_) | (with_reducible intro _))
theorem wq_Y_typeOfMethod_J43 {K : Int32 → L_ → S_ → Prop} {K2 : Int32 → L_ → S_ → Prop} {K3 : Int32 → L_ → S_ → Prop} {a : L_} {r : S_} {kc : Nat} {ks : Nat} {v2 : Int32} (hK : ∀ (x0 : Int32) (x1 : L_) (x2 : S_), K x0 x1 x2 → K2 x0 x1 x2 → K3 x0 x1 x2) : qY_typeOfMethod_J43 K a r kc ks v2 → wY_typeOfMethod_J43 K2 a r v2 → wY_typeOfMethod_J43 K3 a r v2 := by
  unfold qY_typeOfMethod_J43 wY_typeOfMethod_J43
  repeat' (first | (with_reducible exact hK _ _ _) | (with_reducible refine wj_vp ?_) | (with_reducible refine cj_and ?_ ?_) | (with_reducible refine wj_exn ?_) | (with_reducible refine wj_exk ?_) | (with_reducible refine wj_eq ?_) | (with_reducible refine cj_imp ?_) | (with_reducible refine cj_all ?_) | (with_reducible intro _))
theorem wq_Y_typeOfMethod {K : Int32 → L_ → S_ → Prop} {K2 : Int32 → L_ → S_ → Prop} {K3 : Int32 → L_ → S_ → Prop} {a0 : L_} {r : S_} {kc0 : Nat} {ks0 : Nat} {p0 : Int32} (hK : ∀ (x0 : Int32) (x1 : L_) (x2 : S_), K x0 x1 x2 → K2 x0 x1 x2 → K3 x0 x1 x2) : qY_typeOfMethod K a0 r kc0 ks0 p0 → wY_typeOfMethod K2 a0 r p0 → wY_typeOfMethod K3 a0 r p0 := by
  unfold qY_typeOfMethod wY_typeOfMethod
  repeat' (first | (with_reducible exact hK _ _ _) | (with_reducible refine wq_K_methodOf ?_) | (with_reducible refine wq_Y_freshCopy ?_) | (with_reducible refine wq_Y_typeOfMethod_J43 ?_) | (with_reducible refine wj_vp ?_) | (with_reducible refine cj_and ?_ ?_) | (with_reducible refine wj_exn ?_) | (with_reducible refine wj_exk ?_) | (with_reducible refine wj_eq ?_) | (with_reducible refine cj_imp ?_) | (with_reducible refine cj_all ?_) | (with_reducible intro _))
theorem wq_Y_typeOfLambda {T : (Int32 → L_ → S_ → Prop) → L_ → S_ → Nat → Nat → Int32 → Prop} {T2 : (Int32 → L_ → S_ → Prop) → L_ → S_ → Int32 → Prop} {T3 : (Int32 → L_ → S_ → Prop) → L_ → S_ → Int32 → Prop} {K : Int32 → L_ → S_ → Prop} {K2 : Int32 → L_ → S_ → Prop} {K3 : Int32 → L_ → S_ → Prop} {a0 : L_} {r : S_} {kc0 : Nat} {ks0 : Nat} {p0 : Int32} {p1 : Int32} (hT : ∀ (K K2 K3 : Int32 → L_ → S_ → Prop), (∀ x y z, K x y z → K2 x y z → K3 x y z) → ∀ a r kc ks e, T K a r kc ks e → T2 K2 a r e → T3 K3 a r  e) (hK : ∀ (x0 : Int32) (x1 : L_) (x2 : S_), K x0 x1 x2 → K2 x0 x1 x2 → K3 x0 x1 x2) : qY_typeOfLambda T K a0 r kc0 ks0 p0 p1 → wY_typeOfLambda T2 K2 a0 r p0 p1 → wY_typeOfLambda T3 K3 a0 r p0 p1 := by
  unfold qY_typeOfLambda wY_typeOfLambda
  repeat' (first | (with_reducible exact hT) | (with_reducible refine hT _ _ _ ?_ _ _ _ _ _) | (with_reducible exact hK _ _ _) | (with_reducible refine wq_G_newNode ?_) | (with_reducible refine wq_Y_enter ?_) | (with_reducible refine wq_Y_leave ?_) | (with_reducible refine wj_vp ?_) | (with_reducible refine cj_and ?_ ?_) | (with_reducible refine wj_exn ?_) | (with_reducible refine wj_exk ?_) | (with_reducible refine wj_eq ?_) | (with_reducible refine cj_imp ?_) | (with_reducible refine cj_all ?_) | (with_reducible intro _))
theorem wq_Y_typeOfApply {T : (Int32 → L_ → S_ → Prop) → L_ → S_ → Nat → Nat → Int32 → Prop} {T2 : (Int32 → L_ → S_ → Prop) → L_ → S_ → Int32 → Prop} {T3 : (Int32 → L_ → S_ → Prop) → L_ → S_ → Int32 → Prop} {K : Int32 → L_ → S_ → Prop} {K2 : Int32 → L_ → S_ → Prop} {K3 : Int32 → L_ → S_ → Prop} {a0 : L_} {r : S_} {kc0 : Nat} {ks0 : Nat} {p0 : Int32} {p1 : Int32} (hT : ∀ (K K2 K3 : Int32 → L_ → S_ → Prop), (∀ x y z, K x y z → K2 x y z → K3 x y z) → ∀ a r kc ks e, T K a r kc ks e → T2 K2 a r e → T3 K3 a r  e) (hK : ∀ (x0 : Int32) (x1 : L_) (x2 : S_), K x0 x1 x2 → K2 x0 x1 x2 → K3 x0 x1 x2) : qY_typeOfApply T K a0 r kc0 ks0 p0 p1 → wY_typeOfApply T2 K2 a0 r p0 p1 → wY_typeOfApply T3 K3 a0 r p0 p1 := by
  unfold qY_typeOfApply wY_typeOfApply
  repeat' (first | (with_reducible exact hT) | (with_reducible refine hT _ _ _ ?_ _ _ _ _ _) | (with_reducible exact hK _ _ _) | (with_reducible refine wq_G_newNode ?_) | (with_reducible refine wq_G_unify ?_) | (with_reducible refine wj_vp ?_) | (with_reducible refine cj_and ?_ ?_) | (with_reducible refine wj_exn ?_) | (with_reducible refine wj_exk ?_) | (with_reducible refine wj_eq ?_) | (with_reducible refine cj_imp ?_) | (with_reducible refine cj_all ?_) | (with_reducible intro _))
theorem wq_Y_typeOfLet {T : (Int32 → L_ → S_ → Prop) → L_ → S_ → Nat → Nat → Int32 → Prop} {T2 : (Int32 → L_ → S_ → Prop) → L_ → S_ → Int32 → Prop} {T3 : (Int32 → L_ → S_ → Prop) → L_ → S_ → Int32 → Prop} {K : Int32 → L_ → S_ → Prop} {K2 : Int32 → L_ → S_ → Prop} {K3 : Int32 → L_ → S_ → Prop} {a0 : L_} {r : S_} {kc0 : Nat} {ks0 : Nat} {p0 : Int32} {p1 : Int32} {p2 : Int32} (hT : ∀ (K K2 K3 : Int32 → L_ → S_ → Prop), (∀ x y z, K x y z → K2 x y z → K3 x y z) → ∀ a r kc ks e, T K a r kc ks e → T2 K2 a r e → T3 K3 a r  e) (hK : ∀ (x0 : Int32) (x1 : L_) (x2 : S_), K x0 x1 x2 → K2 x0 x1 x2 → K3 x0 x1 x2) : qY_typeOfLet T K a0 r kc0 ks0 p0 p1 p2 → wY_typeOfLet T2 K2 a0 r p0 p1 p2 → wY_typeOfLet T3 K3 a0 r p0 p1 p2 := by
  unfold qY_typeOfLet wY_typeOfLet
  repeat' (first | (with_reducible exact hT) | (with_reducible refine hT _ _ _ ?_ _ _ _ _ _) | (with_reducible exact hK _ _ _) | (with_reducible refine wq_Y_settle ?_) | (with_reducible refine wq_Y_enter ?_) | (with_reducible refine wq_Y_leave ?_) | (with_reducible refine wj_vp ?_) | (with_reducible refine cj_and ?_ ?_) | (with_reducible refine wj_exn ?_) | (with_reducible refine wj_exk ?_) | (with_reducible refine wj_eq ?_) | (with_reducible refine cj_imp ?_) | (with_reducible refine cj_all ?_) | (with_reducible intro _))
theorem wq_Y_typeOf_B {T : (Int32 → L_ → S_ → Prop) → L_ → S_ → Nat → Nat → Int32 → Prop} {T2 : (Int32 → L_ → S_ → Prop) → L_ → S_ → Int32 → Prop} {T3 : (Int32 → L_ → S_ → Prop) → L_ → S_ → Int32 → Prop} {K : Int32 → L_ → S_ → Prop} {K2 : Int32 → L_ → S_ → Prop} {K3 : Int32 → L_ → S_ → Prop} {a0 : L_} {r : S_} {kc0 : Nat} {ks0 : Nat} {p0 : Int32} (hT : ∀ (K K2 K3 : Int32 → L_ → S_ → Prop), (∀ x y z, K x y z → K2 x y z → K3 x y z) → ∀ a r kc ks e, T K a r kc ks e → T2 K2 a r e → T3 K3 a r  e) (hK : ∀ (x0 : Int32) (x1 : L_) (x2 : S_), K x0 x1 x2 → K2 x0 x1 x2 → K3 x0 x1 x2) : qY_typeOf_B T K a0 r kc0 ks0 p0 → wY_typeOf_B T2 K2 a0 r p0 → wY_typeOf_B T3 K3 a0 r p0 := by
  unfold qY_typeOf_B wY_typeOf_B
  repeat' (first | (with_reducible exact hT) | (with_reducible refine hT _ _ _ ?_ _ _ _ _ _) | (with_reducible exact hK _ _ _) | (with_reducible refine wq_Y_typeOfLambda ?_ ?_) | (with_reducible refine wq_Y_typeOfApply ?_ ?_) | (with_reducible refine wq_Y_typeOfLet ?_ ?_) | (with_reducible refine wq_Y_typeOfMethod ?_) | (with_reducible refine wq_Y_freshCopy ?_) | (with_reducible refine wq_Y_typeOfName ?_) | (with_reducible refine wj_vp ?_) | (with_reducible refine cj_and ?_ ?_) | (with_reducible refine wj_exn ?_) | (with_reducible refine wj_exk ?_) | (with_reducible refine wj_eq ?_) | (with_reducible refine cj_imp ?_) | (with_reducible refine cj_all ?_) | (with_reducible intro _))
theorem wq_Y_typeOf : ∀ (d : Nat) {K K2 K3 : Int32 → L_ → S_ → Prop} (hK : ∀ x y z, K x y z → K2 x y z → K3 x y z) (a : L_) (r : S_) (kc ks : Nat) (p0 : Int32), qY_typeOf d K a r kc ks p0 → wY_typeOf d K2 a r p0 → wY_typeOf d K3 a r  p0 := by
  intro d
  induction d with
  | zero => intro K K2 K3 hK a r kc ks p0 h; exact h.elim
  | succ d ih =>
    intro K K2 K3 hK a r kc ks p0
    rw [qY_typeOf, wY_typeOf, wY_typeOf]
    exact wq_Y_typeOf_B (fun _ _ _ h a r kc ks e => ih h a r kc ks e) hK
theorem wq_Y_run {K : Int32 → L_ → S_ → Prop} {K2 : Int32 → L_ → S_ → Prop} {K3 : Int32 → L_ → S_ → Prop} {a0 : L_} {r : S_} {kc0 : Nat} {ks0 : Nat} {p0 : Int32} (hK : ∀ (x0 : Int32) (x1 : L_) (x2 : S_), K x0 x1 x2 → K2 x0 x1 x2 → K3 x0 x1 x2) : qY_run K a0 r kc0 ks0 p0 → wY_run K2 a0 r p0 → wY_run K3 a0 r p0 := by
  unfold qY_run wY_run
  repeat' (first | (with_reducible exact hK _ _ _) | (with_reducible refine wq_G_clear ?_) | (with_reducible refine wq_Y_typeOf _ ?_ _ _ _ _ _) | (with_reducible refine wq_Y_settle ?_) | (with_reducible refine wq_G_isCircular ?_) | (with_reducible refine wj_vp ?_) | (with_reducible refine cj_and ?_ ?_) | (with_reducible refine wj_exn ?_) | (with_reducible refine wj_exk ?_) | (with_reducible refine wj_eq ?_) | (with_reducible refine cj_imp ?_) | (with_reducible refine cj_all ?_) | (with_reducible intro _))
theorem wq_I_infer {K : Int32 → L_ → S_ → Prop} {K2 : Int32 → L_ → S_ → Prop} {K3 : Int32 → L_ → S_ → Prop} {a0 : L_} {r : S_} {kc0 : Nat} {ks0 : Nat} {p0 : Int32} (hK : ∀ (x0 : Int32) (x1 : L_) (x2 : S_), K x0 x1 x2 → K2 x0 x1 x2 → K3 x0 x1 x2) : qI_infer K a0 r kc0 ks0 p0 → wI_infer K2 a0 r p0 → wI_infer K3 a0 r p0 := by
  unfold qI_infer wI_infer
  repeat' (first | (with_reducible exact hK _ _ _) | (with_reducible refine wq_E_has ?_) | (with_reducible refine wq_E_nodesOf ?_) | (with_reducible refine wq_Y_run ?_) | (with_reducible refine wq_Y_tell ?_) | (with_reducible refine wq_D_nodes ?_) | (with_reducible refine wj_vp ?_) | (with_reducible refine cj_and ?_ ?_) | (with_reducible refine wj_exn ?_) | (with_reducible refine wj_exk ?_) | (with_reducible refine wj_eq ?_) | (with_reducible refine cj_imp ?_) | (with_reducible refine cj_all ?_) | (with_reducible intro _))
end WQ
