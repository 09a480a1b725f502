/-! wa -/
section WA
theorem wa_K_methodOf {a : L_} {r : S_} {K3 : Int32 → Prop} {p0 : Int32} (hK : ∀ (x0 : Int32), K3 x0) : wK_methodOf a r K3 p0 := by
  unfold wK_methodOf
  repeat' (first | (with_reducible exact hK _) | (with_reducible refine And.intro ?_ ?_) | (with_reducible intro _))
theorem wa_K_slot {a : L_} {r : S_} {K3 : Int32 → Prop} {p0 : Int32} {p1 : Int32} (hK : ∀ (x0 : Int32), K3 x0) : wK_slot a r K3 p0 p1 := by
  unfold wK_slot
  repeat' (first | (with_reducible exact hK _) | (with_reducible refine And.intro ?_ ?_) | (with_reducible intro _))
theorem wa_E_has {a : L_} {r : S_} {K3 : Int32 → Prop} {p0 : Int32} (hK : ∀ (x0 : Int32), K3 x0) : wE_has a r K3 p0 := by
  unfold wE_has
  repeat' (first | (with_reducible exact hK _) | (with_reducible refine And.intro ?_ ?_) | (with_reducible intro _))
theorem wa_D_sizeOf {a : L_} {r : S_} {K3 : Int64 → Prop} {p0 : Int32} (hK : ∀ (x0 : Int64), K3 x0) : wD_sizeOf a r K3 p0 := by
  unfold wD_sizeOf
  repeat' (first | (with_reducible exact hK _) | (with_reducible refine And.intro ?_ ?_) | (with_reducible intro _))
theorem wa_K_lowest_J35 {a : L_} {r : S_} {KB43 : Int32 → Int32 → Int32 → Prop} {KX413 : Int32 → Int32 → Prop} {v1 : Int32} {v2 : Int32} {v3 : Int32} (hKB4 : ∀ (x0 : Int32) (x1 : Int32) (x2 : Int32), KB43 x0 x1 x2) (hKX41 : ∀ (x0 : Int32) (x1 : Int32), KX413 x0 x1) : wK_lowest_J35 a r KB43 KX413 v1 v2 v3 := by
  unfold wK_lowest_J35
  repeat' (first | (with_reducible exact hKB4 _ _ _) | (with_reducible exact hKX41 _ _) | (with_reducible refine And.intro ?_ ?_) | (with_reducible intro _))
theorem wa_K_lowest_L4 {a : L_} {r : S_} {KX413 : Int32 → Int32 → Prop} (hKX41 : ∀ (x0 : Int32) (x1 : Int32), KX413 x0 x1) : ∀ (n : Nat) (w0 : Int32) (w1 : Int32) (w2 : Int32), wK_lowest_L4 a r KX413 n w0 w1 w2 := by
  intro n
  induction n with
  | zero => intro w0 w1 w2; trivial
  | succ n ih =>
    intro w0 w1 w2
    rw [wK_lowest_L4]
    repeat' (first | (with_reducible exact hKX41 _ _) | (with_reducible exact ih _ _ _) | (with_reducible refine wa_K_lowest_J35 ?_ ?_) | (with_reducible refine And.intro ?_ ?_) | (with_reducible intro _))
theorem wa_K_lowest {a : L_} {r : S_} {K3 : Int32 → Prop} {p0 : Int32} (hK : ∀ (x0 : Int32), K3 x0) : wK_lowest a r K3 p0 := by
  unfold wK_lowest
  repeat' (first | (with_reducible exact hK _) | (with_reducible refine wa_K_lowest_L4 ?_ _ _ _ _) | (with_reducible refine And.intro ?_ ?_) | (with_reducible intro _))
theorem wa_K_haveInstances_J34 {a : L_} {r : S_} {KB23 : Int32 → Int32 → Int32 → Prop} {KX323 : Prop} {KX403 : Prop} {v1 : Int32} {v2 : Int32} {v3 : Int32} (hKB2 : ∀ (x0 : Int32) (x1 : Int32) (x2 : Int32), KB23 x0 x1 x2) (hKX32 : KX323 ) (hKX40 : KX403 ) : wK_haveInstances_J34 a r KB23 KX323 KX403 v1 v2 v3 := by
  unfold wK_haveInstances_J34
  repeat' (first | (with_reducible exact hKB2 _ _ _) | (with_reducible exact hKX32) | (with_reducible exact hKX40) | (with_reducible refine And.intro ?_ ?_) | (with_reducible intro _))
theorem wa_K_haveInstances_L2 {a : L_} {r : S_} {KX323 : Prop} {KX403 : Prop} (hKX32 : KX323 ) (hKX40 : KX403 ) : ∀ (n : Nat) (w0 : Int32) (w1 : Int32) (w2 : Int32), wK_haveInstances_L2 a r KX323 KX403 n w0 w1 w2 := by
  intro n
  induction n with
  | zero => intro w0 w1 w2; trivial
  | succ n ih =>
    intro w0 w1 w2
    rw [wK_haveInstances_L2]
    repeat' (first | (with_reducible exact hKX32) | (with_reducible exact hKX40) | (with_reducible exact ih _ _ _) | (with_reducible refine wa_K_haveInstances_J34 ?_ ?_ ?_) | (with_reducible refine wa_K_slot ?_) | (with_reducible refine And.intro ?_ ?_) | (with_reducible intro _))
theorem wa_K_haveInstances {a : L_} {r : S_} {K3 : Int32 → Prop} {p0 : Int32} {p1 : Int32} (hK : ∀ (x0 : Int32), K3 x0) : wK_haveInstances a r K3 p0 p1 := by
  unfold wK_haveInstances
  repeat' (first | (with_reducible exact hK _) | (with_reducible refine wa_K_haveInstances_L2 ?_ ?_ _ _ _ _) | (with_reducible refine And.intro ?_ ?_) | (with_reducible intro _))
theorem wa_K_joined_J37 {a : L_} {r : S_} {m0 : Nat} {KB63 : Int32 → Int32 → Int32 → Int32 → Prop} {KX433 : Int32 → Prop} {v2 : Int32} {v3 : Int32} {v4 : Int32} {v5 : Int32} (hKB6 : ∀ (x0 : Int32) (x1 : Int32) (x2 : Int32) (x3 : Int32), KB63 x0 x1 x2 x3) (hKX43 : ∀ (x0 : Int32), KX433 x0) : wK_joined_J37 a r m0 KB63 KX433 v2 v3 v4 v5 := by
  unfold wK_joined_J37
  repeat' (first | (with_reducible exact hKB6 _ _ _ _) | (with_reducible exact hKX43 _) | (with_reducible refine And.intro ?_ ?_) | (with_reducible intro _))
theorem wa_K_joined_L6 {a : L_} {r : S_} {m0 : Nat} {KX433 : Int32 → Prop} (hKX43 : ∀ (x0 : Int32), KX433 x0) : ∀ (n : Nat) (w0 : Int32) (w1 : Int32) (w2 : Int32) (w3 : Int32), wK_joined_L6 a r m0 KX433 n w0 w1 w2 w3 := by
  intro n
  induction n with
  | zero => intro w0 w1 w2 w3; trivial
  | succ n ih =>
    intro w0 w1 w2 w3
    rw [wK_joined_L6]
    repeat' (first | (with_reducible exact hKX43 _) | (with_reducible exact ih _ _ _ _) | (with_reducible refine wa_K_joined_J37 ?_ ?_) | (with_reducible refine wa_K_slot ?_) | (with_reducible refine And.intro ?_ ?_) | (with_reducible intro _))
theorem wa_K_joined {a : L_} {r : S_} {m0 : Nat} {K3 : Int32 → Prop} {p1 : Int32} {p2 : Int32} (hK : ∀ (x0 : Int32), K3 x0) : wK_joined a r m0 K3 p1 p2 := by
  unfold wK_joined
  repeat' (first | (with_reducible exact hK _) | (with_reducible refine wa_K_joined_L6 ?_ _ _ _ _ _) | (with_reducible refine And.intro ?_ ?_) | (with_reducible intro _))
theorem wa_E_nodesOf {a : L_} {r : S_} {K3 : Int32 → Prop} {p0 : Int32} (hK : ∀ (x0 : Int32), K3 x0) : wE_nodesOf a r K3 p0 := by
  unfold wE_nodesOf
  repeat' (first | (with_reducible exact hK _) | (with_reducible refine And.intro ?_ ?_) | (with_reducible intro _))
theorem wa_Y_enter {a : L_} {K3 : S_ → Prop} {r : S_} {p0 : Int32} {p1 : Int32} {p2 : Int32} (hK : ∀ (x0 : S_), K3 x0) : wY_enter a K3 r p0 p1 p2 := by
  unfold wY_enter
  repeat' (first | (with_reducible exact hK _) | (with_reducible refine And.intro ?_ ?_) | (with_reducible intro _))
theorem wa_Y_leave {a : L_} {K3 : S_ → Prop} {r : S_} (hK : ∀ (x0 : S_), K3 x0) : wY_leave a K3 r := by
  unfold wY_leave
  repeat' (first | (with_reducible exact hK _) | (with_reducible refine And.intro ?_ ?_) | (with_reducible intro _))
theorem wa_G_startWalk {a : L_} {K3 : S_ → Prop} {r : S_} (hK : ∀ (x0 : S_), K3 x0) : wG_startWalk a K3 r := by
  unfold wG_startWalk
  repeat' (first | (with_reducible exact hK _) | (with_reducible refine And.intro ?_ ?_) | (with_reducible intro _))
theorem wa_G_settled_L4 {a : L_} {KX363 : S_ → Int32 → Int32 → Prop} (hKX36 : ∀ (x0 : S_) (x1 : Int32) (x2 : Int32), KX363 x0 x1 x2) : ∀ (n : Nat) (w0 : S_) (w1 : Int32) (w2 : Int32) (w3 : Int32), wG_settled_L4 a KX363 n w0 w1 w2 w3 := by
  intro n
  induction n with
  | zero => intro w0 w1 w2 w3; trivial
  | succ n ih =>
    intro w0 w1 w2 w3
    rw [wG_settled_L4]
    repeat' (first | (with_reducible exact hKX36 _ _ _) | (with_reducible exact ih _ _ _ _) | (with_reducible refine And.intro ?_ ?_) | (with_reducible intro _))
theorem wa_G_settled_J36 {a : L_} {K3 : Int32 → S_ → Prop} {r : S_} {v1 : Int32} {v2 : Int32} (hK : ∀ (x0 : Int32) (x1 : S_), K3 x0 x1) : wG_settled_J36 a K3 r v1 v2 := by
  unfold wG_settled_J36
  repeat' (first | (with_reducible exact hK _ _) | (with_reducible refine And.intro ?_ ?_) | (with_reducible intro _))
theorem wa_G_settled {a : L_} {K3 : Int32 → S_ → Prop} {r : S_} {p0 : Int32} (hK : ∀ (x0 : Int32) (x1 : S_), K3 x0 x1) : wG_settled a K3 r p0 := by
  unfold wG_settled
  repeat' (first | (with_reducible exact hK _ _) | (with_reducible refine wa_G_settled_L4 ?_ _ _ _ _ _) | (with_reducible refine wa_G_settled_J36 ?_) | (with_reducible refine And.intro ?_ ?_) | (with_reducible intro _))
theorem wa_G_push {a : L_} {K3 : S_ → Prop} {r : S_} {p0 : Int32} (hK : ∀ (x0 : S_), K3 x0) : wG_push a K3 r p0 := by
  unfold wG_push
  repeat' (first | (with_reducible exact hK _) | (with_reducible refine And.intro ?_ ?_) | (with_reducible intro _))
theorem wa_G_walk_J166 {a : L_} {KB163 : S_ → Int32 → Prop} {KX1723 : S_ → Prop} {r : S_} {v2 : Int32} (hKB16 : ∀ (x0 : S_) (x1 : Int32), KB163 x0 x1) (hKX172 : ∀ (x0 : S_), KX1723 x0) : wG_walk_J166 a KB163 KX1723 r v2 := by
  unfold wG_walk_J166
  repeat' (first | (with_reducible exact hKB16 _ _) | (with_reducible exact hKX172 _) | (with_reducible refine And.intro ?_ ?_) | (with_reducible intro _))
theorem wa_G_walk_J142 {a : L_} {KB163 : S_ → Int32 → Prop} {KX1723 : S_ → Prop} {r : S_} {v2 : Int32} {v3 : Int32} (hKB16 : ∀ (x0 : S_) (x1 : Int32), KB163 x0 x1) (hKX172 : ∀ (x0 : S_), KX1723 x0) : wG_walk_J142 a KB163 KX1723 r v2 v3 := by
  unfold wG_walk_J142
  repeat' (first | (with_reducible exact hKB16 _ _) | (with_reducible exact hKX172 _) | (with_reducible refine wa_G_walk_J166 ?_ ?_) | (with_reducible refine wa_G_settled ?_) | (with_reducible refine wa_G_push ?_) | (with_reducible refine And.intro ?_ ?_) | (with_reducible intro _))
theorem wa_G_walk_L16 {a : L_} {KX1723 : S_ → Prop} (hKX172 : ∀ (x0 : S_), KX1723 x0) : ∀ (n : Nat) (w0 : S_) (w1 : Int32), wG_walk_L16 a KX1723 n w0 w1 := by
  intro n
  induction n with
  | zero => intro w0 w1; trivial
  | succ n ih =>
    intro w0 w1
    rw [wG_walk_L16]
    repeat' (first | (with_reducible exact hKX172 _) | (with_reducible exact ih _ _) | (with_reducible refine wa_G_push ?_) | (with_reducible refine wa_G_walk_J142 ?_ ?_) | (with_reducible refine wa_G_settled ?_) | (with_reducible refine wa_G_walk_J166 ?_ ?_) | (with_reducible refine And.intro ?_ ?_) | (with_reducible intro _))
theorem wa_G_walk {a : L_} {K3 : S_ → Prop} {r : S_} {p0 : Int32} (hK : ∀ (x0 : S_), K3 x0) : wG_walk a K3 r p0 := by
  unfold wG_walk
  repeat' (first | (with_reducible exact hK _) | (with_reducible refine wa_G_settled ?_) | (with_reducible refine wa_G_push ?_) | (with_reducible refine wa_G_walk_L16 ?_ _ _ _) | (with_reducible refine And.intro ?_ ?_) | (with_reducible intro _))
theorem wa_Y_markBound_J40 {a : L_} {KB93 : S_ → Int32 → Prop} {KX463 : S_ → Prop} {r : S_} {v1 : Int32} (hKB9 : ∀ (x0 : S_) (x1 : Int32), KB93 x0 x1) (hKX46 : ∀ (x0 : S_), KX463 x0) : wY_markBound_J40 a KB93 KX463 r v1 := by
  unfold wY_markBound_J40
  repeat' (first | (with_reducible exact hKB9 _ _) | (with_reducible exact hKX46 _) | (with_reducible refine And.intro ?_ ?_) | (with_reducible intro _))
theorem wa_Y_markBound_L9 {a : L_} {KX463 : S_ → Prop} (hKX46 : ∀ (x0 : S_), KX463 x0) : ∀ (n : Nat) (w0 : S_) (w1 : Int32), wY_markBound_L9 a KX463 n w0 w1 := by
  intro n
  induction n with
  | zero => intro w0 w1; trivial
  | succ n ih =>
    intro w0 w1
    rw [wY_markBound_L9]
    repeat' (first | (with_reducible exact hKX46 _) | (with_reducible exact ih _ _) | (with_reducible refine wa_Y_markBound_J40 ?_ ?_) | (with_reducible refine wa_G_walk ?_) | (with_reducible refine And.intro ?_ ?_) | (with_reducible intro _))
theorem wa_Y_markBound_L48 {a : L_} {KX863 : S_ → Prop} (hKX86 : ∀ (x0 : S_), KX863 x0) : ∀ (n : Nat) (w0 : S_) (w1 : Int32), wY_markBound_L48 a KX863 n w0 w1 := by
  intro n
  induction n with
  | zero => intro w0 w1; trivial
  | succ n ih =>
    intro w0 w1
    rw [wY_markBound_L48]
    repeat' (first | (with_reducible exact hKX86 _) | (with_reducible exact ih _ _) | (with_reducible refine And.intro ?_ ?_) | (with_reducible intro _))
theorem wa_Y_markBound {a : L_} {K3 : S_ → Prop} {r : S_} (hK : ∀ (x0 : S_), K3 x0) : wY_markBound a K3 r := by
  unfold wY_markBound
  repeat' (first | (with_reducible exact hK _) | (with_reducible refine wa_G_startWalk ?_) | (with_reducible refine wa_Y_markBound_L9 ?_ _ _ _) | (with_reducible refine wa_Y_markBound_L48 ?_ _ _ _) | (with_reducible refine And.intro ?_ ?_) | (with_reducible intro _))
theorem wa_G_isVariable {a : L_} {r : S_} {K3 : Int32 → Prop} {p0 : Int32} (hK : ∀ (x0 : Int32), K3 x0) : wG_isVariable a r K3 p0 := by
  unfold wG_isVariable
  repeat' (first | (with_reducible exact hK _) | (with_reducible refine And.intro ?_ ?_) | (with_reducible intro _))
theorem wa_G_firstOf {a : L_} {K3 : Int32 → S_ → Prop} {r : S_} {p0 : Int32} (hK : ∀ (x0 : Int32) (x1 : S_), K3 x0 x1) : wG_firstOf a K3 r p0 := by
  unfold wG_firstOf
  repeat' (first | (with_reducible exact hK _ _) | (with_reducible refine wa_G_settled ?_) | (with_reducible refine And.intro ?_ ?_) | (with_reducible intro _))
theorem wa_Y_holdsOpen {a : L_} {r : S_} {K3 : Int32 → Prop} {p0 : Int32} (hK : ∀ (x0 : Int32), K3 x0) : wY_holdsOpen a r K3 p0 := by
  unfold wY_holdsOpen
  repeat' (first | (with_reducible exact hK _) | (with_reducible refine And.intro ?_ ?_) | (with_reducible intro _))
theorem wa_G_secondOf {a : L_} {K3 : Int32 → S_ → Prop} {r : S_} {p0 : Int32} (hK : ∀ (x0 : Int32) (x1 : S_), K3 x0 x1) : wG_secondOf a K3 r p0 := by
  unfold wG_secondOf
  repeat' (first | (with_reducible exact hK _ _) | (with_reducible refine wa_G_settled ?_) | (with_reducible refine And.intro ?_ ?_) | (with_reducible intro _))
theorem wa_Y_markOpen_J128 {a : L_} {KB173 : S_ → Int32 → Prop} {KX1353 : S_ → Prop} {r : S_} {v2 : Int32} {u0 : Int32} {u1 : Int32} (hKB17 : ∀ (x0 : S_) (x1 : Int32), KB173 x0 x1) (hKX135 : ∀ (x0 : S_), KX1353 x0) : wY_markOpen_J128 a KB173 KX1353 r v2 u0 u1 := by
  unfold wY_markOpen_J128
  repeat' (first | (with_reducible exact hKB17 _ _) | (with_reducible exact hKX135 _) | (with_reducible refine And.intro ?_ ?_) | (with_reducible intro _))
theorem wa_Y_markOpen_J108 {a : L_} {KB173 : S_ → Int32 → Prop} {KX1353 : S_ → Prop} {r : S_} {v2 : Int32} {v3 : Int32} {u0 : Int32} (hKB17 : ∀ (x0 : S_) (x1 : Int32), KB173 x0 x1) (hKX135 : ∀ (x0 : S_), KX1353 x0) : wY_markOpen_J108 a KB173 KX1353 r v2 v3 u0 := by
  unfold wY_markOpen_J108
  repeat' (first | (with_reducible exact hKB17 _ _) | (with_reducible exact hKX135 _) | (with_reducible refine wa_Y_markOpen_J128 ?_ ?_) | (with_reducible refine And.intro ?_ ?_) | (with_reducible intro _))
theorem wa_Y_markOpen_J103 {a : L_} {KB173 : S_ → Int32 → Prop} {KX1353 : S_ → Prop} {r : S_} {v2 : Int32} {v3 : Int32} (hKB17 : ∀ (x0 : S_) (x1 : Int32), KB173 x0 x1) (hKX135 : ∀ (x0 : S_), KX1353 x0) : wY_markOpen_J103 a KB173 KX1353 r v2 v3 := by
  unfold wY_markOpen_J103
  repeat' (first | (with_reducible exact hKB17 _ _) | (with_reducible exact hKX135 _) | (with_reducible refine wa_Y_markOpen_J108 ?_ ?_) | (with_reducible refine And.intro ?_ ?_) | (with_reducible intro _))
theorem wa_Y_markOpen_L17 {a : L_} {KX1353 : S_ → Prop} (hKX135 : ∀ (x0 : S_), KX1353 x0) : ∀ (n : Nat) (w0 : S_) (w1 : Int32), wY_markOpen_L17 a KX1353 n w0 w1 := by
  intro n
  induction n with
  | zero => intro w0 w1; trivial
  | succ n ih =>
    intro w0 w1
    rw [wY_markOpen_L17]
    repeat' (first | (with_reducible exact hKX135 _) | (with_reducible exact ih _ _) | (with_reducible refine wa_G_isVariable ?_) | (with_reducible refine wa_G_firstOf ?_) | (with_reducible refine wa_Y_holdsOpen ?_) | (with_reducible refine wa_Y_markOpen_J103 ?_ ?_) | (with_reducible refine wa_G_secondOf ?_) | (with_reducible refine wa_Y_markOpen_J108 ?_ ?_) | (with_reducible refine And.intro ?_ ?_) | (with_reducible intro _))
theorem wa_Y_markOpen {a : L_} {K3 : S_ → Prop} {r : S_} {p0 : Int32} (hK : ∀ (x0 : S_), K3 x0) : wY_markOpen a K3 r p0 := by
  unfold wY_markOpen
  repeat' (first | (with_reducible exact hK _) | (with_reducible refine wa_G_startWalk ?_) | (with_reducible refine wa_G_walk ?_) | (with_reducible refine wa_Y_markOpen_L17 ?_ _ _ _) | (with_reducible refine And.intro ?_ ?_) | (with_reducible intro _))
theorem wa_Y_gatherAsked_J40 {a : L_} {KB93 : S_ → Int32 → Int32 → Prop} {KX463 : S_ → Int32 → Prop} {r : S_} {v1 : Int32} {v2 : Int32} (hKB9 : ∀ (x0 : S_) (x1 : Int32) (x2 : Int32), KB93 x0 x1 x2) (hKX46 : ∀ (x0 : S_) (x1 : Int32), KX463 x0 x1) : wY_gatherAsked_J40 a KB93 KX463 r v1 v2 := by
  unfold wY_gatherAsked_J40
  repeat' (first | (with_reducible exact hKB9 _ _ _) | (with_reducible exact hKX46 _ _) | (with_reducible refine And.intro ?_ ?_) | (with_reducible intro _))
theorem wa_Y_gatherAsked_L9 {a : L_} {KX463 : S_ → Int32 → Prop} (hKX46 : ∀ (x0 : S_) (x1 : Int32), KX463 x0 x1) : ∀ (n : Nat) (w0 : S_) (w1 : Int32) (w2 : Int32), wY_gatherAsked_L9 a KX463 n w0 w1 w2 := by
  intro n
  induction n with
  | zero => intro w0 w1 w2; trivial
  | succ n ih =>
    intro w0 w1 w2
    rw [wY_gatherAsked_L9]
    repeat' (first | (with_reducible exact hKX46 _ _) | (with_reducible exact ih _ _ _) | (with_reducible refine wa_Y_gatherAsked_J40 ?_ ?_) | (with_reducible refine wa_G_walk ?_) | (with_reducible refine And.intro ?_ ?_) | (with_reducible intro _))
theorem wa_Y_gatherAsked_L48 {a : L_} {KX833 : S_ → Int32 → Prop} (hKX83 : ∀ (x0 : S_) (x1 : Int32), KX833 x0 x1) : ∀ (n : Nat) (w0 : S_) (w1 : Int32) (w2 : Int32), wY_gatherAsked_L48 a KX833 n w0 w1 w2 := by
  intro n
  induction n with
  | zero => intro w0 w1 w2; trivial
  | succ n ih =>
    intro w0 w1 w2
    rw [wY_gatherAsked_L48]
    repeat' (first | (with_reducible exact hKX83 _ _) | (with_reducible exact ih _ _ _) | (with_reducible refine And.intro ?_ ?_) | (with_reducible intro _))
theorem wa_Y_gatherAsked_J146 {a : L_} {KB853 : S_ → Int32 → Prop} {KX1523 : S_ → Prop} {r : S_} {v2 : Int32} (hKB85 : ∀ (x0 : S_) (x1 : Int32), KB853 x0 x1) (hKX152 : ∀ (x0 : S_), KX1523 x0) : wY_gatherAsked_J146 a KB853 KX1523 r v2 := by
  unfold wY_gatherAsked_J146
  repeat' (first | (with_reducible exact hKB85 _ _) | (with_reducible exact hKX152 _) | (with_reducible refine And.intro ?_ ?_) | (with_reducible intro _))
theorem wa_Y_gatherAsked_L85 {a : L_} {KX1523 : S_ → Prop} (hKX152 : ∀ (x0 : S_), KX1523 x0) : ∀ (n : Nat) (w0 : S_) (w1 : Int32), wY_gatherAsked_L85 a KX1523 n w0 w1 := by
  intro n
  induction n with
  | zero => intro w0 w1; trivial
  | succ n ih =>
    intro w0 w1
    rw [wY_gatherAsked_L85]
    repeat' (first | (with_reducible exact hKX152 _) | (with_reducible exact ih _ _) | (with_reducible refine wa_Y_gatherAsked_J146 ?_ ?_) | (with_reducible refine wa_G_settled ?_) | (with_reducible refine And.intro ?_ ?_) | (with_reducible intro _))
theorem wa_Y_gatherAsked {a : L_} {K3 : S_ → Prop} {r : S_} {p0 : Int32} (hK : ∀ (x0 : S_), K3 x0) : wY_gatherAsked a K3 r p0 := by
  unfold wY_gatherAsked
  repeat' (first | (with_reducible exact hK _) | (with_reducible refine wa_G_startWalk ?_) | (with_reducible refine wa_Y_gatherAsked_L9 ?_ _ _ _ _) | (with_reducible refine wa_Y_gatherAsked_L48 ?_ _ _ _ _) | (with_reducible refine wa_Y_gatherAsked_L85 ?_ _ _ _) | (with_reducible refine And.intro ?_ ?_) | (with_reducible intro _))
theorem wa_J_bitCount {a : L_} {r : S_} {K3 : Int32 → Prop} {p0 : Int32} (hK : ∀ (x0 : Int32), K3 x0) : wJ_bitCount a r K3 p0 := by
  unfold wJ_bitCount
  repeat' (first | (with_reducible exact hK _) | (with_reducible refine And.intro ?_ ?_) | (with_reducible intro _))
theorem wa_Y_settleVariable {a : L_} {K3 : Int32 → S_ → Prop} {r : S_} {p0 : Int32} {p1 : Int32} (hK : ∀ (x0 : Int32) (x1 : S_), K3 x0 x1) : wY_settleVariable a K3 r p0 p1 := by
  unfold wY_settleVariable
  repeat' (first | (with_reducible exact hK _ _) | (with_reducible refine wa_K_lowest ?_) | (with_reducible refine wa_J_bitCount ?_) | (with_reducible refine And.intro ?_ ?_) | (with_reducible intro _))
theorem wa_Y_handDown_J82 {a : L_} {K3 : S_ → Prop} {r : S_} {v2 : Int32} {v3 : Int32} {v5 : Int32} (hK : ∀ (x0 : S_), K3 x0) : wY_handDown_J82 a K3 r v2 v3 v5 := by
  unfold wY_handDown_J82
  repeat' (first | (with_reducible exact hK _) | (with_reducible refine wa_K_joined ?_) | (with_reducible refine And.intro ?_ ?_) | (with_reducible intro _))
theorem wa_Y_handDown_J27 {a : L_} {K3 : S_ → Prop} {r : S_} {v1 : Int32} {v2 : Int32} {v3 : Int32} (hK : ∀ (x0 : S_), K3 x0) : wY_handDown_J27 a K3 r v1 v2 v3 := by
  unfold wY_handDown_J27
  repeat' (first | (with_reducible exact hK _) | (with_reducible refine wa_G_firstOf ?_) | (with_reducible refine wa_G_secondOf ?_) | (with_reducible refine wa_Y_handDown_J82 ?_) | (with_reducible refine wa_K_joined ?_) | (with_reducible refine And.intro ?_ ?_) | (with_reducible intro _))
theorem wa_Y_handDown {a : L_} {K3 : S_ → Prop} {r : S_} {p0 : Int32} {p1 : Int32} (hK : ∀ (x0 : S_), K3 x0) : wY_handDown a K3 r p0 p1 := by
  unfold wY_handDown
  repeat' (first | (with_reducible exact hK _) | (with_reducible refine wa_K_haveInstances ?_) | (with_reducible refine wa_Y_handDown_J27 ?_) | (with_reducible refine And.intro ?_ ?_) | (with_reducible intro _))
theorem wa_Y_settle_J120 {a : L_} {KB373 : S_ → Int32 → Int32 → Prop} {KX1263 : S_ → Int32 → Prop} {r : S_} {v3 : Int32} {v4 : Int32} (hKB37 : ∀ (x0 : S_) (x1 : Int32) (x2 : Int32), KB373 x0 x1 x2) (hKX126 : ∀ (x0 : S_) (x1 : Int32), KX1263 x0 x1) : wY_settle_J120 a KB373 KX1263 r v3 v4 := by
  unfold wY_settle_J120
  repeat' (first | (with_reducible exact hKB37 _ _ _) | (with_reducible exact hKX126 _ _) | (with_reducible refine And.intro ?_ ?_) | (with_reducible intro _))
theorem wa_Y_settle_L37 {a : L_} {KX1263 : S_ → Int32 → Prop} (hKX126 : ∀ (x0 : S_) (x1 : Int32), KX1263 x0 x1) : ∀ (n : Nat) (w0 : S_) (w1 : Int32) (w2 : Int32), wY_settle_L37 a KX1263 n w0 w1 w2 := by
  intro n
  induction n with
  | zero => intro w0 w1 w2; trivial
  | succ n ih =>
    intro w0 w1 w2
    rw [wY_settle_L37]
    repeat' (first | (with_reducible exact hKX126 _ _) | (with_reducible exact ih _ _ _) | (with_reducible refine wa_G_isVariable ?_) | (with_reducible refine wa_Y_handDown ?_) | (with_reducible refine wa_Y_settle_J120 ?_ ?_) | (with_reducible refine wa_Y_settleVariable ?_) | (with_reducible refine And.intro ?_ ?_) | (with_reducible intro _))
theorem wa_Y_settle {a : L_} {K3 : Int32 → S_ → Prop} {r : S_} {p0 : Int32} {p1 : Int32} (hK : ∀ (x0 : Int32) (x1 : S_), K3 x0 x1) : wY_settle a K3 r p0 p1 := by
  unfold wY_settle
  repeat' (first | (with_reducible exact hK _ _) | (with_reducible refine wa_Y_markBound ?_) | (with_reducible refine wa_Y_markOpen ?_) | (with_reducible refine wa_Y_gatherAsked ?_) | (with_reducible refine wa_Y_settle_L37 ?_ _ _ _ _) | (with_reducible refine And.intro ?_ ?_) | (with_reducible intro _))
theorem wa_G_clear {a : L_} {K3 : S_ → Prop} {r : S_} (hK : ∀ (x0 : S_), K3 x0) : wG_clear a K3 r := by
  unfold wG_clear
  repeat' (first | (with_reducible exact hK _) | (with_reducible refine And.intro ?_ ?_) | (with_reducible intro _))
theorem wa_G_pushPair {a : L_} {K3 : S_ → Prop} {r : S_} {p0 : Int32} {p1 : Int32} (hK : ∀ (x0 : S_), K3 x0) : wG_pushPair a K3 r p0 p1 := by
  unfold wG_pushPair
  repeat' (first | (with_reducible exact hK _) | (with_reducible refine wa_G_push ?_) | (with_reducible refine And.intro ?_ ?_) | (with_reducible intro _))
theorem wa_G_move {a : L_} {K3 : S_ → Prop} {r : S_} {p0 : Int32} {p1 : Int32} (hK : ∀ (x0 : S_), K3 x0) : wG_move a K3 r p0 p1 := by
  unfold wG_move
  repeat' (first | (with_reducible exact hK _) | (with_reducible refine And.intro ?_ ?_) | (with_reducible intro _))
theorem wa_G_unifyTops {a : L_} {K3 : S_ → Prop} {r : S_} {p0 : Int32} {p1 : Int32} (hK : ∀ (x0 : S_), K3 x0) : wG_unifyTops a K3 r p0 p1 := by
  unfold wG_unifyTops
  repeat' (first | (with_reducible exact hK _) | (with_reducible refine wa_G_isVariable ?_) | (with_reducible refine wa_G_pushPair ?_) | (with_reducible refine wa_G_move ?_) | (with_reducible refine And.intro ?_ ?_) | (with_reducible intro _))
theorem wa_G_unify_L13 {a : L_} {KX753 : S_ → Prop} (hKX75 : ∀ (x0 : S_), KX753 x0) : ∀ (n : Nat) (w0 : S_) (w1 : Int32), wG_unify_L13 a KX753 n w0 w1 := by
  intro n
  induction n with
  | zero => intro w0 w1; trivial
  | succ n ih =>
    intro w0 w1
    rw [wG_unify_L13]
    repeat' (first | (with_reducible exact hKX75 _) | (with_reducible exact ih _ _) | (with_reducible refine wa_G_settled ?_) | (with_reducible refine wa_G_unifyTops ?_) | (with_reducible refine And.intro ?_ ?_) | (with_reducible intro _))
theorem wa_G_unify {a : L_} {K3 : S_ → Prop} {r : S_} {p0 : Int32} {p1 : Int32} (hK : ∀ (x0 : S_), K3 x0) : wG_unify a K3 r p0 p1 := by
  unfold wG_unify
  repeat' (first | (with_reducible exact hK _) | (with_reducible refine wa_G_pushPair ?_) | (with_reducible refine wa_G_unify_L13 ?_ _ _ _) | (with_reducible refine And.intro ?_ ?_) | (with_reducible intro _))
theorem wa_G_valueOf {a : L_} {K3 : Int32 → S_ → Prop} {r : S_} {p0 : Int32} (hK : ∀ (x0 : Int32) (x1 : S_), K3 x0 x1) : wG_valueOf a K3 r p0 := by
  unfold wG_valueOf
  repeat' (first | (with_reducible exact hK _ _) | (with_reducible refine wa_G_settled ?_) | (with_reducible refine And.intro ?_ ?_) | (with_reducible intro _))
theorem wa_G_comesLater {a : L_} {r : S_} {K3 : Int32 → Prop} {p0 : Int32} {p1 : Int32} (hK : ∀ (x0 : Int32), K3 x0) : wG_comesLater a r K3 p0 p1 := by
  unfold wG_comesLater
  repeat' (first | (with_reducible exact hK _) | (with_reducible refine And.intro ?_ ?_) | (with_reducible intro _))
theorem wa_G_isCircular_L6 {a : L_} {KX253 : S_ → Prop} (hKX25 : ∀ (x0 : S_), KX253 x0) : ∀ (n : Nat) (w0 : S_) (w1 : Int32), wG_isCircular_L6 a KX253 n w0 w1 := by
  intro n
  induction n with
  | zero => intro w0 w1; trivial
  | succ n ih =>
    intro w0 w1
    rw [wG_isCircular_L6]
    repeat' (first | (with_reducible exact hKX25 _) | (with_reducible exact ih _ _) | (with_reducible refine wa_G_walk ?_) | (with_reducible refine And.intro ?_ ?_) | (with_reducible intro _))
theorem wa_G_isCircular_L27 {a : L_} {KX533 : S_ → Prop} (hKX53 : ∀ (x0 : S_), KX533 x0) : ∀ (n : Nat) (w0 : S_) (w1 : Int32), wG_isCircular_L27 a KX533 n w0 w1 := by
  intro n
  induction n with
  | zero => intro w0 w1; trivial
  | succ n ih =>
    intro w0 w1
    rw [wG_isCircular_L27]
    repeat' (first | (with_reducible exact hKX53 _) | (with_reducible exact ih _ _) | (with_reducible refine And.intro ?_ ?_) | (with_reducible intro _))
theorem wa_G_isCircular_L55 {a : L_} {KX993 : S_ → Prop} {KX1073 : S_ → Prop} (hKX99 : ∀ (x0 : S_), KX993 x0) (hKX107 : ∀ (x0 : S_), KX1073 x0) : ∀ (n : Nat) (w0 : S_) (w1 : Int32), wG_isCircular_L55 a KX993 KX1073 n w0 w1 := by
  intro n
  induction n with
  | zero => intro w0 w1; trivial
  | succ n ih =>
    intro w0 w1
    rw [wG_isCircular_L55]
    repeat' (first | (with_reducible exact hKX99 _) | (with_reducible exact hKX107 _) | (with_reducible exact ih _ _) | (with_reducible refine wa_G_firstOf ?_) | (with_reducible refine wa_G_comesLater ?_) | (with_reducible refine wa_G_secondOf ?_) | (with_reducible refine And.intro ?_ ?_) | (with_reducible intro _))
theorem wa_G_isCircular {a : L_} {K3 : Int32 → S_ → Prop} {r : S_} (hK : ∀ (x0 : Int32) (x1 : S_), K3 x0 x1) : wG_isCircular a K3 r := by
  unfold wG_isCircular
  repeat' (first | (with_reducible exact hK _ _) | (with_reducible refine wa_G_startWalk ?_) | (with_reducible refine wa_G_isCircular_L6 ?_ _ _ _) | (with_reducible refine wa_G_isCircular_L27 ?_ _ _ _) | (with_reducible refine wa_G_isCircular_L55 ?_ ?_ _ _ _) | (with_reducible refine And.intro ?_ ?_) | (with_reducible intro _))
theorem wa_D_addBuilt {a : L_} {K3 : S_ → Prop} {r : S_} {p0 : Int32} {p1 : Int32} {p2 : Int32} (hK : ∀ (x0 : S_), K3 x0) : wD_addBuilt a K3 r p0 p1 p2 := by
  unfold wD_addBuilt
  repeat' (first | (with_reducible exact hK _) | (with_reducible refine wa_D_sizeOf ?_) | (with_reducible refine And.intro ?_ ?_) | (with_reducible intro _))
theorem wa_D_addVariable {a : L_} {K3 : S_ → Prop} {r : S_} {p0 : Int32} (hK : ∀ (x0 : S_), K3 x0) : wD_addVariable a K3 r p0 := by
  unfold wD_addVariable
  repeat' (first | (with_reducible exact hK _) | (with_reducible refine wa_J_bitCount ?_) | (with_reducible refine wa_D_addBuilt ?_) | (with_reducible refine And.intro ?_ ?_) | (with_reducible intro _))
theorem wa_D_nodes {a : L_} {r : S_} {K3 : Int32 → Prop} (hK : ∀ (x0 : Int32), K3 x0) : wD_nodes a r K3 := by
  unfold wD_nodes
  repeat' (first | (with_reducible exact hK _) | (with_reducible refine And.intro ?_ ?_) | (with_reducible intro _))
theorem wa_M_markStatic_J23 {a : L_} {KB23 : S_ → Int32 → Int32 → Prop} {KX303 : S_ → Int32 → Prop} {r : S_} {v1 : Int32} {v2 : Int32} {u0 : Int32} {u1 : Int32} (hKB2 : ∀ (x0 : S_) (x1 : Int32) (x2 : Int32), KB23 x0 x1 x2) (hKX30 : ∀ (x0 : S_) (x1 : Int32), KX303 x0 x1) : wM_markStatic_J23 a KB23 KX303 r v1 v2 u0 u1 := by
  unfold wM_markStatic_J23
  repeat' (first | (with_reducible exact hKB2 _ _ _) | (with_reducible exact hKX30 _ _) | (with_reducible refine And.intro ?_ ?_) | (with_reducible intro _))
theorem wa_M_markStatic_L2 {a : L_} {KX303 : S_ → Int32 → Prop} (hKX30 : ∀ (x0 : S_) (x1 : Int32), KX303 x0 x1) : ∀ (n : Nat) (w0 : S_) (w1 : Int32) (w2 : Int32), wM_markStatic_L2 a KX303 n w0 w1 w2 := by
  intro n
  induction n with
  | zero => intro w0 w1 w2; trivial
  | succ n ih =>
    intro w0 w1 w2
    rw [wM_markStatic_L2]
    repeat' (first | (with_reducible exact hKX30 _ _) | (with_reducible exact ih _ _ _) | (with_reducible refine wa_M_markStatic_J23 ?_ ?_) | (with_reducible refine And.intro ?_ ?_) | (with_reducible intro _))
theorem wa_M_markStatic_J96 {a : L_} {KB323 : S_ → Int32 → Prop} {KX1023 : S_ → Prop} {r : S_} {v2 : Int32} (hKB32 : ∀ (x0 : S_) (x1 : Int32), KB323 x0 x1) (hKX102 : ∀ (x0 : S_), KX1023 x0) : wM_markStatic_J96 a KB323 KX1023 r v2 := by
  unfold wM_markStatic_J96
  repeat' (first | (with_reducible exact hKB32 _ _) | (with_reducible exact hKX102 _) | (with_reducible refine And.intro ?_ ?_) | (with_reducible intro _))
theorem wa_M_markStatic_J66 {a : L_} {KB323 : S_ → Int32 → Prop} {KX1023 : S_ → Prop} {r : S_} {v2 : Int32} (hKB32 : ∀ (x0 : S_) (x1 : Int32), KB323 x0 x1) (hKX102 : ∀ (x0 : S_), KX1023 x0) : wM_markStatic_J66 a KB323 KX1023 r v2 := by
  unfold wM_markStatic_J66
  repeat' (first | (with_reducible exact hKB32 _ _) | (with_reducible exact hKX102 _) | (with_reducible refine wa_M_markStatic_J96 ?_ ?_) | (with_reducible refine And.intro ?_ ?_) | (with_reducible intro _))
theorem wa_M_markStatic_L32 {a : L_} {KX1023 : S_ → Prop} (hKX102 : ∀ (x0 : S_), KX1023 x0) : ∀ (n : Nat) (w0 : S_) (w1 : Int32), wM_markStatic_L32 a KX1023 n w0 w1 := by
  intro n
  induction n with
  | zero => intro w0 w1; trivial
  | succ n ih =>
    intro w0 w1
    rw [wM_markStatic_L32]
    repeat' (first | (with_reducible exact hKX102 _) | (with_reducible exact ih _ _) | (with_reducible refine wa_M_markStatic_J66 ?_ ?_) | (with_reducible refine And.intro ?_ ?_) | (with_reducible intro _))
theorem wa_M_markStatic {a : L_} {K3 : S_ → Prop} {r : S_} {p0 : Int32} (hK : ∀ (x0 : S_), K3 x0) : wM_markStatic a K3 r p0 := by
  unfold wM_markStatic
  repeat' (first | (with_reducible exact hK _) | (with_reducible refine wa_M_markStatic_L2 ?_ _ _ _ _) | (with_reducible refine wa_M_markStatic_L32 ?_ _ _ _) | (with_reducible refine And.intro ?_ ?_) | (with_reducible intro _))
theorem wa_M_isUnder_L2 {a : L_} {r : S_} {KX213 : Int32 → Int32 → Prop} (hKX21 : ∀ (x0 : Int32) (x1 : Int32), KX213 x0 x1) : ∀ (n : Nat) (w0 : Int32) (w1 : Int32), wM_isUnder_L2 a r KX213 n w0 w1 := by
  intro n
  induction n with
  | zero => intro w0 w1; trivial
  | succ n ih =>
    intro w0 w1
    rw [wM_isUnder_L2]
    repeat' (first | (with_reducible exact hKX21 _ _) | (with_reducible exact ih _ _) | (with_reducible refine And.intro ?_ ?_) | (with_reducible intro _))
theorem wa_M_isUnder_J21 {a : L_} {r : S_} {K3 : Int32 → Prop} {v2 : Int32} {v3 : Int32} (hK : ∀ (x0 : Int32), K3 x0) : wM_isUnder_J21 a r K3 v2 v3 := by
  unfold wM_isUnder_J21
  repeat' (first | (with_reducible exact hK _) | (with_reducible refine And.intro ?_ ?_) | (with_reducible intro _))
theorem wa_M_isUnder {a : L_} {r : S_} {K3 : Int32 → Prop} {p0 : Int32} {p1 : Int32} (hK : ∀ (x0 : Int32), K3 x0) : wM_isUnder a r K3 p0 p1 := by
  unfold wM_isUnder
  repeat' (first | (with_reducible exact hK _) | (with_reducible refine wa_M_isUnder_L2 ?_ _ _ _) | (with_reducible refine wa_M_isUnder_J21 ?_) | (with_reducible refine And.intro ?_ ?_) | (with_reducible intro _))
theorem wa_M_isExpression {a : L_} {r : S_} {K3 : Int32 → Prop} {p0 : Int32} (hK : ∀ (x0 : Int32), K3 x0) : wM_isExpression a r K3 p0 := by
  unfold wM_isExpression
  repeat' (first | (with_reducible exact hK _) | (with_reducible refine And.intro ?_ ?_) | (with_reducible intro _))
theorem wa_M_addNode {a : L_} {K3 : Int32 → S_ → Prop} {r : S_} {p0 : Int32} {p1 : Int32} {p2 : Int32} (hK : ∀ (x0 : Int32) (x1 : S_), K3 x0 x1) : wM_addNode a K3 r p0 p1 p2 := by
  unfold wM_addNode
  repeat' (first | (with_reducible exact hK _ _) | (with_reducible refine And.intro ?_ ?_) | (with_reducible intro _))
theorem wa_M_kindOf {a : L_} {r : S_} {K3 : Int32 → Prop} {p0 : Int32} (hK : ∀ (x0 : Int32), K3 x0) : wM_kindOf a r K3 p0 := by
  unfold wM_kindOf
  repeat' (first | (with_reducible exact hK _) | (with_reducible refine And.intro ?_ ?_) | (with_reducible intro _))
theorem wa_M_spread_J165 {a : L_} {KB153 : S_ → Int32 → Prop} {KX1713 : S_ → Prop} {r : S_} {v3 : Int32} (hKB15 : ∀ (x0 : S_) (x1 : Int32), KB153 x0 x1) (hKX171 : ∀ (x0 : S_), KX1713 x0) : wM_spread_J165 a KB153 KX1713 r v3 := by
  unfold wM_spread_J165
  repeat' (first | (with_reducible exact hKB15 _ _) | (with_reducible exact hKX171 _) | (with_reducible refine And.intro ?_ ?_) | (with_reducible intro _))
theorem wa_M_spread_L15 {a : L_} {KX1713 : S_ → Prop} (hKX171 : ∀ (x0 : S_), KX1713 x0) : ∀ (n : Nat) (w0 : S_) (w1 : Int32), wM_spread_L15 a KX1713 n w0 w1 := by
  intro n
  induction n with
  | zero => intro w0 w1; trivial
  | succ n ih =>
    intro w0 w1
    rw [wM_spread_L15]
    repeat' (first | (with_reducible exact hKX171 _) | (with_reducible exact ih _ _) | (with_reducible refine wa_M_spread_J165 ?_ ?_) | (with_reducible refine wa_M_addNode ?_) | (with_reducible refine And.intro ?_ ?_) | (with_reducible intro _))
theorem wa_M_spread {a : L_} {K3 : S_ → Prop} {r : S_} {p0 : Int32} (hK : ∀ (x0 : S_), K3 x0) : wM_spread a K3 r p0 := by
  unfold wM_spread
  repeat' (first | (with_reducible exact hK _) | (with_reducible refine wa_M_addNode ?_) | (with_reducible refine wa_M_spread_L15 ?_ _ _ _) | (with_reducible refine And.intro ?_ ?_) | (with_reducible intro _))
theorem wa_M_binder_J88 {a : L_} {r : S_} {KB223 : Int32 → Int32 → Int32 → Prop} {KX853 : Int32 → Prop} {KX1033 : Prop} {v2 : Int32} {v4 : Int32} (hKB22 : ∀ (x0 : Int32) (x1 : Int32) (x2 : Int32), KB223 x0 x1 x2) (hKX85 : ∀ (x0 : Int32), KX853 x0) (hKX103 : KX1033 ) : wM_binder_J88 a r KB223 KX853 KX1033 v2 v4 := by
  unfold wM_binder_J88
  repeat' (first | (with_reducible exact hKB22 _ _ _) | (with_reducible exact hKX85 _) | (with_reducible exact hKX103) | (with_reducible refine And.intro ?_ ?_) | (with_reducible intro _))
theorem wa_M_binder_J62 {a : L_} {r : S_} {KB223 : Int32 → Int32 → Int32 → Prop} {KX853 : Int32 → Prop} {KX1033 : Prop} {v2 : Int32} {v4 : Int32} {u0 : Int32} (hKB22 : ∀ (x0 : Int32) (x1 : Int32) (x2 : Int32), KB223 x0 x1 x2) (hKX85 : ∀ (x0 : Int32), KX853 x0) (hKX103 : KX1033 ) : wM_binder_J62 a r KB223 KX853 KX1033 v2 v4 u0 := by
  unfold wM_binder_J62
  repeat' (first | (with_reducible exact hKB22 _ _ _) | (with_reducible exact hKX85 _) | (with_reducible exact hKX103) | (with_reducible refine wa_M_binder_J88 ?_ ?_ ?_) | (with_reducible refine And.intro ?_ ?_) | (with_reducible intro _))
theorem wa_M_binder_J57 {a : L_} {r : S_} {KB223 : Int32 → Int32 → Int32 → Prop} {KX853 : Int32 → Prop} {KX1033 : Prop} {v2 : Int32} {v4 : Int32} (hKB22 : ∀ (x0 : Int32) (x1 : Int32) (x2 : Int32), KB223 x0 x1 x2) (hKX85 : ∀ (x0 : Int32), KX853 x0) (hKX103 : KX1033 ) : wM_binder_J57 a r KB223 KX853 KX1033 v2 v4 := by
  unfold wM_binder_J57
  repeat' (first | (with_reducible exact hKB22 _ _ _) | (with_reducible exact hKX85 _) | (with_reducible exact hKX103) | (with_reducible refine wa_M_binder_J62 ?_ ?_ ?_) | (with_reducible refine And.intro ?_ ?_) | (with_reducible intro _))
theorem wa_M_binder_J61 {a : L_} {r : S_} {KB223 : Int32 → Int32 → Int32 → Prop} {KX853 : Int32 → Prop} {KX1033 : Prop} {v2 : Int32} {v4 : Int32} (hKB22 : ∀ (x0 : Int32) (x1 : Int32) (x2 : Int32), KB223 x0 x1 x2) (hKX85 : ∀ (x0 : Int32), KX853 x0) (hKX103 : KX1033 ) : wM_binder_J61 a r KB223 KX853 KX1033 v2 v4 := by
  unfold wM_binder_J61
  repeat' (first | (with_reducible exact hKB22 _ _ _) | (with_reducible exact hKX85 _) | (with_reducible exact hKX103) | (with_reducible refine wa_M_binder_J62 ?_ ?_ ?_) | (with_reducible refine And.intro ?_ ?_) | (with_reducible intro _))
theorem wa_M_binder_L22 {a : L_} {r : S_} {KX853 : Int32 → Prop} {KX1033 : Prop} (hKX85 : ∀ (x0 : Int32), KX853 x0) (hKX103 : KX1033 ) : ∀ (n : Nat) (w0 : Int32) (w1 : Int32) (w2 : Int32), wM_binder_L22 a r KX853 KX1033 n w0 w1 w2 := by
  intro n
  induction n with
  | zero => intro w0 w1 w2; trivial
  | succ n ih =>
    intro w0 w1 w2
    rw [wM_binder_L22]
    repeat' (first | (with_reducible exact hKX85 _) | (with_reducible exact hKX103) | (with_reducible exact ih _ _ _) | (with_reducible refine wa_M_kindOf ?_) | (with_reducible refine wa_M_binder_J57 ?_ ?_ ?_) | (with_reducible refine wa_M_binder_J61 ?_ ?_ ?_) | (with_reducible refine And.intro ?_ ?_) | (with_reducible intro _))
theorem wa_M_binder {a : L_} {r : S_} {K3 : Int32 → Prop} {p0 : Int32} (hK : ∀ (x0 : Int32), K3 x0) : wM_binder a r K3 p0 := by
  unfold wM_binder
  repeat' (first | (with_reducible exact hK _) | (with_reducible refine wa_M_binder_L22 ?_ ?_ _ _ _ _) | (with_reducible refine And.intro ?_ ?_) | (with_reducible intro _))
theorem wa_M_newTerm {a : L_} {K3 : Int32 → S_ → Prop} {r : S_} {p0 : Int32} {p1 : Int32} {p2 : Int32} (hK : ∀ (x0 : Int32) (x1 : S_), K3 x0 x1) : wM_newTerm a K3 r p0 p1 p2 := by
  unfold wM_newTerm
  repeat' (first | (with_reducible exact hK _ _) | (with_reducible refine And.intro ?_ ?_) | (with_reducible intro _))
theorem wa_M_fresh {a : L_} {K3 : Int32 → S_ → Prop} {r : S_} (hK : ∀ (x0 : Int32) (x1 : S_), K3 x0 x1) : wM_fresh a K3 r := by
  unfold wM_fresh
  repeat' (first | (with_reducible exact hK _ _) | (with_reducible refine wa_M_newTerm ?_) | (with_reducible refine And.intro ?_ ?_) | (with_reducible intro _))
theorem wa_M_arrow {a : L_} {K3 : Int32 → S_ → Prop} {r : S_} {p0 : Int32} {p1 : Int32} (hK : ∀ (x0 : Int32) (x1 : S_), K3 x0 x1) : wM_arrow a K3 r p0 p1 := by
  unfold wM_arrow
  repeat' (first | (with_reducible exact hK _ _) | (with_reducible refine wa_M_newTerm ?_) | (with_reducible refine And.intro ?_ ?_) | (with_reducible intro _))
theorem wa_M_find_L2 {a : L_} {r : S_} {KX223 : Int32 → Prop} (hKX22 : ∀ (x0 : Int32), KX223 x0) : ∀ (n : Nat) (w0 : Int32), wM_find_L2 a r KX223 n w0 := by
  intro n
  induction n with
  | zero => intro w0; trivial
  | succ n ih =>
    intro w0
    rw [wM_find_L2]
    repeat' (first | (with_reducible exact hKX22 _) | (with_reducible exact ih _) | (with_reducible refine And.intro ?_ ?_) | (with_reducible intro _))
theorem wa_M_find {a : L_} {r : S_} {K3 : Int32 → Prop} {p0 : Int32} (hK : ∀ (x0 : Int32), K3 x0) : wM_find a r K3 p0 := by
  unfold wM_find
  repeat' (first | (with_reducible exact hK _) | (with_reducible refine wa_M_find_L2 ?_ _ _) | (with_reducible refine And.intro ?_ ?_) | (with_reducible intro _))
theorem wa_M_unify_J257 {a : L_} {KB163 : S_ → Int32 → Prop} {KX2603 : S_ → Prop} {r : S_} {v3 : Int32} (hKB16 : ∀ (x0 : S_) (x1 : Int32), KB163 x0 x1) (hKX260 : ∀ (x0 : S_), KX2603 x0) : wM_unify_J257 a KB163 KX2603 r v3 := by
  unfold wM_unify_J257
  repeat' (first | (with_reducible exact hKB16 _ _) | (with_reducible exact hKX260 _) | (with_reducible refine And.intro ?_ ?_) | (with_reducible intro _))
theorem wa_M_unify_J219 {a : L_} {KB163 : S_ → Int32 → Prop} {KX2603 : S_ → Prop} {r : S_} {v3 : Int32} {v4 : Int32} {v5 : Int32} {v6 : Int32} (hKB16 : ∀ (x0 : S_) (x1 : Int32), KB163 x0 x1) (hKX260 : ∀ (x0 : S_), KX2603 x0) : wM_unify_J219 a KB163 KX2603 r v3 v4 v5 v6 := by
  unfold wM_unify_J219
  repeat' (first | (with_reducible exact hKB16 _ _) | (with_reducible exact hKX260 _) | (with_reducible refine wa_M_unify_J257 ?_ ?_) | (with_reducible refine And.intro ?_ ?_) | (with_reducible intro _))
theorem wa_M_unify_J180 {a : L_} {KB163 : S_ → Int32 → Prop} {KX2603 : S_ → Prop} {r : S_} {v3 : Int32} {v4 : Int32} {v5 : Int32} {u0 : Int32} (hKB16 : ∀ (x0 : S_) (x1 : Int32), KB163 x0 x1) (hKX260 : ∀ (x0 : S_), KX2603 x0) : wM_unify_J180 a KB163 KX2603 r v3 v4 v5 u0 := by
  unfold wM_unify_J180
  repeat' (first | (with_reducible exact hKB16 _ _) | (with_reducible exact hKX260 _) | (with_reducible refine wa_M_unify_J219 ?_ ?_) | (with_reducible refine And.intro ?_ ?_) | (with_reducible intro _))
theorem wa_M_unify_J145 {a : L_} {KB163 : S_ → Int32 → Prop} {KX2603 : S_ → Prop} {r : S_} {v3 : Int32} {v4 : Int32} {v5 : Int32} {u0 : Int32} (hKB16 : ∀ (x0 : S_) (x1 : Int32), KB163 x0 x1) (hKX260 : ∀ (x0 : S_), KX2603 x0) : wM_unify_J145 a KB163 KX2603 r v3 v4 v5 u0 := by
  unfold wM_unify_J145
  repeat' (first | (with_reducible exact hKB16 _ _) | (with_reducible exact hKX260 _) | (with_reducible refine wa_M_unify_J180 ?_ ?_) | (with_reducible refine And.intro ?_ ?_) | (with_reducible intro _))
theorem wa_M_unify_J115 {a : L_} {KB163 : S_ → Int32 → Prop} {KX2603 : S_ → Prop} {r : S_} {v3 : Int32} {v4 : Int32} {v5 : Int32} (hKB16 : ∀ (x0 : S_) (x1 : Int32), KB163 x0 x1) (hKX260 : ∀ (x0 : S_), KX2603 x0) : wM_unify_J115 a KB163 KX2603 r v3 v4 v5 := by
  unfold wM_unify_J115
  repeat' (first | (with_reducible exact hKB16 _ _) | (with_reducible exact hKX260 _) | (with_reducible refine wa_M_unify_J257 ?_ ?_) | (with_reducible refine wa_M_unify_J145 ?_ ?_) | (with_reducible refine And.intro ?_ ?_) | (with_reducible intro _))
theorem wa_M_unify_J86 {a : L_} {KB163 : S_ → Int32 → Prop} {KX2603 : S_ → Prop} {r : S_} {v3 : Int32} {v4 : Int32} {v5 : Int32} (hKB16 : ∀ (x0 : S_) (x1 : Int32), KB163 x0 x1) (hKX260 : ∀ (x0 : S_), KX2603 x0) : wM_unify_J86 a KB163 KX2603 r v3 v4 v5 := by
  unfold wM_unify_J86
  repeat' (first | (with_reducible exact hKB16 _ _) | (with_reducible exact hKX260 _) | (with_reducible refine wa_M_unify_J115 ?_ ?_) | (with_reducible refine wa_M_unify_J257 ?_ ?_) | (with_reducible refine And.intro ?_ ?_) | (with_reducible intro _))
theorem wa_M_unify_L16 {a : L_} {KX2603 : S_ → Prop} (hKX260 : ∀ (x0 : S_), KX2603 x0) : ∀ (n : Nat) (w0 : S_) (w1 : Int32), wM_unify_L16 a KX2603 n w0 w1 := by
  intro n
  induction n with
  | zero => intro w0 w1; trivial
  | succ n ih =>
    intro w0 w1
    rw [wM_unify_L16]
    repeat' (first | (with_reducible exact hKX260 _) | (with_reducible exact ih _ _) | (with_reducible refine wa_M_find ?_) | (with_reducible refine wa_M_unify_J86 ?_ ?_) | (with_reducible refine wa_M_unify_J257 ?_ ?_) | (with_reducible refine And.intro ?_ ?_) | (with_reducible intro _))
theorem wa_M_unify {a : L_} {K3 : S_ → Prop} {r : S_} {p0 : Int32} {p1 : Int32} (hK : ∀ (x0 : S_), K3 x0) : wM_unify a K3 r p0 p1 := by
  unfold wM_unify
  repeat' (first | (with_reducible exact hK _) | (with_reducible refine wa_M_unify_L16 ?_ _ _ _) | (with_reducible refine And.intro ?_ ?_) | (with_reducible intro _))
theorem wa_M_isTold_J17 {a : L_} {r : S_} {K3 : Int32 → Prop} (hK : ∀ (x0 : Int32), K3 x0) : wM_isTold_J17 a r K3 := by
  unfold wM_isTold_J17
  repeat' (first | (with_reducible exact hK _) | (with_reducible refine And.intro ?_ ?_) | (with_reducible intro _))
theorem wa_M_isTold {a : L_} {r : S_} {K3 : Int32 → Prop} {p0 : Int32} (hK : ∀ (x0 : Int32), K3 x0) : wM_isTold a r K3 p0 := by
  unfold wM_isTold
  repeat' (first | (with_reducible exact hK _) | (with_reducible refine wa_M_isTold_J17 ?_) | (with_reducible refine wa_M_find ?_) | (with_reducible refine And.intro ?_ ?_) | (with_reducible intro _))
theorem wa_M_needNoRing_L2 {a : L_} {KX233 : S_ → Prop} (hKX23 : ∀ (x0 : S_), KX233 x0) : ∀ (n : Nat) (w0 : S_) (w1 : Int32), wM_needNoRing_L2 a KX233 n w0 w1 := by
  intro n
  induction n with
  | zero => intro w0 w1; trivial
  | succ n ih =>
    intro w0 w1
    rw [wM_needNoRing_L2]
    repeat' (first | (with_reducible exact hKX23 _) | (with_reducible exact ih _ _) | (with_reducible refine And.intro ?_ ?_) | (with_reducible intro _))
theorem wa_M_needNoRing_J146 {a : L_} {KB443 : S_ → Int32 → Int32 → Int32 → Prop} {KX1523 : S_ → Int32 → Int32 → Prop} {r : S_} {v1 : Int32} {v2 : Int32} {v3 : Int32} (hKB44 : ∀ (x0 : S_) (x1 : Int32) (x2 : Int32) (x3 : Int32), KB443 x0 x1 x2 x3) (hKX152 : ∀ (x0 : S_) (x1 : Int32) (x2 : Int32), KX1523 x0 x1 x2) : wM_needNoRing_J146 a KB443 KX1523 r v1 v2 v3 := by
  unfold wM_needNoRing_J146
  repeat' (first | (with_reducible exact hKB44 _ _ _ _) | (with_reducible exact hKX152 _ _ _) | (with_reducible refine And.intro ?_ ?_) | (with_reducible intro _))
theorem wa_M_needNoRing_J145 {a : L_} {KB443 : S_ → Int32 → Int32 → Int32 → Prop} {KX1523 : S_ → Int32 → Int32 → Prop} {r : S_} {v1 : Int32} {v3 : Int32} {u0 : Int32} (hKB44 : ∀ (x0 : S_) (x1 : Int32) (x2 : Int32) (x3 : Int32), KB443 x0 x1 x2 x3) (hKX152 : ∀ (x0 : S_) (x1 : Int32) (x2 : Int32), KX1523 x0 x1 x2) : wM_needNoRing_J145 a KB443 KX1523 r v1 v3 u0 := by
  unfold wM_needNoRing_J145
  repeat' (first | (with_reducible exact hKB44 _ _ _ _) | (with_reducible exact hKX152 _ _ _) | (with_reducible refine wa_M_needNoRing_J146 ?_ ?_) | (with_reducible refine And.intro ?_ ?_) | (with_reducible intro _))
theorem wa_M_needNoRing_J144 {a : L_} {KB443 : S_ → Int32 → Int32 → Int32 → Prop} {KX1523 : S_ → Int32 → Int32 → Prop} {r : S_} {v1 : Int32} {v3 : Int32} (hKB44 : ∀ (x0 : S_) (x1 : Int32) (x2 : Int32) (x3 : Int32), KB443 x0 x1 x2 x3) (hKX152 : ∀ (x0 : S_) (x1 : Int32) (x2 : Int32), KX1523 x0 x1 x2) : wM_needNoRing_J144 a KB443 KX1523 r v1 v3 := by
  unfold wM_needNoRing_J144
  repeat' (first | (with_reducible exact hKB44 _ _ _ _) | (with_reducible exact hKX152 _ _ _) | (with_reducible refine wa_M_needNoRing_J145 ?_ ?_) | (with_reducible refine And.intro ?_ ?_) | (with_reducible intro _))
theorem wa_M_needNoRing_J126 {a : L_} {KB443 : S_ → Int32 → Int32 → Int32 → Prop} {KX1523 : S_ → Int32 → Int32 → Prop} {r : S_} {v2 : Int32} {v3 : Int32} {u0 : Int32} (hKB44 : ∀ (x0 : S_) (x1 : Int32) (x2 : Int32) (x3 : Int32), KB443 x0 x1 x2 x3) (hKX152 : ∀ (x0 : S_) (x1 : Int32) (x2 : Int32), KX1523 x0 x1 x2) : wM_needNoRing_J126 a KB443 KX1523 r v2 v3 u0 := by
  unfold wM_needNoRing_J126
  repeat' (first | (with_reducible exact hKB44 _ _ _ _) | (with_reducible exact hKX152 _ _ _) | (with_reducible refine wa_M_needNoRing_J144 ?_ ?_) | (with_reducible refine wa_M_needNoRing_J145 ?_ ?_) | (with_reducible refine And.intro ?_ ?_) | (with_reducible intro _))
theorem wa_M_needNoRing_J121 {a : L_} {KB443 : S_ → Int32 → Int32 → Int32 → Prop} {KX1523 : S_ → Int32 → Int32 → Prop} {r : S_} {v2 : Int32} {v3 : Int32} (hKB44 : ∀ (x0 : S_) (x1 : Int32) (x2 : Int32) (x3 : Int32), KB443 x0 x1 x2 x3) (hKX152 : ∀ (x0 : S_) (x1 : Int32) (x2 : Int32), KX1523 x0 x1 x2) : wM_needNoRing_J121 a KB443 KX1523 r v2 v3 := by
  unfold wM_needNoRing_J121
  repeat' (first | (with_reducible exact hKB44 _ _ _ _) | (with_reducible exact hKX152 _ _ _) | (with_reducible refine wa_M_needNoRing_J126 ?_ ?_) | (with_reducible refine And.intro ?_ ?_) | (with_reducible intro _))
theorem wa_M_needNoRing_J107 {a : L_} {KB443 : S_ → Int32 → Int32 → Int32 → Prop} {KX1523 : S_ → Int32 → Int32 → Prop} {r : S_} {v1 : Int32} {v2 : Int32} {v3 : Int32} {u0 : Int32} {u1 : Int32} (hKB44 : ∀ (x0 : S_) (x1 : Int32) (x2 : Int32) (x3 : Int32), KB443 x0 x1 x2 x3) (hKX152 : ∀ (x0 : S_) (x1 : Int32) (x2 : Int32), KX1523 x0 x1 x2) : wM_needNoRing_J107 a KB443 KX1523 r v1 v2 v3 u0 u1 := by
  unfold wM_needNoRing_J107
  repeat' (first | (with_reducible exact hKB44 _ _ _ _) | (with_reducible exact hKX152 _ _ _) | (with_reducible refine wa_M_needNoRing_J121 ?_ ?_) | (with_reducible refine wa_M_needNoRing_J126 ?_ ?_) | (with_reducible refine And.intro ?_ ?_) | (with_reducible intro _))
theorem wa_M_needNoRing_J106 {a : L_} {KB443 : S_ → Int32 → Int32 → Int32 → Prop} {KX1523 : S_ → Int32 → Int32 → Prop} {r : S_} {v1 : Int32} {v2 : Int32} {v3 : Int32} {u0 : Int32} (hKB44 : ∀ (x0 : S_) (x1 : Int32) (x2 : Int32) (x3 : Int32), KB443 x0 x1 x2 x3) (hKX152 : ∀ (x0 : S_) (x1 : Int32) (x2 : Int32), KX1523 x0 x1 x2) : wM_needNoRing_J106 a KB443 KX1523 r v1 v2 v3 u0 := by
  unfold wM_needNoRing_J106
  repeat' (first | (with_reducible exact hKB44 _ _ _ _) | (with_reducible exact hKX152 _ _ _) | (with_reducible refine wa_M_needNoRing_J107 ?_ ?_) | (with_reducible refine And.intro ?_ ?_) | (with_reducible intro _))
theorem wa_M_needNoRing_L44 {a : L_} {KX1523 : S_ → Int32 → Int32 → Prop} (hKX152 : ∀ (x0 : S_) (x1 : Int32) (x2 : Int32), KX1523 x0 x1 x2) : ∀ (n : Nat) (w0 : S_) (w1 : Int32) (w2 : Int32) (w3 : Int32), wM_needNoRing_L44 a KX1523 n w0 w1 w2 w3 := by
  intro n
  induction n with
  | zero => intro w0 w1 w2 w3; trivial
  | succ n ih =>
    intro w0 w1 w2 w3
    rw [wM_needNoRing_L44]
    repeat' (first | (with_reducible exact hKX152 _ _ _) | (with_reducible exact ih _ _ _ _) | (with_reducible refine wa_M_needNoRing_J146 ?_ ?_) | (with_reducible refine wa_M_isTold ?_) | (with_reducible refine wa_M_needNoRing_J106 ?_ ?_) | (with_reducible refine wa_M_needNoRing_J107 ?_ ?_) | (with_reducible refine And.intro ?_ ?_) | (with_reducible intro _))
theorem wa_M_needNoRing_L27 {a : L_} {KX1553 : S_ → Int32 → Prop} (hKX155 : ∀ (x0 : S_) (x1 : Int32), KX1553 x0 x1) : ∀ (n : Nat) (w0 : S_) (w1 : Int32) (w2 : Int32), wM_needNoRing_L27 a KX1553 n w0 w1 w2 := by
  intro n
  induction n with
  | zero => intro w0 w1 w2; trivial
  | succ n ih =>
    intro w0 w1 w2
    rw [wM_needNoRing_L27]
    repeat' (first | (with_reducible exact hKX155 _ _) | (with_reducible exact ih _ _ _) | (with_reducible refine wa_M_needNoRing_L44 ?_ _ _ _ _ _) | (with_reducible refine And.intro ?_ ?_) | (with_reducible intro _))
theorem wa_M_needNoRing_J172 {a : L_} {K3 : S_ → Prop} {r : S_} {u0 : Int32} (hK : ∀ (x0 : S_), K3 x0) : wM_needNoRing_J172 a K3 r u0 := by
  unfold wM_needNoRing_J172
  repeat' (first | (with_reducible exact hK _) | (with_reducible refine And.intro ?_ ?_) | (with_reducible intro _))
theorem wa_M_needNoRing_J167 {a : L_} {K3 : S_ → Prop} {r : S_} (hK : ∀ (x0 : S_), K3 x0) : wM_needNoRing_J167 a K3 r := by
  unfold wM_needNoRing_J167
  repeat' (first | (with_reducible exact hK _) | (with_reducible refine wa_M_needNoRing_J172 ?_) | (with_reducible refine And.intro ?_ ?_) | (with_reducible intro _))
theorem wa_M_needNoRing_J155 {a : L_} {K3 : S_ → Prop} {r : S_} {v2 : Int32} (hK : ∀ (x0 : S_), K3 x0) : wM_needNoRing_J155 a K3 r v2 := by
  unfold wM_needNoRing_J155
  repeat' (first | (with_reducible exact hK _) | (with_reducible refine wa_M_needNoRing_J167 ?_) | (with_reducible refine wa_M_needNoRing_J172 ?_) | (with_reducible refine And.intro ?_ ?_) | (with_reducible intro _))
theorem wa_M_needNoRing {a : L_} {K3 : S_ → Prop} {r : S_} (hK : ∀ (x0 : S_), K3 x0) : wM_needNoRing a K3 r := by
  unfold wM_needNoRing
  repeat' (first | (with_reducible exact hK _) | (with_reducible refine wa_M_needNoRing_L2 ?_ _ _ _) | (with_reducible refine wa_M_needNoRing_L27 ?_ _ _ _ _) | (with_reducible refine wa_M_needNoRing_J155 ?_) | (with_reducible refine And.intro ?_ ?_) | (with_reducible intro _))
theorem wa_M_reach_J118 {a : L_} {KB93 : S_ → Int32 → Prop} {KX1213 : S_ → Prop} {r : S_} {v2 : Int32} (hKB9 : ∀ (x0 : S_) (x1 : Int32), KB93 x0 x1) (hKX121 : ∀ (x0 : S_), KX1213 x0) : wM_reach_J118 a KB93 KX1213 r v2 := by
  unfold wM_reach_J118
  repeat' (first | (with_reducible exact hKB9 _ _) | (with_reducible exact hKX121 _) | (with_reducible refine And.intro ?_ ?_) | (with_reducible intro _))
theorem wa_M_reach_J94 {a : L_} {KB93 : S_ → Int32 → Prop} {KX1213 : S_ → Prop} {r : S_} {v2 : Int32} {v3 : Int32} (hKB9 : ∀ (x0 : S_) (x1 : Int32), KB93 x0 x1) (hKX121 : ∀ (x0 : S_), KX1213 x0) : wM_reach_J94 a KB93 KX1213 r v2 v3 := by
  unfold wM_reach_J94
  repeat' (first | (with_reducible exact hKB9 _ _) | (with_reducible exact hKX121 _) | (with_reducible refine wa_M_reach_J118 ?_ ?_) | (with_reducible refine And.intro ?_ ?_) | (with_reducible intro _))
theorem wa_M_reach_L9 {a : L_} {KX1213 : S_ → Prop} (hKX121 : ∀ (x0 : S_), KX1213 x0) : ∀ (n : Nat) (w0 : S_) (w1 : Int32), wM_reach_L9 a KX1213 n w0 w1 := by
  intro n
  induction n with
  | zero => intro w0 w1; trivial
  | succ n ih =>
    intro w0 w1
    rw [wM_reach_L9]
    repeat' (first | (with_reducible exact hKX121 _) | (with_reducible exact ih _ _) | (with_reducible refine wa_M_find ?_) | (with_reducible refine wa_M_reach_J118 ?_ ?_) | (with_reducible refine wa_M_reach_J94 ?_ ?_) | (with_reducible refine And.intro ?_ ?_) | (with_reducible intro _))
theorem wa_M_reach {a : L_} {K3 : S_ → Prop} {r : S_} {p0 : Int32} (hK : ∀ (x0 : S_), K3 x0) : wM_reach a K3 r p0 := by
  unfold wM_reach
  repeat' (first | (with_reducible exact hK _) | (with_reducible refine wa_M_reach_L9 ?_ _ _ _) | (with_reducible refine And.intro ?_ ?_) | (with_reducible intro _))
theorem wa_M_copyStatic_J107 {a : L_} {KB73 : S_ → Int32 → Int32 → Prop} {KX1133 : S_ → Int32 → Prop} {r : S_} {v1 : Int32} {v2 : Int32} (hKB7 : ∀ (x0 : S_) (x1 : Int32) (x2 : Int32), KB73 x0 x1 x2) (hKX113 : ∀ (x0 : S_) (x1 : Int32), KX1133 x0 x1) : wM_copyStatic_J107 a KB73 KX1133 r v1 v2 := by
  unfold wM_copyStatic_J107
  repeat' (first | (with_reducible exact hKB7 _ _ _) | (with_reducible exact hKX113 _ _) | (with_reducible refine And.intro ?_ ?_) | (with_reducible intro _))
theorem wa_M_copyStatic_J106 {a : L_} {KB73 : S_ → Int32 → Int32 → Prop} {KX1133 : S_ → Int32 → Prop} {r : S_} {v1 : Int32} {v2 : Int32} {u0 : Int32} {u1 : Int32} (hKB7 : ∀ (x0 : S_) (x1 : Int32) (x2 : Int32), KB73 x0 x1 x2) (hKX113 : ∀ (x0 : S_) (x1 : Int32), KX1133 x0 x1) : wM_copyStatic_J106 a KB73 KX1133 r v1 v2 u0 u1 := by
  unfold wM_copyStatic_J106
  repeat' (first | (with_reducible exact hKB7 _ _ _) | (with_reducible exact hKX113 _ _) | (with_reducible refine wa_M_copyStatic_J107 ?_ ?_) | (with_reducible refine And.intro ?_ ?_) | (with_reducible intro _))
theorem wa_M_copyStatic_J70 {a : L_} {KB73 : S_ → Int32 → Int32 → Prop} {KX1133 : S_ → Int32 → Prop} {r : S_} {v1 : Int32} {v2 : Int32} {v3 : Int32} {u0 : Int32} (hKB7 : ∀ (x0 : S_) (x1 : Int32) (x2 : Int32), KB73 x0 x1 x2) (hKX113 : ∀ (x0 : S_) (x1 : Int32), KX1133 x0 x1) : wM_copyStatic_J70 a KB73 KX1133 r v1 v2 v3 u0 := by
  unfold wM_copyStatic_J70
  repeat' (first | (with_reducible exact hKB7 _ _ _) | (with_reducible exact hKX113 _ _) | (with_reducible refine wa_M_newTerm ?_) | (with_reducible refine wa_M_copyStatic_J106 ?_ ?_) | (with_reducible refine wa_M_fresh ?_) | (with_reducible refine And.intro ?_ ?_) | (with_reducible intro _))
theorem wa_M_copyStatic_J45 {a : L_} {KB73 : S_ → Int32 → Int32 → Prop} {KX1133 : S_ → Int32 → Prop} {r : S_} {v1 : Int32} {v2 : Int32} {u0 : Int32} (hKB7 : ∀ (x0 : S_) (x1 : Int32) (x2 : Int32), KB73 x0 x1 x2) (hKX113 : ∀ (x0 : S_) (x1 : Int32), KX1133 x0 x1) : wM_copyStatic_J45 a KB73 KX1133 r v1 v2 u0 := by
  unfold wM_copyStatic_J45
  repeat' (first | (with_reducible exact hKB7 _ _ _) | (with_reducible exact hKX113 _ _) | (with_reducible refine wa_M_copyStatic_J70 ?_ ?_) | (with_reducible refine And.intro ?_ ?_) | (with_reducible intro _))
theorem wa_M_copyStatic_L7 {a : L_} {KX1133 : S_ → Int32 → Prop} (hKX113 : ∀ (x0 : S_) (x1 : Int32), KX1133 x0 x1) : ∀ (n : Nat) (w0 : S_) (w1 : Int32) (w2 : Int32), wM_copyStatic_L7 a KX1133 n w0 w1 w2 := by
  intro n
  induction n with
  | zero => intro w0 w1 w2; trivial
  | succ n ih =>
    intro w0 w1 w2
    rw [wM_copyStatic_L7]
    repeat' (first | (with_reducible exact hKX113 _ _) | (with_reducible exact ih _ _ _) | (with_reducible refine wa_M_copyStatic_J107 ?_ ?_) | (with_reducible refine wa_M_copyStatic_J45 ?_ ?_) | (with_reducible refine And.intro ?_ ?_) | (with_reducible intro _))
theorem wa_M_copyStatic {a : L_} {K3 : Int32 → S_ → Prop} {r : S_} {p0 : Int32} (hK : ∀ (x0 : Int32) (x1 : S_), K3 x0 x1) : wM_copyStatic a K3 r p0 := by
  unfold wM_copyStatic
  repeat' (first | (with_reducible exact hK _ _) | (with_reducible refine wa_M_markStatic ?_) | (with_reducible refine wa_M_copyStatic_L7 ?_ _ _ _ _) | (with_reducible refine And.intro ?_ ?_) | (with_reducible intro _))
theorem wa_M_addWant {a : L_} {K3 : S_ → Prop} {r : S_} {p0 : Int32} {p1 : Int32} (hK : ∀ (x0 : S_), K3 x0) : wM_addWant a K3 r p0 p1 := by
  unfold wM_addWant
  repeat' (first | (with_reducible exact hK _) | (with_reducible refine And.intro ?_ ?_) | (with_reducible intro _))
theorem wa_M_drive_L19 {a : L_} {KX773 : S_ → Int32 → Prop} (hKX77 : ∀ (x0 : S_) (x1 : Int32), KX773 x0 x1) : ∀ (n : Nat) (w0 : S_) (w1 : Int32) (w2 : Int32), wM_drive_L19 a KX773 n w0 w1 w2 := by
  intro n
  induction n with
  | zero => intro w0 w1 w2; trivial
  | succ n ih =>
    intro w0 w1 w2
    rw [wM_drive_L19]
    repeat' (first | (with_reducible exact hKX77 _ _) | (with_reducible exact ih _ _ _) | (with_reducible refine wa_M_find ?_) | (with_reducible refine And.intro ?_ ?_) | (with_reducible intro _))
theorem wa_M_drive_J295 {a : L_} {KB1723 : S_ → Int32 → Int32 → Int32 → Int32 → Int32 → Int32 → Prop} {KX3013 : S_ → Int32 → Int32 → Int32 → Int32 → Prop} {r : S_} {v2 : Int32} {v3 : Int32} {v4 : Int32} {v5 : Int32} {v6 : Int32} {v7 : Int32} (hKB172 : ∀ (x0 : S_) (x1 : Int32) (x2 : Int32) (x3 : Int32) (x4 : Int32) (x5 : Int32) (x6 : Int32), KB1723 x0 x1 x2 x3 x4 x5 x6) (hKX301 : ∀ (x0 : S_) (x1 : Int32) (x2 : Int32) (x3 : Int32) (x4 : Int32), KX3013 x0 x1 x2 x3 x4) : wM_drive_J295 a KB1723 KX3013 r v2 v3 v4 v5 v6 v7 := by
  unfold wM_drive_J295
  repeat' (first | (with_reducible exact hKB172 _ _ _ _ _ _ _) | (with_reducible exact hKX301 _ _ _ _ _) | (with_reducible refine And.intro ?_ ?_) | (with_reducible intro _))
theorem wa_M_drive_J293 {a : L_} {KB1723 : S_ → Int32 → Int32 → Int32 → Int32 → Int32 → Int32 → Prop} {KX3013 : S_ → Int32 → Int32 → Int32 → Int32 → Prop} {r : S_} {v2 : Int32} {v3 : Int32} {v4 : Int32} {v5 : Int32} {v7 : Int32} {u0 : Int32} (hKB172 : ∀ (x0 : S_) (x1 : Int32) (x2 : Int32) (x3 : Int32) (x4 : Int32) (x5 : Int32) (x6 : Int32), KB1723 x0 x1 x2 x3 x4 x5 x6) (hKX301 : ∀ (x0 : S_) (x1 : Int32) (x2 : Int32) (x3 : Int32) (x4 : Int32), KX3013 x0 x1 x2 x3 x4) : wM_drive_J293 a KB1723 KX3013 r v2 v3 v4 v5 v7 u0 := by
  unfold wM_drive_J293
  repeat' (first | (with_reducible exact hKB172 _ _ _ _ _ _ _) | (with_reducible exact hKX301 _ _ _ _ _) | (with_reducible refine wa_M_drive_J295 ?_ ?_) | (with_reducible refine And.intro ?_ ?_) | (with_reducible intro _))
theorem wa_M_drive_J266 {a : L_} {KB1723 : S_ → Int32 → Int32 → Int32 → Int32 → Int32 → Int32 → Prop} {KX3013 : S_ → Int32 → Int32 → Int32 → Int32 → Prop} {r : S_} {v2 : Int32} {v3 : Int32} {v4 : Int32} {v6 : Int32} {v7 : Int32} {v8 : Int32} {u0 : Int32} (hKB172 : ∀ (x0 : S_) (x1 : Int32) (x2 : Int32) (x3 : Int32) (x4 : Int32) (x5 : Int32) (x6 : Int32), KB1723 x0 x1 x2 x3 x4 x5 x6) (hKX301 : ∀ (x0 : S_) (x1 : Int32) (x2 : Int32) (x3 : Int32) (x4 : Int32), KX3013 x0 x1 x2 x3 x4) : wM_drive_J266 a KB1723 KX3013 r v2 v3 v4 v6 v7 v8 u0 := by
  unfold wM_drive_J266
  repeat' (first | (with_reducible exact hKB172 _ _ _ _ _ _ _) | (with_reducible exact hKX301 _ _ _ _ _) | (with_reducible refine wa_M_drive_J293 ?_ ?_) | (with_reducible refine And.intro ?_ ?_) | (with_reducible intro _))
theorem wa_M_drive_J238 {a : L_} {KB1723 : S_ → Int32 → Int32 → Int32 → Int32 → Int32 → Int32 → Prop} {KX3013 : S_ → Int32 → Int32 → Int32 → Int32 → Prop} {r : S_} {v2 : Int32} {v3 : Int32} {v4 : Int32} {v5 : Int32} {v6 : Int32} {v7 : Int32} {v8 : Int32} {u0 : Int32} (hKB172 : ∀ (x0 : S_) (x1 : Int32) (x2 : Int32) (x3 : Int32) (x4 : Int32) (x5 : Int32) (x6 : Int32), KB1723 x0 x1 x2 x3 x4 x5 x6) (hKX301 : ∀ (x0 : S_) (x1 : Int32) (x2 : Int32) (x3 : Int32) (x4 : Int32), KX3013 x0 x1 x2 x3 x4) : wM_drive_J238 a KB1723 KX3013 r v2 v3 v4 v5 v6 v7 v8 u0 := by
  unfold wM_drive_J238
  repeat' (first | (with_reducible exact hKB172 _ _ _ _ _ _ _) | (with_reducible exact hKX301 _ _ _ _ _) | (with_reducible refine wa_M_drive_J266 ?_ ?_) | (with_reducible refine And.intro ?_ ?_) | (with_reducible intro _))
theorem wa_M_drive_J233 {a : L_} {KB1723 : S_ → Int32 → Int32 → Int32 → Int32 → Int32 → Int32 → Prop} {KX3013 : S_ → Int32 → Int32 → Int32 → Int32 → Prop} {r : S_} {v2 : Int32} {v3 : Int32} {v4 : Int32} {v5 : Int32} {v6 : Int32} {v7 : Int32} {v8 : Int32} (hKB172 : ∀ (x0 : S_) (x1 : Int32) (x2 : Int32) (x3 : Int32) (x4 : Int32) (x5 : Int32) (x6 : Int32), KB1723 x0 x1 x2 x3 x4 x5 x6) (hKX301 : ∀ (x0 : S_) (x1 : Int32) (x2 : Int32) (x3 : Int32) (x4 : Int32), KX3013 x0 x1 x2 x3 x4) : wM_drive_J233 a KB1723 KX3013 r v2 v3 v4 v5 v6 v7 v8 := by
  unfold wM_drive_J233
  repeat' (first | (with_reducible exact hKB172 _ _ _ _ _ _ _) | (with_reducible exact hKX301 _ _ _ _ _) | (with_reducible refine wa_M_drive_J238 ?_ ?_) | (with_reducible refine And.intro ?_ ?_) | (with_reducible intro _))
theorem wa_M_drive_L172 {a : L_} {KX3013 : S_ → Int32 → Int32 → Int32 → Int32 → Prop} (hKX301 : ∀ (x0 : S_) (x1 : Int32) (x2 : Int32) (x3 : Int32) (x4 : Int32), KX3013 x0 x1 x2 x3 x4) : ∀ (n : Nat) (w0 : S_) (w1 : Int32) (w2 : Int32) (w3 : Int32) (w4 : Int32) (w5 : Int32) (w6 : Int32), wM_drive_L172 a KX3013 n w0 w1 w2 w3 w4 w5 w6 := by
  intro n
  induction n with
  | zero => intro w0 w1 w2 w3 w4 w5 w6; trivial
  | succ n ih =>
    intro w0 w1 w2 w3 w4 w5 w6
    rw [wM_drive_L172]
    repeat' (first | (with_reducible exact hKX301 _ _ _ _ _) | (with_reducible exact ih _ _ _ _ _ _ _) | (with_reducible refine wa_M_drive_J295 ?_ ?_) | (with_reducible refine wa_M_drive_J233 ?_ ?_) | (with_reducible refine wa_M_drive_J238 ?_ ?_) | (with_reducible refine And.intro ?_ ?_) | (with_reducible intro _))
theorem wa_M_drive_J391 {a : L_} {KB773 : S_ → Int32 → Prop} {KX3943 : S_ → Prop} {r : S_} {v2 : Int32} (hKB77 : ∀ (x0 : S_) (x1 : Int32), KB773 x0 x1) (hKX394 : ∀ (x0 : S_), KX3943 x0) : wM_drive_J391 a KB773 KX3943 r v2 := by
  unfold wM_drive_J391
  repeat' (first | (with_reducible exact hKB77 _ _) | (with_reducible exact hKX394 _) | (with_reducible refine And.intro ?_ ?_) | (with_reducible intro _))
theorem wa_M_drive_J346 {a : L_} {KB773 : S_ → Int32 → Prop} {KX3943 : S_ → Prop} {r : S_} {v2 : Int32} {v3 : Int32} {v6 : Int32} (hKB77 : ∀ (x0 : S_) (x1 : Int32), KB773 x0 x1) (hKX394 : ∀ (x0 : S_), KX3943 x0) : wM_drive_J346 a KB773 KX3943 r v2 v3 v6 := by
  unfold wM_drive_J346
  repeat' (first | (with_reducible exact hKB77 _ _) | (with_reducible exact hKX394 _) | (with_reducible refine wa_M_drive_J391 ?_ ?_) | (with_reducible refine wa_M_find ?_) | (with_reducible refine And.intro ?_ ?_) | (with_reducible intro _))
theorem wa_M_drive_J301 {a : L_} {KB773 : S_ → Int32 → Prop} {KX3943 : S_ → Prop} {r : S_} {v2 : Int32} {v3 : Int32} {v5 : Int32} {v6 : Int32} (hKB77 : ∀ (x0 : S_) (x1 : Int32), KB773 x0 x1) (hKX394 : ∀ (x0 : S_), KX3943 x0) : wM_drive_J301 a KB773 KX3943 r v2 v3 v5 v6 := by
  unfold wM_drive_J301
  repeat' (first | (with_reducible exact hKB77 _ _) | (with_reducible exact hKX394 _) | (with_reducible refine wa_M_drive_J346 ?_ ?_) | (with_reducible refine wa_M_find ?_) | (with_reducible refine And.intro ?_ ?_) | (with_reducible intro _))
theorem wa_M_drive_J134 {a : L_} {KB773 : S_ → Int32 → Prop} {KX3943 : S_ → Prop} {r : S_} {v2 : Int32} {v3 : Int32} (hKB77 : ∀ (x0 : S_) (x1 : Int32), KB773 x0 x1) (hKX394 : ∀ (x0 : S_), KX3943 x0) : wM_drive_J134 a KB773 KX3943 r v2 v3 := by
  unfold wM_drive_J134
  repeat' (first | (with_reducible exact hKB77 _ _) | (with_reducible exact hKX394 _) | (with_reducible refine wa_M_drive_L172 ?_ _ _ _ _ _ _ _ _) | (with_reducible refine wa_M_drive_J301 ?_ ?_) | (with_reducible refine And.intro ?_ ?_) | (with_reducible intro _))
theorem wa_M_drive_L77 {a : L_} {KX3943 : S_ → Prop} (hKX394 : ∀ (x0 : S_), KX3943 x0) : ∀ (n : Nat) (w0 : S_) (w1 : Int32), wM_drive_L77 a KX3943 n w0 w1 := by
  intro n
  induction n with
  | zero => intro w0 w1; trivial
  | succ n ih =>
    intro w0 w1
    rw [wM_drive_L77]
    repeat' (first | (with_reducible exact hKX394 _) | (with_reducible exact ih _ _) | (with_reducible refine wa_M_drive_J134 ?_ ?_) | (with_reducible refine And.intro ?_ ?_) | (with_reducible intro _))
theorem wa_M_drive {a : L_} {K3 : S_ → Prop} {r : S_} {p0 : Int32} (hK : ∀ (x0 : S_), K3 x0) : wM_drive a K3 r p0 := by
  unfold wM_drive
  repeat' (first | (with_reducible exact hK _) | (with_reducible refine wa_M_drive_L19 ?_ _ _ _ _) | (with_reducible refine wa_M_drive_L77 ?_ _ _ _) | (with_reducible refine And.intro ?_ ?_) | (with_reducible intro _))
theorem wa_M_least_J75 {a : L_} {r : S_} {KB313 : Int32 → Int32 → Int32 → Int32 → Int32 → Prop} {KX833 : Int32 → Int32 → Int32 → Int32 → Prop} {v1 : Int32} {v2 : Int32} {v3 : Int32} {v5 : Int32} {u0 : Int32} (hKB31 : ∀ (x0 : Int32) (x1 : Int32) (x2 : Int32) (x3 : Int32) (x4 : Int32), KB313 x0 x1 x2 x3 x4) (hKX83 : ∀ (x0 : Int32) (x1 : Int32) (x2 : Int32) (x3 : Int32), KX833 x0 x1 x2 x3) : wM_least_J75 a r KB313 KX833 v1 v2 v3 v5 u0 := by
  unfold wM_least_J75
  repeat' (first | (with_reducible exact hKB31 _ _ _ _ _) | (with_reducible exact hKX83 _ _ _ _) | (with_reducible refine And.intro ?_ ?_) | (with_reducible intro _))
theorem wa_M_least_J74 {a : L_} {r : S_} {KB313 : Int32 → Int32 → Int32 → Int32 → Int32 → Prop} {KX833 : Int32 → Int32 → Int32 → Int32 → Prop} {v1 : Int32} {v2 : Int32} {v3 : Int32} {v5 : Int32} (hKB31 : ∀ (x0 : Int32) (x1 : Int32) (x2 : Int32) (x3 : Int32) (x4 : Int32), KB313 x0 x1 x2 x3 x4) (hKX83 : ∀ (x0 : Int32) (x1 : Int32) (x2 : Int32) (x3 : Int32), KX833 x0 x1 x2 x3) : wM_least_J74 a r KB313 KX833 v1 v2 v3 v5 := by
  unfold wM_least_J74
  repeat' (first | (with_reducible exact hKB31 _ _ _ _ _) | (with_reducible exact hKX83 _ _ _ _) | (with_reducible refine wa_M_least_J75 ?_ ?_) | (with_reducible refine And.intro ?_ ?_) | (with_reducible intro _))
theorem wa_M_least_J70 {a : L_} {r : S_} {KB313 : Int32 → Int32 → Int32 → Int32 → Int32 → Prop} {KX833 : Int32 → Int32 → Int32 → Int32 → Prop} {v1 : Int32} {v2 : Int32} {v3 : Int32} {v5 : Int32} (hKB31 : ∀ (x0 : Int32) (x1 : Int32) (x2 : Int32) (x3 : Int32) (x4 : Int32), KB313 x0 x1 x2 x3 x4) (hKX83 : ∀ (x0 : Int32) (x1 : Int32) (x2 : Int32) (x3 : Int32), KX833 x0 x1 x2 x3) : wM_least_J70 a r KB313 KX833 v1 v2 v3 v5 := by
  unfold wM_least_J70
  repeat' (first | (with_reducible exact hKB31 _ _ _ _ _) | (with_reducible exact hKX83 _ _ _ _) | (with_reducible refine wa_M_least_J75 ?_ ?_) | (with_reducible refine And.intro ?_ ?_) | (with_reducible intro _))
theorem wa_M_least_L31 {a : L_} {r : S_} {KX833 : Int32 → Int32 → Int32 → Int32 → Prop} (hKX83 : ∀ (x0 : Int32) (x1 : Int32) (x2 : Int32) (x3 : Int32), KX833 x0 x1 x2 x3) : ∀ (n : Nat) (w0 : Int32) (w1 : Int32) (w2 : Int32) (w3 : Int32) (w4 : Int32), wM_least_L31 a r KX833 n w0 w1 w2 w3 w4 := by
  intro n
  induction n with
  | zero => intro w0 w1 w2 w3 w4; trivial
  | succ n ih =>
    intro w0 w1 w2 w3 w4
    rw [wM_least_L31]
    repeat' (first | (with_reducible exact hKX83 _ _ _ _) | (with_reducible exact ih _ _ _ _ _) | (with_reducible refine wa_M_least_J74 ?_ ?_) | (with_reducible refine wa_M_least_J70 ?_ ?_) | (with_reducible refine wa_M_isUnder ?_) | (with_reducible refine And.intro ?_ ?_) | (with_reducible intro _))
theorem wa_M_least_J97 {a : L_} {r : S_} {KB43 : Int32 → Int32 → Int32 → Prop} {KX1043 : Int32 → Prop} {v1 : Int32} {v3 : Int32} {u0 : Int32} (hKB4 : ∀ (x0 : Int32) (x1 : Int32) (x2 : Int32), KB43 x0 x1 x2) (hKX104 : ∀ (x0 : Int32), KX1043 x0) : wM_least_J97 a r KB43 KX1043 v1 v3 u0 := by
  unfold wM_least_J97
  repeat' (first | (with_reducible exact hKB4 _ _ _) | (with_reducible exact hKX104 _) | (with_reducible refine And.intro ?_ ?_) | (with_reducible intro _))
theorem wa_M_least_J26 {a : L_} {r : S_} {KB43 : Int32 → Int32 → Int32 → Prop} {KX1043 : Int32 → Prop} {v1 : Int32} {v2 : Int32} {v3 : Int32} {u0 : Int32} (hKB4 : ∀ (x0 : Int32) (x1 : Int32) (x2 : Int32), KB43 x0 x1 x2) (hKX104 : ∀ (x0 : Int32), KX1043 x0) : wM_least_J26 a r KB43 KX1043 v1 v2 v3 u0 := by
  unfold wM_least_J26
  repeat' (first | (with_reducible exact hKB4 _ _ _) | (with_reducible exact hKX104 _) | (with_reducible refine wa_M_least_L31 ?_ _ _ _ _ _ _) | (with_reducible refine wa_M_least_J97 ?_ ?_) | (with_reducible refine And.intro ?_ ?_) | (with_reducible intro _))
theorem wa_M_least_L4 {a : L_} {r : S_} {KX1043 : Int32 → Prop} (hKX104 : ∀ (x0 : Int32), KX1043 x0) : ∀ (n : Nat) (w0 : Int32) (w1 : Int32) (w2 : Int32), wM_least_L4 a r KX1043 n w0 w1 w2 := by
  intro n
  induction n with
  | zero => intro w0 w1 w2; trivial
  | succ n ih =>
    intro w0 w1 w2
    rw [wM_least_L4]
    repeat' (first | (with_reducible exact hKX104 _) | (with_reducible exact ih _ _ _) | (with_reducible refine wa_M_least_J26 ?_ ?_) | (with_reducible refine And.intro ?_ ?_) | (with_reducible intro _))
theorem wa_M_least {a : L_} {r : S_} {K3 : Int32 → Prop} {p0 : Int32} (hK : ∀ (x0 : Int32), K3 x0) : wM_least a r K3 p0 := by
  unfold wM_least
  repeat' (first | (with_reducible exact hK _) | (with_reducible refine wa_M_least_L4 ?_ _ _ _ _) | (with_reducible refine And.intro ?_ ?_) | (with_reducible intro _))
theorem wa_M_ones_L4 {a : L_} {r : S_} {KX243 : Int32 → Prop} (hKX24 : ∀ (x0 : Int32), KX243 x0) : ∀ (n : Nat) (w0 : Int32) (w1 : Int32) (w2 : Int32), wM_ones_L4 a r KX243 n w0 w1 w2 := by
  intro n
  induction n with
  | zero => intro w0 w1 w2; trivial
  | succ n ih =>
    intro w0 w1 w2
    rw [wM_ones_L4]
    repeat' (first | (with_reducible exact hKX24 _) | (with_reducible exact ih _ _ _) | (with_reducible refine And.intro ?_ ?_) | (with_reducible intro _))
theorem wa_M_ones {a : L_} {r : S_} {K3 : Int32 → Prop} {p0 : Int32} (hK : ∀ (x0 : Int32), K3 x0) : wM_ones a r K3 p0 := by
  unfold wM_ones
  repeat' (first | (with_reducible exact hK _) | (with_reducible refine wa_M_ones_L4 ?_ _ _ _ _) | (with_reducible refine And.intro ?_ ?_) | (with_reducible intro _))
theorem wa_M_takeNeeds_J66 {a : L_} {KB73 : S_ → Int32 → Prop} {KX863 : S_ → Prop} {r : S_} {v1 : Int32} {v2 : Int32} (hKB7 : ∀ (x0 : S_) (x1 : Int32), KB73 x0 x1) (hKX86 : ∀ (x0 : S_), KX863 x0) : wM_takeNeeds_J66 a KB73 KX863 r v1 v2 := by
  unfold wM_takeNeeds_J66
  repeat' (first | (with_reducible exact hKB7 _ _) | (with_reducible exact hKX86 _) | (with_reducible refine And.intro ?_ ?_) | (with_reducible intro _))
theorem wa_M_takeNeeds_L7 {a : L_} {KX863 : S_ → Prop} (hKX86 : ∀ (x0 : S_), KX863 x0) : ∀ (n : Nat) (w0 : S_) (w1 : Int32), wM_takeNeeds_L7 a KX863 n w0 w1 := by
  intro n
  induction n with
  | zero => intro w0 w1; trivial
  | succ n ih =>
    intro w0 w1
    rw [wM_takeNeeds_L7]
    repeat' (first | (with_reducible exact hKX86 _) | (with_reducible exact ih _ _) | (with_reducible refine wa_M_takeNeeds_J66 ?_ ?_) | (with_reducible refine And.intro ?_ ?_) | (with_reducible intro _))
theorem wa_M_takeNeeds {a : L_} {K3 : S_ → Prop} {r : S_} (hK : ∀ (x0 : S_), K3 x0) : wM_takeNeeds a K3 r := by
  unfold wM_takeNeeds
  repeat' (first | (with_reducible exact hK _) | (with_reducible refine wa_M_takeNeeds_L7 ?_ _ _ _) | (with_reducible refine And.intro ?_ ?_) | (with_reducible intro _))
theorem wa_M_generalise_J86 {a : L_} {KB633 : S_ → Int32 → Int32 → Int32 → Prop} {KX963 : S_ → Int32 → Int32 → Prop} {r : S_} {v1 : Int32} {v2 : Int32} {v3 : Int32} (hKB63 : ∀ (x0 : S_) (x1 : Int32) (x2 : Int32) (x3 : Int32), KB633 x0 x1 x2 x3) (hKX96 : ∀ (x0 : S_) (x1 : Int32) (x2 : Int32), KX963 x0 x1 x2) : wM_generalise_J86 a KB633 KX963 r v1 v2 v3 := by
  unfold wM_generalise_J86
  repeat' (first | (with_reducible exact hKB63 _ _ _ _) | (with_reducible exact hKX96 _ _ _) | (with_reducible refine And.intro ?_ ?_) | (with_reducible intro _))
theorem wa_M_generalise_L63 {a : L_} {KX963 : S_ → Int32 → Int32 → Prop} (hKX96 : ∀ (x0 : S_) (x1 : Int32) (x2 : Int32), KX963 x0 x1 x2) : ∀ (n : Nat) (w0 : S_) (w1 : Int32) (w2 : Int32) (w3 : Int32), wM_generalise_L63 a KX963 n w0 w1 w2 w3 := by
  intro n
  induction n with
  | zero => intro w0 w1 w2 w3; trivial
  | succ n ih =>
    intro w0 w1 w2 w3
    rw [wM_generalise_L63]
    repeat' (first | (with_reducible exact hKX96 _ _ _) | (with_reducible exact ih _ _ _ _) | (with_reducible refine wa_M_kindOf ?_) | (with_reducible refine wa_M_generalise_J86 ?_ ?_) | (with_reducible refine wa_M_reach ?_) | (with_reducible refine And.intro ?_ ?_) | (with_reducible intro _))
theorem wa_M_generalise_J144 {a : L_} {KB983 : S_ → Int32 → Int32 → Int32 → Prop} {KX1503 : S_ → Int32 → Prop} {r : S_} {v1 : Int32} {v2 : Int32} {v3 : Int32} (hKB98 : ∀ (x0 : S_) (x1 : Int32) (x2 : Int32) (x3 : Int32), KB983 x0 x1 x2 x3) (hKX150 : ∀ (x0 : S_) (x1 : Int32), KX1503 x0 x1) : wM_generalise_J144 a KB983 KX1503 r v1 v2 v3 := by
  unfold wM_generalise_J144
  repeat' (first | (with_reducible exact hKB98 _ _ _ _) | (with_reducible exact hKX150 _ _) | (with_reducible refine And.intro ?_ ?_) | (with_reducible intro _))
theorem wa_M_generalise_L98 {a : L_} {KX1503 : S_ → Int32 → Prop} (hKX150 : ∀ (x0 : S_) (x1 : Int32), KX1503 x0 x1) : ∀ (n : Nat) (w0 : S_) (w1 : Int32) (w2 : Int32) (w3 : Int32), wM_generalise_L98 a KX1503 n w0 w1 w2 w3 := by
  intro n
  induction n with
  | zero => intro w0 w1 w2 w3; trivial
  | succ n ih =>
    intro w0 w1 w2 w3
    rw [wM_generalise_L98]
    repeat' (first | (with_reducible exact hKX150 _ _) | (with_reducible exact ih _ _ _ _) | (with_reducible refine wa_M_generalise_J144 ?_ ?_) | (with_reducible refine wa_M_addWant ?_) | (with_reducible refine And.intro ?_ ?_) | (with_reducible intro _))
theorem wa_M_generalise_J294 {a : L_} {KB1873 : S_ → Int32 → Int32 → Prop} {KX3003 : S_ → Int32 → Prop} {r : S_} {v1 : Int32} {v3 : Int32} (hKB187 : ∀ (x0 : S_) (x1 : Int32) (x2 : Int32), KB1873 x0 x1 x2) (hKX300 : ∀ (x0 : S_) (x1 : Int32), KX3003 x0 x1) : wM_generalise_J294 a KB1873 KX3003 r v1 v3 := by
  unfold wM_generalise_J294
  repeat' (first | (with_reducible exact hKB187 _ _ _) | (with_reducible exact hKX300 _ _) | (with_reducible refine And.intro ?_ ?_) | (with_reducible intro _))
theorem wa_M_generalise_J291 {a : L_} {KB1873 : S_ → Int32 → Int32 → Prop} {KX3003 : S_ → Int32 → Prop} {r : S_} {v1 : Int32} {v3 : Int32} {u0 : Int32} (hKB187 : ∀ (x0 : S_) (x1 : Int32) (x2 : Int32), KB1873 x0 x1 x2) (hKX300 : ∀ (x0 : S_) (x1 : Int32), KX3003 x0 x1) : wM_generalise_J291 a KB1873 KX3003 r v1 v3 u0 := by
  unfold wM_generalise_J291
  repeat' (first | (with_reducible exact hKB187 _ _ _) | (with_reducible exact hKX300 _ _) | (with_reducible refine wa_M_generalise_J294 ?_ ?_) | (with_reducible refine And.intro ?_ ?_) | (with_reducible intro _))
theorem wa_M_generalise_J286 {a : L_} {KB1873 : S_ → Int32 → Int32 → Prop} {KX3003 : S_ → Int32 → Prop} {r : S_} {v1 : Int32} {v3 : Int32} (hKB187 : ∀ (x0 : S_) (x1 : Int32) (x2 : Int32), KB1873 x0 x1 x2) (hKX300 : ∀ (x0 : S_) (x1 : Int32), KX3003 x0 x1) : wM_generalise_J286 a KB1873 KX3003 r v1 v3 := by
  unfold wM_generalise_J286
  repeat' (first | (with_reducible exact hKB187 _ _ _) | (with_reducible exact hKX300 _ _) | (with_reducible refine wa_M_generalise_J291 ?_ ?_) | (with_reducible refine And.intro ?_ ?_) | (with_reducible intro _))
theorem wa_M_generalise_J269 {a : L_} {KB1873 : S_ → Int32 → Int32 → Prop} {KX3003 : S_ → Int32 → Prop} {r : S_} {v1 : Int32} {v3 : Int32} (hKB187 : ∀ (x0 : S_) (x1 : Int32) (x2 : Int32), KB1873 x0 x1 x2) (hKX300 : ∀ (x0 : S_) (x1 : Int32), KX3003 x0 x1) : wM_generalise_J269 a KB1873 KX3003 r v1 v3 := by
  unfold wM_generalise_J269
  repeat' (first | (with_reducible exact hKB187 _ _ _) | (with_reducible exact hKX300 _ _) | (with_reducible refine wa_M_generalise_J286 ?_ ?_) | (with_reducible refine wa_M_generalise_J291 ?_ ?_) | (with_reducible refine And.intro ?_ ?_) | (with_reducible intro _))
theorem wa_M_generalise_L187 {a : L_} {KX3003 : S_ → Int32 → Prop} (hKX300 : ∀ (x0 : S_) (x1 : Int32), KX3003 x0 x1) : ∀ (n : Nat) (w0 : S_) (w1 : Int32) (w2 : Int32), wM_generalise_L187 a KX3003 n w0 w1 w2 := by
  intro n
  induction n with
  | zero => intro w0 w1 w2; trivial
  | succ n ih =>
    intro w0 w1 w2
    rw [wM_generalise_L187]
    repeat' (first | (with_reducible exact hKX300 _ _) | (with_reducible exact ih _ _ _) | (with_reducible refine wa_M_generalise_J269 ?_ ?_) | (with_reducible refine wa_M_least ?_) | (with_reducible refine wa_M_generalise_J294 ?_ ?_) | (with_reducible refine And.intro ?_ ?_) | (with_reducible intro _))
theorem wa_M_generalise {a : L_} {K3 : S_ → Prop} {r : S_} {p0 : Int32} (hK : ∀ (x0 : S_), K3 x0) : wM_generalise a K3 r p0 := by
  unfold wM_generalise
  repeat' (first | (with_reducible exact hK _) | (with_reducible refine wa_M_needNoRing ?_) | (with_reducible refine wa_M_drive ?_) | (with_reducible refine wa_M_takeNeeds ?_) | (with_reducible refine wa_M_generalise_L63 ?_ _ _ _ _ _) | (with_reducible refine wa_M_generalise_L98 ?_ _ _ _ _ _) | (with_reducible refine wa_M_reach ?_) | (with_reducible refine wa_M_generalise_L187 ?_ _ _ _ _) | (with_reducible refine And.intro ?_ ?_) | (with_reducible intro _))
theorem wa_M_copied {a : L_} {r : S_} {K3 : Int32 → Prop} {p0 : Int32} (hK : ∀ (x0 : Int32), K3 x0) : wM_copied a r K3 p0 := by
  unfold wM_copied
  repeat' (first | (with_reducible exact hK _) | (with_reducible refine wa_M_find ?_) | (with_reducible refine And.intro ?_ ?_) | (with_reducible intro _))
theorem wa_M_copyOf_J50 {a : L_} {KB273 : S_ → Int32 → Int32 → Int32 → Prop} {KX603 : S_ → Int32 → Int32 → Prop} {r : S_} {v1 : Int32} {v2 : Int32} {v3 : Int32} (hKB27 : ∀ (x0 : S_) (x1 : Int32) (x2 : Int32) (x3 : Int32), KB273 x0 x1 x2 x3) (hKX60 : ∀ (x0 : S_) (x1 : Int32) (x2 : Int32), KX603 x0 x1 x2) : wM_copyOf_J50 a KB273 KX603 r v1 v2 v3 := by
  unfold wM_copyOf_J50
  repeat' (first | (with_reducible exact hKB27 _ _ _ _) | (with_reducible exact hKX60 _ _ _) | (with_reducible refine And.intro ?_ ?_) | (with_reducible intro _))
theorem wa_M_copyOf_L27 {a : L_} {KX603 : S_ → Int32 → Int32 → Prop} (hKX60 : ∀ (x0 : S_) (x1 : Int32) (x2 : Int32), KX603 x0 x1 x2) : ∀ (n : Nat) (w0 : S_) (w1 : Int32) (w2 : Int32) (w3 : Int32), wM_copyOf_L27 a KX603 n w0 w1 w2 w3 := by
  intro n
  induction n with
  | zero => intro w0 w1 w2 w3; trivial
  | succ n ih =>
    intro w0 w1 w2 w3
    rw [wM_copyOf_L27]
    repeat' (first | (with_reducible exact hKX60 _ _ _) | (with_reducible exact ih _ _ _ _) | (with_reducible refine wa_M_kindOf ?_) | (with_reducible refine wa_M_copyOf_J50 ?_ ?_) | (with_reducible refine wa_M_reach ?_) | (with_reducible refine And.intro ?_ ?_) | (with_reducible intro _))
theorem wa_M_copyOf_J253 {a : L_} {KB1013 : S_ → Int32 → Int32 → Int32 → Int32 → Prop} {KX2563 : S_ → Int32 → Int32 → Prop} {r : S_} {v1 : Int32} {v2 : Int32} {v3 : Int32} {v4 : Int32} (hKB101 : ∀ (x0 : S_) (x1 : Int32) (x2 : Int32) (x3 : Int32) (x4 : Int32), KB1013 x0 x1 x2 x3 x4) (hKX256 : ∀ (x0 : S_) (x1 : Int32) (x2 : Int32), KX2563 x0 x1 x2) : wM_copyOf_J253 a KB1013 KX2563 r v1 v2 v3 v4 := by
  unfold wM_copyOf_J253
  repeat' (first | (with_reducible exact hKB101 _ _ _ _ _) | (with_reducible exact hKX256 _ _ _) | (with_reducible refine And.intro ?_ ?_) | (with_reducible intro _))
theorem wa_M_copyOf_J226 {a : L_} {KB1013 : S_ → Int32 → Int32 → Int32 → Int32 → Prop} {KX2563 : S_ → Int32 → Int32 → Prop} {r : S_} {v1 : Int32} {v2 : Int32} {v3 : Int32} {v4 : Int32} {v5 : Int32} (hKB101 : ∀ (x0 : S_) (x1 : Int32) (x2 : Int32) (x3 : Int32) (x4 : Int32), KB1013 x0 x1 x2 x3 x4) (hKX256 : ∀ (x0 : S_) (x1 : Int32) (x2 : Int32), KX2563 x0 x1 x2) : wM_copyOf_J226 a KB1013 KX2563 r v1 v2 v3 v4 v5 := by
  unfold wM_copyOf_J226
  repeat' (first | (with_reducible exact hKB101 _ _ _ _ _) | (with_reducible exact hKX256 _ _ _) | (with_reducible refine wa_M_copyOf_J253 ?_ ?_) | (with_reducible refine And.intro ?_ ?_) | (with_reducible intro _))
theorem wa_M_copyOf_L101 {a : L_} {KX2563 : S_ → Int32 → Int32 → Prop} (hKX256 : ∀ (x0 : S_) (x1 : Int32) (x2 : Int32), KX2563 x0 x1 x2) : ∀ (n : Nat) (w0 : S_) (w1 : Int32) (w2 : Int32) (w3 : Int32) (w4 : Int32), wM_copyOf_L101 a KX2563 n w0 w1 w2 w3 w4 := by
  intro n
  induction n with
  | zero => intro w0 w1 w2 w3 w4; trivial
  | succ n ih =>
    intro w0 w1 w2 w3 w4
    rw [wM_copyOf_L101]
    repeat' (first | (with_reducible exact hKX256 _ _ _) | (with_reducible exact ih _ _ _ _ _) | (with_reducible refine wa_M_find ?_) | (with_reducible refine wa_M_copyOf_J253 ?_ ?_) | (with_reducible refine wa_M_newTerm ?_) | (with_reducible refine wa_M_copyOf_J226 ?_ ?_) | (with_reducible refine And.intro ?_ ?_) | (with_reducible intro _))
theorem wa_M_copyOf_L259 {a : L_} {KX3293 : S_ → Int32 → Int32 → Prop} (hKX329 : ∀ (x0 : S_) (x1 : Int32) (x2 : Int32), KX3293 x0 x1 x2) : ∀ (n : Nat) (w0 : S_) (w1 : Int32) (w2 : Int32) (w3 : Int32), wM_copyOf_L259 a KX3293 n w0 w1 w2 w3 := by
  intro n
  induction n with
  | zero => intro w0 w1 w2 w3; trivial
  | succ n ih =>
    intro w0 w1 w2 w3
    rw [wM_copyOf_L259]
    repeat' (first | (with_reducible exact hKX329 _ _ _) | (with_reducible exact ih _ _ _ _) | (with_reducible refine wa_M_copied ?_) | (with_reducible refine And.intro ?_ ?_) | (with_reducible intro _))
theorem wa_M_copyOf_L337 {a : L_} {KX4023 : S_ → Int32 → Prop} (hKX402 : ∀ (x0 : S_) (x1 : Int32), KX4023 x0 x1) : ∀ (n : Nat) (w0 : S_) (w1 : Int32) (w2 : Int32) (w3 : Int32), wM_copyOf_L337 a KX4023 n w0 w1 w2 w3 := by
  intro n
  induction n with
  | zero => intro w0 w1 w2 w3; trivial
  | succ n ih =>
    intro w0 w1 w2 w3
    rw [wM_copyOf_L337]
    repeat' (first | (with_reducible exact hKX402 _ _) | (with_reducible exact ih _ _ _ _) | (with_reducible refine wa_M_copied ?_) | (with_reducible refine wa_M_addWant ?_) | (with_reducible refine wa_M_ones ?_) | (with_reducible refine And.intro ?_ ?_) | (with_reducible intro _))
theorem wa_M_copyOf {a : L_} {K3 : Int32 → S_ → Prop} {r : S_} {p0 : Int32} (hK : ∀ (x0 : Int32) (x1 : S_), K3 x0 x1) : wM_copyOf a K3 r p0 := by
  unfold wM_copyOf
  repeat' (first | (with_reducible exact hK _ _) | (with_reducible refine wa_M_copyOf_L27 ?_ _ _ _ _ _) | (with_reducible refine wa_M_find ?_) | (with_reducible refine wa_M_copyOf_L101 ?_ _ _ _ _ _ _) | (with_reducible refine wa_M_copyOf_L259 ?_ _ _ _ _ _) | (with_reducible refine wa_M_copyOf_L337 ?_ _ _ _ _ _) | (with_reducible refine wa_M_copied ?_) | (with_reducible refine And.intro ?_ ?_) | (with_reducible intro _))
theorem wa_M_typeName_J46 {a : L_} {K3 : S_ → Prop} {r : S_} {u0 : Int32} {u1 : Int32} (hK : ∀ (x0 : S_), K3 x0) : wM_typeName_J46 a K3 r u0 u1 := by
  unfold wM_typeName_J46
  repeat' (first | (with_reducible exact hK _) | (with_reducible refine And.intro ?_ ?_) | (with_reducible intro _))
theorem wa_M_typeName {a : L_} {K3 : S_ → Prop} {r : S_} {p0 : Int32} (hK : ∀ (x0 : S_), K3 x0) : wM_typeName a K3 r p0 := by
  unfold wM_typeName
  repeat' (first | (with_reducible exact hK _) | (with_reducible refine wa_M_binder ?_) | (with_reducible refine wa_M_kindOf ?_) | (with_reducible refine wa_M_copyOf ?_) | (with_reducible refine wa_M_typeName_J46 ?_) | (with_reducible refine And.intro ?_ ?_) | (with_reducible intro _))
theorem wa_M_visit_J265 {a : L_} {K3 : Int32 → S_ → Prop} {r : S_} {v1 : Int32} (hK : ∀ (x0 : Int32) (x1 : S_), K3 x0 x1) : wM_visit_J265 a K3 r v1 := by
  unfold wM_visit_J265
  repeat' (first | (with_reducible exact hK _ _) | (with_reducible refine And.intro ?_ ?_) | (with_reducible intro _))
theorem wa_M_visit_J194 {a : L_} {K3 : Int32 → S_ → Prop} {r : S_} {v1 : Int32} {v2 : Int32} {v3 : Int32} (hK : ∀ (x0 : Int32) (x1 : S_), K3 x0 x1) : wM_visit_J194 a K3 r v1 v2 v3 := by
  unfold wM_visit_J194
  repeat' (first | (with_reducible exact hK _ _) | (with_reducible refine wa_M_fresh ?_) | (with_reducible refine wa_M_arrow ?_) | (with_reducible refine wa_M_unify ?_) | (with_reducible refine wa_M_visit_J265 ?_) | (with_reducible refine wa_M_generalise ?_) | (with_reducible refine And.intro ?_ ?_) | (with_reducible intro _))
theorem wa_M_visit_J120 {a : L_} {KB723 : S_ → Int32 → Int32 → Prop} {KX1263 : S_ → Prop} {r : S_} {v4 : Int32} {v5 : Int32} (hKB72 : ∀ (x0 : S_) (x1 : Int32) (x2 : Int32), KB723 x0 x1 x2) (hKX126 : ∀ (x0 : S_), KX1263 x0) : wM_visit_J120 a KB723 KX1263 r v4 v5 := by
  unfold wM_visit_J120
  repeat' (first | (with_reducible exact hKB72 _ _ _) | (with_reducible exact hKX126 _) | (with_reducible refine And.intro ?_ ?_) | (with_reducible intro _))
theorem wa_M_visit_L72 {a : L_} {KX1263 : S_ → Prop} (hKX126 : ∀ (x0 : S_), KX1263 x0) : ∀ (n : Nat) (w0 : S_) (w1 : Int32) (w2 : Int32), wM_visit_L72 a KX1263 n w0 w1 w2 := by
  intro n
  induction n with
  | zero => intro w0 w1 w2; trivial
  | succ n ih =>
    intro w0 w1 w2
    rw [wM_visit_L72]
    repeat' (first | (with_reducible exact hKX126 _) | (with_reducible exact ih _ _ _) | (with_reducible refine wa_M_visit_J120 ?_ ?_) | (with_reducible refine wa_M_addWant ?_) | (with_reducible refine And.intro ?_ ?_) | (with_reducible intro _))
theorem wa_M_visit {a : L_} {K3 : Int32 → S_ → Prop} {r : S_} {p0 : Int32} (hK : ∀ (x0 : Int32) (x1 : S_), K3 x0 x1) : wM_visit a K3 r p0 := by
  unfold wM_visit
  repeat' (first | (with_reducible exact hK _ _) | (with_reducible refine wa_M_kindOf ?_) | (with_reducible refine wa_M_visit_J194 ?_) | (with_reducible refine wa_M_fresh ?_) | (with_reducible refine wa_M_copyStatic ?_) | (with_reducible refine wa_M_visit_L72 ?_ _ _ _ _) | (with_reducible refine wa_M_typeName ?_) | (with_reducible refine And.intro ?_ ?_) | (with_reducible intro _))
theorem wa_M_typeAll_J53 {a : L_} {KB93 : S_ → Int32 → Prop} {KX563 : S_ → Prop} {r : S_} {v1 : Int32} (hKB9 : ∀ (x0 : S_) (x1 : Int32), KB93 x0 x1) (hKX56 : ∀ (x0 : S_), KX563 x0) : wM_typeAll_J53 a KB93 KX563 r v1 := by
  unfold wM_typeAll_J53
  repeat' (first | (with_reducible exact hKB9 _ _) | (with_reducible exact hKX56 _) | (with_reducible refine And.intro ?_ ?_) | (with_reducible intro _))
theorem wa_M_typeAll_L9 {a : L_} {KX563 : S_ → Prop} (hKX56 : ∀ (x0 : S_), KX563 x0) : ∀ (n : Nat) (w0 : S_) (w1 : Int32), wM_typeAll_L9 a KX563 n w0 w1 := by
  intro n
  induction n with
  | zero => intro w0 w1; trivial
  | succ n ih =>
    intro w0 w1
    rw [wM_typeAll_L9]
    repeat' (first | (with_reducible exact hKX56 _) | (with_reducible exact ih _ _) | (with_reducible refine wa_M_visit ?_) | (with_reducible refine wa_M_typeAll_J53 ?_ ?_) | (with_reducible refine And.intro ?_ ?_) | (with_reducible intro _))
theorem wa_M_typeAll {a : L_} {K3 : S_ → Prop} {r : S_} (hK : ∀ (x0 : S_), K3 x0) : wM_typeAll a K3 r := by
  unfold wM_typeAll
  repeat' (first | (with_reducible exact hK _) | (with_reducible refine wa_M_typeAll_L9 ?_ _ _ _) | (with_reducible refine And.intro ?_ ?_) | (with_reducible intro _))
theorem wa_M_sum {a : L_} {r : S_} {K3 : Int32 → Prop} {p0 : Int32} {p1 : Int32} (hK : ∀ (x0 : Int32), K3 x0) : wM_sum a r K3 p0 p1 := by
  unfold wM_sum
  repeat' (first | (with_reducible exact hK _) | (with_reducible refine And.intro ?_ ?_) | (with_reducible intro _))
theorem wa_M_number_J141 {a : L_} {KB273 : S_ → Int32 → Prop} {KX1443 : S_ → Prop} {r : S_} {v1 : Int32} (hKB27 : ∀ (x0 : S_) (x1 : Int32), KB273 x0 x1) (hKX144 : ∀ (x0 : S_), KX1443 x0) : wM_number_J141 a KB273 KX1443 r v1 := by
  unfold wM_number_J141
  repeat' (first | (with_reducible exact hKB27 _ _) | (with_reducible exact hKX144 _) | (with_reducible refine And.intro ?_ ?_) | (with_reducible intro _))
theorem wa_M_number_J117 {a : L_} {KB273 : S_ → Int32 → Prop} {KX1443 : S_ → Prop} {r : S_} {v1 : Int32} {v2 : Int32} (hKB27 : ∀ (x0 : S_) (x1 : Int32), KB273 x0 x1) (hKX144 : ∀ (x0 : S_), KX1443 x0) : wM_number_J117 a KB273 KX1443 r v1 v2 := by
  unfold wM_number_J117
  repeat' (first | (with_reducible exact hKB27 _ _) | (with_reducible exact hKX144 _) | (with_reducible refine wa_M_number_J141 ?_ ?_) | (with_reducible refine And.intro ?_ ?_) | (with_reducible intro _))
theorem wa_M_number_J93 {a : L_} {KB273 : S_ → Int32 → Prop} {KX1443 : S_ → Prop} {r : S_} {v1 : Int32} {v2 : Int32} (hKB27 : ∀ (x0 : S_) (x1 : Int32), KB273 x0 x1) (hKX144 : ∀ (x0 : S_), KX1443 x0) : wM_number_J93 a KB273 KX1443 r v1 v2 := by
  unfold wM_number_J93
  repeat' (first | (with_reducible exact hKB27 _ _) | (with_reducible exact hKX144 _) | (with_reducible refine wa_M_number_J117 ?_ ?_) | (with_reducible refine And.intro ?_ ?_) | (with_reducible intro _))
theorem wa_M_number_L27 {a : L_} {KX1443 : S_ → Prop} (hKX144 : ∀ (x0 : S_), KX1443 x0) : ∀ (n : Nat) (w0 : S_) (w1 : Int32), wM_number_L27 a KX1443 n w0 w1 := by
  intro n
  induction n with
  | zero => intro w0 w1; trivial
  | succ n ih =>
    intro w0 w1
    rw [wM_number_L27]
    repeat' (first | (with_reducible exact hKX144 _) | (with_reducible exact ih _ _) | (with_reducible refine wa_M_number_J141 ?_ ?_) | (with_reducible refine wa_M_number_J93 ?_ ?_) | (with_reducible refine And.intro ?_ ?_) | (with_reducible intro _))
theorem wa_M_number_J205 {a : L_} {KB1463 : S_ → Int32 → Prop} {KX2123 : S_ → Prop} {r : S_} {v2 : Int32} {u0 : Int32} {u1 : Int32} (hKB146 : ∀ (x0 : S_) (x1 : Int32), KB1463 x0 x1) (hKX212 : ∀ (x0 : S_), KX2123 x0) : wM_number_J205 a KB1463 KX2123 r v2 u0 u1 := by
  unfold wM_number_J205
  repeat' (first | (with_reducible exact hKB146 _ _) | (with_reducible exact hKX212 _) | (with_reducible refine And.intro ?_ ?_) | (with_reducible intro _))
theorem wa_M_number_L146 {a : L_} {KX2123 : S_ → Prop} (hKX212 : ∀ (x0 : S_), KX2123 x0) : ∀ (n : Nat) (w0 : S_) (w1 : Int32), wM_number_L146 a KX2123 n w0 w1 := by
  intro n
  induction n with
  | zero => intro w0 w1; trivial
  | succ n ih =>
    intro w0 w1
    rw [wM_number_L146]
    repeat' (first | (with_reducible exact hKX212 _) | (with_reducible exact ih _ _) | (with_reducible refine wa_M_number_J205 ?_ ?_) | (with_reducible refine And.intro ?_ ?_) | (with_reducible intro _))
theorem wa_M_number {a : L_} {K3 : S_ → Prop} {r : S_} (hK : ∀ (x0 : S_), K3 x0) : wM_number a K3 r := by
  unfold wM_number
  repeat' (first | (with_reducible exact hK _) | (with_reducible refine wa_M_number_L27 ?_ _ _ _) | (with_reducible refine wa_M_number_L146 ?_ _ _ _) | (with_reducible refine And.intro ?_ ?_) | (with_reducible intro _))
theorem wa_M_keep_J100 {a : L_} {KB163 : S_ → Int32 → Prop} {KX1143 : S_ → Prop} {r : S_} {v1 : Int32} {v2 : Int32} {u0 : Int32} {u1 : Int32} (hKB16 : ∀ (x0 : S_) (x1 : Int32), KB163 x0 x1) (hKX114 : ∀ (x0 : S_), KX1143 x0) : wM_keep_J100 a KB163 KX1143 r v1 v2 u0 u1 := by
  unfold wM_keep_J100
  repeat' (first | (with_reducible exact hKB16 _ _) | (with_reducible exact hKX114 _) | (with_reducible refine And.intro ?_ ?_) | (with_reducible intro _))
theorem wa_M_keep_J71 {a : L_} {KB163 : S_ → Int32 → Prop} {KX1143 : S_ → Prop} {r : S_} {v1 : Int32} {v2 : Int32} {u0 : Int32} {u1 : Int32} (hKB16 : ∀ (x0 : S_) (x1 : Int32), KB163 x0 x1) (hKX114 : ∀ (x0 : S_), KX1143 x0) : wM_keep_J71 a KB163 KX1143 r v1 v2 u0 u1 := by
  unfold wM_keep_J71
  repeat' (first | (with_reducible exact hKB16 _ _) | (with_reducible exact hKX114 _) | (with_reducible refine wa_M_find ?_) | (with_reducible refine wa_M_keep_J100 ?_ ?_) | (with_reducible refine And.intro ?_ ?_) | (with_reducible intro _))
theorem wa_M_keep_L16 {a : L_} {KX1143 : S_ → Prop} (hKX114 : ∀ (x0 : S_), KX1143 x0) : ∀ (n : Nat) (w0 : S_) (w1 : Int32), wM_keep_L16 a KX1143 n w0 w1 := by
  intro n
  induction n with
  | zero => intro w0 w1; trivial
  | succ n ih =>
    intro w0 w1
    rw [wM_keep_L16]
    repeat' (first | (with_reducible exact hKX114 _) | (with_reducible exact ih _ _) | (with_reducible refine wa_M_find ?_) | (with_reducible refine wa_M_keep_J71 ?_ ?_) | (with_reducible refine And.intro ?_ ?_) | (with_reducible intro _))
theorem wa_M_keep_J259 {a : L_} {KB1243 : S_ → Int32 → Int32 → Prop} {KX2653 : S_ → Int32 → Prop} {r : S_} {v1 : Int32} {v2 : Int32} (hKB124 : ∀ (x0 : S_) (x1 : Int32) (x2 : Int32), KB1243 x0 x1 x2) (hKX265 : ∀ (x0 : S_) (x1 : Int32), KX2653 x0 x1) : wM_keep_J259 a KB1243 KX2653 r v1 v2 := by
  unfold wM_keep_J259
  repeat' (first | (with_reducible exact hKB124 _ _ _) | (with_reducible exact hKX265 _ _) | (with_reducible refine And.intro ?_ ?_) | (with_reducible intro _))
theorem wa_M_keep_J224 {a : L_} {KB1243 : S_ → Int32 → Int32 → Prop} {KX2653 : S_ → Int32 → Prop} {r : S_} {v1 : Int32} {v2 : Int32} {v3 : Int32} {v4 : Int32} {v5 : Int32} {u0 : Int32} (hKB124 : ∀ (x0 : S_) (x1 : Int32) (x2 : Int32), KB1243 x0 x1 x2) (hKX265 : ∀ (x0 : S_) (x1 : Int32), KX2653 x0 x1) : wM_keep_J224 a KB1243 KX2653 r v1 v2 v3 v4 v5 u0 := by
  unfold wM_keep_J224
  repeat' (first | (with_reducible exact hKB124 _ _ _) | (with_reducible exact hKX265 _ _) | (with_reducible refine wa_M_keep_J259 ?_ ?_) | (with_reducible refine wa_M_sum ?_) | (with_reducible refine And.intro ?_ ?_) | (with_reducible intro _))
theorem wa_M_keep_J219 {a : L_} {KB1243 : S_ → Int32 → Int32 → Prop} {KX2653 : S_ → Int32 → Prop} {r : S_} {v1 : Int32} {v2 : Int32} {v3 : Int32} {v4 : Int32} {v5 : Int32} (hKB124 : ∀ (x0 : S_) (x1 : Int32) (x2 : Int32), KB1243 x0 x1 x2) (hKX265 : ∀ (x0 : S_) (x1 : Int32), KX2653 x0 x1) : wM_keep_J219 a KB1243 KX2653 r v1 v2 v3 v4 v5 := by
  unfold wM_keep_J219
  repeat' (first | (with_reducible exact hKB124 _ _ _) | (with_reducible exact hKX265 _ _) | (with_reducible refine wa_M_keep_J224 ?_ ?_) | (with_reducible refine And.intro ?_ ?_) | (with_reducible intro _))
theorem wa_M_keep_J223 {a : L_} {KB1243 : S_ → Int32 → Int32 → Prop} {KX2653 : S_ → Int32 → Prop} {r : S_} {v1 : Int32} {v2 : Int32} {v3 : Int32} {v4 : Int32} {v5 : Int32} (hKB124 : ∀ (x0 : S_) (x1 : Int32) (x2 : Int32), KB1243 x0 x1 x2) (hKX265 : ∀ (x0 : S_) (x1 : Int32), KX2653 x0 x1) : wM_keep_J223 a KB1243 KX2653 r v1 v2 v3 v4 v5 := by
  unfold wM_keep_J223
  repeat' (first | (with_reducible exact hKB124 _ _ _) | (with_reducible exact hKX265 _ _) | (with_reducible refine wa_M_keep_J224 ?_ ?_) | (with_reducible refine And.intro ?_ ?_) | (with_reducible intro _))
theorem wa_M_keep_J205 {a : L_} {KB1243 : S_ → Int32 → Int32 → Prop} {KX2653 : S_ → Int32 → Prop} {r : S_} {v1 : Int32} {v2 : Int32} {v3 : Int32} {v4 : Int32} {v5 : Int32} (hKB124 : ∀ (x0 : S_) (x1 : Int32) (x2 : Int32), KB1243 x0 x1 x2) (hKX265 : ∀ (x0 : S_) (x1 : Int32), KX2653 x0 x1) : wM_keep_J205 a KB1243 KX2653 r v1 v2 v3 v4 v5 := by
  unfold wM_keep_J205
  repeat' (first | (with_reducible exact hKB124 _ _ _) | (with_reducible exact hKX265 _ _) | (with_reducible refine wa_M_keep_J219 ?_ ?_) | (with_reducible refine wa_M_keep_J223 ?_ ?_) | (with_reducible refine And.intro ?_ ?_) | (with_reducible intro _))
theorem wa_M_keep_J189 {a : L_} {KB1243 : S_ → Int32 → Int32 → Prop} {KX2653 : S_ → Int32 → Prop} {r : S_} {v1 : Int32} {v2 : Int32} {v3 : Int32} {v4 : Int32} {u0 : Int32} (hKB124 : ∀ (x0 : S_) (x1 : Int32) (x2 : Int32), KB1243 x0 x1 x2) (hKX265 : ∀ (x0 : S_) (x1 : Int32), KX2653 x0 x1) : wM_keep_J189 a KB1243 KX2653 r v1 v2 v3 v4 u0 := by
  unfold wM_keep_J189
  repeat' (first | (with_reducible exact hKB124 _ _ _) | (with_reducible exact hKX265 _ _) | (with_reducible refine wa_M_keep_J205 ?_ ?_) | (with_reducible refine wa_M_keep_J223 ?_ ?_) | (with_reducible refine And.intro ?_ ?_) | (with_reducible intro _))
theorem wa_M_keep_J163 {a : L_} {KB1243 : S_ → Int32 → Int32 → Prop} {KX2653 : S_ → Int32 → Prop} {r : S_} {v1 : Int32} {v2 : Int32} {v3 : Int32} {u0 : Int32} (hKB124 : ∀ (x0 : S_) (x1 : Int32) (x2 : Int32), KB1243 x0 x1 x2) (hKX265 : ∀ (x0 : S_) (x1 : Int32), KX2653 x0 x1) : wM_keep_J163 a KB1243 KX2653 r v1 v2 v3 u0 := by
  unfold wM_keep_J163
  repeat' (first | (with_reducible exact hKB124 _ _ _) | (with_reducible exact hKX265 _ _) | (with_reducible refine wa_M_keep_J189 ?_ ?_) | (with_reducible refine And.intro ?_ ?_) | (with_reducible intro _))
theorem wa_M_keep_L124 {a : L_} {KX2653 : S_ → Int32 → Prop} (hKX265 : ∀ (x0 : S_) (x1 : Int32), KX2653 x0 x1) : ∀ (n : Nat) (w0 : S_) (w1 : Int32) (w2 : Int32), wM_keep_L124 a KX2653 n w0 w1 w2 := by
  intro n
  induction n with
  | zero => intro w0 w1 w2; trivial
  | succ n ih =>
    intro w0 w1 w2
    rw [wM_keep_L124]
    repeat' (first | (with_reducible exact hKX265 _ _) | (with_reducible exact ih _ _ _) | (with_reducible refine wa_M_keep_J163 ?_ ?_) | (with_reducible refine And.intro ?_ ?_) | (with_reducible intro _))
theorem wa_M_keep_L116 {a : L_} {KX2683 : S_ → Prop} (hKX268 : ∀ (x0 : S_), KX2683 x0) : ∀ (n : Nat) (w0 : S_) (w1 : Int32), wM_keep_L116 a KX2683 n w0 w1 := by
  intro n
  induction n with
  | zero => intro w0 w1; trivial
  | succ n ih =>
    intro w0 w1
    rw [wM_keep_L116]
    repeat' (first | (with_reducible exact hKX268 _) | (with_reducible exact ih _ _) | (with_reducible refine wa_M_keep_L124 ?_ _ _ _ _) | (with_reducible refine And.intro ?_ ?_) | (with_reducible intro _))
theorem wa_M_keep_J390 {a : L_} {KB3393 : S_ → Int32 → Int32 → Int32 → Int32 → Prop} {KX3963 : S_ → Int32 → Int32 → Prop} {r : S_} {v2 : Int32} {v3 : Int32} {v4 : Int32} {v5 : Int32} (hKB339 : ∀ (x0 : S_) (x1 : Int32) (x2 : Int32) (x3 : Int32) (x4 : Int32), KB3393 x0 x1 x2 x3 x4) (hKX396 : ∀ (x0 : S_) (x1 : Int32) (x2 : Int32), KX3963 x0 x1 x2) : wM_keep_J390 a KB3393 KX3963 r v2 v3 v4 v5 := by
  unfold wM_keep_J390
  repeat' (first | (with_reducible exact hKB339 _ _ _ _ _) | (with_reducible exact hKX396 _ _ _) | (with_reducible refine And.intro ?_ ?_) | (with_reducible intro _))
theorem wa_M_keep_L339 {a : L_} {KX3963 : S_ → Int32 → Int32 → Prop} (hKX396 : ∀ (x0 : S_) (x1 : Int32) (x2 : Int32), KX3963 x0 x1 x2) : ∀ (n : Nat) (w0 : S_) (w1 : Int32) (w2 : Int32) (w3 : Int32) (w4 : Int32), wM_keep_L339 a KX3963 n w0 w1 w2 w3 w4 := by
  intro n
  induction n with
  | zero => intro w0 w1 w2 w3 w4; trivial
  | succ n ih =>
    intro w0 w1 w2 w3 w4
    rw [wM_keep_L339]
    repeat' (first | (with_reducible exact hKX396 _ _ _) | (with_reducible exact ih _ _ _ _ _) | (with_reducible refine wa_M_keep_J390 ?_ ?_) | (with_reducible refine And.intro ?_ ?_) | (with_reducible intro _))
theorem wa_M_keep_J334 {a : L_} {KB2973 : S_ → Int32 → Int32 → Prop} {KX4023 : S_ → Int32 → Prop} {r : S_} {v2 : Int32} {v3 : Int32} {u0 : Int32} (hKB297 : ∀ (x0 : S_) (x1 : Int32) (x2 : Int32), KB2973 x0 x1 x2) (hKX402 : ∀ (x0 : S_) (x1 : Int32), KX4023 x0 x1) : wM_keep_J334 a KB2973 KX4023 r v2 v3 u0 := by
  unfold wM_keep_J334
  repeat' (first | (with_reducible exact hKB297 _ _ _) | (with_reducible exact hKX402 _ _) | (with_reducible refine wa_M_keep_L339 ?_ _ _ _ _ _ _) | (with_reducible refine And.intro ?_ ?_) | (with_reducible intro _))
theorem wa_M_keep_L297 {a : L_} {KX4023 : S_ → Int32 → Prop} (hKX402 : ∀ (x0 : S_) (x1 : Int32), KX4023 x0 x1) : ∀ (n : Nat) (w0 : S_) (w1 : Int32) (w2 : Int32), wM_keep_L297 a KX4023 n w0 w1 w2 := by
  intro n
  induction n with
  | zero => intro w0 w1 w2; trivial
  | succ n ih =>
    intro w0 w1 w2
    rw [wM_keep_L297]
    repeat' (first | (with_reducible exact hKX402 _ _) | (with_reducible exact ih _ _ _) | (with_reducible refine wa_M_keep_J334 ?_ ?_) | (with_reducible refine wa_M_least ?_) | (with_reducible refine And.intro ?_ ?_) | (with_reducible intro _))
theorem wa_M_keep_L287 {a : L_} {KX4083 : S_ → Prop} (hKX408 : ∀ (x0 : S_), KX4083 x0) : ∀ (n : Nat) (w0 : S_) (w1 : Int32), wM_keep_L287 a KX4083 n w0 w1 := by
  intro n
  induction n with
  | zero => intro w0 w1; trivial
  | succ n ih =>
    intro w0 w1
    rw [wM_keep_L287]
    repeat' (first | (with_reducible exact hKX408 _) | (with_reducible exact ih _ _) | (with_reducible refine wa_M_keep_L297 ?_ _ _ _ _) | (with_reducible refine And.intro ?_ ?_) | (with_reducible intro _))
theorem wa_M_keep {a : L_} {K3 : S_ → Prop} {r : S_} (hK : ∀ (x0 : S_), K3 x0) : wM_keep a K3 r := by
  unfold wM_keep
  repeat' (first | (with_reducible exact hK _) | (with_reducible refine wa_M_find ?_) | (with_reducible refine wa_M_keep_L16 ?_ _ _ _) | (with_reducible refine wa_M_keep_L116 ?_ _ _ _) | (with_reducible refine wa_M_number ?_) | (with_reducible refine wa_M_keep_L287 ?_ _ _ _) | (with_reducible refine And.intro ?_ ?_) | (with_reducible intro _))
theorem wa_M_infer_J167 {a : L_} {KB1283 : S_ → Int32 → Prop} {KX1763 : S_ → Prop} {r : S_} {v2 : Int32} {u0 : Int32} (hKB128 : ∀ (x0 : S_) (x1 : Int32), KB1283 x0 x1) (hKX176 : ∀ (x0 : S_), KX1763 x0) : wM_infer_J167 a KB1283 KX1763 r v2 u0 := by
  unfold wM_infer_J167
  repeat' (first | (with_reducible exact hKB128 _ _) | (with_reducible exact hKX176 _) | (with_reducible refine And.intro ?_ ?_) | (with_reducible intro _))
theorem wa_M_infer_J162 {a : L_} {KB1283 : S_ → Int32 → Prop} {KX1763 : S_ → Prop} {r : S_} {v2 : Int32} (hKB128 : ∀ (x0 : S_) (x1 : Int32), KB1283 x0 x1) (hKX176 : ∀ (x0 : S_), KX1763 x0) : wM_infer_J162 a KB1283 KX1763 r v2 := by
  unfold wM_infer_J162
  repeat' (first | (with_reducible exact hKB128 _ _) | (with_reducible exact hKX176 _) | (with_reducible refine wa_M_infer_J167 ?_ ?_) | (with_reducible refine And.intro ?_ ?_) | (with_reducible intro _))
theorem wa_M_infer_L128 {a : L_} {KX1763 : S_ → Prop} (hKX176 : ∀ (x0 : S_), KX1763 x0) : ∀ (n : Nat) (w0 : S_) (w1 : Int32), wM_infer_L128 a KX1763 n w0 w1 := by
  intro n
  induction n with
  | zero => intro w0 w1; trivial
  | succ n ih =>
    intro w0 w1
    rw [wM_infer_L128]
    repeat' (first | (with_reducible exact hKX176 _) | (with_reducible exact ih _ _) | (with_reducible refine wa_M_infer_J162 ?_ ?_) | (with_reducible refine wa_M_infer_J167 ?_ ?_) | (with_reducible refine And.intro ?_ ?_) | (with_reducible intro _))
theorem wa_M_infer {a : L_} {K3 : Int32 → S_ → Prop} {r : S_} {p0 : Int32} (hK : ∀ (x0 : Int32) (x1 : S_), K3 x0 x1) : wM_infer a K3 r p0 := by
  unfold wM_infer
  repeat' (first | (with_reducible exact hK _ _) | (with_reducible refine wa_M_isExpression ?_) | (with_reducible refine wa_M_spread ?_) | (with_reducible refine wa_M_typeAll ?_) | (with_reducible refine wa_M_needNoRing ?_) | (with_reducible refine wa_M_drive ?_) | (with_reducible refine wa_M_takeNeeds ?_) | (with_reducible refine wa_M_reach ?_) | (with_reducible refine wa_M_infer_L128 ?_ _ _ _) | (with_reducible refine wa_M_keep ?_) | (with_reducible refine And.intro ?_ ?_) | (with_reducible intro _))
theorem wa_J_fill_L5 {a : L_} {m0 : Nat} {KX203 : S_ → Prop} (hKX20 : ∀ (x0 : S_), KX203 x0) : ∀ (n : Nat) (w0 : S_) (w1 : Int32) (w2 : Int32) (w3 : Int32), wJ_fill_L5 a m0 KX203 n w0 w1 w2 w3 := by
  intro n
  induction n with
  | zero => intro w0 w1 w2 w3; trivial
  | succ n ih =>
    intro w0 w1 w2 w3
    rw [wJ_fill_L5]
    repeat' (first | (with_reducible exact hKX20 _) | (with_reducible exact ih _ _ _ _) | (with_reducible refine And.intro ?_ ?_) | (with_reducible intro _))
theorem wa_J_fill {a : L_} {m0 : Nat} {K3 : S_ → Prop} {r : S_} {p1 : Int32} (hK : ∀ (x0 : S_), K3 x0) : wJ_fill a m0 K3 r p1 := by
  unfold wJ_fill
  repeat' (first | (with_reducible exact hK _) | (with_reducible refine wa_J_fill_L5 ?_ _ _ _ _ _) | (with_reducible refine And.intro ?_ ?_) | (with_reducible intro _))
theorem wa_G_grow {K3 : L_ → S_ → Prop} {a0 : L_} {r : S_} {p0 : Int32} (hK : ∀ (x0 : L_) (x1 : S_), K3 x0 x1) : wG_grow K3 a0 r p0 := by
  unfold wG_grow
  repeat' (first | (with_reducible exact hK _ _) | (with_reducible refine And.intro ?_ ?_) | (with_reducible intro _))
theorem wa_G_newNode_J40 {K3 : Int32 → L_ → S_ → Prop} {a : L_} {r : S_} {v1 : Int32} {v2 : Int32} {v3 : Int32} (hK : ∀ (x0 : Int32) (x1 : L_) (x2 : S_), K3 x0 x1 x2) : wG_newNode_J40 K3 a r v1 v2 v3 := by
  unfold wG_newNode_J40
  repeat' (first | (with_reducible exact hK _ _ _) | (with_reducible refine And.intro ?_ ?_) | (with_reducible intro _))
theorem wa_G_newNode {K3 : Int32 → L_ → S_ → Prop} {a0 : L_} {r : S_} {p0 : Int32} {p1 : Int32} {p2 : Int32} (hK : ∀ (x0 : Int32) (x1 : L_) (x2 : S_), K3 x0 x1 x2) : wG_newNode K3 a0 r p0 p1 p2 := by
  unfold wG_newNode
  repeat' (first | (with_reducible exact hK _ _ _) | (with_reducible refine wa_G_newNode_J40 ?_) | (with_reducible refine wa_G_grow ?_) | (with_reducible refine And.intro ?_ ?_) | (with_reducible intro _))
theorem wa_G_copyOf_J92 {KB113 : L_ → S_ → Int32 → Int32 → Prop} {KX983 : L_ → S_ → Int32 → Prop} {a : L_} {r : S_} {v1 : Int32} {v2 : Int32} (hKB11 : ∀ (x0 : L_) (x1 : S_) (x2 : Int32) (x3 : Int32), KB113 x0 x1 x2 x3) (hKX98 : ∀ (x0 : L_) (x1 : S_) (x2 : Int32), KX983 x0 x1 x2) : wG_copyOf_J92 KB113 KX983 a r v1 v2 := by
  unfold wG_copyOf_J92
  repeat' (first | (with_reducible exact hKB11 _ _ _ _) | (with_reducible exact hKX98 _ _ _) | (with_reducible refine And.intro ?_ ?_) | (with_reducible intro _))
theorem wa_G_copyOf_L11 {KX983 : L_ → S_ → Int32 → Prop} (hKX98 : ∀ (x0 : L_) (x1 : S_) (x2 : Int32), KX983 x0 x1 x2) : ∀ (n : Nat) (w0 : L_) (w1 : S_) (w4 : Int32) (w5 : Int32), wG_copyOf_L11 KX983 n w0 w1 w4 w5 := by
  intro n
  induction n with
  | zero => intro w0 w1 w4 w5; trivial
  | succ n ih =>
    intro w0 w1 w4 w5
    rw [wG_copyOf_L11]
    repeat' (first | (with_reducible exact hKX98 _ _ _) | (with_reducible exact ih _ _ _ _) | (with_reducible refine wa_G_copyOf_J92 ?_ ?_) | (with_reducible refine wa_G_valueOf ?_) | (with_reducible refine wa_G_newNode ?_) | (with_reducible refine And.intro ?_ ?_) | (with_reducible intro _))
theorem wa_G_copyOf {K3 : Int32 → L_ → S_ → Prop} {a0 : L_} {r : S_} {p0 : Int32} (hK : ∀ (x0 : Int32) (x1 : L_) (x2 : S_), K3 x0 x1 x2) : wG_copyOf K3 a0 r p0 := by
  unfold wG_copyOf
  repeat' (first | (with_reducible exact hK _ _ _) | (with_reducible refine wa_G_startWalk ?_) | (with_reducible refine wa_G_walk ?_) | (with_reducible refine wa_G_copyOf_L11 ?_ _ _ _ _ _) | (with_reducible refine wa_G_valueOf ?_) | (with_reducible refine And.intro ?_ ?_) | (with_reducible intro _))
theorem wa_D_restart_J54 {K3 : L_ → S_ → Prop} {a : L_} {r : S_} {v2 : Int32} (hK : ∀ (x0 : L_) (x1 : S_), K3 x0 x1) : wD_restart_J54 K3 a r v2 := by
  unfold wD_restart_J54
  repeat' (first | (with_reducible exact hK _ _) | (with_reducible refine And.intro ?_ ?_) | (with_reducible intro _))
theorem wa_D_restart {K3 : L_ → S_ → Prop} {a0 : L_} {r : S_} {p0 : Int32} {p1 : Int32} (hK : ∀ (x0 : L_) (x1 : S_), K3 x0 x1) : wD_restart K3 a0 r p0 p1 := by
  unfold wD_restart
  repeat' (first | (with_reducible exact hK _ _) | (with_reducible refine wa_D_restart_J54 ?_) | (with_reducible refine And.intro ?_ ?_) | (with_reducible intro _))
theorem wa_Y_typeOfName_L7 {KX243 : L_ → S_ → Int32 → Prop} {KX763 : L_ → S_ → Prop} (hKX24 : ∀ (x0 : L_) (x1 : S_) (x2 : Int32), KX243 x0 x1 x2) (hKX76 : ∀ (x0 : L_) (x1 : S_), KX763 x0 x1) : ∀ (n : Nat) (w0 : L_) (w1 : S_) (w4 : Int32) (w5 : Int32), wY_typeOfName_L7 KX243 KX763 n w0 w1 w4 w5 := by
  intro n
  induction n with
  | zero => intro w0 w1 w4 w5; trivial
  | succ n ih =>
    intro w0 w1 w4 w5
    rw [wY_typeOfName_L7]
    repeat' (first | (with_reducible exact hKX24 _ _ _) | (with_reducible exact hKX76 _ _) | (with_reducible exact ih _ _ _ _) | (with_reducible refine And.intro ?_ ?_) | (with_reducible intro _))
theorem wa_Y_typeOfName {K3 : Int32 → L_ → S_ → Prop} {a0 : L_} {r : S_} {p0 : Int32} (hK : ∀ (x0 : Int32) (x1 : L_) (x2 : S_), K3 x0 x1 x2) : wY_typeOfName K3 a0 r p0 := by
  unfold wY_typeOfName
  repeat' (first | (with_reducible exact hK _ _ _) | (with_reducible refine wa_Y_typeOfName_L7 ?_ ?_ _ _ _ _ _) | (with_reducible refine wa_G_copyOf ?_) | (with_reducible refine wa_G_newNode ?_) | (with_reducible refine And.intro ?_ ?_) | (with_reducible intro _))
theorem wa_Y_tell_J136 {KB353 : L_ → S_ → Int32 → Prop} {KX1523 : L_ → S_ → Prop} {a : L_} {r : S_} {v2 : Int32} {v3 : Int32} (hKB35 : ∀ (x0 : L_) (x1 : S_) (x2 : Int32), KB353 x0 x1 x2) (hKX152 : ∀ (x0 : L_) (x1 : S_), KX1523 x0 x1) : wY_tell_J136 KB353 KX1523 a r v2 v3 := by
  unfold wY_tell_J136
  repeat' (first | (with_reducible exact hKB35 _ _ _) | (with_reducible exact hKX152 _ _) | (with_reducible refine And.intro ?_ ?_) | (with_reducible intro _))
theorem wa_Y_tell_L35 {KX1523 : L_ → S_ → Prop} (hKX152 : ∀ (x0 : L_) (x1 : S_), KX1523 x0 x1) : ∀ (n : Nat) (w0 : L_) (w1 : S_) (w4 : Int32), wY_tell_L35 KX1523 n w0 w1 w4 := by
  intro n
  induction n with
  | zero => intro w0 w1 w4; trivial
  | succ n ih =>
    intro w0 w1 w4
    rw [wY_tell_L35]
    repeat' (first | (with_reducible exact hKX152 _ _) | (with_reducible exact ih _ _ _) | (with_reducible refine wa_G_isVariable ?_) | (with_reducible refine wa_G_valueOf ?_) | (with_reducible refine wa_D_addBuilt ?_) | (with_reducible refine wa_Y_tell_J136 ?_ ?_) | (with_reducible refine wa_D_addVariable ?_) | (with_reducible refine And.intro ?_ ?_) | (with_reducible intro _))
theorem wa_Y_tell {K3 : L_ → S_ → Prop} {a0 : L_} {r : S_} (hK : ∀ (x0 : L_) (x1 : S_), K3 x0 x1) : wY_tell K3 a0 r := by
  unfold wY_tell
  repeat' (first | (with_reducible exact hK _ _) | (with_reducible refine wa_G_startWalk ?_) | (with_reducible refine wa_G_walk ?_) | (with_reducible refine wa_D_restart ?_) | (with_reducible refine wa_Y_tell_L35 ?_ _ _ _ _) | (with_reducible refine And.intro ?_ ?_) | (with_reducible intro _))
theorem wa_Y_writeOut_B_J113 {T3 : (Int32 → L_ → S_ → Prop) → L_ → S_ → Int32 → Prop} {K3 : Int32 → L_ → S_ → Prop} {a : L_} {r : S_} {v2 : Int32} {v5 : Int32} {u0 : Int32} (hT : ∀ (K3 : Int32 → L_ → S_ → Prop), (∀ x y z, K3 x y z) → ∀ a r e, T3 K3 a r e) (hK : ∀ (x0 : Int32) (x1 : L_) (x2 : S_), K3 x0 x1 x2) : wY_writeOut_B_J113 T3 K3 a r v2 v5 u0 := by
  unfold wY_writeOut_B_J113
  repeat' (first | (with_reducible exact hT) | (with_reducible refine hT _ ?_ _ _ _) | (with_reducible exact hK _ _ _) | (with_reducible refine wa_G_newNode ?_) | (with_reducible refine And.intro ?_ ?_) | (with_reducible intro _))
theorem wa_Y_writeOut_B_J95 {T3 : (Int32 → L_ → S_ → Prop) → L_ → S_ → Int32 → Prop} {K3 : Int32 → L_ → S_ → Prop} {a : L_} {r : S_} {v2 : Int32} {v4 : Int32} {u0 : Int32} (hT : ∀ (K3 : Int32 → L_ → S_ → Prop), (∀ x y z, K3 x y z) → ∀ a r e, T3 K3 a r e) (hK : ∀ (x0 : Int32) (x1 : L_) (x2 : S_), K3 x0 x1 x2) : wY_writeOut_B_J95 T3 K3 a r v2 v4 u0 := by
  unfold wY_writeOut_B_J95
  repeat' (first | (with_reducible exact hT) | (with_reducible refine hT _ ?_ _ _ _) | (with_reducible exact hK _ _ _) | (with_reducible refine wa_Y_writeOut_B_J113 ?_ ?_) | (with_reducible refine And.intro ?_ ?_) | (with_reducible intro _))
theorem wa_Y_writeOut_B_J52 {T3 : (Int32 → L_ → S_ → Prop) → L_ → S_ → Int32 → Prop} {K3 : Int32 → L_ → S_ → Prop} {a : L_} {r : S_} {v3 : Int32} {u0 : Int32} {u1 : Int32} (hT : ∀ (K3 : Int32 → L_ → S_ → Prop), (∀ x y z, K3 x y z) → ∀ a r e, T3 K3 a r e) (hK : ∀ (x0 : Int32) (x1 : L_) (x2 : S_), K3 x0 x1 x2) : wY_writeOut_B_J52 T3 K3 a r v3 u0 u1 := by
  unfold wY_writeOut_B_J52
  repeat' (first | (with_reducible exact hT) | (with_reducible refine hT _ ?_ _ _ _) | (with_reducible exact hK _ _ _) | (with_reducible refine And.intro ?_ ?_) | (with_reducible intro _))
theorem wa_Y_writeOut_B {T3 : (Int32 → L_ → S_ → Prop) → L_ → S_ → Int32 → Prop} {K3 : Int32 → L_ → S_ → Prop} {a0 : L_} {r : S_} {p0 : Int32} (hT : ∀ (K3 : Int32 → L_ → S_ → Prop), (∀ x y z, K3 x y z) → ∀ a r e, T3 K3 a r e) (hK : ∀ (x0 : Int32) (x1 : L_) (x2 : S_), K3 x0 x1 x2) : wY_writeOut_B T3 K3 a0 r p0 := by
  unfold wY_writeOut_B
  repeat' (first | (with_reducible exact hT) | (with_reducible refine hT _ ?_ _ _ _) | (with_reducible exact hK _ _ _) | (with_reducible refine wa_Y_writeOut_B_J95 ?_ ?_) | (with_reducible refine wa_Y_writeOut_B_J52 ?_ ?_) | (with_reducible refine wa_G_newNode ?_) | (with_reducible refine And.intro ?_ ?_) | (with_reducible intro _))
theorem wa_Y_writeOut : ∀ (d : Nat) {K3 : Int32 → L_ → S_ → Prop} (hK : ∀ x y z, K3 x y z) (a : L_) (r : S_) (p0 : Int32), wY_writeOut d K3 a r p0 := by
  intro d
  induction d with
  | zero => intro K3 hK a r p0; trivial
  | succ d ih =>
    intro K3 hK a r p0
    rw [wY_writeOut]
    exact wa_Y_writeOut_B (fun _ h a r e => ih h a r e) hK
theorem wa_Y_freshCopy {K3 : Int32 → L_ → S_ → Prop} {a0 : L_} {r : S_} {p0 : Int32} (hK : ∀ (x0 : Int32) (x1 : L_) (x2 : S_), K3 x0 x1 x2) : wY_freshCopy K3 a0 r p0 := by
  unfold wY_freshCopy
  repeat' (first | (with_reducible exact hK _ _ _) | (with_reducible refine wa_J_fill ?_) | (with_reducible refine wa_Y_writeOut _ ?_ _ _ _) | (with_reducible refine And.intro ?_ ?_) | (with_reducible intro _))
theorem wa_Y_typeOfMethod_J43 {K3 : Int32 → L_ → S_ → Prop} {a : L_} {r : S_} {v2 : Int32} (hK : ∀ (x0 : Int32) (x1 : L_) (x2 : S_), K3 x0 x1 x2) : wY_typeOfMethod_J43 K3 a r v2 := by
  unfold wY_typeOfMethod_J43
  repeat' (first | (with_reducible exact hK _ _ _) | (with_reducible refine And.intro ?_ ?_) | (with_reducible intro _))
theorem wa_Y_typeOfMethod {K3 : Int32 → L_ → S_ → Prop} {a0 : L_} {r : S_} {p0 : Int32} (hK : ∀ (x0 : Int32) (x1 : L_) (x2 : S_), K3 x0 x1 x2) : wY_typeOfMethod K3 a0 r p0 := by
  unfold wY_typeOfMethod
  repeat' (first | (with_reducible exact hK _ _ _) | (with_reducible refine wa_K_methodOf ?_) | (with_reducible refine wa_Y_freshCopy ?_) | (with_reducible refine wa_Y_typeOfMethod_J43 ?_) | (with_reducible refine And.intro ?_ ?_) | (with_reducible intro _))
theorem wa_Y_typeOfLambda {T3 : (Int32 → L_ → S_ → Prop) → L_ → S_ → Int32 → Prop} {K3 : Int32 → L_ → S_ → Prop} {a0 : L_} {r : S_} {p0 : Int32} {p1 : Int32} (hT : ∀ (K3 : Int32 → L_ → S_ → Prop), (∀ x y z, K3 x y z) → ∀ a r e, T3 K3 a r e) (hK : ∀ (x0 : Int32) (x1 : L_) (x2 : S_), K3 x0 x1 x2) : wY_typeOfLambda T3 K3 a0 r p0 p1 := by
  unfold wY_typeOfLambda
  repeat' (first | (with_reducible exact hT) | (with_reducible refine hT _ ?_ _ _ _) | (with_reducible exact hK _ _ _) | (with_reducible refine wa_G_newNode ?_) | (with_reducible refine wa_Y_enter ?_) | (with_reducible refine wa_Y_leave ?_) | (with_reducible refine And.intro ?_ ?_) | (with_reducible intro _))
theorem wa_Y_typeOfApply {T3 : (Int32 → L_ → S_ → Prop) → L_ → S_ → Int32 → Prop} {K3 : Int32 → L_ → S_ → Prop} {a0 : L_} {r : S_} {p0 : Int32} {p1 : Int32} (hT : ∀ (K3 : Int32 → L_ → S_ → Prop), (∀ x y z, K3 x y z) → ∀ a r e, T3 K3 a r e) (hK : ∀ (x0 : Int32) (x1 : L_) (x2 : S_), K3 x0 x1 x2) : wY_typeOfApply T3 K3 a0 r p0 p1 := by
  unfold wY_typeOfApply
  repeat' (first | (with_reducible exact hT) | (with_reducible refine hT _ ?_ _ _ _) | (with_reducible exact hK _ _ _) | (with_reducible refine wa_G_newNode ?_) | (with_reducible refine wa_G_unify ?_) | (with_reducible refine And.intro ?_ ?_) | (with_reducible intro _))
theorem wa_Y_typeOfLet {T3 : (Int32 → L_ → S_ → Prop) → L_ → S_ → Int32 → Prop} {K3 : Int32 → L_ → S_ → Prop} {a0 : L_} {r : S_} {p0 : Int32} {p1 : Int32} {p2 : Int32} (hT : ∀ (K3 : Int32 → L_ → S_ → Prop), (∀ x y z, K3 x y z) → ∀ a r e, T3 K3 a r e) (hK : ∀ (x0 : Int32) (x1 : L_) (x2 : S_), K3 x0 x1 x2) : wY_typeOfLet T3 K3 a0 r p0 p1 p2 := by
  unfold wY_typeOfLet
  repeat' (first | (with_reducible exact hT) | (with_reducible refine hT _ ?_ _ _ _) | (with_reducible exact hK _ _ _) | (with_reducible refine wa_Y_settle ?_) | (with_reducible refine wa_Y_enter ?_) | (with_reducible refine wa_Y_leave ?_) | (with_reducible refine And.intro ?_ ?_) | (with_reducible intro _))
theorem wa_Y_typeOf_B {T3 : (Int32 → L_ → S_ → Prop) → L_ → S_ → Int32 → Prop} {K3 : Int32 → L_ → S_ → Prop} {a0 : L_} {r : S_} {p0 : Int32} (hT : ∀ (K3 : Int32 → L_ → S_ → Prop), (∀ x y z, K3 x y z) → ∀ a r e, T3 K3 a r e) (hK : ∀ (x0 : Int32) (x1 : L_) (x2 : S_), K3 x0 x1 x2) : wY_typeOf_B T3 K3 a0 r p0 := by
  unfold wY_typeOf_B
  repeat' (first | (with_reducible exact hT) | (with_reducible refine hT _ ?_ _ _ _) | (with_reducible exact hK _ _ _) | (with_reducible refine wa_Y_typeOfLambda ?_ ?_) | (with_reducible refine wa_Y_typeOfApply ?_ ?_) | (with_reducible refine wa_Y_typeOfLet ?_ ?_) | (with_reducible refine wa_Y_typeOfMethod ?_) | (with_reducible refine wa_Y_freshCopy ?_) | (with_reducible refine wa_Y_typeOfName ?_) | (with_reducible refine And.intro ?_ ?_) | (with_reducible intro _))
theorem wa_Y_typeOf : ∀ (d : Nat) {K3 : Int32 → L_ → S_ → Prop} (hK : ∀ x y z, K3 x y z) (a : L_) (r : S_) (p0 : Int32), wY_typeOf d K3 a r p0 := by
  intro d
  induction d with
  | zero => intro K3 hK a r p0; trivial
  | succ d ih =>
    intro K3 hK a r p0
    rw [wY_typeOf]
    exact wa_Y_typeOf_B (fun _ h a r e => ih h a r e) hK
theorem wa_Y_run {K3 : Int32 → L_ → S_ → Prop} {a0 : L_} {r : S_} {p0 : Int32} (hK : ∀ (x0 : Int32) (x1 : L_) (x2 : S_), K3 x0 x1 x2) : wY_run K3 a0 r p0 := by
  unfold wY_run
  repeat' (first | (with_reducible exact hK _ _ _) | (with_reducible refine wa_G_clear ?_) | (with_reducible refine wa_Y_typeOf _ ?_ _ _ _) | (with_reducible refine wa_Y_settle ?_) | (with_reducible refine wa_G_isCircular ?_) | (with_reducible refine And.intro ?_ ?_) | (with_reducible intro _))
theorem wa_I_infer {K3 : Int32 → L_ → S_ → Prop} {a0 : L_} {r : S_} {p0 : Int32} (hK : ∀ (x0 : Int32) (x1 : L_) (x2 : S_), K3 x0 x1 x2) : wI_infer K3 a0 r p0 := by
  unfold wI_infer
  repeat' (first | (with_reducible exact hK _ _ _) | (with_reducible refine wa_E_has ?_) | (with_reducible refine wa_E_nodesOf ?_) | (with_reducible refine wa_Y_run ?_) | (with_reducible refine wa_Y_tell ?_) | (with_reducible refine wa_D_nodes ?_) | (with_reducible refine And.intro ?_ ?_) | (with_reducible intro _))
end WA
