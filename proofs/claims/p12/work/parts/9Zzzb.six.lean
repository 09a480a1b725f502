/-! Settling leaves the number of settlings alone. -/
section ZSIX
theorem w6_G_settled_L4 {c6 : Int32} {a : L_} {KX36 : S_ → Int32 → Int32 → Prop} (hKX36 : ∀ (x0 : S_) (x1 : Int32) (x2 : Int32), fi x0 6 = c6 → KX36 x0 x1 x2) : ∀ (n : Nat) (w0 : S_) (w1 : Int32) (w2 : Int32) (w3 : Int32), fi w0 6 = c6 → wG_settled_L4 a KX36 n w0 w1 w2 w3 := by
  intro n
  induction n with
  | zero => intro w0 w1 w2 w3 _; trivial
  | succ n ih =>
    intro w0 w1 w2 w3 h6
    rw [wG_settled_L4]
    repeat' (first | ((with_reducible show fi _ 6 = c6); first | assumption | (subst_vars; assumption) | (subst_vars; rfl) | (subst_vars; simp only [fi_sF, fi_sA, Nat.reduceEqDiff, reduceIte]; assumption)) | (with_reducible refine hKX36 _ _ _ ?_) | (with_reducible refine ih _ _ _ _ ?_) | (with_reducible refine And.intro ?_ ?_) | (with_reducible intro _))
theorem w6_G_settled_J36 {c6 : Int32} {a : L_} {K : Int32 → S_ → Prop} {r : S_} {v1 : Int32} {v2 : Int32} (h6 : fi r 6 = c6) (hK : ∀ (x0 : Int32) (x1 : S_), fi x1 6 = c6 → K x0 x1) : wG_settled_J36 a K r v1 v2 := by
  unfold wG_settled_J36
  repeat' (first | ((with_reducible show fi _ 6 = c6); first | assumption | (subst_vars; assumption) | (subst_vars; rfl) | (subst_vars; simp only [fi_sF, fi_sA, Nat.reduceEqDiff, reduceIte]; assumption)) | (with_reducible refine hK _ _ ?_) | (with_reducible refine And.intro ?_ ?_) | (with_reducible intro _))
theorem w6_G_settled {c6 : Int32} {a : L_} {K : Int32 → S_ → Prop} {r : S_} {p0 : Int32} (h6 : fi r 6 = c6) (hK : ∀ (x0 : Int32) (x1 : S_), fi x1 6 = c6 → K x0 x1) : wG_settled a K r p0 := by
  unfold wG_settled
  repeat' (first | ((with_reducible show fi _ 6 = c6); first | assumption | (subst_vars; assumption) | (subst_vars; rfl) | (subst_vars; simp only [fi_sF, fi_sA, Nat.reduceEqDiff, reduceIte]; assumption)) | (with_reducible refine hK _ _ ?_) | (with_reducible refine w6_G_settled_L4 (c6 := c6) ?_ _ _ _ _ _ ?_) | (with_reducible refine w6_G_settled_J36 (c6 := c6) ?_ ?_) | (with_reducible refine And.intro ?_ ?_) | (with_reducible intro _))
theorem w6_G_push {c6 : Int32} {a : L_} {K : S_ → Prop} {r : S_} {p0 : Int32} (h6 : fi r 6 = c6) (hK : ∀ (x0 : S_), fi x0 6 = c6 → K x0) : wG_push a K r p0 := by
  unfold wG_push
  repeat' (first | ((with_reducible show fi _ 6 = c6); first | assumption | (subst_vars; assumption) | (subst_vars; rfl) | (subst_vars; simp only [fi_sF, fi_sA, Nat.reduceEqDiff, reduceIte]; assumption)) | (with_reducible refine hK _ ?_) | (with_reducible refine And.intro ?_ ?_) | (with_reducible intro _))
theorem w6_G_startWalk {c6 : Int32} {a : L_} {K : S_ → Prop} {r : S_} (h6 : fi r 6 = c6) (hK : ∀ (x0 : S_), fi x0 6 = c6 → K x0) : wG_startWalk a K r := by
  unfold wG_startWalk
  repeat' (first | ((with_reducible show fi _ 6 = c6); first | assumption | (subst_vars; assumption) | (subst_vars; rfl) | (subst_vars; simp only [fi_sF, fi_sA, Nat.reduceEqDiff, reduceIte]; assumption)) | (with_reducible refine hK _ ?_) | (with_reducible refine And.intro ?_ ?_) | (with_reducible intro _))
theorem w6_G_walk_J166 {c6 : Int32} {a : L_} {KB16 : S_ → Int32 → Prop} {KX172 : S_ → Prop} {r : S_} {v2 : Int32} (h6 : fi r 6 = c6) (hKB16 : ∀ (x0 : S_) (x1 : Int32), fi x0 6 = c6 → KB16 x0 x1) (hKX172 : ∀ (x0 : S_), fi x0 6 = c6 → KX172 x0) : wG_walk_J166 a KB16 KX172 r v2 := by
  unfold wG_walk_J166
  repeat' (first | ((with_reducible show fi _ 6 = c6); first | assumption | (subst_vars; assumption) | (subst_vars; rfl) | (subst_vars; simp only [fi_sF, fi_sA, Nat.reduceEqDiff, reduceIte]; assumption)) | (with_reducible refine hKB16 _ _ ?_) | (with_reducible refine hKX172 _ ?_) | (with_reducible refine And.intro ?_ ?_) | (with_reducible intro _))
theorem w6_G_walk_J142 {c6 : Int32} {a : L_} {KB16 : S_ → Int32 → Prop} {KX172 : S_ → Prop} {r : S_} {v2 : Int32} {v3 : Int32} (h6 : fi r 6 = c6) (hKB16 : ∀ (x0 : S_) (x1 : Int32), fi x0 6 = c6 → KB16 x0 x1) (hKX172 : ∀ (x0 : S_), fi x0 6 = c6 → KX172 x0) : wG_walk_J142 a KB16 KX172 r v2 v3 := by
  unfold wG_walk_J142
  repeat' (first | ((with_reducible show fi _ 6 = c6); first | assumption | (subst_vars; assumption) | (subst_vars; rfl) | (subst_vars; simp only [fi_sF, fi_sA, Nat.reduceEqDiff, reduceIte]; assumption)) | (with_reducible refine hKB16 _ _ ?_) | (with_reducible refine hKX172 _ ?_) | (with_reducible refine w6_G_walk_J166 (c6 := c6) ?_ ?_ ?_) | (with_reducible refine w6_G_settled (c6 := c6) ?_ ?_) | (with_reducible refine w6_G_push (c6 := c6) ?_ ?_) | (with_reducible refine And.intro ?_ ?_) | (with_reducible intro _))
theorem w6_G_walk_L16 {c6 : Int32} {a : L_} {KX172 : S_ → Prop} (hKX172 : ∀ (x0 : S_), fi x0 6 = c6 → KX172 x0) : ∀ (n : Nat) (w0 : S_) (w1 : Int32), fi w0 6 = c6 → wG_walk_L16 a KX172 n w0 w1 := by
  intro n
  induction n with
  | zero => intro w0 w1 _; trivial
  | succ n ih =>
    intro w0 w1 h6
    rw [wG_walk_L16]
    repeat' (first | ((with_reducible show fi _ 6 = c6); first | assumption | (subst_vars; assumption) | (subst_vars; rfl) | (subst_vars; simp only [fi_sF, fi_sA, Nat.reduceEqDiff, reduceIte]; assumption)) | (with_reducible refine hKX172 _ ?_) | (with_reducible refine ih _ _ ?_) | (with_reducible refine w6_G_push (c6 := c6) ?_ ?_) | (with_reducible refine w6_G_walk_J142 (c6 := c6) ?_ ?_ ?_) | (with_reducible refine w6_G_settled (c6 := c6) ?_ ?_) | (with_reducible refine w6_G_walk_J166 (c6 := c6) ?_ ?_ ?_) | (with_reducible refine And.intro ?_ ?_) | (with_reducible intro _))
theorem w6_G_walk {c6 : Int32} {a : L_} {K : S_ → Prop} {r : S_} {p0 : Int32} (h6 : fi r 6 = c6) (hK : ∀ (x0 : S_), fi x0 6 = c6 → K x0) : wG_walk a K r p0 := by
  unfold wG_walk
  repeat' (first | ((with_reducible show fi _ 6 = c6); first | assumption | (subst_vars; assumption) | (subst_vars; rfl) | (subst_vars; simp only [fi_sF, fi_sA, Nat.reduceEqDiff, reduceIte]; assumption)) | (with_reducible refine hK _ ?_) | (with_reducible refine w6_G_settled (c6 := c6) ?_ ?_) | (with_reducible refine w6_G_push (c6 := c6) ?_ ?_) | (with_reducible refine w6_G_walk_L16 (c6 := c6) ?_ _ _ _ ?_) | (with_reducible refine And.intro ?_ ?_) | (with_reducible intro _))
theorem w6_Y_markBound_J40 {c6 : Int32} {a : L_} {KB9 : S_ → Int32 → Prop} {KX46 : S_ → Prop} {r : S_} {v1 : Int32} (h6 : fi r 6 = c6) (hKB9 : ∀ (x0 : S_) (x1 : Int32), fi x0 6 = c6 → KB9 x0 x1) (hKX46 : ∀ (x0 : S_), fi x0 6 = c6 → KX46 x0) : wY_markBound_J40 a KB9 KX46 r v1 := by
  unfold wY_markBound_J40
  repeat' (first | ((with_reducible show fi _ 6 = c6); first | assumption | (subst_vars; assumption) | (subst_vars; rfl) | (subst_vars; simp only [fi_sF, fi_sA, Nat.reduceEqDiff, reduceIte]; assumption)) | (with_reducible refine hKB9 _ _ ?_) | (with_reducible refine hKX46 _ ?_) | (with_reducible refine And.intro ?_ ?_) | (with_reducible intro _))
theorem w6_Y_markBound_L9 {c6 : Int32} {a : L_} {KX46 : S_ → Prop} (hKX46 : ∀ (x0 : S_), fi x0 6 = c6 → KX46 x0) : ∀ (n : Nat) (w0 : S_) (w1 : Int32), fi w0 6 = c6 → wY_markBound_L9 a KX46 n w0 w1 := by
  intro n
  induction n with
  | zero => intro w0 w1 _; trivial
  | succ n ih =>
    intro w0 w1 h6
    rw [wY_markBound_L9]
    repeat' (first | ((with_reducible show fi _ 6 = c6); first | assumption | (subst_vars; assumption) | (subst_vars; rfl) | (subst_vars; simp only [fi_sF, fi_sA, Nat.reduceEqDiff, reduceIte]; assumption)) | (with_reducible refine hKX46 _ ?_) | (with_reducible refine ih _ _ ?_) | (with_reducible refine w6_Y_markBound_J40 (c6 := c6) ?_ ?_ ?_) | (with_reducible refine w6_G_walk (c6 := c6) ?_ ?_) | (with_reducible refine And.intro ?_ ?_) | (with_reducible intro _))
theorem w6_Y_markBound_L48 {c6 : Int32} {a : L_} {KX86 : S_ → Prop} (hKX86 : ∀ (x0 : S_), fi x0 6 = c6 → KX86 x0) : ∀ (n : Nat) (w0 : S_) (w1 : Int32), fi w0 6 = c6 → wY_markBound_L48 a KX86 n w0 w1 := by
  intro n
  induction n with
  | zero => intro w0 w1 _; trivial
  | succ n ih =>
    intro w0 w1 h6
    rw [wY_markBound_L48]
    repeat' (first | ((with_reducible show fi _ 6 = c6); first | assumption | (subst_vars; assumption) | (subst_vars; rfl) | (subst_vars; simp only [fi_sF, fi_sA, Nat.reduceEqDiff, reduceIte]; assumption)) | (with_reducible refine hKX86 _ ?_) | (with_reducible refine ih _ _ ?_) | (with_reducible refine And.intro ?_ ?_) | (with_reducible intro _))
theorem w6_Y_markBound {c6 : Int32} {a : L_} {K : S_ → Prop} {r : S_} (h6 : fi r 6 = c6) (hK : ∀ (x0 : S_), fi x0 6 = c6 → K x0) : wY_markBound a K r := by
  unfold wY_markBound
  repeat' (first | ((with_reducible show fi _ 6 = c6); first | assumption | (subst_vars; assumption) | (subst_vars; rfl) | (subst_vars; simp only [fi_sF, fi_sA, Nat.reduceEqDiff, reduceIte]; assumption)) | (with_reducible refine hK _ ?_) | (with_reducible refine w6_G_startWalk (c6 := c6) ?_ ?_) | (with_reducible refine w6_Y_markBound_L9 (c6 := c6) ?_ _ _ _ ?_) | (with_reducible refine w6_Y_markBound_L48 (c6 := c6) ?_ _ _ _ ?_) | (with_reducible refine And.intro ?_ ?_) | (with_reducible intro _))
theorem w6_G_firstOf {c6 : Int32} {a : L_} {K : Int32 → S_ → Prop} {r : S_} {p0 : Int32} (h6 : fi r 6 = c6) (hK : ∀ (x0 : Int32) (x1 : S_), fi x1 6 = c6 → K x0 x1) : wG_firstOf a K r p0 := by
  unfold wG_firstOf
  repeat' (first | ((with_reducible show fi _ 6 = c6); first | assumption | (subst_vars; assumption) | (subst_vars; rfl) | (subst_vars; simp only [fi_sF, fi_sA, Nat.reduceEqDiff, reduceIte]; assumption)) | (with_reducible refine hK _ _ ?_) | (with_reducible refine w6_G_settled (c6 := c6) ?_ ?_) | (with_reducible refine And.intro ?_ ?_) | (with_reducible intro _))
theorem w6_G_secondOf {c6 : Int32} {a : L_} {K : Int32 → S_ → Prop} {r : S_} {p0 : Int32} (h6 : fi r 6 = c6) (hK : ∀ (x0 : Int32) (x1 : S_), fi x1 6 = c6 → K x0 x1) : wG_secondOf a K r p0 := by
  unfold wG_secondOf
  repeat' (first | ((with_reducible show fi _ 6 = c6); first | assumption | (subst_vars; assumption) | (subst_vars; rfl) | (subst_vars; simp only [fi_sF, fi_sA, Nat.reduceEqDiff, reduceIte]; assumption)) | (with_reducible refine hK _ _ ?_) | (with_reducible refine w6_G_settled (c6 := c6) ?_ ?_) | (with_reducible refine And.intro ?_ ?_) | (with_reducible intro _))
theorem w6_Y_markOpen_J128 {c6 : Int32} {a : L_} {KB17 : S_ → Int32 → Prop} {KX135 : S_ → Prop} {r : S_} {v2 : Int32} {u0 : Int32} {u1 : Int32} (h6 : fi r 6 = c6) (hKB17 : ∀ (x0 : S_) (x1 : Int32), fi x0 6 = c6 → KB17 x0 x1) (hKX135 : ∀ (x0 : S_), fi x0 6 = c6 → KX135 x0) : wY_markOpen_J128 a KB17 KX135 r v2 u0 u1 := by
  unfold wY_markOpen_J128
  repeat' (first | ((with_reducible show fi _ 6 = c6); first | assumption | (subst_vars; assumption) | (subst_vars; rfl) | (subst_vars; simp only [fi_sF, fi_sA, Nat.reduceEqDiff, reduceIte]; assumption)) | (with_reducible refine hKB17 _ _ ?_) | (with_reducible refine hKX135 _ ?_) | (with_reducible refine And.intro ?_ ?_) | (with_reducible intro _))
theorem w6_Y_markOpen_J108 {c6 : Int32} {a : L_} {KB17 : S_ → Int32 → Prop} {KX135 : S_ → Prop} {r : S_} {v2 : Int32} {v3 : Int32} {u0 : Int32} (h6 : fi r 6 = c6) (hKB17 : ∀ (x0 : S_) (x1 : Int32), fi x0 6 = c6 → KB17 x0 x1) (hKX135 : ∀ (x0 : S_), fi x0 6 = c6 → KX135 x0) : wY_markOpen_J108 a KB17 KX135 r v2 v3 u0 := by
  unfold wY_markOpen_J108
  repeat' (first | ((with_reducible show fi _ 6 = c6); first | assumption | (subst_vars; assumption) | (subst_vars; rfl) | (subst_vars; simp only [fi_sF, fi_sA, Nat.reduceEqDiff, reduceIte]; assumption)) | (with_reducible refine hKB17 _ _ ?_) | (with_reducible refine hKX135 _ ?_) | (with_reducible refine w6_Y_markOpen_J128 (c6 := c6) ?_ ?_ ?_) | (with_reducible refine And.intro ?_ ?_) | (with_reducible intro _))
theorem w6_Y_markOpen_J103 {c6 : Int32} {a : L_} {KB17 : S_ → Int32 → Prop} {KX135 : S_ → Prop} {r : S_} {v2 : Int32} {v3 : Int32} (h6 : fi r 6 = c6) (hKB17 : ∀ (x0 : S_) (x1 : Int32), fi x0 6 = c6 → KB17 x0 x1) (hKX135 : ∀ (x0 : S_), fi x0 6 = c6 → KX135 x0) : wY_markOpen_J103 a KB17 KX135 r v2 v3 := by
  unfold wY_markOpen_J103
  repeat' (first | ((with_reducible show fi _ 6 = c6); first | assumption | (subst_vars; assumption) | (subst_vars; rfl) | (subst_vars; simp only [fi_sF, fi_sA, Nat.reduceEqDiff, reduceIte]; assumption)) | (with_reducible refine hKB17 _ _ ?_) | (with_reducible refine hKX135 _ ?_) | (with_reducible refine w6_Y_markOpen_J108 (c6 := c6) ?_ ?_ ?_) | (with_reducible refine And.intro ?_ ?_) | (with_reducible intro _))
theorem w6_Y_markOpen_L17 {c6 : Int32} {a : L_} {KX135 : S_ → Prop} (hKX135 : ∀ (x0 : S_), fi x0 6 = c6 → KX135 x0) : ∀ (n : Nat) (w0 : S_) (w1 : Int32), fi w0 6 = c6 → wY_markOpen_L17 a KX135 n w0 w1 := by
  intro n
  induction n with
  | zero => intro w0 w1 _; trivial
  | succ n ih =>
    intro w0 w1 h6
    rw [wY_markOpen_L17]
    repeat' (first | ((with_reducible show fi _ 6 = c6); first | assumption | (subst_vars; assumption) | (subst_vars; rfl) | (subst_vars; simp only [fi_sF, fi_sA, Nat.reduceEqDiff, reduceIte]; assumption)) | (with_reducible refine hKX135 _ ?_) | (with_reducible refine ih _ _ ?_) | (with_reducible refine wa_G_isVariable ?_) | (with_reducible refine w6_G_firstOf (c6 := c6) ?_ ?_) | (with_reducible refine wa_Y_holdsOpen ?_) | (with_reducible refine w6_Y_markOpen_J103 (c6 := c6) ?_ ?_ ?_) | (with_reducible refine w6_G_secondOf (c6 := c6) ?_ ?_) | (with_reducible refine w6_Y_markOpen_J108 (c6 := c6) ?_ ?_ ?_) | (with_reducible refine And.intro ?_ ?_) | (with_reducible intro _))
theorem w6_Y_markOpen {c6 : Int32} {a : L_} {K : S_ → Prop} {r : S_} {p0 : Int32} (h6 : fi r 6 = c6) (hK : ∀ (x0 : S_), fi x0 6 = c6 → K x0) : wY_markOpen a K r p0 := by
  unfold wY_markOpen
  repeat' (first | ((with_reducible show fi _ 6 = c6); first | assumption | (subst_vars; assumption) | (subst_vars; rfl) | (subst_vars; simp only [fi_sF, fi_sA, Nat.reduceEqDiff, reduceIte]; assumption)) | (with_reducible refine hK _ ?_) | (with_reducible refine w6_G_startWalk (c6 := c6) ?_ ?_) | (with_reducible refine w6_G_walk (c6 := c6) ?_ ?_) | (with_reducible refine w6_Y_markOpen_L17 (c6 := c6) ?_ _ _ _ ?_) | (with_reducible refine And.intro ?_ ?_) | (with_reducible intro _))
theorem w6_Y_gatherAsked_J40 {c6 : Int32} {a : L_} {KB9 : S_ → Int32 → Int32 → Prop} {KX46 : S_ → Int32 → Prop} {r : S_} {v1 : Int32} {v2 : Int32} (h6 : fi r 6 = c6) (hKB9 : ∀ (x0 : S_) (x1 : Int32) (x2 : Int32), fi x0 6 = c6 → KB9 x0 x1 x2) (hKX46 : ∀ (x0 : S_) (x1 : Int32), fi x0 6 = c6 → KX46 x0 x1) : wY_gatherAsked_J40 a KB9 KX46 r v1 v2 := by
  unfold wY_gatherAsked_J40
  repeat' (first | ((with_reducible show fi _ 6 = c6); first | assumption | (subst_vars; assumption) | (subst_vars; rfl) | (subst_vars; simp only [fi_sF, fi_sA, Nat.reduceEqDiff, reduceIte]; assumption)) | (with_reducible refine hKB9 _ _ _ ?_) | (with_reducible refine hKX46 _ _ ?_) | (with_reducible refine And.intro ?_ ?_) | (with_reducible intro _))
theorem w6_Y_gatherAsked_L9 {c6 : Int32} {a : L_} {KX46 : S_ → Int32 → Prop} (hKX46 : ∀ (x0 : S_) (x1 : Int32), fi x0 6 = c6 → KX46 x0 x1) : ∀ (n : Nat) (w0 : S_) (w1 : Int32) (w2 : Int32), fi w0 6 = c6 → wY_gatherAsked_L9 a KX46 n w0 w1 w2 := by
  intro n
  induction n with
  | zero => intro w0 w1 w2 _; trivial
  | succ n ih =>
    intro w0 w1 w2 h6
    rw [wY_gatherAsked_L9]
    repeat' (first | ((with_reducible show fi _ 6 = c6); first | assumption | (subst_vars; assumption) | (subst_vars; rfl) | (subst_vars; simp only [fi_sF, fi_sA, Nat.reduceEqDiff, reduceIte]; assumption)) | (with_reducible refine hKX46 _ _ ?_) | (with_reducible refine ih _ _ _ ?_) | (with_reducible refine w6_Y_gatherAsked_J40 (c6 := c6) ?_ ?_ ?_) | (with_reducible refine w6_G_walk (c6 := c6) ?_ ?_) | (with_reducible refine And.intro ?_ ?_) | (with_reducible intro _))
theorem w6_Y_gatherAsked_L48 {c6 : Int32} {a : L_} {KX83 : S_ → Int32 → Prop} (hKX83 : ∀ (x0 : S_) (x1 : Int32), fi x0 6 = c6 → KX83 x0 x1) : ∀ (n : Nat) (w0 : S_) (w1 : Int32) (w2 : Int32), fi w0 6 = c6 → wY_gatherAsked_L48 a KX83 n w0 w1 w2 := by
  intro n
  induction n with
  | zero => intro w0 w1 w2 _; trivial
  | succ n ih =>
    intro w0 w1 w2 h6
    rw [wY_gatherAsked_L48]
    repeat' (first | ((with_reducible show fi _ 6 = c6); first | assumption | (subst_vars; assumption) | (subst_vars; rfl) | (subst_vars; simp only [fi_sF, fi_sA, Nat.reduceEqDiff, reduceIte]; assumption)) | (with_reducible refine hKX83 _ _ ?_) | (with_reducible refine ih _ _ _ ?_) | (with_reducible refine And.intro ?_ ?_) | (with_reducible intro _))
theorem w6_Y_gatherAsked_J146 {c6 : Int32} {a : L_} {KB85 : S_ → Int32 → Prop} {KX152 : S_ → Prop} {r : S_} {v2 : Int32} (h6 : fi r 6 = c6) (hKB85 : ∀ (x0 : S_) (x1 : Int32), fi x0 6 = c6 → KB85 x0 x1) (hKX152 : ∀ (x0 : S_), fi x0 6 = c6 → KX152 x0) : wY_gatherAsked_J146 a KB85 KX152 r v2 := by
  unfold wY_gatherAsked_J146
  repeat' (first | ((with_reducible show fi _ 6 = c6); first | assumption | (subst_vars; assumption) | (subst_vars; rfl) | (subst_vars; simp only [fi_sF, fi_sA, Nat.reduceEqDiff, reduceIte]; assumption)) | (with_reducible refine hKB85 _ _ ?_) | (with_reducible refine hKX152 _ ?_) | (with_reducible refine And.intro ?_ ?_) | (with_reducible intro _))
theorem w6_Y_gatherAsked_L85 {c6 : Int32} {a : L_} {KX152 : S_ → Prop} (hKX152 : ∀ (x0 : S_), fi x0 6 = c6 → KX152 x0) : ∀ (n : Nat) (w0 : S_) (w1 : Int32), fi w0 6 = c6 → wY_gatherAsked_L85 a KX152 n w0 w1 := by
  intro n
  induction n with
  | zero => intro w0 w1 _; trivial
  | succ n ih =>
    intro w0 w1 h6
    rw [wY_gatherAsked_L85]
    repeat' (first | ((with_reducible show fi _ 6 = c6); first | assumption | (subst_vars; assumption) | (subst_vars; rfl) | (subst_vars; simp only [fi_sF, fi_sA, Nat.reduceEqDiff, reduceIte]; assumption)) | (with_reducible refine hKX152 _ ?_) | (with_reducible refine ih _ _ ?_) | (with_reducible refine w6_Y_gatherAsked_J146 (c6 := c6) ?_ ?_ ?_) | (with_reducible refine w6_G_settled (c6 := c6) ?_ ?_) | (with_reducible refine And.intro ?_ ?_) | (with_reducible intro _))
theorem w6_Y_gatherAsked {c6 : Int32} {a : L_} {K : S_ → Prop} {r : S_} {p0 : Int32} (h6 : fi r 6 = c6) (hK : ∀ (x0 : S_), fi x0 6 = c6 → K x0) : wY_gatherAsked a K r p0 := by
  unfold wY_gatherAsked
  repeat' (first | ((with_reducible show fi _ 6 = c6); first | assumption | (subst_vars; assumption) | (subst_vars; rfl) | (subst_vars; simp only [fi_sF, fi_sA, Nat.reduceEqDiff, reduceIte]; assumption)) | (with_reducible refine hK _ ?_) | (with_reducible refine w6_G_startWalk (c6 := c6) ?_ ?_) | (with_reducible refine w6_Y_gatherAsked_L9 (c6 := c6) ?_ _ _ _ _ ?_) | (with_reducible refine w6_Y_gatherAsked_L48 (c6 := c6) ?_ _ _ _ _ ?_) | (with_reducible refine w6_Y_gatherAsked_L85 (c6 := c6) ?_ _ _ _ ?_) | (with_reducible refine And.intro ?_ ?_) | (with_reducible intro _))
theorem w6_Y_settleVariable {c6 : Int32} {a : L_} {K : Int32 → S_ → Prop} {r : S_} {p0 : Int32} {p1 : Int32} (h6 : fi r 6 = c6) (hK : ∀ (x0 : Int32) (x1 : S_), fi x1 6 = c6 → K x0 x1) : wY_settleVariable a K r p0 p1 := by
  unfold wY_settleVariable
  repeat' (first | ((with_reducible show fi _ 6 = c6); first | assumption | (subst_vars; assumption) | (subst_vars; rfl) | (subst_vars; simp only [fi_sF, fi_sA, Nat.reduceEqDiff, reduceIte]; assumption)) | (with_reducible refine hK _ _ ?_) | (with_reducible refine wa_K_lowest ?_) | (with_reducible refine wa_J_bitCount ?_) | (with_reducible refine And.intro ?_ ?_) | (with_reducible intro _))
theorem w6_Y_handDown_J82 {c6 : Int32} {a : L_} {K : S_ → Prop} {r : S_} {v2 : Int32} {v3 : Int32} {v5 : Int32} (h6 : fi r 6 = c6) (hK : ∀ (x0 : S_), fi x0 6 = c6 → K x0) : wY_handDown_J82 a K r v2 v3 v5 := by
  unfold wY_handDown_J82
  repeat' (first | ((with_reducible show fi _ 6 = c6); first | assumption | (subst_vars; assumption) | (subst_vars; rfl) | (subst_vars; simp only [fi_sF, fi_sA, Nat.reduceEqDiff, reduceIte]; assumption)) | (with_reducible refine hK _ ?_) | (with_reducible refine wa_K_joined ?_) | (with_reducible refine And.intro ?_ ?_) | (with_reducible intro _))
theorem w6_Y_handDown_J27 {c6 : Int32} {a : L_} {K : S_ → Prop} {r : S_} {v1 : Int32} {v2 : Int32} {v3 : Int32} (h6 : fi r 6 = c6) (hK : ∀ (x0 : S_), fi x0 6 = c6 → K x0) : wY_handDown_J27 a K r v1 v2 v3 := by
  unfold wY_handDown_J27
  repeat' (first | ((with_reducible show fi _ 6 = c6); first | assumption | (subst_vars; assumption) | (subst_vars; rfl) | (subst_vars; simp only [fi_sF, fi_sA, Nat.reduceEqDiff, reduceIte]; assumption)) | (with_reducible refine hK _ ?_) | (with_reducible refine w6_G_firstOf (c6 := c6) ?_ ?_) | (with_reducible refine w6_G_secondOf (c6 := c6) ?_ ?_) | (with_reducible refine w6_Y_handDown_J82 (c6 := c6) ?_ ?_) | (with_reducible refine wa_K_joined ?_) | (with_reducible refine And.intro ?_ ?_) | (with_reducible intro _))
theorem w6_Y_handDown {c6 : Int32} {a : L_} {K : S_ → Prop} {r : S_} {p0 : Int32} {p1 : Int32} (h6 : fi r 6 = c6) (hK : ∀ (x0 : S_), fi x0 6 = c6 → K x0) : wY_handDown a K r p0 p1 := by
  unfold wY_handDown
  repeat' (first | ((with_reducible show fi _ 6 = c6); first | assumption | (subst_vars; assumption) | (subst_vars; rfl) | (subst_vars; simp only [fi_sF, fi_sA, Nat.reduceEqDiff, reduceIte]; assumption)) | (with_reducible refine hK _ ?_) | (with_reducible refine wa_K_haveInstances ?_) | (with_reducible refine w6_Y_handDown_J27 (c6 := c6) ?_ ?_) | (with_reducible refine And.intro ?_ ?_) | (with_reducible intro _))
theorem w6_Y_settle_J120 {c6 : Int32} {a : L_} {KB37 : S_ → Int32 → Int32 → Prop} {KX126 : S_ → Int32 → Prop} {r : S_} {v3 : Int32} {v4 : Int32} (h6 : fi r 6 = c6) (hKB37 : ∀ (x0 : S_) (x1 : Int32) (x2 : Int32), fi x0 6 = c6 → KB37 x0 x1 x2) (hKX126 : ∀ (x0 : S_) (x1 : Int32), fi x0 6 = c6 → KX126 x0 x1) : wY_settle_J120 a KB37 KX126 r v3 v4 := by
  unfold wY_settle_J120
  repeat' (first | ((with_reducible show fi _ 6 = c6); first | assumption | (subst_vars; assumption) | (subst_vars; rfl) | (subst_vars; simp only [fi_sF, fi_sA, Nat.reduceEqDiff, reduceIte]; assumption)) | (with_reducible refine hKB37 _ _ _ ?_) | (with_reducible refine hKX126 _ _ ?_) | (with_reducible refine And.intro ?_ ?_) | (with_reducible intro _))
theorem w6_Y_settle_L37 {c6 : Int32} {a : L_} {KX126 : S_ → Int32 → Prop} (hKX126 : ∀ (x0 : S_) (x1 : Int32), fi x0 6 = c6 → KX126 x0 x1) : ∀ (n : Nat) (w0 : S_) (w1 : Int32) (w2 : Int32), fi w0 6 = c6 → wY_settle_L37 a KX126 n w0 w1 w2 := by
  intro n
  induction n with
  | zero => intro w0 w1 w2 _; trivial
  | succ n ih =>
    intro w0 w1 w2 h6
    rw [wY_settle_L37]
    repeat' (first | ((with_reducible show fi _ 6 = c6); first | assumption | (subst_vars; assumption) | (subst_vars; rfl) | (subst_vars; simp only [fi_sF, fi_sA, Nat.reduceEqDiff, reduceIte]; assumption)) | (with_reducible refine hKX126 _ _ ?_) | (with_reducible refine ih _ _ _ ?_) | (with_reducible refine wa_G_isVariable ?_) | (with_reducible refine w6_Y_handDown (c6 := c6) ?_ ?_) | (with_reducible refine w6_Y_settle_J120 (c6 := c6) ?_ ?_ ?_) | (with_reducible refine w6_Y_settleVariable (c6 := c6) ?_ ?_) | (with_reducible refine And.intro ?_ ?_) | (with_reducible intro _))
theorem w6_settle {a : L_} {r : S_} {p0 p1 : Int32} {K : Int32 → S_ → Prop} (hK : ∀ z r', fi r' 6 = fi r 6 + 1 → K z r') : wY_settle a K r p0 p1 := by
  unfold wY_settle
  intro r1 e1
  have h1 : fi r1 6 = fi r 6 + 1 := by rw [e1]; rfl
  refine w6_Y_markBound h1 (fun r2 h2 => w6_Y_markOpen h2 (fun r3 h3 => w6_Y_gatherAsked h3 (fun r4 h4 n => w6_Y_settle_L37 (fun r5 z h5 => hK z r5 h5) n r4 0 _ h4)))
end ZSIX
