/-! Telling: what it leaves alone. -/
section ZTF
theorem wf6_G_settled_L4 {cf : Int32} {a : L_} {KX36 : S_ → Int32 → Int32 → Prop} (hKX36 : ∀ (x0 : S_) (x1 : Int32) (x2 : Int32), fi x0 6 = cf → KX36 x0 x1 x2) : ∀ (n : Nat) (w0 : S_) (w1 : Int32) (w2 : Int32) (w3 : Int32), fi w0 6 = cf → wG_settled_L4 a KX36 n w0 w1 w2 w3 := by
  intro n
  induction n with
  | zero => intro w0 w1 w2 w3 _; trivial
  | succ n ih =>
    intro w0 w1 w2 w3 hf
    rw [wG_settled_L4]
    repeat' (first | ((with_reducible show fi _ 6 = cf); first | assumption | (subst_vars; assumption) | (subst_vars; rfl) | (subst_vars; simp only [fi_sF, fi_sA, fi_sL, Nat.reduceEqDiff, reduceIte]; assumption)) | (with_reducible refine hKX36 _ _ _ ?_) | (with_reducible refine ih _ _ _ _ ?_) | (with_reducible refine And.intro ?_ ?_) | (with_reducible intro _))
theorem wf6_G_settled_J36 {cf : Int32} {a : L_} {K : Int32 → S_ → Prop} {r : S_} {v1 : Int32} {v2 : Int32} (hf : fi r 6 = cf) (hK : ∀ (x0 : Int32) (x1 : S_), fi x1 6 = cf → K x0 x1) : wG_settled_J36 a K r v1 v2 := by
  unfold wG_settled_J36
  repeat' (first | ((with_reducible show fi _ 6 = cf); first | assumption | (subst_vars; assumption) | (subst_vars; rfl) | (subst_vars; simp only [fi_sF, fi_sA, fi_sL, Nat.reduceEqDiff, reduceIte]; assumption)) | (with_reducible refine hK _ _ ?_) | (with_reducible refine And.intro ?_ ?_) | (with_reducible intro _))
theorem wf6_G_settled {cf : Int32} {a : L_} {K : Int32 → S_ → Prop} {r : S_} {p0 : Int32} (hf : fi r 6 = cf) (hK : ∀ (x0 : Int32) (x1 : S_), fi x1 6 = cf → K x0 x1) : wG_settled a K r p0 := by
  unfold wG_settled
  repeat' (first | ((with_reducible show fi _ 6 = cf); first | assumption | (subst_vars; assumption) | (subst_vars; rfl) | (subst_vars; simp only [fi_sF, fi_sA, fi_sL, Nat.reduceEqDiff, reduceIte]; assumption)) | (with_reducible refine hK _ _ ?_) | (with_reducible refine wf6_G_settled_L4 (cf := cf) ?_ _ _ _ _ _ ?_) | (with_reducible refine wf6_G_settled_J36 (cf := cf) ?_ ?_) | (with_reducible refine And.intro ?_ ?_) | (with_reducible intro _))
theorem wf6_G_push {cf : Int32} {a : L_} {K : S_ → Prop} {r : S_} {p0 : Int32} (hf : fi r 6 = cf) (hK : ∀ (x0 : S_), fi x0 6 = cf → K x0) : wG_push a K r p0 := by
  unfold wG_push
  repeat' (first | ((with_reducible show fi _ 6 = cf); first | assumption | (subst_vars; assumption) | (subst_vars; rfl) | (subst_vars; simp only [fi_sF, fi_sA, fi_sL, Nat.reduceEqDiff, reduceIte]; assumption)) | (with_reducible refine hK _ ?_) | (with_reducible refine And.intro ?_ ?_) | (with_reducible intro _))
theorem wf6_G_startWalk {cf : Int32} {a : L_} {K : S_ → Prop} {r : S_} (hf : fi r 6 = cf) (hK : ∀ (x0 : S_), fi x0 6 = cf → K x0) : wG_startWalk a K r := by
  unfold wG_startWalk
  repeat' (first | ((with_reducible show fi _ 6 = cf); first | assumption | (subst_vars; assumption) | (subst_vars; rfl) | (subst_vars; simp only [fi_sF, fi_sA, fi_sL, Nat.reduceEqDiff, reduceIte]; assumption)) | (with_reducible refine hK _ ?_) | (with_reducible refine And.intro ?_ ?_) | (with_reducible intro _))
theorem wf6_G_walk_J166 {cf : Int32} {a : L_} {KB16 : S_ → Int32 → Prop} {KX172 : S_ → Prop} {r : S_} {v2 : Int32} (hf : fi r 6 = cf) (hKB16 : ∀ (x0 : S_) (x1 : Int32), fi x0 6 = cf → KB16 x0 x1) (hKX172 : ∀ (x0 : S_), fi x0 6 = cf → KX172 x0) : wG_walk_J166 a KB16 KX172 r v2 := by
  unfold wG_walk_J166
  repeat' (first | ((with_reducible show fi _ 6 = cf); first | assumption | (subst_vars; assumption) | (subst_vars; rfl) | (subst_vars; simp only [fi_sF, fi_sA, fi_sL, Nat.reduceEqDiff, reduceIte]; assumption)) | (with_reducible refine hKB16 _ _ ?_) | (with_reducible refine hKX172 _ ?_) | (with_reducible refine And.intro ?_ ?_) | (with_reducible intro _))
theorem wf6_G_walk_J142 {cf : Int32} {a : L_} {KB16 : S_ → Int32 → Prop} {KX172 : S_ → Prop} {r : S_} {v2 : Int32} {v3 : Int32} (hf : fi r 6 = cf) (hKB16 : ∀ (x0 : S_) (x1 : Int32), fi x0 6 = cf → KB16 x0 x1) (hKX172 : ∀ (x0 : S_), fi x0 6 = cf → KX172 x0) : wG_walk_J142 a KB16 KX172 r v2 v3 := by
  unfold wG_walk_J142
  repeat' (first | ((with_reducible show fi _ 6 = cf); first | assumption | (subst_vars; assumption) | (subst_vars; rfl) | (subst_vars; simp only [fi_sF, fi_sA, fi_sL, Nat.reduceEqDiff, reduceIte]; assumption)) | (with_reducible refine hKB16 _ _ ?_) | (with_reducible refine hKX172 _ ?_) | (with_reducible refine wf6_G_walk_J166 (cf := cf) ?_ ?_ ?_) | (with_reducible refine wf6_G_settled (cf := cf) ?_ ?_) | (with_reducible refine wf6_G_push (cf := cf) ?_ ?_) | (with_reducible refine And.intro ?_ ?_) | (with_reducible intro _))
theorem wf6_G_walk_L16 {cf : Int32} {a : L_} {KX172 : S_ → Prop} (hKX172 : ∀ (x0 : S_), fi x0 6 = cf → KX172 x0) : ∀ (n : Nat) (w0 : S_) (w1 : Int32), fi w0 6 = cf → wG_walk_L16 a KX172 n w0 w1 := by
  intro n
  induction n with
  | zero => intro w0 w1 _; trivial
  | succ n ih =>
    intro w0 w1 hf
    rw [wG_walk_L16]
    repeat' (first | ((with_reducible show fi _ 6 = cf); first | assumption | (subst_vars; assumption) | (subst_vars; rfl) | (subst_vars; simp only [fi_sF, fi_sA, fi_sL, Nat.reduceEqDiff, reduceIte]; assumption)) | (with_reducible refine hKX172 _ ?_) | (with_reducible refine ih _ _ ?_) | (with_reducible refine wf6_G_push (cf := cf) ?_ ?_) | (with_reducible refine wf6_G_walk_J142 (cf := cf) ?_ ?_ ?_) | (with_reducible refine wf6_G_settled (cf := cf) ?_ ?_) | (with_reducible refine wf6_G_walk_J166 (cf := cf) ?_ ?_ ?_) | (with_reducible refine And.intro ?_ ?_) | (with_reducible intro _))
theorem wf6_G_walk {cf : Int32} {a : L_} {K : S_ → Prop} {r : S_} {p0 : Int32} (hf : fi r 6 = cf) (hK : ∀ (x0 : S_), fi x0 6 = cf → K x0) : wG_walk a K r p0 := by
  unfold wG_walk
  repeat' (first | ((with_reducible show fi _ 6 = cf); first | assumption | (subst_vars; assumption) | (subst_vars; rfl) | (subst_vars; simp only [fi_sF, fi_sA, fi_sL, Nat.reduceEqDiff, reduceIte]; assumption)) | (with_reducible refine hK _ ?_) | (with_reducible refine wf6_G_settled (cf := cf) ?_ ?_) | (with_reducible refine wf6_G_push (cf := cf) ?_ ?_) | (with_reducible refine wf6_G_walk_L16 (cf := cf) ?_ _ _ _ ?_) | (with_reducible refine And.intro ?_ ?_) | (with_reducible intro _))
theorem wf6_G_valueOf {cf : Int32} {a : L_} {K : Int32 → S_ → Prop} {r : S_} {p0 : Int32} (hf : fi r 6 = cf) (hK : ∀ (x0 : Int32) (x1 : S_), fi x1 6 = cf → K x0 x1) : wG_valueOf a K r p0 := by
  unfold wG_valueOf
  repeat' (first | ((with_reducible show fi _ 6 = cf); first | assumption | (subst_vars; assumption) | (subst_vars; rfl) | (subst_vars; simp only [fi_sF, fi_sA, fi_sL, Nat.reduceEqDiff, reduceIte]; assumption)) | (with_reducible refine hK _ _ ?_) | (with_reducible refine wf6_G_settled (cf := cf) ?_ ?_) | (with_reducible refine And.intro ?_ ?_) | (with_reducible intro _))
theorem wf6_D_addBuilt {cf : Int32} {a : L_} {K : S_ → Prop} {r : S_} {p0 : Int32} {p1 : Int32} {p2 : Int32} (hf : fi r 6 = cf) (hK : ∀ (x0 : S_), fi x0 6 = cf → K x0) : wD_addBuilt a K r p0 p1 p2 := by
  unfold wD_addBuilt
  repeat' (first | ((with_reducible show fi _ 6 = cf); first | assumption | (subst_vars; assumption) | (subst_vars; rfl) | (subst_vars; simp only [fi_sF, fi_sA, fi_sL, Nat.reduceEqDiff, reduceIte]; assumption)) | (with_reducible refine hK _ ?_) | (with_reducible refine wa_D_sizeOf ?_) | (with_reducible refine And.intro ?_ ?_) | (with_reducible intro _))
theorem wf6_D_addVariable {cf : Int32} {a : L_} {K : S_ → Prop} {r : S_} {p0 : Int32} (hf : fi r 6 = cf) (hK : ∀ (x0 : S_), fi x0 6 = cf → K x0) : wD_addVariable a K r p0 := by
  unfold wD_addVariable
  repeat' (first | ((with_reducible show fi _ 6 = cf); first | assumption | (subst_vars; assumption) | (subst_vars; rfl) | (subst_vars; simp only [fi_sF, fi_sA, fi_sL, Nat.reduceEqDiff, reduceIte]; assumption)) | (with_reducible refine hK _ ?_) | (with_reducible refine wa_J_bitCount ?_) | (with_reducible refine wf6_D_addBuilt (cf := cf) ?_ ?_) | (with_reducible refine And.intro ?_ ?_) | (with_reducible intro _))
theorem wf6_Y_tell_J136 {cf : Int32} {KB35 : L_ → S_ → Int32 → Prop} {KX152 : L_ → S_ → Prop} {a : L_} {r : S_} {v2 : Int32} {v3 : Int32} (hf : fi r 6 = cf) (hKB35 : ∀ (x0 : L_) (x1 : S_) (x2 : Int32), fi x1 6 = cf → KB35 x0 x1 x2) (hKX152 : ∀ (x0 : L_) (x1 : S_), fi x1 6 = cf → KX152 x0 x1) : wY_tell_J136 KB35 KX152 a r v2 v3 := by
  unfold wY_tell_J136
  repeat' (first | ((with_reducible show fi _ 6 = cf); first | assumption | (subst_vars; assumption) | (subst_vars; rfl) | (subst_vars; simp only [fi_sF, fi_sA, fi_sL, Nat.reduceEqDiff, reduceIte]; assumption)) | (with_reducible refine hKB35 _ _ _ ?_) | (with_reducible refine hKX152 _ _ ?_) | (with_reducible refine And.intro ?_ ?_) | (with_reducible intro _))
theorem wf6_Y_tell_L35 {cf : Int32} {KX152 : L_ → S_ → Prop} (hKX152 : ∀ (x0 : L_) (x1 : S_), fi x1 6 = cf → KX152 x0 x1) : ∀ (n : Nat) (w0 : L_) (w1 : S_) (w2 : Int32), fi w1 6 = cf → wY_tell_L35 KX152 n w0 w1 w2 := by
  intro n
  induction n with
  | zero => intro w0 w1 w2 _; trivial
  | succ n ih =>
    intro w0 w1 w2 hf
    rw [wY_tell_L35]
    repeat' (first | ((with_reducible show fi _ 6 = cf); first | assumption | (subst_vars; assumption) | (subst_vars; rfl) | (subst_vars; simp only [fi_sF, fi_sA, fi_sL, Nat.reduceEqDiff, reduceIte]; assumption)) | (with_reducible refine hKX152 _ _ ?_) | (with_reducible refine ih _ _ _ ?_) | (with_reducible refine wa_G_isVariable ?_) | (with_reducible refine wf6_G_valueOf (cf := cf) ?_ ?_) | (with_reducible refine wf6_D_addBuilt (cf := cf) ?_ ?_) | (with_reducible refine wf6_Y_tell_J136 (cf := cf) ?_ ?_ ?_) | (with_reducible refine wf6_D_addVariable (cf := cf) ?_ ?_) | (with_reducible refine And.intro ?_ ?_) | (with_reducible intro _))
theorem wf8_G_settled_L4 {cf : Int32} {a : L_} {KX36 : S_ → Int32 → Int32 → Prop} (hKX36 : ∀ (x0 : S_) (x1 : Int32) (x2 : Int32), fi x0 8 = cf → KX36 x0 x1 x2) : ∀ (n : Nat) (w0 : S_) (w1 : Int32) (w2 : Int32) (w3 : Int32), fi w0 8 = cf → wG_settled_L4 a KX36 n w0 w1 w2 w3 := by
  intro n
  induction n with
  | zero => intro w0 w1 w2 w3 _; trivial
  | succ n ih =>
    intro w0 w1 w2 w3 hf
    rw [wG_settled_L4]
    repeat' (first | ((with_reducible show fi _ 8 = cf); first | assumption | (subst_vars; assumption) | (subst_vars; rfl) | (subst_vars; simp only [fi_sF, fi_sA, fi_sL, Nat.reduceEqDiff, reduceIte]; assumption)) | (with_reducible refine hKX36 _ _ _ ?_) | (with_reducible refine ih _ _ _ _ ?_) | (with_reducible refine And.intro ?_ ?_) | (with_reducible intro _))
theorem wf8_G_settled_J36 {cf : Int32} {a : L_} {K : Int32 → S_ → Prop} {r : S_} {v1 : Int32} {v2 : Int32} (hf : fi r 8 = cf) (hK : ∀ (x0 : Int32) (x1 : S_), fi x1 8 = cf → K x0 x1) : wG_settled_J36 a K r v1 v2 := by
  unfold wG_settled_J36
  repeat' (first | ((with_reducible show fi _ 8 = cf); first | assumption | (subst_vars; assumption) | (subst_vars; rfl) | (subst_vars; simp only [fi_sF, fi_sA, fi_sL, Nat.reduceEqDiff, reduceIte]; assumption)) | (with_reducible refine hK _ _ ?_) | (with_reducible refine And.intro ?_ ?_) | (with_reducible intro _))
theorem wf8_G_settled {cf : Int32} {a : L_} {K : Int32 → S_ → Prop} {r : S_} {p0 : Int32} (hf : fi r 8 = cf) (hK : ∀ (x0 : Int32) (x1 : S_), fi x1 8 = cf → K x0 x1) : wG_settled a K r p0 := by
  unfold wG_settled
  repeat' (first | ((with_reducible show fi _ 8 = cf); first | assumption | (subst_vars; assumption) | (subst_vars; rfl) | (subst_vars; simp only [fi_sF, fi_sA, fi_sL, Nat.reduceEqDiff, reduceIte]; assumption)) | (with_reducible refine hK _ _ ?_) | (with_reducible refine wf8_G_settled_L4 (cf := cf) ?_ _ _ _ _ _ ?_) | (with_reducible refine wf8_G_settled_J36 (cf := cf) ?_ ?_) | (with_reducible refine And.intro ?_ ?_) | (with_reducible intro _))
theorem wf8_G_push {cf : Int32} {a : L_} {K : S_ → Prop} {r : S_} {p0 : Int32} (hf : fi r 8 = cf) (hK : ∀ (x0 : S_), fi x0 8 = cf → K x0) : wG_push a K r p0 := by
  unfold wG_push
  repeat' (first | ((with_reducible show fi _ 8 = cf); first | assumption | (subst_vars; assumption) | (subst_vars; rfl) | (subst_vars; simp only [fi_sF, fi_sA, fi_sL, Nat.reduceEqDiff, reduceIte]; assumption)) | (with_reducible refine hK _ ?_) | (with_reducible refine And.intro ?_ ?_) | (with_reducible intro _))
theorem wf8_G_startWalk {cf : Int32} {a : L_} {K : S_ → Prop} {r : S_} (hf : fi r 8 = cf) (hK : ∀ (x0 : S_), fi x0 8 = cf → K x0) : wG_startWalk a K r := by
  unfold wG_startWalk
  repeat' (first | ((with_reducible show fi _ 8 = cf); first | assumption | (subst_vars; assumption) | (subst_vars; rfl) | (subst_vars; simp only [fi_sF, fi_sA, fi_sL, Nat.reduceEqDiff, reduceIte]; assumption)) | (with_reducible refine hK _ ?_) | (with_reducible refine And.intro ?_ ?_) | (with_reducible intro _))
theorem wf8_G_walk_J166 {cf : Int32} {a : L_} {KB16 : S_ → Int32 → Prop} {KX172 : S_ → Prop} {r : S_} {v2 : Int32} (hf : fi r 8 = cf) (hKB16 : ∀ (x0 : S_) (x1 : Int32), fi x0 8 = cf → KB16 x0 x1) (hKX172 : ∀ (x0 : S_), fi x0 8 = cf → KX172 x0) : wG_walk_J166 a KB16 KX172 r v2 := by
  unfold wG_walk_J166
  repeat' (first | ((with_reducible show fi _ 8 = cf); first | assumption | (subst_vars; assumption) | (subst_vars; rfl) | (subst_vars; simp only [fi_sF, fi_sA, fi_sL, Nat.reduceEqDiff, reduceIte]; assumption)) | (with_reducible refine hKB16 _ _ ?_) | (with_reducible refine hKX172 _ ?_) | (with_reducible refine And.intro ?_ ?_) | (with_reducible intro _))
theorem wf8_G_walk_J142 {cf : Int32} {a : L_} {KB16 : S_ → Int32 → Prop} {KX172 : S_ → Prop} {r : S_} {v2 : Int32} {v3 : Int32} (hf : fi r 8 = cf) (hKB16 : ∀ (x0 : S_) (x1 : Int32), fi x0 8 = cf → KB16 x0 x1) (hKX172 : ∀ (x0 : S_), fi x0 8 = cf → KX172 x0) : wG_walk_J142 a KB16 KX172 r v2 v3 := by
  unfold wG_walk_J142
  repeat' (first | ((with_reducible show fi _ 8 = cf); first | assumption | (subst_vars; assumption) | (subst_vars; rfl) | (subst_vars; simp only [fi_sF, fi_sA, fi_sL, Nat.reduceEqDiff, reduceIte]; assumption)) | (with_reducible refine hKB16 _ _ ?_) | (with_reducible refine hKX172 _ ?_) | (with_reducible refine wf8_G_walk_J166 (cf := cf) ?_ ?_ ?_) | (with_reducible refine wf8_G_settled (cf := cf) ?_ ?_) | (with_reducible refine wf8_G_push (cf := cf) ?_ ?_) | (with_reducible refine And.intro ?_ ?_) | (with_reducible intro _))
theorem wf8_G_walk_L16 {cf : Int32} {a : L_} {KX172 : S_ → Prop} (hKX172 : ∀ (x0 : S_), fi x0 8 = cf → KX172 x0) : ∀ (n : Nat) (w0 : S_) (w1 : Int32), fi w0 8 = cf → wG_walk_L16 a KX172 n w0 w1 := by
  intro n
  induction n with
  | zero => intro w0 w1 _; trivial
  | succ n ih =>
    intro w0 w1 hf
    rw [wG_walk_L16]
    repeat' (first | ((with_reducible show fi _ 8 = cf); first | assumption | (subst_vars; assumption) | (subst_vars; rfl) | (subst_vars; simp only [fi_sF, fi_sA, fi_sL, Nat.reduceEqDiff, reduceIte]; assumption)) | (with_reducible refine hKX172 _ ?_) | (with_reducible refine ih _ _ ?_) | (with_reducible refine wf8_G_push (cf := cf) ?_ ?_) | (with_reducible refine wf8_G_walk_J142 (cf := cf) ?_ ?_ ?_) | (with_reducible refine wf8_G_settled (cf := cf) ?_ ?_) | (with_reducible refine wf8_G_walk_J166 (cf := cf) ?_ ?_ ?_) | (with_reducible refine And.intro ?_ ?_) | (with_reducible intro _))
theorem wf8_G_walk {cf : Int32} {a : L_} {K : S_ → Prop} {r : S_} {p0 : Int32} (hf : fi r 8 = cf) (hK : ∀ (x0 : S_), fi x0 8 = cf → K x0) : wG_walk a K r p0 := by
  unfold wG_walk
  repeat' (first | ((with_reducible show fi _ 8 = cf); first | assumption | (subst_vars; assumption) | (subst_vars; rfl) | (subst_vars; simp only [fi_sF, fi_sA, fi_sL, Nat.reduceEqDiff, reduceIte]; assumption)) | (with_reducible refine hK _ ?_) | (with_reducible refine wf8_G_settled (cf := cf) ?_ ?_) | (with_reducible refine wf8_G_push (cf := cf) ?_ ?_) | (with_reducible refine wf8_G_walk_L16 (cf := cf) ?_ _ _ _ ?_) | (with_reducible refine And.intro ?_ ?_) | (with_reducible intro _))
theorem wf19_G_settled_L4 {cf : Int32} {a : L_} {KX36 : S_ → Int32 → Int32 → Prop} (hKX36 : ∀ (x0 : S_) (x1 : Int32) (x2 : Int32), fi x0 19 = cf → KX36 x0 x1 x2) : ∀ (n : Nat) (w0 : S_) (w1 : Int32) (w2 : Int32) (w3 : Int32), fi w0 19 = cf → wG_settled_L4 a KX36 n w0 w1 w2 w3 := by
  intro n
  induction n with
  | zero => intro w0 w1 w2 w3 _; trivial
  | succ n ih =>
    intro w0 w1 w2 w3 hf
    rw [wG_settled_L4]
    repeat' (first | ((with_reducible show fi _ 19 = cf); first | assumption | (subst_vars; assumption) | (subst_vars; rfl) | (subst_vars; simp only [fi_sF, fi_sA, fi_sL, Nat.reduceEqDiff, reduceIte]; assumption)) | (with_reducible refine hKX36 _ _ _ ?_) | (with_reducible refine ih _ _ _ _ ?_) | (with_reducible refine And.intro ?_ ?_) | (with_reducible intro _))
theorem wf19_G_settled_J36 {cf : Int32} {a : L_} {K : Int32 → S_ → Prop} {r : S_} {v1 : Int32} {v2 : Int32} (hf : fi r 19 = cf) (hK : ∀ (x0 : Int32) (x1 : S_), fi x1 19 = cf → K x0 x1) : wG_settled_J36 a K r v1 v2 := by
  unfold wG_settled_J36
  repeat' (first | ((with_reducible show fi _ 19 = cf); first | assumption | (subst_vars; assumption) | (subst_vars; rfl) | (subst_vars; simp only [fi_sF, fi_sA, fi_sL, Nat.reduceEqDiff, reduceIte]; assumption)) | (with_reducible refine hK _ _ ?_) | (with_reducible refine And.intro ?_ ?_) | (with_reducible intro _))
theorem wf19_G_settled {cf : Int32} {a : L_} {K : Int32 → S_ → Prop} {r : S_} {p0 : Int32} (hf : fi r 19 = cf) (hK : ∀ (x0 : Int32) (x1 : S_), fi x1 19 = cf → K x0 x1) : wG_settled a K r p0 := by
  unfold wG_settled
  repeat' (first | ((with_reducible show fi _ 19 = cf); first | assumption | (subst_vars; assumption) | (subst_vars; rfl) | (subst_vars; simp only [fi_sF, fi_sA, fi_sL, Nat.reduceEqDiff, reduceIte]; assumption)) | (with_reducible refine hK _ _ ?_) | (with_reducible refine wf19_G_settled_L4 (cf := cf) ?_ _ _ _ _ _ ?_) | (with_reducible refine wf19_G_settled_J36 (cf := cf) ?_ ?_) | (with_reducible refine And.intro ?_ ?_) | (with_reducible intro _))
theorem wf19_G_push {cf : Int32} {a : L_} {K : S_ → Prop} {r : S_} {p0 : Int32} (hf : fi r 19 = cf) (hK : ∀ (x0 : S_), fi x0 19 = cf → K x0) : wG_push a K r p0 := by
  unfold wG_push
  repeat' (first | ((with_reducible show fi _ 19 = cf); first | assumption | (subst_vars; assumption) | (subst_vars; rfl) | (subst_vars; simp only [fi_sF, fi_sA, fi_sL, Nat.reduceEqDiff, reduceIte]; assumption)) | (with_reducible refine hK _ ?_) | (with_reducible refine And.intro ?_ ?_) | (with_reducible intro _))
theorem wf19_G_startWalk {cf : Int32} {a : L_} {K : S_ → Prop} {r : S_} (hf : fi r 19 = cf) (hK : ∀ (x0 : S_), fi x0 19 = cf → K x0) : wG_startWalk a K r := by
  unfold wG_startWalk
  repeat' (first | ((with_reducible show fi _ 19 = cf); first | assumption | (subst_vars; assumption) | (subst_vars; rfl) | (subst_vars; simp only [fi_sF, fi_sA, fi_sL, Nat.reduceEqDiff, reduceIte]; assumption)) | (with_reducible refine hK _ ?_) | (with_reducible refine And.intro ?_ ?_) | (with_reducible intro _))
theorem wf19_G_walk_J166 {cf : Int32} {a : L_} {KB16 : S_ → Int32 → Prop} {KX172 : S_ → Prop} {r : S_} {v2 : Int32} (hf : fi r 19 = cf) (hKB16 : ∀ (x0 : S_) (x1 : Int32), fi x0 19 = cf → KB16 x0 x1) (hKX172 : ∀ (x0 : S_), fi x0 19 = cf → KX172 x0) : wG_walk_J166 a KB16 KX172 r v2 := by
  unfold wG_walk_J166
  repeat' (first | ((with_reducible show fi _ 19 = cf); first | assumption | (subst_vars; assumption) | (subst_vars; rfl) | (subst_vars; simp only [fi_sF, fi_sA, fi_sL, Nat.reduceEqDiff, reduceIte]; assumption)) | (with_reducible refine hKB16 _ _ ?_) | (with_reducible refine hKX172 _ ?_) | (with_reducible refine And.intro ?_ ?_) | (with_reducible intro _))
theorem wf19_G_walk_J142 {cf : Int32} {a : L_} {KB16 : S_ → Int32 → Prop} {KX172 : S_ → Prop} {r : S_} {v2 : Int32} {v3 : Int32} (hf : fi r 19 = cf) (hKB16 : ∀ (x0 : S_) (x1 : Int32), fi x0 19 = cf → KB16 x0 x1) (hKX172 : ∀ (x0 : S_), fi x0 19 = cf → KX172 x0) : wG_walk_J142 a KB16 KX172 r v2 v3 := by
  unfold wG_walk_J142
  repeat' (first | ((with_reducible show fi _ 19 = cf); first | assumption | (subst_vars; assumption) | (subst_vars; rfl) | (subst_vars; simp only [fi_sF, fi_sA, fi_sL, Nat.reduceEqDiff, reduceIte]; assumption)) | (with_reducible refine hKB16 _ _ ?_) | (with_reducible refine hKX172 _ ?_) | (with_reducible refine wf19_G_walk_J166 (cf := cf) ?_ ?_ ?_) | (with_reducible refine wf19_G_settled (cf := cf) ?_ ?_) | (with_reducible refine wf19_G_push (cf := cf) ?_ ?_) | (with_reducible refine And.intro ?_ ?_) | (with_reducible intro _))
theorem wf19_G_walk_L16 {cf : Int32} {a : L_} {KX172 : S_ → Prop} (hKX172 : ∀ (x0 : S_), fi x0 19 = cf → KX172 x0) : ∀ (n : Nat) (w0 : S_) (w1 : Int32), fi w0 19 = cf → wG_walk_L16 a KX172 n w0 w1 := by
  intro n
  induction n with
  | zero => intro w0 w1 _; trivial
  | succ n ih =>
    intro w0 w1 hf
    rw [wG_walk_L16]
    repeat' (first | ((with_reducible show fi _ 19 = cf); first | assumption | (subst_vars; assumption) | (subst_vars; rfl) | (subst_vars; simp only [fi_sF, fi_sA, fi_sL, Nat.reduceEqDiff, reduceIte]; assumption)) | (with_reducible refine hKX172 _ ?_) | (with_reducible refine ih _ _ ?_) | (with_reducible refine wf19_G_push (cf := cf) ?_ ?_) | (with_reducible refine wf19_G_walk_J142 (cf := cf) ?_ ?_ ?_) | (with_reducible refine wf19_G_settled (cf := cf) ?_ ?_) | (with_reducible refine wf19_G_walk_J166 (cf := cf) ?_ ?_ ?_) | (with_reducible refine And.intro ?_ ?_) | (with_reducible intro _))
theorem wf19_G_walk {cf : Int32} {a : L_} {K : S_ → Prop} {r : S_} {p0 : Int32} (hf : fi r 19 = cf) (hK : ∀ (x0 : S_), fi x0 19 = cf → K x0) : wG_walk a K r p0 := by
  unfold wG_walk
  repeat' (first | ((with_reducible show fi _ 19 = cf); first | assumption | (subst_vars; assumption) | (subst_vars; rfl) | (subst_vars; simp only [fi_sF, fi_sA, fi_sL, Nat.reduceEqDiff, reduceIte]; assumption)) | (with_reducible refine hK _ ?_) | (with_reducible refine wf19_G_settled (cf := cf) ?_ ?_) | (with_reducible refine wf19_G_push (cf := cf) ?_ ?_) | (with_reducible refine wf19_G_walk_L16 (cf := cf) ?_ _ _ _ ?_) | (with_reducible refine And.intro ?_ ?_) | (with_reducible intro _))
theorem wf19_G_valueOf {cf : Int32} {a : L_} {K : Int32 → S_ → Prop} {r : S_} {p0 : Int32} (hf : fi r 19 = cf) (hK : ∀ (x0 : Int32) (x1 : S_), fi x1 19 = cf → K x0 x1) : wG_valueOf a K r p0 := by
  unfold wG_valueOf
  repeat' (first | ((with_reducible show fi _ 19 = cf); first | assumption | (subst_vars; assumption) | (subst_vars; rfl) | (subst_vars; simp only [fi_sF, fi_sA, fi_sL, Nat.reduceEqDiff, reduceIte]; assumption)) | (with_reducible refine hK _ _ ?_) | (with_reducible refine wf19_G_settled (cf := cf) ?_ ?_) | (with_reducible refine And.intro ?_ ?_) | (with_reducible intro _))
theorem wf19_D_addBuilt {cf : Int32} {a : L_} {K : S_ → Prop} {r : S_} {p0 : Int32} {p1 : Int32} {p2 : Int32} (hf : fi r 19 = cf) (hK : ∀ (x0 : S_), fi x0 19 = cf → K x0) : wD_addBuilt a K r p0 p1 p2 := by
  unfold wD_addBuilt
  repeat' (first | ((with_reducible show fi _ 19 = cf); first | assumption | (subst_vars; assumption) | (subst_vars; rfl) | (subst_vars; simp only [fi_sF, fi_sA, fi_sL, Nat.reduceEqDiff, reduceIte]; assumption)) | (with_reducible refine hK _ ?_) | (with_reducible refine wa_D_sizeOf ?_) | (with_reducible refine And.intro ?_ ?_) | (with_reducible intro _))
theorem wf19_D_addVariable {cf : Int32} {a : L_} {K : S_ → Prop} {r : S_} {p0 : Int32} (hf : fi r 19 = cf) (hK : ∀ (x0 : S_), fi x0 19 = cf → K x0) : wD_addVariable a K r p0 := by
  unfold wD_addVariable
  repeat' (first | ((with_reducible show fi _ 19 = cf); first | assumption | (subst_vars; assumption) | (subst_vars; rfl) | (subst_vars; simp only [fi_sF, fi_sA, fi_sL, Nat.reduceEqDiff, reduceIte]; assumption)) | (with_reducible refine hK _ ?_) | (with_reducible refine wa_J_bitCount ?_) | (with_reducible refine wf19_D_addBuilt (cf := cf) ?_ ?_) | (with_reducible refine And.intro ?_ ?_) | (with_reducible intro _))
theorem wf19_Y_tell_J136 {cf : Int32} {KB35 : L_ → S_ → Int32 → Prop} {KX152 : L_ → S_ → Prop} {a : L_} {r : S_} {v2 : Int32} {v3 : Int32} (hf : fi r 19 = cf) (hKB35 : ∀ (x0 : L_) (x1 : S_) (x2 : Int32), fi x1 19 = cf → KB35 x0 x1 x2) (hKX152 : ∀ (x0 : L_) (x1 : S_), fi x1 19 = cf → KX152 x0 x1) : wY_tell_J136 KB35 KX152 a r v2 v3 := by
  unfold wY_tell_J136
  repeat' (first | ((with_reducible show fi _ 19 = cf); first | assumption | (subst_vars; assumption) | (subst_vars; rfl) | (subst_vars; simp only [fi_sF, fi_sA, fi_sL, Nat.reduceEqDiff, reduceIte]; assumption)) | (with_reducible refine hKB35 _ _ _ ?_) | (with_reducible refine hKX152 _ _ ?_) | (with_reducible refine And.intro ?_ ?_) | (with_reducible intro _))
theorem wf19_Y_tell_L35 {cf : Int32} {KX152 : L_ → S_ → Prop} (hKX152 : ∀ (x0 : L_) (x1 : S_), fi x1 19 = cf → KX152 x0 x1) : ∀ (n : Nat) (w0 : L_) (w1 : S_) (w2 : Int32), fi w1 19 = cf → wY_tell_L35 KX152 n w0 w1 w2 := by
  intro n
  induction n with
  | zero => intro w0 w1 w2 _; trivial
  | succ n ih =>
    intro w0 w1 w2 hf
    rw [wY_tell_L35]
    repeat' (first | ((with_reducible show fi _ 19 = cf); first | assumption | (subst_vars; assumption) | (subst_vars; rfl) | (subst_vars; simp only [fi_sF, fi_sA, fi_sL, Nat.reduceEqDiff, reduceIte]; assumption)) | (with_reducible refine hKX152 _ _ ?_) | (with_reducible refine ih _ _ _ ?_) | (with_reducible refine wa_G_isVariable ?_) | (with_reducible refine wf19_G_valueOf (cf := cf) ?_ ?_) | (with_reducible refine wf19_D_addBuilt (cf := cf) ?_ ?_) | (with_reducible refine wf19_Y_tell_J136 (cf := cf) ?_ ?_ ?_) | (with_reducible refine wf19_D_addVariable (cf := cf) ?_ ?_) | (with_reducible refine And.intro ?_ ?_) | (with_reducible intro _))
end ZTF
