/-! Each way through a method is one way: what it comes to is one thing, whatever is asked of it. -/
section DET
def Det {R : Type} (q : (Nat → Nat) → (R → Prop) → Prop) : Prop := ∀ ad K, q ad K → ∃ x, K x ∧ ∀ ad' K', K' x → q ad' K'
theorem det_false {R : Type} : Det (fun (_ : Nat → Nat) (_ : R → Prop) => False) := fun _ _ h => h.elim
theorem det_br {R : Type} {c : (Nat → Nat) → Prop} {A B : (Nat → Nat) → (R → Prop) → Prop} (hc : ∀ ad ad', c ad ↔ c ad') (hA : Det A) (hB : Det B) : Det (fun ad K => (c ad → A ad K) ∧ (¬ c ad → B ad K)) := by
  intro ad K h
  by_cases g : c ad
  · obtain ⟨x, h1, h2⟩ := hA ad K (h.1 g)
    exact ⟨x, h1, fun ad' K' hk => ⟨fun _ => h2 ad' K' hk, fun z => absurd ((hc ad ad').mp g) z⟩⟩
  · obtain ⟨x, h1, h2⟩ := hB ad K (h.2 g)
    exact ⟨x, h1, fun ad' K' hk => ⟨fun z => absurd ((hc ad ad').mpr z) g, fun _ => h2 ad' K' hk⟩⟩
theorem det_rb {R : Type} {c : (Nat → Nat) → Prop} {A B : (Nat → Nat) → (R → Prop) → Prop} (hc : ∀ ad ad', c ad ↔ c ad') (hA : Det A) (hB : Det B) : Det (fun ad K => (¬ c ad → A ad K) ∧ (c ad → B ad K)) := by
  intro ad K h
  by_cases g : c ad
  · obtain ⟨x, h1, h2⟩ := hB ad K (h.2 g)
    exact ⟨x, h1, fun ad' K' hk => ⟨fun z => absurd ((hc ad ad').mp g) z, fun _ => h2 ad' K' hk⟩⟩
  · obtain ⟨x, h1, h2⟩ := hA ad K (h.1 g)
    exact ⟨x, h1, fun ad' K' hk => ⟨fun _ => h2 ad' K' hk, fun z => absurd ((hc ad ad').mpr z) g⟩⟩
theorem det_and {R : Type} {c : (Nat → Nat) → Prop} {A : (Nat → Nat) → (R → Prop) → Prop} (hc : ∀ ad ad', c ad → c ad') (hA : Det A) : Det (fun ad K => c ad ∧ A ad K) := by
  intro ad K h
  obtain ⟨x, h1, h2⟩ := hA ad K h.2
  exact ⟨x, h1, fun ad' K' hk => ⟨hc ad ad' h.1, h2 ad' K' hk⟩⟩
theorem det_zb {R : Type} {v : Int32} {A : (Nat → Nat) → (R → Prop) → Prop} (hA : zb v → Det A) : Det (fun ad K => zb v ∧ A ad K) := by
  intro ad K h
  obtain ⟨x, h1, h2⟩ := hA h.1 ad K h.2
  exact ⟨x, h1, fun ad' K' hk => ⟨h.1, h2 ad' K' hk⟩⟩
theorem det_imp {R : Type} {v : Int32} {A : (Nat → Nat) → (R → Prop) → Prop} (hv : zb v) (hA : Det A) : Det (fun ad K => zb v → A ad K) := by
  intro ad K h
  obtain ⟨x, h1, h2⟩ := hA ad K (h hv)
  exact ⟨x, h1, fun ad' K' hk _ => h2 ad' K' hk⟩
theorem det_all {R B : Type} {e : B} {A : B → (Nat → Nat) → (R → Prop) → Prop} (hA : Det (A e)) : Det (fun ad K => ∀ x : B, x = e → A x ad K) := by
  intro ad K h
  obtain ⟨x, h1, h2⟩ := hA ad K (h e rfl)
  exact ⟨x, h1, fun ad' K' hk y hy => by subst hy; exact h2 ad' K' hk⟩
theorem det_ex {R : Type} {A : Nat → (Nat → Nat) → (R → Prop) → Prop} (hA : ∀ n, Det (A n)) : Det (fun ad K => ∃ n : Nat, A n ad K) := by
  intro ad K h
  obtain ⟨n, h⟩ := h
  obtain ⟨x, h1, h2⟩ := hA n ad K h
  exact ⟨x, h1, fun ad' K' hk => ⟨n, h2 ad' K' hk⟩⟩
theorem det_qG_startWalk {R : Type} {l : Nat → Nat} {K : (Nat → Nat) → (R → Prop) → S_ → Prop} {r : S_} (hK : ∀ (x0 : S_), Det (fun ad K0 => K ad K0 x0)) : Det (fun ad (K0 : R → Prop) => qG_startWalk (ad, l) (K ad K0) r) := by
  unfold qG_startWalk
  repeat' (first | (with_reducible exact hK _) | (with_reducible apply det_imp (by assumption)) | (with_reducible apply det_zb) | (with_reducible apply det_ex) | (with_reducible apply det_all) | (with_reducible apply det_br (fun _ _ => Iff.rfl)) | (with_reducible apply det_rb (fun _ _ => Iff.rfl)) | (with_reducible apply det_and (fun _ _ h => h)) | (with_reducible intro _))
theorem det_qG_settled_L4 {R : Type} {l : Nat → Nat} {KX36 : (Nat → Nat) → (R → Prop) → S_ → Int32 → Int32 → Prop} (hKX36 : ∀ (x0 : S_) (x1 : Int32) (x2 : Int32), Det (fun ad K0 => KX36 ad K0 x0 x1 x2)) : ∀ (n : Nat) (w0 : S_) (w1 : Int32) (w2 : Int32) (w3 : Int32), Det (fun ad (K0 : R → Prop) => qG_settled_L4 (ad, l) (KX36 ad K0) n w0 w1 w2 w3) := by
  intro n
  induction n with
  | zero =>
    intros
    simp only [qG_settled_L4]
    exact det_false
  | succ n ih =>
    intros
    simp only [qG_settled_L4]
    repeat' (first | (with_reducible exact hKX36 _ _ _) | (with_reducible apply det_imp (by assumption)) | (with_reducible apply det_zb) | (with_reducible apply det_ex) | (with_reducible apply det_all) | (with_reducible apply det_br (fun _ _ => Iff.rfl)) | (with_reducible apply det_rb (fun _ _ => Iff.rfl)) | (with_reducible apply det_and (fun _ _ h => h)) | (with_reducible exact ih _ _ _ _) | (with_reducible intro _))
theorem det_qG_settled_J36 {R : Type} {l : Nat → Nat} {K : (Nat → Nat) → (R → Prop) → Int32 → S_ → Prop} {r : S_} {v1 : Int32} {v2 : Int32} (hK : ∀ (x0 : Int32) (x1 : S_), Det (fun ad K0 => K ad K0 x0 x1)) : Det (fun ad (K0 : R → Prop) => qG_settled_J36 (ad, l) (K ad K0) r v1 v2) := by
  unfold qG_settled_J36
  repeat' (first | (with_reducible exact hK _ _) | (with_reducible apply det_imp (by assumption)) | (with_reducible apply det_zb) | (with_reducible apply det_ex) | (with_reducible apply det_all) | (with_reducible apply det_br (fun _ _ => Iff.rfl)) | (with_reducible apply det_rb (fun _ _ => Iff.rfl)) | (with_reducible apply det_and (fun _ _ h => h)) | (with_reducible intro _))
theorem det_qG_settled {R : Type} {l : Nat → Nat} {K : (Nat → Nat) → (R → Prop) → Int32 → S_ → Prop} {r : S_} {p0 : Int32} (hK : ∀ (x0 : Int32) (x1 : S_), Det (fun ad K0 => K ad K0 x0 x1)) : Det (fun ad (K0 : R → Prop) => qG_settled (ad, l) (K ad K0) r p0) := by
  unfold qG_settled
  repeat' (first | (with_reducible exact hK _ _) | (with_reducible apply det_imp (by assumption)) | (with_reducible apply det_zb) | (with_reducible apply det_ex) | (with_reducible apply det_all) | (with_reducible apply det_br (fun _ _ => Iff.rfl)) | (with_reducible apply det_rb (fun _ _ => Iff.rfl)) | (with_reducible apply det_and (fun _ _ h => h)) | (with_reducible apply det_qG_settled_L4) | (with_reducible apply det_qG_settled_J36) | (with_reducible intro _))
theorem det_qG_push {R : Type} {l : Nat → Nat} {K : (Nat → Nat) → (R → Prop) → S_ → Prop} {r : S_} {p0 : Int32} (hK : ∀ (x0 : S_), Det (fun ad K0 => K ad K0 x0)) : Det (fun ad (K0 : R → Prop) => qG_push (ad, l) (K ad K0) r p0) := by
  unfold qG_push
  repeat' (first | (with_reducible exact hK _) | (with_reducible apply det_imp (by assumption)) | (with_reducible apply det_zb) | (with_reducible apply det_ex) | (with_reducible apply det_all) | (with_reducible apply det_br (fun _ _ => Iff.rfl)) | (with_reducible apply det_rb (fun _ _ => Iff.rfl)) | (with_reducible apply det_and (fun _ _ h => h)) | (with_reducible intro _))
theorem det_qG_walk_J166 {R : Type} {l : Nat → Nat} {KB16 : (Nat → Nat) → (R → Prop) → S_ → Int32 → Prop} {KX172 : (Nat → Nat) → (R → Prop) → S_ → Prop} {r : S_} {v2 : Int32} (hKB16 : ∀ (x0 : S_) (x1 : Int32), Det (fun ad K0 => KB16 ad K0 x0 x1)) (hKX172 : ∀ (x0 : S_), Det (fun ad K0 => KX172 ad K0 x0)) : Det (fun ad (K0 : R → Prop) => qG_walk_J166 (ad, l) (KB16 ad K0) (KX172 ad K0) r v2) := by
  unfold qG_walk_J166
  repeat' (first | (with_reducible exact hKB16 _ _) | (with_reducible exact hKX172 _) | (with_reducible apply det_imp (by assumption)) | (with_reducible apply det_zb) | (with_reducible apply det_ex) | (with_reducible apply det_all) | (with_reducible apply det_br (fun _ _ => Iff.rfl)) | (with_reducible apply det_rb (fun _ _ => Iff.rfl)) | (with_reducible apply det_and (fun _ _ h => h)) | (with_reducible intro _))
theorem det_qG_walk_J142 {R : Type} {l : Nat → Nat} {KB16 : (Nat → Nat) → (R → Prop) → S_ → Int32 → Prop} {KX172 : (Nat → Nat) → (R → Prop) → S_ → Prop} {r : S_} {v2 : Int32} {v3 : Int32} (hKB16 : ∀ (x0 : S_) (x1 : Int32), Det (fun ad K0 => KB16 ad K0 x0 x1)) (hKX172 : ∀ (x0 : S_), Det (fun ad K0 => KX172 ad K0 x0)) : Det (fun ad (K0 : R → Prop) => qG_walk_J142 (ad, l) (KB16 ad K0) (KX172 ad K0) r v2 v3) := by
  unfold qG_walk_J142
  repeat' (first | (with_reducible exact hKB16 _ _) | (with_reducible exact hKX172 _) | (with_reducible apply det_imp (by assumption)) | (with_reducible apply det_zb) | (with_reducible apply det_ex) | (with_reducible apply det_all) | (with_reducible apply det_br (fun _ _ => Iff.rfl)) | (with_reducible apply det_rb (fun _ _ => Iff.rfl)) | (with_reducible apply det_and (fun _ _ h => h)) | (with_reducible apply det_qG_settled) | (with_reducible apply det_qG_push) | (with_reducible apply det_qG_walk_J166) | (with_reducible intro _))
theorem det_qG_walk_L16 {R : Type} {l : Nat → Nat} {KX172 : (Nat → Nat) → (R → Prop) → S_ → Prop} (hKX172 : ∀ (x0 : S_), Det (fun ad K0 => KX172 ad K0 x0)) : ∀ (n : Nat) (w0 : S_) (w1 : Int32), Det (fun ad (K0 : R → Prop) => qG_walk_L16 (ad, l) (KX172 ad K0) n w0 w1) := by
  intro n
  induction n with
  | zero =>
    intros
    simp only [qG_walk_L16]
    exact det_false
  | succ n ih =>
    intros
    simp only [qG_walk_L16]
    repeat' (first | (with_reducible exact hKX172 _) | (with_reducible apply det_imp (by assumption)) | (with_reducible apply det_zb) | (with_reducible apply det_ex) | (with_reducible apply det_all) | (with_reducible apply det_br (fun _ _ => Iff.rfl)) | (with_reducible apply det_rb (fun _ _ => Iff.rfl)) | (with_reducible apply det_and (fun _ _ h => h)) | (with_reducible exact ih _ _) | (with_reducible apply det_qG_settled) | (with_reducible apply det_qG_push) | (with_reducible apply det_qG_walk_J166) | (with_reducible apply det_qG_walk_J142) | (with_reducible intro _))
theorem det_qG_walk {R : Type} {l : Nat → Nat} {K : (Nat → Nat) → (R → Prop) → S_ → Prop} {r : S_} {p0 : Int32} (hK : ∀ (x0 : S_), Det (fun ad K0 => K ad K0 x0)) : Det (fun ad (K0 : R → Prop) => qG_walk (ad, l) (K ad K0) r p0) := by
  unfold qG_walk
  repeat' (first | (with_reducible exact hK _) | (with_reducible apply det_imp (by assumption)) | (with_reducible apply det_zb) | (with_reducible apply det_ex) | (with_reducible apply det_all) | (with_reducible apply det_br (fun _ _ => Iff.rfl)) | (with_reducible apply det_rb (fun _ _ => Iff.rfl)) | (with_reducible apply det_and (fun _ _ h => h)) | (with_reducible apply det_qG_settled) | (with_reducible apply det_qG_push) | (with_reducible apply det_qG_walk_L16) | (with_reducible intro _))
theorem det_qG_firstOf {R : Type} {l : Nat → Nat} {K : (Nat → Nat) → (R → Prop) → Int32 → S_ → Prop} {r : S_} {p0 : Int32} (hK : ∀ (x0 : Int32) (x1 : S_), Det (fun ad K0 => K ad K0 x0 x1)) : Det (fun ad (K0 : R → Prop) => qG_firstOf (ad, l) (K ad K0) r p0) := by
  unfold qG_firstOf
  repeat' (first | (with_reducible exact hK _ _) | (with_reducible apply det_imp (by assumption)) | (with_reducible apply det_zb) | (with_reducible apply det_ex) | (with_reducible apply det_all) | (with_reducible apply det_br (fun _ _ => Iff.rfl)) | (with_reducible apply det_rb (fun _ _ => Iff.rfl)) | (with_reducible apply det_and (fun _ _ h => h)) | (with_reducible apply det_qG_settled) | (with_reducible intro _))
theorem det_qG_secondOf {R : Type} {l : Nat → Nat} {K : (Nat → Nat) → (R → Prop) → Int32 → S_ → Prop} {r : S_} {p0 : Int32} (hK : ∀ (x0 : Int32) (x1 : S_), Det (fun ad K0 => K ad K0 x0 x1)) : Det (fun ad (K0 : R → Prop) => qG_secondOf (ad, l) (K ad K0) r p0) := by
  unfold qG_secondOf
  repeat' (first | (with_reducible exact hK _ _) | (with_reducible apply det_imp (by assumption)) | (with_reducible apply det_zb) | (with_reducible apply det_ex) | (with_reducible apply det_all) | (with_reducible apply det_br (fun _ _ => Iff.rfl)) | (with_reducible apply det_rb (fun _ _ => Iff.rfl)) | (with_reducible apply det_and (fun _ _ h => h)) | (with_reducible apply det_qG_settled) | (with_reducible intro _))
theorem det_qG_valueOf {R : Type} {l : Nat → Nat} {K : (Nat → Nat) → (R → Prop) → Int32 → S_ → Prop} {r : S_} {p0 : Int32} (hK : ∀ (x0 : Int32) (x1 : S_), Det (fun ad K0 => K ad K0 x0 x1)) : Det (fun ad (K0 : R → Prop) => qG_valueOf (ad, l) (K ad K0) r p0) := by
  unfold qG_valueOf
  repeat' (first | (with_reducible exact hK _ _) | (with_reducible apply det_imp (by assumption)) | (with_reducible apply det_zb) | (with_reducible apply det_ex) | (with_reducible apply det_all) | (with_reducible apply det_br (fun _ _ => Iff.rfl)) | (with_reducible apply det_rb (fun _ _ => Iff.rfl)) | (with_reducible apply det_and (fun _ _ h => h)) | (with_reducible apply det_qG_settled) | (with_reducible intro _))
theorem det_qG_isVariable {R : Type} {l : Nat → Nat} {r : S_} {K : (Nat → Nat) → (R → Prop) → Int32 → Prop} {p0 : Int32} (hK : ∀ (x0 : Int32), zb x0 → Det (fun ad K0 => K ad K0 x0)) : Det (fun ad (K0 : R → Prop) => qG_isVariable (ad, l) r (K ad K0) p0) := by
  unfold qG_isVariable
  repeat' (first | (with_reducible exact hK _ (by assumption)) | (with_reducible apply det_imp (by assumption)) | (with_reducible apply det_zb) | (with_reducible apply det_ex) | (with_reducible apply det_all) | (with_reducible apply det_br (fun _ _ => Iff.rfl)) | (with_reducible apply det_rb (fun _ _ => Iff.rfl)) | (with_reducible apply det_and (fun _ _ h => h)) | (with_reducible intro _))
theorem det_qG_pushPair {R : Type} {l : Nat → Nat} {K : (Nat → Nat) → (R → Prop) → S_ → Prop} {r : S_} {p0 : Int32} {p1 : Int32} (hK : ∀ (x0 : S_), Det (fun ad K0 => K ad K0 x0)) : Det (fun ad (K0 : R → Prop) => qG_pushPair (ad, l) (K ad K0) r p0 p1) := by
  unfold qG_pushPair
  repeat' (first | (with_reducible exact hK _) | (with_reducible apply det_imp (by assumption)) | (with_reducible apply det_zb) | (with_reducible apply det_ex) | (with_reducible apply det_all) | (with_reducible apply det_br (fun _ _ => Iff.rfl)) | (with_reducible apply det_rb (fun _ _ => Iff.rfl)) | (with_reducible apply det_and (fun _ _ h => h)) | (with_reducible apply det_qG_push) | (with_reducible intro _))
theorem det_qG_move {R : Type} {l : Nat → Nat} {K : (Nat → Nat) → (R → Prop) → S_ → Prop} {r : S_} {p0 : Int32} {p1 : Int32} (hK : ∀ (x0 : S_), Det (fun ad K0 => K ad K0 x0)) : Det (fun ad (K0 : R → Prop) => qG_move (ad, l) (K ad K0) r p0 p1) := by
  unfold qG_move
  repeat' (first | (with_reducible exact hK _) | (with_reducible apply det_imp (by assumption)) | (with_reducible apply det_zb) | (with_reducible apply det_ex) | (with_reducible apply det_all) | (with_reducible apply det_br (fun _ _ => Iff.rfl)) | (with_reducible apply det_rb (fun _ _ => Iff.rfl)) | (with_reducible apply det_and (fun _ _ h => h)) | (with_reducible intro _))
theorem det_qG_unifyTops {R : Type} {l : Nat → Nat} {K : (Nat → Nat) → (R → Prop) → S_ → Prop} {r : S_} {p0 : Int32} {p1 : Int32} (hK : ∀ (x0 : S_), Det (fun ad K0 => K ad K0 x0)) : Det (fun ad (K0 : R → Prop) => qG_unifyTops (ad, l) (K ad K0) r p0 p1) := by
  unfold qG_unifyTops
  repeat' (first | (with_reducible exact hK _) | (with_reducible apply det_imp (by assumption)) | (with_reducible apply det_zb) | (with_reducible apply det_ex) | (with_reducible apply det_all) | (with_reducible apply det_br (fun _ _ => Iff.rfl)) | (with_reducible apply det_rb (fun _ _ => Iff.rfl)) | (with_reducible apply det_and (fun _ _ h => h)) | (with_reducible apply det_qG_isVariable) | (with_reducible apply det_qG_pushPair) | (with_reducible apply det_qG_move) | (with_reducible intro _))
theorem det_qG_unify_L13 {R : Type} {l : Nat → Nat} {KX75 : (Nat → Nat) → (R → Prop) → S_ → Prop} (hKX75 : ∀ (x0 : S_), Det (fun ad K0 => KX75 ad K0 x0)) : ∀ (n : Nat) (w0 : S_) (w1 : Int32), Det (fun ad (K0 : R → Prop) => qG_unify_L13 (ad, l) (KX75 ad K0) n w0 w1) := by
  intro n
  induction n with
  | zero =>
    intros
    simp only [qG_unify_L13]
    exact det_false
  | succ n ih =>
    intros
    simp only [qG_unify_L13]
    repeat' (first | (with_reducible exact hKX75 _) | (with_reducible apply det_imp (by assumption)) | (with_reducible apply det_zb) | (with_reducible apply det_ex) | (with_reducible apply det_all) | (with_reducible apply det_br (fun _ _ => Iff.rfl)) | (with_reducible apply det_rb (fun _ _ => Iff.rfl)) | (with_reducible apply det_and (fun _ _ h => h)) | (with_reducible exact ih _ _) | (with_reducible apply det_qG_settled) | (with_reducible apply det_qG_unifyTops) | (with_reducible intro _))
theorem det_qG_unify {R : Type} {l : Nat → Nat} {K : (Nat → Nat) → (R → Prop) → S_ → Prop} {r : S_} {p0 : Int32} {p1 : Int32} (hK : ∀ (x0 : S_), Det (fun ad K0 => K ad K0 x0)) : Det (fun ad (K0 : R → Prop) => qG_unify (ad, l) (K ad K0) r p0 p1) := by
  unfold qG_unify
  repeat' (first | (with_reducible exact hK _) | (with_reducible apply det_imp (by assumption)) | (with_reducible apply det_zb) | (with_reducible apply det_ex) | (with_reducible apply det_all) | (with_reducible apply det_br (fun _ _ => Iff.rfl)) | (with_reducible apply det_rb (fun _ _ => Iff.rfl)) | (with_reducible apply det_and (fun _ _ h => h)) | (with_reducible apply det_qG_pushPair) | (with_reducible apply det_qG_unify_L13) | (with_reducible intro _))
theorem det_qG_comesLater {R : Type} {l : Nat → Nat} {r : S_} {K : (Nat → Nat) → (R → Prop) → Int32 → Prop} {p0 : Int32} {p1 : Int32} (hK : ∀ (x0 : Int32), zb x0 → Det (fun ad K0 => K ad K0 x0)) : Det (fun ad (K0 : R → Prop) => qG_comesLater (ad, l) r (K ad K0) p0 p1) := by
  unfold qG_comesLater
  repeat' (first | (with_reducible exact hK _ (by assumption)) | (with_reducible apply det_imp (by assumption)) | (with_reducible apply det_zb) | (with_reducible apply det_ex) | (with_reducible apply det_all) | (with_reducible apply det_br (fun _ _ => Iff.rfl)) | (with_reducible apply det_rb (fun _ _ => Iff.rfl)) | (with_reducible apply det_and (fun _ _ h => h)) | (with_reducible intro _))
theorem det_qG_isCircular_L6 {R : Type} {l : Nat → Nat} {KX25 : (Nat → Nat) → (R → Prop) → S_ → Prop} (hKX25 : ∀ (x0 : S_), Det (fun ad K0 => KX25 ad K0 x0)) : ∀ (n : Nat) (w0 : S_) (w1 : Int32), Det (fun ad (K0 : R → Prop) => qG_isCircular_L6 (ad, l) (KX25 ad K0) n w0 w1) := by
  intro n
  induction n with
  | zero =>
    intros
    simp only [qG_isCircular_L6]
    exact det_false
  | succ n ih =>
    intros
    simp only [qG_isCircular_L6]
    repeat' (first | (with_reducible exact hKX25 _) | (with_reducible apply det_imp (by assumption)) | (with_reducible apply det_zb) | (with_reducible apply det_ex) | (with_reducible apply det_all) | (with_reducible apply det_br (fun _ _ => Iff.rfl)) | (with_reducible apply det_rb (fun _ _ => Iff.rfl)) | (with_reducible apply det_and (fun _ _ h => h)) | (with_reducible exact ih _ _) | (with_reducible apply det_qG_walk) | (with_reducible intro _))
theorem det_qG_isCircular_L27 {R : Type} {l : Nat → Nat} {KX53 : (Nat → Nat) → (R → Prop) → S_ → Prop} (hKX53 : ∀ (x0 : S_), Det (fun ad K0 => KX53 ad K0 x0)) : ∀ (n : Nat) (w0 : S_) (w1 : Int32), Det (fun ad (K0 : R → Prop) => qG_isCircular_L27 (ad, l) (KX53 ad K0) n w0 w1) := by
  intro n
  induction n with
  | zero =>
    intros
    simp only [qG_isCircular_L27]
    exact det_false
  | succ n ih =>
    intros
    simp only [qG_isCircular_L27]
    repeat' (first | (with_reducible exact hKX53 _) | (with_reducible apply det_imp (by assumption)) | (with_reducible apply det_zb) | (with_reducible apply det_ex) | (with_reducible apply det_all) | (with_reducible apply det_br (fun _ _ => Iff.rfl)) | (with_reducible apply det_rb (fun _ _ => Iff.rfl)) | (with_reducible apply det_and (fun _ _ h => h)) | (with_reducible exact ih _ _) | (with_reducible intro _))
theorem det_qG_isCircular_L55 {R : Type} {l : Nat → Nat} {KX99 : (Nat → Nat) → (R → Prop) → S_ → Prop} {KX107 : (Nat → Nat) → (R → Prop) → S_ → Prop} (hKX99 : ∀ (x0 : S_), Det (fun ad K0 => KX99 ad K0 x0)) (hKX107 : ∀ (x0 : S_), Det (fun ad K0 => KX107 ad K0 x0)) : ∀ (n : Nat) (w0 : S_) (w1 : Int32), Det (fun ad (K0 : R → Prop) => qG_isCircular_L55 (ad, l) (KX99 ad K0) (KX107 ad K0) n w0 w1) := by
  intro n
  induction n with
  | zero =>
    intros
    simp only [qG_isCircular_L55]
    exact det_false
  | succ n ih =>
    intros
    simp only [qG_isCircular_L55]
    repeat' (first | (with_reducible exact hKX99 _) | (with_reducible exact hKX107 _) | (with_reducible apply det_imp (by assumption)) | (with_reducible apply det_zb) | (with_reducible apply det_ex) | (with_reducible apply det_all) | (with_reducible apply det_br (fun _ _ => Iff.rfl)) | (with_reducible apply det_rb (fun _ _ => Iff.rfl)) | (with_reducible apply det_and (fun _ _ h => h)) | (with_reducible exact ih _ _) | (with_reducible apply det_qG_firstOf) | (with_reducible apply det_qG_secondOf) | (with_reducible apply det_qG_comesLater) | (with_reducible intro _))
theorem det_qG_isCircular {R : Type} {l : Nat → Nat} {K : (Nat → Nat) → (R → Prop) → Int32 → S_ → Prop} {r : S_} (hK : ∀ (x0 : Int32) (x1 : S_), zb x0 → Det (fun ad K0 => K ad K0 x0 x1)) : Det (fun ad (K0 : R → Prop) => qG_isCircular (ad, l) (K ad K0) r) := by
  unfold qG_isCircular
  repeat' (first | (with_reducible exact hK _ _ (by assumption)) | (with_reducible apply det_imp (by assumption)) | (with_reducible apply det_zb) | (with_reducible apply det_ex) | (with_reducible apply det_all) | (with_reducible apply det_br (fun _ _ => Iff.rfl)) | (with_reducible apply det_rb (fun _ _ => Iff.rfl)) | (with_reducible apply det_and (fun _ _ h => h)) | (with_reducible apply det_qG_startWalk) | (with_reducible apply det_qG_isCircular_L6) | (with_reducible apply det_qG_isCircular_L27) | (with_reducible apply det_qG_isCircular_L55) | (with_reducible intro _))
theorem det_qK_slot {R : Type} {l : Nat → Nat} {r : S_} {K : (Nat → Nat) → (R → Prop) → Int32 → Prop} {p0 : Int32} {p1 : Int32} (hK : ∀ (x0 : Int32), Det (fun ad K0 => K ad K0 x0)) : Det (fun ad (K0 : R → Prop) => qK_slot (ad, l) r (K ad K0) p0 p1) := by
  unfold qK_slot
  repeat' (first | (with_reducible exact hK _) | (with_reducible apply det_imp (by assumption)) | (with_reducible apply det_zb) | (with_reducible apply det_ex) | (with_reducible apply det_all) | (with_reducible apply det_br (fun _ _ => Iff.rfl)) | (with_reducible apply det_rb (fun _ _ => Iff.rfl)) | (with_reducible apply det_and (fun _ _ h => h)) | (with_reducible intro _))
theorem det_qK_lowest_J35 {R : Type} {l : Nat → Nat} {r : S_} {KB4 : (Nat → Nat) → (R → Prop) → Int32 → Int32 → Int32 → Prop} {KX41 : (Nat → Nat) → (R → Prop) → Int32 → Int32 → Prop} {v1 : Int32} {v2 : Int32} {v3 : Int32} (hKB4 : ∀ (x0 : Int32) (x1 : Int32) (x2 : Int32), Det (fun ad K0 => KB4 ad K0 x0 x1 x2)) (hKX41 : ∀ (x0 : Int32) (x1 : Int32), Det (fun ad K0 => KX41 ad K0 x0 x1)) : Det (fun ad (K0 : R → Prop) => qK_lowest_J35 (ad, l) r (KB4 ad K0) (KX41 ad K0) v1 v2 v3) := by
  unfold qK_lowest_J35
  repeat' (first | (with_reducible exact hKB4 _ _ _) | (with_reducible exact hKX41 _ _) | (with_reducible apply det_imp (by assumption)) | (with_reducible apply det_zb) | (with_reducible apply det_ex) | (with_reducible apply det_all) | (with_reducible apply det_br (fun _ _ => Iff.rfl)) | (with_reducible apply det_rb (fun _ _ => Iff.rfl)) | (with_reducible apply det_and (fun _ _ h => h)) | (with_reducible intro _))
theorem det_qK_lowest_L4 {R : Type} {l : Nat → Nat} {r : S_} {KX41 : (Nat → Nat) → (R → Prop) → Int32 → Int32 → Prop} (hKX41 : ∀ (x0 : Int32) (x1 : Int32), Det (fun ad K0 => KX41 ad K0 x0 x1)) : ∀ (n : Nat) (w0 : Int32) (w1 : Int32) (w2 : Int32), Det (fun ad (K0 : R → Prop) => qK_lowest_L4 (ad, l) r (KX41 ad K0) n w0 w1 w2) := by
  intro n
  induction n with
  | zero =>
    intros
    simp only [qK_lowest_L4]
    exact det_false
  | succ n ih =>
    intros
    simp only [qK_lowest_L4]
    repeat' (first | (with_reducible exact hKX41 _ _) | (with_reducible apply det_imp (by assumption)) | (with_reducible apply det_zb) | (with_reducible apply det_ex) | (with_reducible apply det_all) | (with_reducible apply det_br (fun _ _ => Iff.rfl)) | (with_reducible apply det_rb (fun _ _ => Iff.rfl)) | (with_reducible apply det_and (fun _ _ h => h)) | (with_reducible exact ih _ _ _) | (with_reducible apply det_qK_lowest_J35) | (with_reducible intro _))
theorem det_qK_lowest {R : Type} {l : Nat → Nat} {r : S_} {K : (Nat → Nat) → (R → Prop) → Int32 → Prop} {p0 : Int32} (hK : ∀ (x0 : Int32), Det (fun ad K0 => K ad K0 x0)) : Det (fun ad (K0 : R → Prop) => qK_lowest (ad, l) r (K ad K0) p0) := by
  unfold qK_lowest
  repeat' (first | (with_reducible exact hK _) | (with_reducible apply det_imp (by assumption)) | (with_reducible apply det_zb) | (with_reducible apply det_ex) | (with_reducible apply det_all) | (with_reducible apply det_br (fun _ _ => Iff.rfl)) | (with_reducible apply det_rb (fun _ _ => Iff.rfl)) | (with_reducible apply det_and (fun _ _ h => h)) | (with_reducible apply det_qK_lowest_L4) | (with_reducible intro _))
theorem det_qK_haveInstances_J34 {R : Type} {l : Nat → Nat} {r : S_} {KB2 : (Nat → Nat) → (R → Prop) → Int32 → Int32 → Int32 → Prop} {KX32 : (Nat → Nat) → (R → Prop) → Prop} {KX40 : (Nat → Nat) → (R → Prop) → Prop} {v1 : Int32} {v2 : Int32} {v3 : Int32} (hKB2 : ∀ (x0 : Int32) (x1 : Int32) (x2 : Int32), Det (fun ad K0 => KB2 ad K0 x0 x1 x2)) (hKX32 : Det (fun ad K0 => KX32 ad K0 )) (hKX40 : Det (fun ad K0 => KX40 ad K0 )) : Det (fun ad (K0 : R → Prop) => qK_haveInstances_J34 (ad, l) r (KB2 ad K0) (KX32 ad K0) (KX40 ad K0) v1 v2 v3) := by
  unfold qK_haveInstances_J34
  repeat' (first | (with_reducible exact hKB2 _ _ _) | (with_reducible exact hKX32) | (with_reducible exact hKX40) | (with_reducible apply det_imp (by assumption)) | (with_reducible apply det_zb) | (with_reducible apply det_ex) | (with_reducible apply det_all) | (with_reducible apply det_br (fun _ _ => Iff.rfl)) | (with_reducible apply det_rb (fun _ _ => Iff.rfl)) | (with_reducible apply det_and (fun _ _ h => h)) | (with_reducible intro _))
theorem det_qK_haveInstances_L2 {R : Type} {l : Nat → Nat} {r : S_} {KX32 : (Nat → Nat) → (R → Prop) → Prop} {KX40 : (Nat → Nat) → (R → Prop) → Prop} (hKX32 : Det (fun ad K0 => KX32 ad K0 )) (hKX40 : Det (fun ad K0 => KX40 ad K0 )) : ∀ (n : Nat) (w0 : Int32) (w1 : Int32) (w2 : Int32), Det (fun ad (K0 : R → Prop) => qK_haveInstances_L2 (ad, l) r (KX32 ad K0) (KX40 ad K0) n w0 w1 w2) := by
  intro n
  induction n with
  | zero =>
    intros
    simp only [qK_haveInstances_L2]
    exact det_false
  | succ n ih =>
    intros
    simp only [qK_haveInstances_L2]
    repeat' (first | (with_reducible exact hKX32) | (with_reducible exact hKX40) | (with_reducible apply det_imp (by assumption)) | (with_reducible apply det_zb) | (with_reducible apply det_ex) | (with_reducible apply det_all) | (with_reducible apply det_br (fun _ _ => Iff.rfl)) | (with_reducible apply det_rb (fun _ _ => Iff.rfl)) | (with_reducible apply det_and (fun _ _ h => h)) | (with_reducible exact ih _ _ _) | (with_reducible apply det_qK_slot) | (with_reducible apply det_qK_haveInstances_J34) | (with_reducible intro _))
theorem det_qK_haveInstances {R : Type} {l : Nat → Nat} {r : S_} {K : (Nat → Nat) → (R → Prop) → Int32 → Prop} {p0 : Int32} {p1 : Int32} (hK : ∀ (x0 : Int32), zb x0 → Det (fun ad K0 => K ad K0 x0)) : Det (fun ad (K0 : R → Prop) => qK_haveInstances (ad, l) r (K ad K0) p0 p1) := by
  unfold qK_haveInstances
  repeat' (first | (with_reducible exact hK _ (by assumption)) | (with_reducible apply det_imp (by assumption)) | (with_reducible apply det_zb) | (with_reducible apply det_ex) | (with_reducible apply det_all) | (with_reducible apply det_br (fun _ _ => Iff.rfl)) | (with_reducible apply det_rb (fun _ _ => Iff.rfl)) | (with_reducible apply det_and (fun _ _ h => h)) | (with_reducible apply det_qK_haveInstances_L2) | (with_reducible intro _))
theorem det_qK_joined_J37 {R : Type} {l : Nat → Nat} {r : S_} {m0 : Nat} {KB6 : (Nat → Nat) → (R → Prop) → Int32 → Int32 → Int32 → Int32 → Prop} {KX43 : (Nat → Nat) → (R → Prop) → Int32 → Prop} {v2 : Int32} {v3 : Int32} {v4 : Int32} {v5 : Int32} (hKB6 : ∀ (x0 : Int32) (x1 : Int32) (x2 : Int32) (x3 : Int32), Det (fun ad K0 => KB6 ad K0 x0 x1 x2 x3)) (hKX43 : ∀ (x0 : Int32), Det (fun ad K0 => KX43 ad K0 x0)) : Det (fun ad (K0 : R → Prop) => qK_joined_J37 (ad, l) r m0 (KB6 ad K0) (KX43 ad K0) v2 v3 v4 v5) := by
  unfold qK_joined_J37
  repeat' (first | (with_reducible exact hKB6 _ _ _ _) | (with_reducible exact hKX43 _) | (with_reducible apply det_imp (by assumption)) | (with_reducible apply det_zb) | (with_reducible apply det_ex) | (with_reducible apply det_all) | (with_reducible apply det_br (fun _ _ => Iff.rfl)) | (with_reducible apply det_rb (fun _ _ => Iff.rfl)) | (with_reducible apply det_and (fun _ _ h => h)) | (with_reducible intro _))
theorem det_qK_joined_L6 {R : Type} {l : Nat → Nat} {r : S_} {m0 : Nat} {KX43 : (Nat → Nat) → (R → Prop) → Int32 → Prop} (hKX43 : ∀ (x0 : Int32), Det (fun ad K0 => KX43 ad K0 x0)) : ∀ (n : Nat) (w0 : Int32) (w1 : Int32) (w2 : Int32) (w3 : Int32), Det (fun ad (K0 : R → Prop) => qK_joined_L6 (ad, l) r m0 (KX43 ad K0) n w0 w1 w2 w3) := by
  intro n
  induction n with
  | zero =>
    intros
    simp only [qK_joined_L6]
    exact det_false
  | succ n ih =>
    intros
    simp only [qK_joined_L6]
    repeat' (first | (with_reducible exact hKX43 _) | (with_reducible apply det_imp (by assumption)) | (with_reducible apply det_zb) | (with_reducible apply det_ex) | (with_reducible apply det_all) | (with_reducible apply det_br (fun _ _ => Iff.rfl)) | (with_reducible apply det_rb (fun _ _ => Iff.rfl)) | (with_reducible apply det_and (fun _ _ h => h)) | (with_reducible exact ih _ _ _ _) | (with_reducible apply det_qK_slot) | (with_reducible apply det_qK_joined_J37) | (with_reducible intro _))
theorem det_qK_joined {R : Type} {l : Nat → Nat} {r : S_} {m0 : Nat} {K : (Nat → Nat) → (R → Prop) → Int32 → Prop} {p1 : Int32} {p2 : Int32} (hK : ∀ (x0 : Int32), Det (fun ad K0 => K ad K0 x0)) : Det (fun ad (K0 : R → Prop) => qK_joined (ad, l) r m0 (K ad K0) p1 p2) := by
  unfold qK_joined
  repeat' (first | (with_reducible exact hK _) | (with_reducible apply det_imp (by assumption)) | (with_reducible apply det_zb) | (with_reducible apply det_ex) | (with_reducible apply det_all) | (with_reducible apply det_br (fun _ _ => Iff.rfl)) | (with_reducible apply det_rb (fun _ _ => Iff.rfl)) | (with_reducible apply det_and (fun _ _ h => h)) | (with_reducible apply det_qK_joined_L6) | (with_reducible intro _))
theorem det_qJ_bitCount {R : Type} {l : Nat → Nat} {r : S_} {K : (Nat → Nat) → (R → Prop) → Int32 → Prop} {p0 : Int32} (hK : ∀ (x0 : Int32), Det (fun ad K0 => K ad K0 x0)) : Det (fun ad (K0 : R → Prop) => qJ_bitCount (ad, l) r (K ad K0) p0) := by
  unfold qJ_bitCount
  repeat' (first | (with_reducible exact hK _) | (with_reducible apply det_imp (by assumption)) | (with_reducible apply det_zb) | (with_reducible apply det_ex) | (with_reducible apply det_all) | (with_reducible apply det_br (fun _ _ => Iff.rfl)) | (with_reducible apply det_rb (fun _ _ => Iff.rfl)) | (with_reducible apply det_and (fun _ _ h => h)) | (with_reducible intro _))
theorem det_qY_holdsOpen {R : Type} {l : Nat → Nat} {r : S_} {K : (Nat → Nat) → (R → Prop) → Int32 → Prop} {p0 : Int32} (hK : ∀ (x0 : Int32), zb x0 → Det (fun ad K0 => K ad K0 x0)) : Det (fun ad (K0 : R → Prop) => qY_holdsOpen (ad, l) r (K ad K0) p0) := by
  unfold qY_holdsOpen
  repeat' (first | (with_reducible exact hK _ (by assumption)) | (with_reducible apply det_imp (by assumption)) | (with_reducible apply det_zb) | (with_reducible apply det_ex) | (with_reducible apply det_all) | (with_reducible apply det_br (fun _ _ => Iff.rfl)) | (with_reducible apply det_rb (fun _ _ => Iff.rfl)) | (with_reducible apply det_and (fun _ _ h => h)) | (with_reducible intro _))
theorem det_qY_markBound_J40 {R : Type} {l : Nat → Nat} {KB9 : (Nat → Nat) → (R → Prop) → S_ → Int32 → Prop} {KX46 : (Nat → Nat) → (R → Prop) → S_ → Prop} {r : S_} {v1 : Int32} (hKB9 : ∀ (x0 : S_) (x1 : Int32), Det (fun ad K0 => KB9 ad K0 x0 x1)) (hKX46 : ∀ (x0 : S_), Det (fun ad K0 => KX46 ad K0 x0)) : Det (fun ad (K0 : R → Prop) => qY_markBound_J40 (ad, l) (KB9 ad K0) (KX46 ad K0) r v1) := by
  unfold qY_markBound_J40
  repeat' (first | (with_reducible exact hKB9 _ _) | (with_reducible exact hKX46 _) | (with_reducible apply det_imp (by assumption)) | (with_reducible apply det_zb) | (with_reducible apply det_ex) | (with_reducible apply det_all) | (with_reducible apply det_br (fun _ _ => Iff.rfl)) | (with_reducible apply det_rb (fun _ _ => Iff.rfl)) | (with_reducible apply det_and (fun _ _ h => h)) | (with_reducible intro _))
theorem det_qY_markBound_L9 {R : Type} {l : Nat → Nat} {KX46 : (Nat → Nat) → (R → Prop) → S_ → Prop} (hKX46 : ∀ (x0 : S_), Det (fun ad K0 => KX46 ad K0 x0)) : ∀ (n : Nat) (w0 : S_) (w1 : Int32), Det (fun ad (K0 : R → Prop) => qY_markBound_L9 (ad, l) (KX46 ad K0) n w0 w1) := by
  intro n
  induction n with
  | zero =>
    intros
    simp only [qY_markBound_L9]
    exact det_false
  | succ n ih =>
    intros
    simp only [qY_markBound_L9]
    repeat' (first | (with_reducible exact hKX46 _) | (with_reducible apply det_imp (by assumption)) | (with_reducible apply det_zb) | (with_reducible apply det_ex) | (with_reducible apply det_all) | (with_reducible apply det_br (fun _ _ => Iff.rfl)) | (with_reducible apply det_rb (fun _ _ => Iff.rfl)) | (with_reducible apply det_and (fun _ _ h => h)) | (with_reducible exact ih _ _) | (with_reducible apply det_qG_walk) | (with_reducible apply det_qY_markBound_J40) | (with_reducible intro _))
theorem det_qY_markBound_L48 {R : Type} {l : Nat → Nat} {KX86 : (Nat → Nat) → (R → Prop) → S_ → Prop} (hKX86 : ∀ (x0 : S_), Det (fun ad K0 => KX86 ad K0 x0)) : ∀ (n : Nat) (w0 : S_) (w1 : Int32), Det (fun ad (K0 : R → Prop) => qY_markBound_L48 (ad, l) (KX86 ad K0) n w0 w1) := by
  intro n
  induction n with
  | zero =>
    intros
    simp only [qY_markBound_L48]
    exact det_false
  | succ n ih =>
    intros
    simp only [qY_markBound_L48]
    repeat' (first | (with_reducible exact hKX86 _) | (with_reducible apply det_imp (by assumption)) | (with_reducible apply det_zb) | (with_reducible apply det_ex) | (with_reducible apply det_all) | (with_reducible apply det_br (fun _ _ => Iff.rfl)) | (with_reducible apply det_rb (fun _ _ => Iff.rfl)) | (with_reducible apply det_and (fun _ _ h => h)) | (with_reducible exact ih _ _) | (with_reducible intro _))
theorem det_qY_markBound {R : Type} {l : Nat → Nat} {K : (Nat → Nat) → (R → Prop) → S_ → Prop} {r : S_} (hK : ∀ (x0 : S_), Det (fun ad K0 => K ad K0 x0)) : Det (fun ad (K0 : R → Prop) => qY_markBound (ad, l) (K ad K0) r) := by
  unfold qY_markBound
  repeat' (first | (with_reducible exact hK _) | (with_reducible apply det_imp (by assumption)) | (with_reducible apply det_zb) | (with_reducible apply det_ex) | (with_reducible apply det_all) | (with_reducible apply det_br (fun _ _ => Iff.rfl)) | (with_reducible apply det_rb (fun _ _ => Iff.rfl)) | (with_reducible apply det_and (fun _ _ h => h)) | (with_reducible apply det_qG_startWalk) | (with_reducible apply det_qY_markBound_L9) | (with_reducible apply det_qY_markBound_L48) | (with_reducible intro _))
theorem det_qY_markOpen_J128 {R : Type} {l : Nat → Nat} {KB17 : (Nat → Nat) → (R → Prop) → S_ → Int32 → Prop} {KX135 : (Nat → Nat) → (R → Prop) → S_ → Prop} {r : S_} {v2 : Int32} {u0 : Int32} {u1 : Int32} (hKB17 : ∀ (x0 : S_) (x1 : Int32), Det (fun ad K0 => KB17 ad K0 x0 x1)) (hKX135 : ∀ (x0 : S_), Det (fun ad K0 => KX135 ad K0 x0)) : Det (fun ad (K0 : R → Prop) => qY_markOpen_J128 (ad, l) (KB17 ad K0) (KX135 ad K0) r v2 u0 u1) := by
  unfold qY_markOpen_J128
  repeat' (first | (with_reducible exact hKB17 _ _) | (with_reducible exact hKX135 _) | (with_reducible apply det_imp (by assumption)) | (with_reducible apply det_zb) | (with_reducible apply det_ex) | (with_reducible apply det_all) | (with_reducible apply det_br (fun _ _ => Iff.rfl)) | (with_reducible apply det_rb (fun _ _ => Iff.rfl)) | (with_reducible apply det_and (fun _ _ h => h)) | (with_reducible intro _))
theorem det_qY_markOpen_J108 {R : Type} {l : Nat → Nat} {KB17 : (Nat → Nat) → (R → Prop) → S_ → Int32 → Prop} {KX135 : (Nat → Nat) → (R → Prop) → S_ → Prop} {r : S_} {v2 : Int32} {v3 : Int32} {u0 : Int32} (hKB17 : ∀ (x0 : S_) (x1 : Int32), Det (fun ad K0 => KB17 ad K0 x0 x1)) (hKX135 : ∀ (x0 : S_), Det (fun ad K0 => KX135 ad K0 x0)) : Det (fun ad (K0 : R → Prop) => qY_markOpen_J108 (ad, l) (KB17 ad K0) (KX135 ad K0) r v2 v3 u0) := by
  unfold qY_markOpen_J108
  repeat' (first | (with_reducible exact hKB17 _ _) | (with_reducible exact hKX135 _) | (with_reducible apply det_imp (by assumption)) | (with_reducible apply det_zb) | (with_reducible apply det_ex) | (with_reducible apply det_all) | (with_reducible apply det_br (fun _ _ => Iff.rfl)) | (with_reducible apply det_rb (fun _ _ => Iff.rfl)) | (with_reducible apply det_and (fun _ _ h => h)) | (with_reducible apply det_qY_markOpen_J128) | (with_reducible intro _))
theorem det_qY_markOpen_J103 {R : Type} {l : Nat → Nat} {KB17 : (Nat → Nat) → (R → Prop) → S_ → Int32 → Prop} {KX135 : (Nat → Nat) → (R → Prop) → S_ → Prop} {r : S_} {v2 : Int32} {v3 : Int32} (hKB17 : ∀ (x0 : S_) (x1 : Int32), Det (fun ad K0 => KB17 ad K0 x0 x1)) (hKX135 : ∀ (x0 : S_), Det (fun ad K0 => KX135 ad K0 x0)) : Det (fun ad (K0 : R → Prop) => qY_markOpen_J103 (ad, l) (KB17 ad K0) (KX135 ad K0) r v2 v3) := by
  unfold qY_markOpen_J103
  repeat' (first | (with_reducible exact hKB17 _ _) | (with_reducible exact hKX135 _) | (with_reducible apply det_imp (by assumption)) | (with_reducible apply det_zb) | (with_reducible apply det_ex) | (with_reducible apply det_all) | (with_reducible apply det_br (fun _ _ => Iff.rfl)) | (with_reducible apply det_rb (fun _ _ => Iff.rfl)) | (with_reducible apply det_and (fun _ _ h => h)) | (with_reducible apply det_qY_markOpen_J108) | (with_reducible intro _))
theorem det_qY_markOpen_L17 {R : Type} {l : Nat → Nat} {KX135 : (Nat → Nat) → (R → Prop) → S_ → Prop} (hKX135 : ∀ (x0 : S_), Det (fun ad K0 => KX135 ad K0 x0)) : ∀ (n : Nat) (w0 : S_) (w1 : Int32), Det (fun ad (K0 : R → Prop) => qY_markOpen_L17 (ad, l) (KX135 ad K0) n w0 w1) := by
  intro n
  induction n with
  | zero =>
    intros
    simp only [qY_markOpen_L17]
    exact det_false
  | succ n ih =>
    intros
    simp only [qY_markOpen_L17]
    repeat' (first | (with_reducible exact hKX135 _) | (with_reducible apply det_imp (by assumption)) | (with_reducible apply det_zb) | (with_reducible apply det_ex) | (with_reducible apply det_all) | (with_reducible apply det_br (fun _ _ => Iff.rfl)) | (with_reducible apply det_rb (fun _ _ => Iff.rfl)) | (with_reducible apply det_and (fun _ _ h => h)) | (with_reducible exact ih _ _) | (with_reducible apply det_qG_firstOf) | (with_reducible apply det_qG_secondOf) | (with_reducible apply det_qG_isVariable) | (with_reducible apply det_qY_holdsOpen) | (with_reducible apply det_qY_markOpen_J108) | (with_reducible apply det_qY_markOpen_J103) | (with_reducible intro _))
theorem det_qY_markOpen {R : Type} {l : Nat → Nat} {K : (Nat → Nat) → (R → Prop) → S_ → Prop} {r : S_} {p0 : Int32} (hK : ∀ (x0 : S_), Det (fun ad K0 => K ad K0 x0)) : Det (fun ad (K0 : R → Prop) => qY_markOpen (ad, l) (K ad K0) r p0) := by
  unfold qY_markOpen
  repeat' (first | (with_reducible exact hK _) | (with_reducible apply det_imp (by assumption)) | (with_reducible apply det_zb) | (with_reducible apply det_ex) | (with_reducible apply det_all) | (with_reducible apply det_br (fun _ _ => Iff.rfl)) | (with_reducible apply det_rb (fun _ _ => Iff.rfl)) | (with_reducible apply det_and (fun _ _ h => h)) | (with_reducible apply det_qG_startWalk) | (with_reducible apply det_qG_walk) | (with_reducible apply det_qY_markOpen_L17) | (with_reducible intro _))
theorem det_qY_gatherAsked_J40 {R : Type} {l : Nat → Nat} {KB9 : (Nat → Nat) → (R → Prop) → S_ → Int32 → Int32 → Prop} {KX46 : (Nat → Nat) → (R → Prop) → S_ → Int32 → Prop} {r : S_} {v1 : Int32} {v2 : Int32} (hKB9 : ∀ (x0 : S_) (x1 : Int32) (x2 : Int32), Det (fun ad K0 => KB9 ad K0 x0 x1 x2)) (hKX46 : ∀ (x0 : S_) (x1 : Int32), Det (fun ad K0 => KX46 ad K0 x0 x1)) : Det (fun ad (K0 : R → Prop) => qY_gatherAsked_J40 (ad, l) (KB9 ad K0) (KX46 ad K0) r v1 v2) := by
  unfold qY_gatherAsked_J40
  repeat' (first | (with_reducible exact hKB9 _ _ _) | (with_reducible exact hKX46 _ _) | (with_reducible apply det_imp (by assumption)) | (with_reducible apply det_zb) | (with_reducible apply det_ex) | (with_reducible apply det_all) | (with_reducible apply det_br (fun _ _ => Iff.rfl)) | (with_reducible apply det_rb (fun _ _ => Iff.rfl)) | (with_reducible apply det_and (fun _ _ h => h)) | (with_reducible intro _))
theorem det_qY_gatherAsked_L9 {R : Type} {l : Nat → Nat} {KX46 : (Nat → Nat) → (R → Prop) → S_ → Int32 → Prop} (hKX46 : ∀ (x0 : S_) (x1 : Int32), Det (fun ad K0 => KX46 ad K0 x0 x1)) : ∀ (n : Nat) (w0 : S_) (w1 : Int32) (w2 : Int32), Det (fun ad (K0 : R → Prop) => qY_gatherAsked_L9 (ad, l) (KX46 ad K0) n w0 w1 w2) := by
  intro n
  induction n with
  | zero =>
    intros
    simp only [qY_gatherAsked_L9]
    exact det_false
  | succ n ih =>
    intros
    simp only [qY_gatherAsked_L9]
    repeat' (first | (with_reducible exact hKX46 _ _) | (with_reducible apply det_imp (by assumption)) | (with_reducible apply det_zb) | (with_reducible apply det_ex) | (with_reducible apply det_all) | (with_reducible apply det_br (fun _ _ => Iff.rfl)) | (with_reducible apply det_rb (fun _ _ => Iff.rfl)) | (with_reducible apply det_and (fun _ _ h => h)) | (with_reducible exact ih _ _ _) | (with_reducible apply det_qG_walk) | (with_reducible apply det_qY_gatherAsked_J40) | (with_reducible intro _))
theorem det_qY_gatherAsked_L48 {R : Type} {l : Nat → Nat} {KX83 : (Nat → Nat) → (R → Prop) → S_ → Int32 → Prop} (hKX83 : ∀ (x0 : S_) (x1 : Int32), Det (fun ad K0 => KX83 ad K0 x0 x1)) : ∀ (n : Nat) (w0 : S_) (w1 : Int32) (w2 : Int32), Det (fun ad (K0 : R → Prop) => qY_gatherAsked_L48 (ad, l) (KX83 ad K0) n w0 w1 w2) := by
  intro n
  induction n with
  | zero =>
    intros
    simp only [qY_gatherAsked_L48]
    exact det_false
  | succ n ih =>
    intros
    simp only [qY_gatherAsked_L48]
    repeat' (first | (with_reducible exact hKX83 _ _) | (with_reducible apply det_imp (by assumption)) | (with_reducible apply det_zb) | (with_reducible apply det_ex) | (with_reducible apply det_all) | (with_reducible apply det_br (fun _ _ => Iff.rfl)) | (with_reducible apply det_rb (fun _ _ => Iff.rfl)) | (with_reducible apply det_and (fun _ _ h => h)) | (with_reducible exact ih _ _ _) | (with_reducible intro _))
theorem det_qY_gatherAsked_J146 {R : Type} {l : Nat → Nat} {KB85 : (Nat → Nat) → (R → Prop) → S_ → Int32 → Prop} {KX152 : (Nat → Nat) → (R → Prop) → S_ → Prop} {r : S_} {v2 : Int32} (hKB85 : ∀ (x0 : S_) (x1 : Int32), Det (fun ad K0 => KB85 ad K0 x0 x1)) (hKX152 : ∀ (x0 : S_), Det (fun ad K0 => KX152 ad K0 x0)) : Det (fun ad (K0 : R → Prop) => qY_gatherAsked_J146 (ad, l) (KB85 ad K0) (KX152 ad K0) r v2) := by
  unfold qY_gatherAsked_J146
  repeat' (first | (with_reducible exact hKB85 _ _) | (with_reducible exact hKX152 _) | (with_reducible apply det_imp (by assumption)) | (with_reducible apply det_zb) | (with_reducible apply det_ex) | (with_reducible apply det_all) | (with_reducible apply det_br (fun _ _ => Iff.rfl)) | (with_reducible apply det_rb (fun _ _ => Iff.rfl)) | (with_reducible apply det_and (fun _ _ h => h)) | (with_reducible intro _))
theorem det_qY_gatherAsked_L85 {R : Type} {l : Nat → Nat} {KX152 : (Nat → Nat) → (R → Prop) → S_ → Prop} (hKX152 : ∀ (x0 : S_), Det (fun ad K0 => KX152 ad K0 x0)) : ∀ (n : Nat) (w0 : S_) (w1 : Int32), Det (fun ad (K0 : R → Prop) => qY_gatherAsked_L85 (ad, l) (KX152 ad K0) n w0 w1) := by
  intro n
  induction n with
  | zero =>
    intros
    simp only [qY_gatherAsked_L85]
    exact det_false
  | succ n ih =>
    intros
    simp only [qY_gatherAsked_L85]
    repeat' (first | (with_reducible exact hKX152 _) | (with_reducible apply det_imp (by assumption)) | (with_reducible apply det_zb) | (with_reducible apply det_ex) | (with_reducible apply det_all) | (with_reducible apply det_br (fun _ _ => Iff.rfl)) | (with_reducible apply det_rb (fun _ _ => Iff.rfl)) | (with_reducible apply det_and (fun _ _ h => h)) | (with_reducible exact ih _ _) | (with_reducible apply det_qG_settled) | (with_reducible apply det_qY_gatherAsked_J146) | (with_reducible intro _))
theorem det_qY_gatherAsked {R : Type} {l : Nat → Nat} {K : (Nat → Nat) → (R → Prop) → S_ → Prop} {r : S_} {p0 : Int32} (hK : ∀ (x0 : S_), Det (fun ad K0 => K ad K0 x0)) : Det (fun ad (K0 : R → Prop) => qY_gatherAsked (ad, l) (K ad K0) r p0) := by
  unfold qY_gatherAsked
  repeat' (first | (with_reducible exact hK _) | (with_reducible apply det_imp (by assumption)) | (with_reducible apply det_zb) | (with_reducible apply det_ex) | (with_reducible apply det_all) | (with_reducible apply det_br (fun _ _ => Iff.rfl)) | (with_reducible apply det_rb (fun _ _ => Iff.rfl)) | (with_reducible apply det_and (fun _ _ h => h)) | (with_reducible apply det_qG_startWalk) | (with_reducible apply det_qY_gatherAsked_L9) | (with_reducible apply det_qY_gatherAsked_L48) | (with_reducible apply det_qY_gatherAsked_L85) | (with_reducible intro _))
theorem det_qY_settleVariable {R : Type} {l : Nat → Nat} {K : (Nat → Nat) → (R → Prop) → Int32 → S_ → Prop} {r : S_} {p0 : Int32} {p1 : Int32} (hK : ∀ (x0 : Int32) (x1 : S_), Det (fun ad K0 => K ad K0 x0 x1)) : Det (fun ad (K0 : R → Prop) => qY_settleVariable (ad, l) (K ad K0) r p0 p1) := by
  unfold qY_settleVariable
  repeat' (first | (with_reducible exact hK _ _) | (with_reducible apply det_imp (by assumption)) | (with_reducible apply det_zb) | (with_reducible apply det_ex) | (with_reducible apply det_all) | (with_reducible apply det_br (fun _ _ => Iff.rfl)) | (with_reducible apply det_rb (fun _ _ => Iff.rfl)) | (with_reducible apply det_and (fun _ _ h => h)) | (with_reducible apply det_qK_lowest) | (with_reducible apply det_qJ_bitCount) | (with_reducible intro _))
theorem det_qY_handDown_J82 {R : Type} {l : Nat → Nat} {K : (Nat → Nat) → (R → Prop) → S_ → Prop} {r : S_} {v2 : Int32} {v3 : Int32} {v5 : Int32} (hK : ∀ (x0 : S_), Det (fun ad K0 => K ad K0 x0)) : Det (fun ad (K0 : R → Prop) => qY_handDown_J82 (ad, l) (K ad K0) r v2 v3 v5) := by
  unfold qY_handDown_J82
  repeat' (first | (with_reducible exact hK _) | (with_reducible apply det_imp (by assumption)) | (with_reducible apply det_zb) | (with_reducible apply det_ex) | (with_reducible apply det_all) | (with_reducible apply det_br (fun _ _ => Iff.rfl)) | (with_reducible apply det_rb (fun _ _ => Iff.rfl)) | (with_reducible apply det_and (fun _ _ h => h)) | (with_reducible apply det_qK_joined) | (with_reducible intro _))
theorem det_qY_handDown_J27 {R : Type} {l : Nat → Nat} {K : (Nat → Nat) → (R → Prop) → S_ → Prop} {r : S_} {v1 : Int32} {v2 : Int32} {v3 : Int32} (hK : ∀ (x0 : S_), Det (fun ad K0 => K ad K0 x0)) : Det (fun ad (K0 : R → Prop) => qY_handDown_J27 (ad, l) (K ad K0) r v1 v2 v3) := by
  unfold qY_handDown_J27
  repeat' (first | (with_reducible exact hK _) | (with_reducible apply det_imp (by assumption)) | (with_reducible apply det_zb) | (with_reducible apply det_ex) | (with_reducible apply det_all) | (with_reducible apply det_br (fun _ _ => Iff.rfl)) | (with_reducible apply det_rb (fun _ _ => Iff.rfl)) | (with_reducible apply det_and (fun _ _ h => h)) | (with_reducible apply det_qG_firstOf) | (with_reducible apply det_qG_secondOf) | (with_reducible apply det_qK_joined) | (with_reducible apply det_qY_handDown_J82) | (with_reducible intro _))
theorem det_qY_handDown {R : Type} {l : Nat → Nat} {K : (Nat → Nat) → (R → Prop) → S_ → Prop} {r : S_} {p0 : Int32} {p1 : Int32} (hK : ∀ (x0 : S_), Det (fun ad K0 => K ad K0 x0)) : Det (fun ad (K0 : R → Prop) => qY_handDown (ad, l) (K ad K0) r p0 p1) := by
  unfold qY_handDown
  repeat' (first | (with_reducible exact hK _) | (with_reducible apply det_imp (by assumption)) | (with_reducible apply det_zb) | (with_reducible apply det_ex) | (with_reducible apply det_all) | (with_reducible apply det_br (fun _ _ => Iff.rfl)) | (with_reducible apply det_rb (fun _ _ => Iff.rfl)) | (with_reducible apply det_and (fun _ _ h => h)) | (with_reducible apply det_qK_haveInstances) | (with_reducible apply det_qY_handDown_J27) | (with_reducible intro _))
theorem det_qY_settle_J120 {R : Type} {l : Nat → Nat} {KB37 : (Nat → Nat) → (R → Prop) → S_ → Int32 → Int32 → Prop} {KX126 : (Nat → Nat) → (R → Prop) → S_ → Int32 → Prop} {r : S_} {v3 : Int32} {v4 : Int32} (hKB37 : ∀ (x0 : S_) (x1 : Int32) (x2 : Int32), Det (fun ad K0 => KB37 ad K0 x0 x1 x2)) (hKX126 : ∀ (x0 : S_) (x1 : Int32), Det (fun ad K0 => KX126 ad K0 x0 x1)) : Det (fun ad (K0 : R → Prop) => qY_settle_J120 (ad, l) (KB37 ad K0) (KX126 ad K0) r v3 v4) := by
  unfold qY_settle_J120
  repeat' (first | (with_reducible exact hKB37 _ _ _) | (with_reducible exact hKX126 _ _) | (with_reducible apply det_imp (by assumption)) | (with_reducible apply det_zb) | (with_reducible apply det_ex) | (with_reducible apply det_all) | (with_reducible apply det_br (fun _ _ => Iff.rfl)) | (with_reducible apply det_rb (fun _ _ => Iff.rfl)) | (with_reducible apply det_and (fun _ _ h => h)) | (with_reducible intro _))
theorem det_qY_settle_L37 {R : Type} {l : Nat → Nat} {KX126 : (Nat → Nat) → (R → Prop) → S_ → Int32 → Prop} (hKX126 : ∀ (x0 : S_) (x1 : Int32), Det (fun ad K0 => KX126 ad K0 x0 x1)) : ∀ (n : Nat) (w0 : S_) (w1 : Int32) (w2 : Int32), Det (fun ad (K0 : R → Prop) => qY_settle_L37 (ad, l) (KX126 ad K0) n w0 w1 w2) := by
  intro n
  induction n with
  | zero =>
    intros
    simp only [qY_settle_L37]
    exact det_false
  | succ n ih =>
    intros
    simp only [qY_settle_L37]
    repeat' (first | (with_reducible exact hKX126 _ _) | (with_reducible apply det_imp (by assumption)) | (with_reducible apply det_zb) | (with_reducible apply det_ex) | (with_reducible apply det_all) | (with_reducible apply det_br (fun _ _ => Iff.rfl)) | (with_reducible apply det_rb (fun _ _ => Iff.rfl)) | (with_reducible apply det_and (fun _ _ h => h)) | (with_reducible exact ih _ _ _) | (with_reducible apply det_qG_isVariable) | (with_reducible apply det_qY_settleVariable) | (with_reducible apply det_qY_handDown) | (with_reducible apply det_qY_settle_J120) | (with_reducible intro _))
theorem det_qY_settle {R : Type} {l : Nat → Nat} {K : (Nat → Nat) → (R → Prop) → Int32 → S_ → Prop} {r : S_} {p0 : Int32} {p1 : Int32} (hK : ∀ (x0 : Int32) (x1 : S_), Det (fun ad K0 => K ad K0 x0 x1)) : Det (fun ad (K0 : R → Prop) => qY_settle (ad, l) (K ad K0) r p0 p1) := by
  unfold qY_settle
  repeat' (first | (with_reducible exact hK _ _) | (with_reducible apply det_imp (by assumption)) | (with_reducible apply det_zb) | (with_reducible apply det_ex) | (with_reducible apply det_all) | (with_reducible apply det_br (fun _ _ => Iff.rfl)) | (with_reducible apply det_rb (fun _ _ => Iff.rfl)) | (with_reducible apply det_and (fun _ _ h => h)) | (with_reducible apply det_qY_markBound) | (with_reducible apply det_qY_markOpen) | (with_reducible apply det_qY_gatherAsked) | (with_reducible apply det_qY_settle_L37) | (with_reducible intro _))
theorem det_qY_enter {R : Type} {l : Nat → Nat} {K : (Nat → Nat) → (R → Prop) → S_ → Prop} {r : S_} {p0 : Int32} {p1 : Int32} {p2 : Int32} (hK : ∀ (x0 : S_), Det (fun ad K0 => K ad K0 x0)) : Det (fun ad (K0 : R → Prop) => qY_enter (ad, l) (K ad K0) r p0 p1 p2) := by
  unfold qY_enter
  repeat' (first | (with_reducible exact hK _) | (with_reducible apply det_imp (by assumption)) | (with_reducible apply det_zb) | (with_reducible apply det_ex) | (with_reducible apply det_all) | (with_reducible apply det_br (fun _ _ => Iff.rfl)) | (with_reducible apply det_rb (fun _ _ => Iff.rfl)) | (with_reducible apply det_and (fun _ _ h => h)) | (with_reducible intro _))
theorem det_qY_leave {R : Type} {l : Nat → Nat} {K : (Nat → Nat) → (R → Prop) → S_ → Prop} {r : S_} (hK : ∀ (x0 : S_), Det (fun ad K0 => K ad K0 x0)) : Det (fun ad (K0 : R → Prop) => qY_leave (ad, l) (K ad K0) r) := by
  unfold qY_leave
  repeat' (first | (with_reducible exact hK _) | (with_reducible apply det_imp (by assumption)) | (with_reducible apply det_zb) | (with_reducible apply det_ex) | (with_reducible apply det_all) | (with_reducible apply det_br (fun _ _ => Iff.rfl)) | (with_reducible apply det_rb (fun _ _ => Iff.rfl)) | (with_reducible apply det_and (fun _ _ h => h)) | (with_reducible intro _))
theorem det_qG_clear {R : Type} {l : Nat → Nat} {K : (Nat → Nat) → (R → Prop) → S_ → Prop} {r : S_} (hK : ∀ (x0 : S_), Det (fun ad K0 => K ad K0 x0)) : Det (fun ad (K0 : R → Prop) => qG_clear (ad, l) (K ad K0) r) := by
  unfold qG_clear
  repeat' (first | (with_reducible exact hK _) | (with_reducible apply det_imp (by assumption)) | (with_reducible apply det_zb) | (with_reducible apply det_ex) | (with_reducible apply det_all) | (with_reducible apply det_br (fun _ _ => Iff.rfl)) | (with_reducible apply det_rb (fun _ _ => Iff.rfl)) | (with_reducible apply det_and (fun _ _ h => h)) | (with_reducible intro _))
theorem det_qK_methodOf {R : Type} {l : Nat → Nat} {r : S_} {K : (Nat → Nat) → (R → Prop) → Int32 → Prop} {p0 : Int32} (hK : ∀ (x0 : Int32), Det (fun ad K0 => K ad K0 x0)) : Det (fun ad (K0 : R → Prop) => qK_methodOf (ad, l) r (K ad K0) p0) := by
  unfold qK_methodOf
  repeat' (first | (with_reducible exact hK _) | (with_reducible apply det_imp (by assumption)) | (with_reducible apply det_zb) | (with_reducible apply det_ex) | (with_reducible apply det_all) | (with_reducible apply det_br (fun _ _ => Iff.rfl)) | (with_reducible apply det_rb (fun _ _ => Iff.rfl)) | (with_reducible apply det_and (fun _ _ h => h)) | (with_reducible intro _))
theorem det_qE_has {R : Type} {l : Nat → Nat} {r : S_} {K : (Nat → Nat) → (R → Prop) → Int32 → Prop} {p0 : Int32} (hK : ∀ (x0 : Int32), zb x0 → Det (fun ad K0 => K ad K0 x0)) : Det (fun ad (K0 : R → Prop) => qE_has (ad, l) r (K ad K0) p0) := by
  unfold qE_has
  repeat' (first | (with_reducible exact hK _ (by assumption)) | (with_reducible apply det_imp (by assumption)) | (with_reducible apply det_zb) | (with_reducible apply det_ex) | (with_reducible apply det_all) | (with_reducible apply det_br (fun _ _ => Iff.rfl)) | (with_reducible apply det_rb (fun _ _ => Iff.rfl)) | (with_reducible apply det_and (fun _ _ h => h)) | (with_reducible intro _))
theorem det_qE_nodesOf {R : Type} {l : Nat → Nat} {r : S_} {K : (Nat → Nat) → (R → Prop) → Int32 → Prop} {p0 : Int32} (hK : ∀ (x0 : Int32), Det (fun ad K0 => K ad K0 x0)) : Det (fun ad (K0 : R → Prop) => qE_nodesOf (ad, l) r (K ad K0) p0) := by
  unfold qE_nodesOf
  repeat' (first | (with_reducible exact hK _) | (with_reducible apply det_imp (by assumption)) | (with_reducible apply det_zb) | (with_reducible apply det_ex) | (with_reducible apply det_all) | (with_reducible apply det_br (fun _ _ => Iff.rfl)) | (with_reducible apply det_rb (fun _ _ => Iff.rfl)) | (with_reducible apply det_and (fun _ _ h => h)) | (with_reducible intro _))
theorem det_qD_sizeOf {R : Type} {l : Nat → Nat} {r : S_} {K : (Nat → Nat) → (R → Prop) → Int64 → Prop} {p0 : Int32} (hK : ∀ (x0 : Int64), Det (fun ad K0 => K ad K0 x0)) : Det (fun ad (K0 : R → Prop) => qD_sizeOf (ad, l) r (K ad K0) p0) := by
  unfold qD_sizeOf
  repeat' (first | (with_reducible exact hK _) | (with_reducible apply det_imp (by assumption)) | (with_reducible apply det_zb) | (with_reducible apply det_ex) | (with_reducible apply det_all) | (with_reducible apply det_br (fun _ _ => Iff.rfl)) | (with_reducible apply det_rb (fun _ _ => Iff.rfl)) | (with_reducible apply det_and (fun _ _ h => h)) | (with_reducible intro _))
theorem det_qD_addBuilt {R : Type} {l : Nat → Nat} {K : (Nat → Nat) → (R → Prop) → S_ → Prop} {r : S_} {p0 : Int32} {p1 : Int32} {p2 : Int32} (hK : ∀ (x0 : S_), Det (fun ad K0 => K ad K0 x0)) : Det (fun ad (K0 : R → Prop) => qD_addBuilt (ad, l) (K ad K0) r p0 p1 p2) := by
  unfold qD_addBuilt
  repeat' (first | (with_reducible exact hK _) | (with_reducible apply det_imp (by assumption)) | (with_reducible apply det_zb) | (with_reducible apply det_ex) | (with_reducible apply det_all) | (with_reducible apply det_br (fun _ _ => Iff.rfl)) | (with_reducible apply det_rb (fun _ _ => Iff.rfl)) | (with_reducible apply det_and (fun _ _ h => h)) | (with_reducible apply det_qD_sizeOf) | (with_reducible intro _))
theorem det_qD_addVariable {R : Type} {l : Nat → Nat} {K : (Nat → Nat) → (R → Prop) → S_ → Prop} {r : S_} {p0 : Int32} (hK : ∀ (x0 : S_), Det (fun ad K0 => K ad K0 x0)) : Det (fun ad (K0 : R → Prop) => qD_addVariable (ad, l) (K ad K0) r p0) := by
  unfold qD_addVariable
  repeat' (first | (with_reducible exact hK _) | (with_reducible apply det_imp (by assumption)) | (with_reducible apply det_zb) | (with_reducible apply det_ex) | (with_reducible apply det_all) | (with_reducible apply det_br (fun _ _ => Iff.rfl)) | (with_reducible apply det_rb (fun _ _ => Iff.rfl)) | (with_reducible apply det_and (fun _ _ h => h)) | (with_reducible apply det_qJ_bitCount) | (with_reducible apply det_qD_addBuilt) | (with_reducible intro _))
theorem det_qD_nodes {R : Type} {l : Nat → Nat} {r : S_} {K : (Nat → Nat) → (R → Prop) → Int32 → Prop} (hK : ∀ (x0 : Int32), Det (fun ad K0 => K ad K0 x0)) : Det (fun ad (K0 : R → Prop) => qD_nodes (ad, l) r (K ad K0)) := by
  unfold qD_nodes
  repeat' (first | (with_reducible exact hK _) | (with_reducible apply det_imp (by assumption)) | (with_reducible apply det_zb) | (with_reducible apply det_ex) | (with_reducible apply det_all) | (with_reducible apply det_br (fun _ _ => Iff.rfl)) | (with_reducible apply det_rb (fun _ _ => Iff.rfl)) | (with_reducible apply det_and (fun _ _ h => h)) | (with_reducible intro _))
theorem det_qJ_fill_L5 {R : Type} {l : Nat → Nat} {m0 : Nat} {KX20 : (Nat → Nat) → (R → Prop) → S_ → Prop} (hKX20 : ∀ (x0 : S_), Det (fun ad K0 => KX20 ad K0 x0)) : ∀ (n : Nat) (w0 : S_) (w1 : Int32) (w2 : Int32) (w3 : Int32), Det (fun ad (K0 : R → Prop) => qJ_fill_L5 (ad, l) m0 (KX20 ad K0) n w0 w1 w2 w3) := by
  intro n
  induction n with
  | zero =>
    intros
    simp only [qJ_fill_L5]
    exact det_false
  | succ n ih =>
    intros
    simp only [qJ_fill_L5]
    repeat' (first | (with_reducible exact hKX20 _) | (with_reducible apply det_imp (by assumption)) | (with_reducible apply det_zb) | (with_reducible apply det_ex) | (with_reducible apply det_all) | (with_reducible apply det_br (fun _ _ => Iff.rfl)) | (with_reducible apply det_rb (fun _ _ => Iff.rfl)) | (with_reducible apply det_and (fun _ _ h => h)) | (with_reducible exact ih _ _ _ _) | (with_reducible intro _))
theorem det_qJ_fill {R : Type} {l : Nat → Nat} {m0 : Nat} {K : (Nat → Nat) → (R → Prop) → S_ → Prop} {r : S_} {p1 : Int32} (hK : ∀ (x0 : S_), Det (fun ad K0 => K ad K0 x0)) : Det (fun ad (K0 : R → Prop) => qJ_fill (ad, l) m0 (K ad K0) r p1) := by
  unfold qJ_fill
  show Det (fun ad (K0 : R → Prop) => ∃ n4 : Nat, qJ_fill_L5 (ad, l) m0 (fun r => K ad K0 r) n4 r p1 0 (Int32.ofNat (l m0)))
  repeat' (first | (with_reducible exact hK _) | (with_reducible apply det_imp (by assumption)) | (with_reducible apply det_zb) | (with_reducible apply det_ex) | (with_reducible apply det_all) | (with_reducible apply det_br (fun _ _ => Iff.rfl)) | (with_reducible apply det_rb (fun _ _ => Iff.rfl)) | (with_reducible apply det_and (fun _ _ h => h)) | (with_reducible apply det_qJ_fill_L5) | (with_reducible intro _))
end DET
