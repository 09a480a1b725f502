/-! The reference: which types of the table a type holds. -/
section STATIC
def sm (f : Nat → Int) : Nat → Int
  | 0 => 0
  | n + 1 => sm f n + f n
theorem sm_le {f g : Nat → Int} {n : Nat} (h : ∀ i, i < n → f i ≤ g i) : sm f n ≤ sm g n := by
  induction n with
  | zero => exact Int.le_refl _
  | succ n ih =>
    have := ih (fun i hi => h i (by omega))
    have := h n (by omega)
    rw [sm, sm]
    omega
theorem sm_upd {f g : Nat → Int} {n i : Nat} (hi : i < n) (h : ∀ j, j < n → j ≠ i → g j = f j) : sm g n = sm f n + (g i - f i) := by
  induction n with
  | zero => omega
  | succ n ih =>
    rw [sm, sm]
    by_cases e : i = n
    · subst e
      have : sm g i = sm f i := by
        have h1 := sm_le (f := g) (g := f) (n := i) (fun j hj => by rw [h j (by omega) (by omega)]; omega)
        have h2 := sm_le (f := f) (g := g) (n := i) (fun j hj => by rw [h j (by omega) (by omega)]; omega)
        omega
      rw [this]
      omega
    · rw [ih (by omega) (fun j hj hn => h j (by omega) hn), h n (by omega) (fun z => e z.symm)]
      omega
/-- weights of processed and unprocessed types -/
def WT (r : S_) (p u : Nat → Int) : Prop := (∀ i, 0 ≤ u i) ∧ ∀ k : Int32, 0 ≤ k → k < fi r 1 → p k.toNatClampNeg + (if ar r 2 k.toNatClampNeg = -1 then 0 else u (ar r 2 k.toNatClampNeg).toNatClampNeg) + (if ar r 3 k.toNatClampNeg = -1 then 0 else u (ar r 3 k.toNatClampNeg).toNatClampNeg) ≤ u k.toNatClampNeg
def ww (p u : Nat → Int) (mk : Nat → Int32) (cur : Int) (j : Nat) : Int := if mk j = 0 then 0 else if (j : Int) > cur then p j else u j
/-- while types are marked downwards; those above cur are through -/
def SJ (r0 r : S_) (t : Int32) (cur : Int) : Prop := Fr [] [88] r0 r ∧ (∀ k : Int32, 0 ≤ k → k < 60 → zb (ar r 88 k.toNatClampNeg) ∧ (¬ ar r 88 k.toNatClampNeg = 0 → k ≤ t)) ∧ ¬ ar r 88 t.toNatClampNeg = 0 ∧ (∀ k : Int32, 0 ≤ k → k < 60 → ¬ ar r 88 k.toNatClampNeg = 0 → k.toInt > cur → (0 ≤ ar r0 2 k.toNatClampNeg → ¬ ar r 88 (ar r0 2 k.toNatClampNeg).toNatClampNeg = 0) ∧ (0 ≤ ar r0 3 k.toNatClampNeg → ¬ ar r 88 (ar r0 3 k.toNatClampNeg).toNatClampNeg = 0)) ∧ (∀ A : Int32 → Prop, A t → (∀ k : Int32, 0 ≤ k → k < fi r0 1 → A k → (0 ≤ ar r0 2 k.toNatClampNeg → A (ar r0 2 k.toNatClampNeg)) ∧ (0 ≤ ar r0 3 k.toNatClampNeg → A (ar r0 3 k.toNatClampNeg))) → ∀ k : Int32, 0 ≤ k → k < 60 → ¬ ar r 88 k.toNatClampNeg = 0 → A k) ∧ ∀ p u, WT r0 p u → sm (ww p u (ar r 88) cur) 60 ≤ u t.toNatClampNeg
theorem nar0 : vp_nar .boolean 0 = 0 := rfl
theorem nar1 : vp_nar .boolean 1 = 1 := rfl
/-- a child of the one under work, cur, is marked; sl: what its weight was -/
theorem SJ_mark {l : Nat → Nat} {r0 r : S_} {t x : Int32} {cur : Int} (w : TT l r0) (t0 : 0 ≤ t) (t1 : t < fi r0 1) (h1 : Fr [] [88] r0 r) (h2 : ∀ k : Int32, 0 ≤ k → k < 60 → zb (ar r 88 k.toNatClampNeg) ∧ (¬ ar r 88 k.toNatClampNeg = 0 → k ≤ t)) (h3 : ¬ ar r 88 t.toNatClampNeg = 0) (h4 : ∀ k : Int32, 0 ≤ k → k < 60 → ¬ ar r 88 k.toNatClampNeg = 0 → k.toInt > cur → (0 ≤ ar r0 2 k.toNatClampNeg → ¬ ar r 88 (ar r0 2 k.toNatClampNeg).toNatClampNeg = 0) ∧ (0 ≤ ar r0 3 k.toNatClampNeg → ¬ ar r 88 (ar r0 3 k.toNatClampNeg).toNatClampNeg = 0)) (x0 : 0 ≤ x) (x1 : x.toInt ≤ cur) (xt : x ≤ t) : (Fr [] [88] r0 (sA r 88 (upd (ar r 88) x.toNatClampNeg 1))) ∧ (∀ k : Int32, 0 ≤ k → k < 60 → zb (upd (ar r 88) x.toNatClampNeg 1 k.toNatClampNeg) ∧ (¬ upd (ar r 88) x.toNatClampNeg 1 k.toNatClampNeg = 0 → k ≤ t)) ∧ ¬ upd (ar r 88) x.toNatClampNeg 1 t.toNatClampNeg = 0 ∧ (∀ k : Int32, 0 ≤ k → k < 60 → ¬ upd (ar r 88) x.toNatClampNeg 1 k.toNatClampNeg = 0 → k.toInt > cur → (0 ≤ ar r0 2 k.toNatClampNeg → ¬ upd (ar r 88) x.toNatClampNeg 1 (ar r0 2 k.toNatClampNeg).toNatClampNeg = 0) ∧ (0 ≤ ar r0 3 k.toNatClampNeg → ¬ upd (ar r 88) x.toNatClampNeg 1 (ar r0 3 k.toNatClampNeg).toNatClampNeg = 0)) ∧ (∀ p u : Nat → Int, (∀ i, 0 ≤ u i) → sm (ww p u (upd (ar r 88) x.toNatClampNeg 1) cur) 60 ≤ sm (ww p u (ar r 88) cur) 60 + u x.toNatClampNeg) := by
  have up : ∀ y : Int32, 0 ≤ y → ¬ ar r 88 y.toNatClampNeg = 0 → ¬ upd (ar r 88) x.toNatClampNeg 1 y.toNatClampNeg = 0 := fun y y0 hy => by
    rw [updI _ _ x0 y0]
    split
    · decide
    · exact hy
  have x60 : x.toNatClampNeg < 60 := by
    have h := i_nat x0
    have f4 := w.1.2.2.2
    rw [il] at f4 xt
    rw [it] at t1
    simp at f4
    omega
  refine ⟨Fr_trans h1 (Fr_sA (by decide)), fun k k0 k1 => ?_, up t t0 h3, fun k k0 k1 k2 k3 => ?_, fun p u hu => ?_⟩
  · rw [updI _ _ x0 k0]
    split
    · rename_i e
      exact ⟨zb1, fun _ => by rw [e]; exact xt⟩
    · exact h2 k k0 k1
  · rw [updI _ _ x0 k0, if_neg (fun e => by rw [e] at k3; omega)] at k2
    have b := h4 k k0 k1 k2 k3
    exact ⟨fun g => up _ g (b.1 g), fun g => up _ g (b.2 g)⟩
  · have e := sm_upd (f := ww p u (ar r 88) cur) (g := ww p u (upd (ar r 88) x.toNatClampNeg 1) cur) x60 (fun j _ hj => by unfold ww; rw [pk_un hj])
    rw [e]
    have e1 : ww p u (upd (ar r 88) x.toNatClampNeg 1) cur x.toNatClampNeg = u x.toNatClampNeg := by
      unfold ww
      rw [pk_us, if_neg (by decide), if_neg (by have := i_nat x0; omega)]
    have e2 : 0 ≤ ww p u (ar r 88) cur x.toNatClampNeg ∨ True := Or.inr trivial
    rw [e1]
    by_cases g : ar r 88 x.toNatClampNeg = 0
    · have : ww p u (ar r 88) cur x.toNatClampNeg = 0 := by unfold ww; rw [if_pos g]
      omega
    · have : ww p u (ar r 88) cur x.toNatClampNeg = u x.toNatClampNeg := by
        unfold ww
        rw [if_neg g, if_neg (by have := i_nat x0; omega)]
      have := hu x.toNatClampNeg
      omega
end STATIC
