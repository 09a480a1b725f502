/-! What is between calls, while the reference's own arrays change. -/
section MIX
/-- s, but the tables and the class of r -/
def mix (r s : S_) : S_ := (fun k => cond (Nat.ble k 25 && !Nat.beq k 20) (fi r k) (fi s k), fun k => cond (Nat.ble k 49 || Nat.beq k 86) (ar r k) (ar s k), fun k => la r k)
theorem nbq {k n : Nat} : Nat.beq k n = false ↔ ¬ k = n := by
  constructor
  · intro h e
    rw [e, Nat.beq_refl] at h
    exact absurd h (by decide)
  · intro h
    cases e : Nat.beq k n with
    | false => rfl
    | true => exact absurd (Nat.eq_of_beq_eq_true e) h
theorem mix_eq {r s : S_} (hf : ∀ k, k ≤ 25 → ¬ k = 20 → fi s k = fi r k) (ha : ∀ k, k ≤ 49 ∨ k = 86 → ar s k = ar r k) (hl : ∀ k, la s k = la r k) : s = mix r s := by
  obtain ⟨a1, a2, a3⟩ := s
  unfold mix
  have g1 : a1 = fun k => cond (Nat.ble k 25 && !Nat.beq k 20) (fi r k) (fi (a1, a2, a3) k) := funext (fun k => by
    by_cases e : k ≤ 25 ∧ ¬ k = 20
    · have e1 : Nat.ble k 25 = true := Nat.ble_eq.mpr e.1
      have e2 : Nat.beq k 20 = false := nbq.mpr e.2
      rw [e1, e2]
      exact hf k e.1 e.2
    · have : (Nat.ble k 25 && !Nat.beq k 20) = false := by
        cases h1 : Nat.ble k 25 with
        | false => rfl
        | true =>
          cases h2 : Nat.beq k 20 with
          | true => rfl
          | false => exact absurd ⟨Nat.ble_eq.mp h1, nbq.mp h2⟩ e
      rw [this]
      rfl)
  have g2 : a2 = fun k => cond (Nat.ble k 49 || Nat.beq k 86) (ar r k) (ar (a1, a2, a3) k) := funext (fun k => by
    cases h1 : (Nat.ble k 49 || Nat.beq k 86) with
    | false => rfl
    | true =>
      refine ha k ?_
      rcases (Bool.or_eq_true _ _).mp h1 with z | z
      · exact Or.inl (Nat.ble_eq.mp z)
      · exact Or.inr (Nat.eq_of_beq_eq_true z))
  have g3 : a3 = fun k => la r k := funext (fun k => hl k)
  exact Prod.ext g1 (Prod.ext g2 g3)
theorem INV_mix {l : Nat → Nat} {r s : S_} (h : INV l r) (hL : LAST (mix r s)) : INV l (mix r s) := ⟨h.1, h.2.1, h.2.2.1, hL, h.2.2.2.2⟩
theorem INV_to {l : Nat → Nat} {r s : S_} (h : INV l r) (hf : ∀ k, k ≤ 25 → ¬ k = 20 → fi s k = fi r k) (ha : ∀ k, k ≤ 49 ∨ k = 86 → ar s k = ar r k) (hl : ∀ k, la s k = la r k) (hL : LAST s) : INV l s := by
  have e := mix_eq hf ha hl
  rw [e] at hL ⊢
  exact INV_mix h hL
end MIX
