/-! Calls on both sides: want; safe. -/
section WANT
theorem wantAt_safe {ad l : Nat → Nat} {r : S_} (w : TD l r) {p q : Int32} {K : Int32 → Prop} (hK : ∀ z, K z) : qD_wantAt (ad, l) r K p q := by
  obtain ⟨⟨⟨t1, t2, t3, t4, t5⟩, ⟨c1, c2⟩, -⟩, d1, d2⟩ := w
  have inner : ∀ (KX46 : Int32 → Int32 → Int32 → Prop) (KX67 : Int32 → Int32 → Int32 → Prop), (∀ x y z, KX46 x y z) → ∀ v4 : Int32, 0 ≤ v4 → v4 < fi r 17 → (∀ x y, KX67 x y v4) → ∀ (n : Nat) (v2 v3 v5 : Int32), 0 ≤ v5 → v5 ≤ 8 → 8 - v5.toInt < n → qD_wantAt_L17 (ad, l) r KX46 KX67 n v2 v3 v4 v5 := by
    intro KX46 KX67 h46 v4 a1 a2 h67 n
    induction n with
    | zero => intro v2 v3 v5 k1 k2 k3; rw [il] at k2; simp at k2; omega
    | succ n ih =>
      intro v2 v3 v5 k1 k2 k3
      rw [qD_wantAt_L17]
      refine ⟨fun _ => h67 _ _, fun g => ?_⟩
      have g1 : v5 < 8 := Int32.not_le.mp g
      have hi := i_inc g1
      have e0 : 0 ≤ v5 + 1 := by clear ih h46 h67; grind
      have e1 : v5 + 1 ≤ 8 := by clear ih h46 h67; grind
      have e2 : 8 - (v5 + 1).toInt < n := by rw [hi]; clear ih h46 h67; omega
      unfold qD_wantAt_J61
      exact ⟨vi2 a1 a2 (by show (fi r 17).toInt ≤ l 35; rw [t3]; omega), fun _ => ⟨fun _ => ih _ _ _ e0 e1 e2, fun _ => h46 _ _ _⟩, fun _ => ih _ _ _ e0 e1 e2⟩
  have key : ∀ (n : Nat) (v2 v3 v4 : Int32), 0 ≤ v4 → v4 ≤ fi r 17 → (fi r 17).toInt - v4.toInt < n → qD_wantAt_L5 (ad, l) r (fun v2 v4 v5 => ((¬ v2 = 0) → K v4) ∧ ((v2 = 0) → K v5)) (K (-1)) n v2 v3 v4 := by
    intro n
    induction n with
    | zero => intro v2 v3 v4 k1 k2 k3; rw [il] at k2; omega
    | succ n ih =>
      intro v2 v3 v4 k1 k2 k3
      rw [qD_wantAt_L5]
      refine ⟨fun _ => hK _, fun g => ?_⟩
      have g1 : v4 < fi r 17 := Int32.not_le.mp g
      have hi := i_inc g1
      have e0 : 0 ≤ v4 + 1 := by clear ih inner; grind
      have e1 : v4 + 1 ≤ fi r 17 := by clear ih inner; grind
      have nx : ∀ x y : Int32, qD_wantAt_L5 (ad, l) r (fun v2 v4 v5 => ((¬ v2 = 0) → K v4) ∧ ((v2 = 0) → K v5)) (K (-1)) n x y (v4 + 1) := fun x y => ih x y (v4 + 1) e0 e1 (by rw [hi]; omega)
      exact ⟨9, inner (fun v2 v4 v5 => ((¬ v2 = 0) → K v4) ∧ ((v2 = 0) → K v5)) (fun v2 v3 v4 => qD_wantAt_L5 (ad, l) r (fun v2 v4 v5 => ((¬ v2 = 0) → K v4) ∧ ((v2 = 0) → K v5)) (K (-1)) n v2 v3 (v4 + 1)) (fun x y z => ⟨fun _ => hK _, fun _ => hK _⟩) v4 k1 g1 nx 9 v2 v3 0 (by decide) (by decide) (by decide)⟩
  have c0 := i_nat d1
  unfold qD_wantAt
  exact ⟨(fi r 17).toNatClampNeg + 1, key _ _ _ _ (by decide) d1 (by simp; omega)⟩
theorem want_pair {ad l : Nat → Nat} {r : S_} {p q : Int32} (h : INV l r) {K : S_ → Prop} (hK : ∀ r', INV l r' → kp r' = kp r → K r') : qI_want (ad, l) r (fun _ => qM_want (ad, l) (fun _ r2 => K r2) r p q) p q := by
  have fin : K (sF r 20 0) := hK _ (INV_20 h) rfl
  have m := h.2.2.1
  obtain ⟨⟨a1, a2, -⟩, -⟩ := h.2.2.2.1
  have l81 : l 81 = 20000 := ml (n := 20000) m (by decide) (by decide) rfl
  have l82 : l 82 = 20000 := ml (n := 20000) m (by decide) (by decide) rfl
  have a3 : fi r 38 ≤ 1000000 := by clear h m; grind
  have a4 : (fi r 38).toInt ≤ 20000 := by rw [il] at a2; simpa using a2
  have G : qM_want (ad, l) (fun _ r2 => K r2) r p q := by
    unfold qM_want qM_want_J28
    intro r1 e1
    subst e1
    refine rin_ix (r := sF r 20 0) (c := fi (sF r 20 0) 38) a1 a3 (fun _ => ⟨fun _ => fin, fun z => absurd rfl z⟩) (fun p0 p1 => ⟨fun z => absurd z (by decide), fun _ => rin_ok (fun _ => ⟨fun z => absurd rfl z, fun _ => fin⟩) (fun _ _ => ⟨fun _ => ⟨fun _ => ⟨?_, fin⟩, fun _ => ⟨?_, fin⟩⟩, fun z => absurd z (by decide)⟩)⟩)
    · exact vi2 p0 p1 (by show (fi r 38).toInt ≤ l 82; rw [l82]; exact a4)
    · exact vi2 p0 p1 (by show (fi r 38).toInt ≤ l 81; rw [l81]; exact a4)
  unfold qI_want qD_wantCount
  exact ⟨fun _ => G, fun _ => ⟨fun _ => G, fun _ => ⟨fun _ => G, fun _ => ⟨fun _ => wantAt_safe h.1.2.2.2.2.1 (fun _ => G), fun _ => G⟩⟩⟩⟩
end WANT
