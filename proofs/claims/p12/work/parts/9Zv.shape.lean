/-! Calls on both sides: shape, the reference's side; safe. -/
section SHAPE2
theorem psi1 {v a x y z : Int} (h0 : 0 < v) (h1 : v < a) (h2 : a ≤ 1 + x + y) (hx : x = 0) (hy : y = 0) : False := by omega
theorem psi2 {v a x y z : Int} (h1 : v < a) (h2 : a ≤ 1 + x + y) (hz : z ≤ v - 1) (hx : x = z) : v - 1 - z < y := by omega
theorem psi3 {v z : Int} (hz : z ≤ v - 1) (h0 : 0 ≤ z) (hv : v < 2147483648) : 0 ≤ v - 1 - z ∧ v - 1 - z < 2147483648 := by omega
theorem psi4 {v z : Int} (h : ¬ z ≤ v - 1) : v - 1 < z := by omega
theorem psi5 {v : Int} (h : v < 0) (h2 : 0 ≤ v) : False := by omega
theorem rshape_L {ad l : Nat → Nat} {r : S_} (m : ML (A0 l)) {C : Int32 → Prop} (hC : ∀ x, C x → (0 ≤ x ∧ x < 40000) ∧ (-1 ≤ ar r 78 x.toNatClampNeg ∧ (0 ≤ ar r 78 x.toNatClampNeg → C (ar r 78 x.toNatClampNeg))) ∧ (-1 ≤ ar r 79 x.toNatClampNeg ∧ (0 ≤ ar r 79 x.toNatClampNeg → C (ar r 79 x.toNatClampNeg))) ∧ (ar r 78 x.toNatClampNeg = -1 → ar r 79 x.toNatClampNeg = -1) ∧ (0 ≤ (ar r 80 x.toNatClampNeg).toInt ∧ (ar r 80 x.toNatClampNeg).toInt ≤ 1000000000) ∧ (ar r 80 x.toNatClampNeg).toInt ≤ 1 + (if ar r 78 x.toNatClampNeg = -1 then 0 else (ar r 80 (ar r 78 x.toNatClampNeg).toNatClampNeg).toInt) + (if ar r 79 x.toNatClampNeg = -1 then 0 else (ar r 80 (ar r 79 x.toNatClampNeg).toNatClampNeg).toInt)) {KX : S_ → Int32 → Prop} (hK : ∀ x, C x → KX r x) : ∀ (n : Nat) (v2 v3 : Int32), C v2 → 0 ≤ v3.toInt → v3.toInt < (ar r 80 v2.toNatClampNeg).toInt → v3.toInt < n → qM_shape_L39 (ad, l) KX n r v2 v3 := by
  have l78 : l 78 = 40000 := ml (n := 40000) m (by decide) (by decide) rfl
  have l79 : l 79 = 40000 := ml (n := 40000) m (by decide) (by decide) rfl
  have l80 : l 80 = 40000 := ml (n := 40000) m (by decide) (by decide) rfl
  have vv : ∀ x q, l q = 40000 → C x → vp_in x (ln (ad, l) q) := fun x q hq hx => vi2 (hC x hx).1.1 (hC x hx).1.2 (by show (40000 : Int32).toInt ≤ l q; rw [hq]; decide)
  intro n
  induction n with
  | zero => intro v2 v3 a1 a2 a3 a4; exact (psi5 a4 a2).elim
  | succ n ih =>
    intro v2 v3 a1 a2 a3 a4
    obtain ⟨b1, ⟨b2, b3⟩, ⟨b4, b5⟩, b6, b7, b8⟩ := hC v2 a1
    rw [qM_shape_L39]
    refine ⟨fun _ => hK v2 a1, fun g => ?_⟩
    have g0 : 0 < v3.toInt := by
      have := Int32.not_le.mp g
      rw [it] at this
      simpa using this
    have e1 := dec32 g0
    have ln1 : ¬ ar r 78 v2.toNatClampNeg = -1 := fun q => by
      rw [if_pos q, if_pos (b6 q)] at b8
      exact psi1 (z := 0) g0 a3 b8 rfl rfl
    have c1 := b3 (ge0 b2 ln1)
    have d7 := (hC _ c1).2.2.2.2.1
    rw [if_neg ln1] at b8
    refine ⟨vv _ 78 l78 a1, vv _ 80 l80 c1, fun q => ?_, fun q => ?_⟩
    · intro z11 e11
      rw [il, e1] at q
      have f1 := psi3 q d7.1 (Int32.toInt_lt v3)
      have f2 := psi2 a3 b8 q rfl
      have e2 : z11.toInt = v3.toInt - 1 - (ar r 80 (ar r 78 v2.toNatClampNeg).toNatClampNeg).toInt := by
        rw [e11, sub32 (by rw [e1]; exact f1.1) (by rw [e1]; exact f1.2), e1]
      have rn : ¬ ar r 79 v2.toNatClampNeg = -1 := fun q2 => by
        rw [if_pos q2] at f2
        exact psi5 f2 f1.1
      rw [if_neg rn] at f2
      unfold qM_shape_J87
      exact ⟨vv _ 79 l79 a1, ih _ _ (b5 (ge0 b4 rn)) (by rw [e2]; exact f1.1) (by rw [e2]; exact f2) (by rw [e2]; exact psh4 a4 d7.1)⟩
    · rw [il, e1] at q
      unfold qM_shape_J87
      exact ⟨vv _ 78 l78 a1, ih _ _ c1 (by rw [e1]; exact psh6 g0) (by rw [e1]; exact psi4 q) (by rw [e1]; exact psh3 a4)⟩
theorem shape_pair {ad l : Nat → Nat} {r : S_} {p : Int32} (h : INV l r) {K : S_ → Prop} (hK : ∀ r', INV l r' → kp r' = kp r → K r') : qI_shape (ad, l) r (fun _ => qM_shape (ad, l) (fun _ r2 => K r2) r p) p := by
  have fin : K (sF r 20 0) := hK _ (INV_20 h) rfl
  have m := h.2.2.1
  obtain ⟨-, C, c1, hC⟩ := h.2.2.2.1
  have l77 : l 77 = 40000 := ml (n := 40000) m (by decide) (by decide) rfl
  have l80 : l 80 = 40000 := ml (n := 40000) m (by decide) (by decide) rfl
  have vv : ∀ x q, l q = 40000 → C x → vp_in x (ln (ad, l) q) := fun x q hq hx => vi2 (hC x hx).1.1 (hC x hx).1.2 (by show (40000 : Int32).toInt ≤ l q; rw [hq]; decide)
  unfold qI_shape
  refine headAt_safe h.1.2.2.2.2.1.1 (fun _ => ?_)
  unfold qM_shape qM_hasLast
  intro r1 e1
  subst e1
  refine ⟨vv _ 80 l80 c1, fun _ => ⟨zb0, fun _ => ⟨fun _ => fin, fun z => absurd rfl z⟩⟩, fun _ => ⟨zb1, fun _ => ⟨fun z => absurd z (by decide), fun _ => ⟨fun _ => fin, fun g => ⟨vv _ 80 l80 c1, fun g2 => ?_, fun _ => fin⟩⟩⟩⟩⟩
  have p0 : 0 ≤ p.toInt := by
    have := Int32.not_lt.mp g
    rw [il] at this
    simpa using this
  rw [it] at g2
  exact ⟨p.toInt.toNat + 1, rshape_L (r := sF r 20 0) m hC (fun x hx => ⟨vv x 77 l77 hx, fin⟩) _ _ _ c1 p0 g2 (by clear hC g2 hK; omega)⟩
theorem wants_pair {ad l : Nat → Nat} {r : S_} (h : INV l r) {K : S_ → Prop} (hK : ∀ r', INV l r' → kp r' = kp r → K r') : qI_wants (ad, l) r (fun _ => qM_wants (ad, l) (fun _ r2 => K r2) r) ∧ qI_passes (ad, l) r (fun _ => qM_passes (ad, l) (fun _ r2 => K r2) r) := by
  have fin : K (sF r 20 0) := hK _ (INV_20 h) rfl
  unfold qI_wants qM_wants qI_passes qM_passes qD_wantCount qD_handedOver
  exact ⟨fun r1 e1 => by rw [e1]; exact fin, fun r1 e1 => by rw [e1]; exact fin⟩
end SHAPE2
