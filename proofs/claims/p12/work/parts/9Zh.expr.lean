/-! Calls on both sides: expression. -/
section EXPR
def nmOK (x : Int32) : Prop := 0 ≤ x ∧ x < 16
def exOK (r : S_) (x : Int32) : Prop := 0 ≤ x ∧ x < fi r 4
/-- an expression that may stand -/
def fine (r : S_) (k x y z : Int32) : Prop := (k = 0 ∧ nmOK x) ∨ (k = 1 ∧ nmOK x ∧ exOK r y) ∨ (k = 2 ∧ exOK r x ∧ exOK r y) ∨ (k = 3 ∧ nmOK x ∧ exOK r y ∧ exOK r z) ∨ (k = 4 ∧ (0 ≤ x ∧ x < fi r 2) ∧ ¬ ar r 8 x.toNatClampNeg = -1) ∨ (k = 5 ∧ 0 ≤ x ∧ x < fi r 1)
theorem isN_ok {a : L_} {r : S_} {x : Int32} {K : Int32 → Prop} (h0 : ¬ nmOK x → K 0) (h1 : nmOK x → K 1) : qI_isName a r (fun z => zb z → K z) x := by
  unfold qI_isName
  exact ⟨fun g => ⟨zb0, fun _ => h0 (fun z => nl0 z.1 g)⟩, fun g => ⟨fun g2 => ⟨zb0, fun _ => h0 (fun z => by have := z.2; clear h0 h1; grind)⟩, fun g2 => ⟨zb1, fun _ => h1 ⟨by clear h0 h1; grind, Int32.not_le.mp g2⟩⟩⟩⟩
theorem hasE_ok {a : L_} {r : S_} {x : Int32} {K : Int32 → Prop} (h0 : ¬ exOK r x → K 0) (h1 : exOK r x → K 1) : qE_has a r (fun z => zb z → K z) x := by
  unfold qE_has
  exact ⟨fun g => ⟨zb0, fun _ => h0 (fun z => nl0 z.1 g)⟩, fun g => ⟨fun g2 => ⟨zb0, fun _ => h0 (fun z => by have := z.2; clear h0 h1; grind)⟩, fun g2 => ⟨zb1, fun _ => h1 ⟨by clear h0 h1; grind, Int32.not_le.mp g2⟩⟩⟩⟩
theorem risE_ok {a : L_} {r : S_} {x c : Int32} (hc : fi r 25 = c) {K : Int32 → Prop} (h0 : ¬ (0 ≤ x ∧ x < c) → K 0) (h1 : 0 ≤ x ∧ x < c → K 1) : qM_isExpression a r (fun z => zb z → K z) x := by
  unfold qM_isExpression
  rw [hc]
  exact ⟨fun g => ⟨zb0, fun _ => h0 (fun z => nl0 z.1 g)⟩, fun g => ⟨fun g2 => ⟨zb0, fun _ => h0 (fun z => by have := z.2; clear h0 h1; grind)⟩, fun g2 => ⟨zb1, fun _ => h1 ⟨by clear h0 h1; grind, Int32.not_le.mp g2⟩⟩⟩⟩
theorem rinN_ok {a : L_} {r : S_} {x : Int32} {K : Int32 → Prop} (h0 : ¬ nmOK x → K 0) (h1 : nmOK x → K 1) : qM_in a r (fun z => zb z → K z) x 0 15 := by
  refine rin_ok (fun g => h0 (fun z => ?_)) (fun g1 g2 => h1 ⟨by clear h0 h1; grind, by clear h0 h1; grind⟩)
  have z1 := z.1
  have z2 := z.2
  rcases g with g | g
  · exact nl0 z1 g
  · clear h0 h1 z; grind
theorem mayStand_ok {ad l : Nat → Nat} {r : S_} {k x y z : Int32} (h : INV l r) {K : Int32 → Prop} (h1 : fine r k x y z → K 1) (h0 : ¬ fine r k x y z → K 0) : qI_mayStand (ad, l) r (fun z => zb z → K z) k x y z := by
  obtain ⟨⟨-, -, -, ⟨-, t2, -⟩, -⟩, -⟩ := h
  have n : ∀ i j : Int32, k = i → ¬ i = j → ¬ k = j := fun i j e1 e2 e3 => e2 (e1.symm.trans e3)
  have t0 : ∀ {q : Prop}, q → zb 0 ∧ (zb 0 → K 0) → zb 0 ∧ (zb 0 → K 0) := fun _ h => h
  have z0 : ¬ fine r k x y z → zb 0 ∧ (zb 0 → K 0) := fun h => ⟨zb0, fun _ => h0 h⟩
  have z1 : fine r k x y z → zb 1 ∧ (zb 1 → K 1) := fun h => ⟨zb1, fun _ => h1 h⟩
  unfold qI_mayStand
  refine ⟨fun e => ?_, fun e => ?_, fun e => ?_, fun e => ?_, fun e => ?_, fun e => ?_, fun e => ?_⟩
  · have f : fine r k x y z ↔ nmOK x := by unfold fine; rw [e]; simp
    exact isN_ok (fun g => z0 (fun q => g (f.mp q))) (fun g => z1 (f.mpr g))
  · have f : fine r k x y z ↔ nmOK x ∧ exOK r y := by unfold fine; rw [e]; simp
    exact isN_ok (fun g => ⟨fun _ => z0 (fun q => g (f.mp q).1), fun z => absurd rfl z⟩) (fun g => ⟨fun z => absurd z (by decide), fun _ => hasE_ok (fun g2 => ⟨fun _ => z0 (fun q => g2 (f.mp q).2), fun z => absurd rfl z⟩) (fun g2 => ⟨fun z => absurd z (by decide), fun _ => z1 (f.mpr ⟨g, g2⟩)⟩)⟩)
  · have f : fine r k x y z ↔ exOK r x ∧ exOK r y := by unfold fine; rw [e]; simp
    exact hasE_ok (fun g => ⟨fun _ => z0 (fun q => g (f.mp q).1), fun z => absurd rfl z⟩) (fun g => ⟨fun z => absurd z (by decide), fun _ => hasE_ok (fun g2 => ⟨fun _ => z0 (fun q => g2 (f.mp q).2), fun z => absurd rfl z⟩) (fun g2 => ⟨fun z => absurd z (by decide), fun _ => z1 (f.mpr ⟨g, g2⟩)⟩)⟩)
  · have f : fine r k x y z ↔ nmOK x ∧ exOK r y ∧ exOK r z := by unfold fine; rw [e]; simp
    exact isN_ok (fun g => ⟨fun _ => z0 (fun q => g (f.mp q).1), fun z => absurd rfl z⟩) (fun g => ⟨fun z => absurd z (by decide), fun _ => hasE_ok (fun g2 => ⟨fun _ => z0 (fun q => g2 (f.mp q).2.1), fun z => absurd rfl z⟩) (fun g2 => ⟨fun z => absurd z (by decide), fun _ => hasE_ok (fun g3 => ⟨fun _ => z0 (fun q => g3 (f.mp q).2.2), fun z => absurd rfl z⟩) (fun g3 => ⟨fun z => absurd z (by decide), fun _ => z1 (f.mpr ⟨g, g2, g3⟩)⟩)⟩)⟩)
  · have f : fine r k x y z ↔ (0 ≤ x ∧ x < fi r 2) ∧ ¬ ar r 8 x.toNatClampNeg = -1 := by unfold fine; rw [e]; simp
    refine hasK_ok (fun g => ⟨fun _ => z0 (fun q => g (f.mp q).1), fun z => absurd rfl z⟩) (fun g g' => ⟨fun z => absurd z (by decide), fun _ => ?_⟩)
    unfold qK_methodOf
    exact ⟨vi2 g g' (by show (fi r 2).toInt ≤ l 8; rw [show l 8 = 8 from t2.2.2.2.2.1]; have := t2.2.1; rw [il] at this; simpa using this), fun g2 => z0 (fun q => (f.mp q).2 g2), fun g2 => z1 (f.mpr ⟨⟨g, g'⟩, g2⟩)⟩
  · have f : fine r k x y z ↔ 0 ≤ x ∧ x < fi r 1 := by unfold fine; rw [e]; simp
    exact hasT_ok (fun g => z0 (fun q => g (f.mp q))) (fun g g' => z1 (f.mpr ⟨g, g'⟩))
  · refine z0 (fun q => ?_)
    have : k = 0 ∨ k = 1 ∨ k = 2 ∨ k = 3 ∨ k = 4 ∨ k = 5 := by
      rcases q with q | q | q | q | q | q
      · exact Or.inl q.1
      · exact Or.inr (Or.inl q.1)
      · exact Or.inr (Or.inr (Or.inl q.1))
      · exact Or.inr (Or.inr (Or.inr (Or.inl q.1)))
      · exact Or.inr (Or.inr (Or.inr (Or.inr (Or.inl q.1))))
      · exact Or.inr (Or.inr (Or.inr (Or.inr (Or.inr q.1))))
    rcases this with q | q | q | q | q | q <;> (rw [q] at e; revert e; decide)
/-- the reference asks the same -/
theorem mexpr_ok {ad l : Nat → Nat} {r r1 : S_} {k x y z : Int32} (h : INV l r) (hF : Fm r r1) {K : Int32 → S_ → Prop} (h1 : fine r k x y z → qM_expression_J136 (ad, l) K (sF r1 20 0) k x y z) (h0 : ¬ fine r k x y z → qM_expression_J140 (ad, l) K (sF r1 20 0) k x y z) : qM_expression (ad, l) K r1 k x y z := by
  obtain ⟨⟨-, -, -, ⟨t1, t2, -⟩, -⟩, q, m, -, -, -, mq, -⟩ := h
  have f3 := t1.1.2.2.1
  have f60 : fi r 1 ≤ 1000000 := by have := t1.1.2.2.2; clear t1 t2 q m mq h1 h0 hF; grind
  have e22 : fi (sF r1 20 0) 22 = fi r 1 := (hF.1 22 (by omega)).trans q.2.1.1
  have e23 : fi (sF r1 20 0) 23 = fi r 2 := (hF.1 23 (by omega)).trans q.2.2.1.1
  have e25 : fi (sF r1 20 0) 25 = fi r 4 := (hF.1 25 (by omega)).trans q.2.2.2.2.1
  have e42 : ∀ c : Int32, 0 ≤ c → c < fi r 2 → ar (sF r1 20 0) 42 c.toNatClampNeg = ar r 8 c.toNatClampNeg := fun c c1 c2 => by
    rw [ar_sF, hF.2 42 (by omega)]
    exact q.2.2.1.2.2.1 c c1 c2
  have l42 : l 42 = 8 := ml (n := 8) m (by decide) (by decide) rfl
  obtain ⟨R, eR⟩ : ∃ R, R = sF r1 20 0 := ⟨_, rfl⟩
  rw [← eR] at h1 h0 e22 e23 e25 e42
  have no : ∀ {q : Prop}, ¬ fine r k x y z → (¬ fine r k x y z → q) → q := fun h1 h2 => h2 h1
  have j117 : (fine r k x y z → k = 5) → qM_expression_J117 (ad, l) K R k x y z := by
    intro hs
    unfold qM_expression_J117
    rw [e22]
    refine ⟨fun g => h0 (fun q => g (hs q)), fun e => ?_⟩
    have f : fine r k x y z ↔ 0 ≤ x ∧ x < fi r 1 := by unfold fine; rw [e]; simp
    exact rin_ix f3 f60 (fun g => ⟨fun _ => h0 (fun q => g (f.mp q)), fun z => absurd rfl z⟩) (fun g g' => ⟨fun z => absurd z (by decide), fun _ => h1 (f.mpr ⟨g, g'⟩)⟩)
  have j95 : (fine r k x y z → k = 4 ∨ k = 5) → qM_expression_J95 (ad, l) K R k x y z := by
    intro hs
    unfold qM_expression_J95
    refine ⟨fun g => j117 (fun q => (hs q).resolve_left g), fun e => ?_⟩
    have f : fine r k x y z ↔ (0 ≤ x ∧ x < fi r 2) ∧ ¬ ar r 8 x.toNatClampNeg = -1 := by unfold fine; rw [e]; simp
    have k5 : ¬ k = 5 := by rw [e]; decide
    refine risK_ok e23 (fun g => ⟨fun _ => j117 (fun q => absurd (f.mp q).1 g), fun z => absurd rfl z⟩) (fun g g' => ⟨fun z => absurd z (by decide), fun _ => ⟨vi2 g g' (by show (fi r 2).toInt ≤ l 42; rw [l42]; have := t2.2.1; rw [il] at this; simpa using this), fun g2 => ?_, fun g2 => ?_⟩⟩)
    · rw [e42 x g g'] at g2
      exact h1 (f.mpr ⟨⟨g, g'⟩, fun z => by rw [z] at g2; exact absurd g2 (by decide)⟩)
    · rw [e42 x g g'] at g2
      refine j117 (fun q => ?_)
      rcases mq x g g' with e9 | e9
      · exact absurd e9 (f.mp q).2
      · exact absurd e9.1.1 g2
  have j63 : (fine r k x y z → k = 3 ∨ k = 4 ∨ k = 5) → qM_expression_J63 (ad, l) K R k x y z := by
    intro hs
    unfold qM_expression_J63
    refine ⟨fun g => j95 (fun q => (hs q).resolve_left g), fun e => ?_⟩
    have f : fine r k x y z ↔ nmOK x ∧ exOK r y ∧ exOK r z := by unfold fine; rw [e]; simp
    have bad : ¬ fine r k x y z → qM_expression_J95 (ad, l) K R k x y z := fun g => j95 (fun q => absurd q g)
    exact rinN_ok (fun g => ⟨fun _ => bad (fun q => g (f.mp q).1), fun z => absurd rfl z⟩) (fun g => ⟨fun z => absurd z (by decide), fun _ => risE_ok e25 (fun g2 => ⟨fun _ => bad (fun q => g2 (f.mp q).2.1), fun z => absurd rfl z⟩) (fun g2 => ⟨fun z => absurd z (by decide), fun _ => risE_ok e25 (fun g3 => ⟨fun z => absurd rfl z, fun _ => bad (fun q => g3 (f.mp q).2.2)⟩) (fun g3 => ⟨fun _ => h1 (f.mpr ⟨g, g2, g3⟩), fun z => absurd z (by decide)⟩)⟩)⟩)
  have j42 : (fine r k x y z → k = 2 ∨ k = 3 ∨ k = 4 ∨ k = 5) → qM_expression_J42 (ad, l) K R k x y z := by
    intro hs
    unfold qM_expression_J42
    refine ⟨fun g => j63 (fun q => (hs q).resolve_left g), fun e => ?_⟩
    have f : fine r k x y z ↔ exOK r x ∧ exOK r y := by unfold fine; rw [e]; simp
    have bad : ¬ fine r k x y z → qM_expression_J63 (ad, l) K R k x y z := fun g => j63 (fun q => absurd q g)
    exact risE_ok e25 (fun g => ⟨fun _ => bad (fun q => g (f.mp q).1), fun z => absurd rfl z⟩) (fun g => ⟨fun z => absurd z (by decide), fun _ => risE_ok e25 (fun g2 => ⟨fun z => absurd rfl z, fun _ => bad (fun q => g2 (f.mp q).2)⟩) (fun g2 => ⟨fun _ => h1 (f.mpr ⟨g, g2⟩), fun z => absurd z (by decide)⟩)⟩)
  have j19 : (fine r k x y z → k = 1 ∨ k = 2 ∨ k = 3 ∨ k = 4 ∨ k = 5) → qM_expression_J19 (ad, l) K R k x y z := by
    intro hs
    unfold qM_expression_J19
    refine ⟨fun g => j42 (fun q => (hs q).resolve_left g), fun e => ?_⟩
    have f : fine r k x y z ↔ nmOK x ∧ exOK r y := by unfold fine; rw [e]; simp
    have bad : ¬ fine r k x y z → qM_expression_J42 (ad, l) K R k x y z := fun g => j42 (fun q => absurd q g)
    exact rinN_ok (fun g => ⟨fun _ => bad (fun q => g (f.mp q).1), fun z => absurd rfl z⟩) (fun g => ⟨fun z => absurd z (by decide), fun _ => risE_ok e25 (fun g2 => ⟨fun z => absurd rfl z, fun _ => bad (fun q => g2 (f.mp q).2)⟩) (fun g2 => ⟨fun _ => h1 (f.mpr ⟨g, g2⟩), fun z => absurd z (by decide)⟩)⟩)
  unfold qM_expression
  intro r2 e2
  rw [← eR] at e2
  subst e2
  refine ⟨fun g => j19 (fun q => ?_), fun e => ?_⟩
  · rcases q with q | q | q | q | q | q
    · exact absurd q.1 g
    · exact Or.inl q.1
    · exact Or.inr (Or.inl q.1)
    · exact Or.inr (Or.inr (Or.inl q.1))
    · exact Or.inr (Or.inr (Or.inr (Or.inl q.1)))
    · exact Or.inr (Or.inr (Or.inr (Or.inr q.1)))
  · have f : fine r k x y z ↔ nmOK x := by unfold fine; rw [e]; simp
    exact rinN_ok (fun g => ⟨fun z => absurd rfl z, fun _ => j19 (fun q => absurd (f.mp q) g)⟩) (fun g => ⟨fun _ => h1 (f.mpr g), fun z => absurd z (by decide)⟩)
end EXPR
