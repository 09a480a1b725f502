/-! Calls on both sides: class0, expression. -/
section CLASSES
/-- a class more, on both sides -/
def addK (r : S_) (p b : Int32) : S_ := sF (sA (sF (sF (sA (sA (sA r 6 (upd (ar r 6) (fi r 2).toNatClampNeg p)) 7 (upd (ar r 7) (fi r 2).toNatClampNeg b)) 8 (upd (ar r 8) (fi r 2).toNatClampNeg (-1))) 2 (fi r 2 + 1)) 20 0) 41 (upd (ar r 6) (fi r 2).toNatClampNeg p)) 23 (fi r 2 + 1)
theorem addK_INV {l : Nat → Nat} {r : S_} {p b : Int32} (h : INV l r) (hc : fi r 2 < 8) (p1 : -1 ≤ p) (p2 : p < fi r 2) (hb : b = (1 <<< (fi r 2 &&& 31)) ||| (if p = -1 then 0 else ar r 7 p.toNatClampNeg)) : INV l (addK r p b) := by
  obtain ⟨⟨c1, c2, c3, ⟨t1, t2, t3⟩, c5, c6⟩, q, m, la, kq, wq, mq, sq⟩ := h
  obtain ⟨k1, k2, k3⟩ := t2
  obtain ⟨q1, q2, ⟨q31, q32, q33, q34⟩, q4, q5⟩ := q
  have e2 : fi (addK r p b) 2 = fi r 2 + 1 := rfl
  have a6 : ar (addK r p b) 6 = upd (ar r 6) (fi r 2).toNatClampNeg p := rfl
  have a7 : ar (addK r p b) 7 = upd (ar r 7) (fi r 2).toNatClampNeg b := rfl
  have a8 : ar (addK r p b) 8 = upd (ar r 8) (fi r 2).toNatClampNeg (-1) := rfl
  have a42 : ar (addK r p b) 42 = ar r 42 := rfl
  have s9 : fi r 2 < fi r 2 + 1 := by clear c1 c2 c3 t1 t3 c5 c6 q1 q2 q31 q32 q33 q34 q4 q5 m la kq wq k3 hb; grind
  have lts : ∀ c : Int32, c < fi r 2 + 1 → ¬ c = fi r 2 → c < fi r 2 := fun c z1 z2 => by clear c1 c2 c3 t1 t3 c5 c6 q1 q2 q31 q32 q33 q34 q4 q5 m la kq wq k3 hb; grind
  refine ⟨⟨c1, c2, c3, ⟨t1, ⟨?_, ?_, k3⟩, ?_⟩, c5, c6⟩, ⟨q1, q2, ⟨rfl, rfl, fun c z1 z2 => ?_, fun c z1 z2 => ?_⟩, q4, q5⟩, m, la, fun c z1 z2 => ?_, ⟨wq.1, fun c k z1 z2 z3 z4 => ?_⟩, fun c z1 z2 => ?_, sq⟩
  · rw [e2]; clear c1 c2 c3 t1 t3 c5 c6 q1 q2 q31 q32 q33 q34 q4 q5 m la kq wq k3 hb lts; grind
  · rw [e2]; clear c1 c2 c3 t1 t3 c5 c6 q1 q2 q31 q32 q33 q34 q4 q5 m la kq wq k3 hb lts; grind
  · obtain ⟨w1, w2, w3⟩ := t3
    have e4 : fi (addK r p b) 4 = fi r 4 := rfl
    have e1 : fi (addK r p b) 1 = fi r 1 := rfl
    have a5 : ar (addK r p b) 5 = ar r 5 := rfl
    have a12 : ar (addK r p b) 12 = ar r 12 := rfl
    have a13 : ar (addK r p b) 13 = ar r 13 := rfl
    have a14 : ar (addK r p b) 14 = ar r 14 := rfl
    have a15 : ar (addK r p b) 15 = ar r 15 := rfl
    have a16 : ar (addK r p b) 16 = ar r 16 := rfl
    unfold ET
    rw [e4, e1, e2, a5, a8, a12, a13, a14, a15, a16]
    refine ⟨w1, w2, fun e g1 g2 => ?_⟩
    obtain ⟨n0, n1, n2, n3, n4, n5⟩ := w3 e g1 g2
    refine ⟨n0, n1, n2, n3, fun g => ?_, n5⟩
    obtain ⟨m1, m2, m3⟩ := n4 g
    rw [updI _ _ k1 m1.1, if_neg (fun z => by have := m1.2; rw [z] at this; exact irr this)]
    exact ⟨⟨m1.1, ltt m1.2 s9⟩, m2, m3⟩
  · rw [e2] at z2
    rw [a8, a42, updI _ _ k1 z1]
    by_cases e : c = fi r 2
    · rw [if_pos e, e]
      exact q34 _ (Int32.le_refl _) hc
    · rw [if_neg e]
      exact q33 c z1 (lts c z2 e)
  · rw [e2] at z1
    exact q34 c (by clear c1 c2 c3 t1 t3 c5 c6 q1 q2 q31 q32 q33 q34 q4 q5 m la kq wq k3 hb lts; grind) z2
  · rw [e2] at z2
    rw [a6, a7, updI _ _ k1 z1]
    by_cases e : c = fi r 2
    · rw [if_pos e, e, pk_us]
      refine ⟨⟨p1, p2⟩, ?_⟩
      rw [hb]
      by_cases ep : p = -1
      · rw [if_pos ep, if_pos ep]
      · have p0 : 0 ≤ p := by clear c1 c2 c3 t1 t3 c5 c6 q1 q2 q31 q32 q33 q34 q4 q5 m la kq wq k3 hb lts; grind
        rw [if_neg ep, if_neg ep, updI _ _ k1 p0, if_neg (fun z => by rw [z] at p2; exact irr p2)]
    · have z3 := lts c z2 e
      obtain ⟨b1, b2⟩ := kq c z1 z3
      rw [if_neg e, updI _ _ k1 z1, if_neg e]
      refine ⟨b1, ?_⟩
      rw [b2]
      by_cases ep : ar r 6 c.toNatClampNeg = -1
      · rw [if_pos ep, if_pos ep]
      · have p0 : 0 ≤ ar r 6 c.toNatClampNeg := by have := b1.1; clear c1 c2 c3 t1 t3 c5 c6 q1 q2 q31 q32 q33 q34 q4 q5 m la kq wq k3 hb lts b2; grind
        rw [if_neg ep, if_neg ep, updI _ _ k1 p0, if_neg (fun z => by have := b1.2; rw [z] at this; exact irr (ltt this z3))]
  · obtain ⟨b1, b2, b3, b4⟩ := wq.2 c k z1 z2 z3 z4
    have s9' := s9
    rw [it] at s9'
    exact ⟨b1, b2, fun i i1 i2 => by rw [e2]; have := b3 i i1 i2; omega, fun i i1 i2 => by rw [e2]; have := b4 i i1 i2; omega⟩
  · rw [e2] at z2
    rw [a8, updI _ _ k1 z1]
    by_cases e : c = fi r 2
    · left
      rw [if_pos e]
    · rw [if_neg e]
      exact mq c z1 (lts c z2 e)
theorem class0_pair {ad l : Nat → Nat} {r : S_} {p : Int32} (h : INV l r) {K : S_ → Prop} (hK : ∀ r', INV l r' → kp r' = kp r → K r') : qI_class0 (ad, l) (fun z r1 => qM_class0 (ad, l) (fun z2 r2 => z = z2 ∧ K r2) r1 p) r p := by
  have h' := h
  obtain ⟨⟨c1, c2, c3, ⟨t1, t2, t3⟩, c5, c6⟩, q, m, la, kq, wq, mq, sq⟩ := h
  obtain ⟨k1, k2, l6, l7, l8, -⟩ := t2
  have q23 := q.2.2.1.1
  have q41 := q.2.2.1.2.1
  have l41 : l 41 = 8 := ml (n := 8) m (by decide) (by decide) rfl
  have mgood : ∀ (z : Int32) (r1 : S_) (Q : Int32 → S_ → Prop), (p = -1 ∨ (0 ≤ p ∧ p < fi r 2)) → fi r1 23 = fi r 2 → qM_class0_J20 (ad, l) Q (sF r1 20 0) p → qM_class0 (ad, l) Q r1 p := by
    intro z r1 Q hp h23 hj
    unfold qM_class0
    intro r2 e2
    subst e2
    refine ⟨fun _ => hj, fun g => risK_ok (r := sF r1 20 0) (c := fi r 2) h23 (fun z => ?_) (fun _ _ => ⟨fun _ => hj, fun z => absurd z (by decide)⟩)⟩
    rcases hp with e | e
    · exact absurd e g
    · exact absurd e z
  have j18 : (p = -1 ∨ (0 ≤ p ∧ p < fi r 2)) → qI_class0_J18 (ad, l) (fun z r1 => qM_class0 (ad, l) (fun z2 r2 => z = z2 ∧ K r2) r1 p) r p := by
    intro hp
    unfold qI_class0_J18 qK_addClass
    refine ⟨fun hc => ?_, fun hc => ?_⟩
    · have v8' : ∀ k, l k = 8 → vp_in (fi r 2) (l k) := fun k hk => vi2 k1 hc (by rw [hk]; decide)
      have j51 : ∀ u0 : Int32, u0 = (if p = -1 then 0 else ar r 7 p.toNatClampNeg) → qK_addClass_J51 (ad, l) (fun z r1 => qM_class0 (ad, l) (fun z2 r2 => z = z2 ∧ K r2) r1 p) (sA r 6 (upd (ar r 6) (fi r 2).toNatClampNeg p)) u0 (1 <<< (fi r 2 &&& 31)) (fi r 2) := by
        intro u0 e0
        unfold qK_addClass_J51
        refine ⟨v8' 7 l7, fun r7 e7 => ?_⟩
        subst e7
        refine ⟨v8' 8 l8, fun r9 e9 r10 e10 => ?_⟩
        subst e9
        subst e10
        refine mgood 0 _ _ hp q23 ?_
        unfold qM_class0_J20
        have q23' : fi r 23 = fi r 2 := q23
        refine ⟨fun g => ⟨vi2 (y := 8) (by show 0 ≤ fi r 23; rw [q23']; exact k1) (by show fi r 23 < 8; rw [q23']; exact hc) (by show (8 : Int32).toInt ≤ l 41; rw [l41]; decide), fun r5 e5 r6 e6 => ?_⟩, fun g => ?_⟩
        · have e6' : r6 = addK r p ((1 <<< (fi r 2 &&& 31)) ||| u0) := by
            rw [e6, e5]
            unfold addK
            show sF (sA (sF (sF (sA (sA (sA r 6 (upd (ar r 6) (fi r 2).toNatClampNeg p)) 7 (upd (ar r 7) (fi r 2).toNatClampNeg ((1 <<< (fi r 2 &&& 31)) ||| u0))) 8 (upd (ar r 8) (fi r 2).toNatClampNeg (-1))) 2 (fi r 2 + 1)) 20 0) 41 (upd (ar r 41) (fi r 23).toNatClampNeg p)) 23 (fi r 23 + 1) = _
            rw [q41, q23']
          refine ⟨?_, ?_⟩
          · show fi r 2 + 1 - 1 = fi r6 23 - 1
            rw [e6']
            rfl
          · rw [e6']
            refine hK _ (addK_INV h' hc ?_ ?_ (by rw [e0])) rfl
            · rcases hp with e | e
              · rw [e]; decide
              · clear h' c1 c2 c3 t1 t3 c5 c6 q m la kq wq hK mgood; grind
            · rcases hp with e | e
              · rw [e]; clear h' c1 c2 c3 t1 t3 c5 c6 q m la kq wq hK mgood; grind
              · exact e.2
        · have g' : fi r 23 = 8 := g
          rw [q23'] at g'
          rw [g'] at hc
          exact absurd hc (by decide)
      refine ⟨v8' 6 l6, fun r3 e3 => ?_⟩
      subst e3
      refine ⟨fun g => ⟨?_, j51 _ (by rw [if_neg g]; rfl)⟩, fun g => j51 _ (by rw [if_pos g])⟩
      rcases hp with e | e
      · exact absurd e g
      · exact vi2 e.1 e.2 (by show (fi r 2).toInt ≤ l 7; rw [show l 7 = 8 from l7]; rw [il] at k2; simpa using k2)
    · have e8 : fi r 2 = 8 := by clear h' c1 c2 c3 t1 t3 c5 c6 q m la kq wq hK mgood; grind
      refine mgood 0 r _ hp q23 ?_
      unfold qM_class0_J20
      refine ⟨fun g => absurd (show fi r 23 = 8 by rw [q23]; exact e8) g, fun _ => ⟨rfl, hK _ (INV_20 h') rfl⟩⟩
  unfold qI_class0
  refine ⟨fun g => j18 (Or.inl g), fun g => hasK_ok (fun z => ⟨fun z => absurd rfl z, fun _ => ?_⟩) (fun z1 z2 => ⟨fun _ => j18 (Or.inr ⟨z1, z2⟩), fun z => absurd z (by decide)⟩)⟩
  unfold qM_class0
  intro r1 e1
  subst e1
  exact ⟨fun e => absurd e g, fun _ => risK_ok (r := sF r 20 0) (c := fi r 2) q23 (fun _ => ⟨fun z => absurd rfl z, fun _ => ⟨rfl, hK _ (INV_20 h') rfl⟩⟩) (fun y1 y2 => absurd ⟨y1, y2⟩ z)⟩
end CLASSES
