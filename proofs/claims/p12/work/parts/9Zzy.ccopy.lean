/-! Copies in the class's graph. -/
section ZCCOPY
theorem ws_valueOf {a : L_} {r : S_} {rh ta : Int32 → Int32} {N p0 : Int32} (hI : GI a r rh ta N) (h1 : -1 ≤ p0) (h2 : p0 < fi r 11) {K : Int32 → S_ → Prop} (hK0 : p0 = -1 → K (-1) r) (hK : ¬ p0 = -1 → ∀ f, GI a (sA r 22 f) rh ta N → FS (fi r 11) (ar r 21) (ar r 22) f → K (ar r 29 (rh p0).toNatClampNeg) (sA r 22 f)) : wG_valueOf a K r p0 := by
  unfold wG_valueOf
  refine ⟨fun g => ws_settled hI (by clear hI hK hK0; grind) h2 (fun f k1 k2 _ => hK g f k1 k2), fun g => hK0 g⟩
def cc (rh m : Int32 → Int32) (y : Int32) : Int32 := if y = -1 then -1 else m (rh y)
/-- copying, up to the node of index i; m: what stands for a node -/
def CPI (r0 : S_) (rh : Int32 → Int32) (l : Nat → Nat) (r : S_) (rh' ta : Int32 → Int32) (N : Int32) (m : Int32 → Int32) (i : Int32) : Prop := (GI (A0 l) r rh' ta N ∧ PL l ∧ VB r ∧ AYc r) ∧ (∀ x : Int32, 0 ≤ x → x < fi r0 11 → rh' x = rh x) ∧ (fi r0 11 ≤ fi r 11 ∧ fi r 12 = fi r0 12 ∧ fi r 15 = fi r0 15 ∧ ar r 0 = ar r0 0) ∧ (∀ k : Int32, 0 ≤ k → k < fi r0 12 → ar r 30 k.toNatClampNeg = ar r0 30 k.toNatClampNeg) ∧ (∀ x : Int32, 0 ≤ x → x < fi r0 11 → (ar r 21 x.toNatClampNeg = ar r0 21 x.toNatClampNeg ∧ ar r 23 x.toNatClampNeg = ar r0 23 x.toNatClampNeg ∧ ar r 24 x.toNatClampNeg = ar r0 24 x.toNatClampNeg ∧ ar r 25 x.toNatClampNeg = ar r0 25 x.toNatClampNeg ∧ ar r 26 x.toNatClampNeg = ar r0 26 x.toNatClampNeg ∧ ar r 27 x.toNatClampNeg = ar r0 27 x.toNatClampNeg) ∧ (¬ ar r0 21 x.toNatClampNeg = -2 → ar r 22 x.toNatClampNeg = ar r0 22 x.toNatClampNeg)) ∧ (∀ k : Int32, 0 ≤ k → k < fi r0 12 → ar r 29 (ar r0 30 k.toNatClampNeg).toNatClampNeg = m (ar r0 30 k.toNatClampNeg)) ∧ (∀ k : Int32, 0 ≤ k → k < fi r0 12 → (¬ ar r0 26 (ar r0 30 k.toNatClampNeg).toNatClampNeg = 1 ∨ i ≤ k) → m (ar r0 30 k.toNatClampNeg) = ar r0 30 k.toNatClampNeg) ∧ (∀ k : Int32, 0 ≤ k → k < i → ar r0 26 (ar r0 30 k.toNatClampNeg).toNatClampNeg = 1 → (fi r0 11 ≤ m (ar r0 30 k.toNatClampNeg) ∧ m (ar r0 30 k.toNatClampNeg) < fi r 11) ∧ ar r 21 (m (ar r0 30 k.toNatClampNeg)).toNatClampNeg = ar r0 21 (ar r0 30 k.toNatClampNeg).toNatClampNeg ∧ ar r 22 (m (ar r0 30 k.toNatClampNeg)).toNatClampNeg = cc rh m (ar r0 22 (ar r0 30 k.toNatClampNeg).toNatClampNeg) ∧ ar r 23 (m (ar r0 30 k.toNatClampNeg)).toNatClampNeg = cc rh m (ar r0 23 (ar r0 30 k.toNatClampNeg).toNatClampNeg) ∧ ar r 24 (m (ar r0 30 k.toNatClampNeg)).toNatClampNeg = ar r0 25 (ar r0 30 k.toNatClampNeg).toNatClampNeg ∧ ar r 25 (m (ar r0 30 k.toNatClampNeg)).toNatClampNeg = 0 ∧ ar r 26 (m (ar r0 30 k.toNatClampNeg)).toNatClampNeg = 0 ∧ ar r 27 (m (ar r0 30 k.toNatClampNeg)).toNatClampNeg = 0) ∧ (∀ z : Int32, fi r0 11 ≤ z → z < fi r 11 → ∃ k : Int32, 0 ≤ k ∧ k < i ∧ ar r0 26 (ar r0 30 k.toNatClampNeg).toNatClampNeg = 1 ∧ m (ar r0 30 k.toNatClampNeg) = z) ∧ (∀ k k' : Int32, 0 ≤ k → k < i → 0 ≤ k' → k' < i → ar r0 26 (ar r0 30 k.toNatClampNeg).toNatClampNeg = 1 → ar r0 26 (ar r0 30 (k').toNatClampNeg).toNatClampNeg = 1 → m (ar r0 30 k.toNatClampNeg) = m (ar r0 30 (k').toNatClampNeg) → k = k') ∧ ∃ L : List Int32, L.Nodup ∧ (∀ y, y ∈ L → ∃ k : Int32, 0 ≤ k ∧ k < i ∧ ar r0 30 k.toNatClampNeg = y ∧ ar r0 26 y.toNatClampNeg = 1) ∧ (fi r 11).toInt = (fi r0 11).toInt + L.length
section
variable {r0 : S_} {rh : Int32 → Int32} {l : Nat → Nat} {r : S_} {rh' ta ta0 : Int32 → Int32} {N N0 : Int32} {m : Int32 → Int32} {i : Int32} {a0 : L_}
theorem CPI_22 (hI0 : GI a0 r0 rh ta0 N0) (o : ORD r0 rh) (io : i ≤ fi r0 12) (h : CPI r0 rh l r rh' ta N m i) {f : Nat → Int32} (k1 : GI (A0 l) (sA r 22 f) rh' ta N) (k2 : FS (fi r 11) (ar r 21) (ar r 22) f) : CPI r0 rh l (sA r 22 f) rh' ta N m i := by
  obtain ⟨⟨h1, h2, h3, h4⟩, h5, h6, h7, h8, h9, h10, h11, h12, h13, h14⟩ := h
  refine ⟨⟨k1, h2, h3, AYc_22 k2 h4⟩, h5, h6, h7, fun x x0 x1 => ⟨(h8 x x0 x1).1, fun e => ?_⟩, h9, h10, fun k q0 q1 q2 => ?_, h12, h13, h14⟩
  · have e' : ¬ ar r 21 x.toNatClampNeg = -2 := by rw [(h8 x x0 x1).1.1]; exact e
    show f x.toNatClampNeg = _
    rw [k2 x x0 (zo3 x1 h6.1) e']
    exact (h8 x x0 x1).2 e
  · obtain ⟨p1, p2, p3, p4⟩ := h11 k q0 q1 q2
    have e' : ¬ ar r 21 (m (ar r0 30 k.toNatClampNeg)).toNatClampNeg = -2 := by
      rw [p2]
      exact (o.2.2 k q0 (zo3 q1 io)).1.2.2
    refine ⟨p1, p2, ?_, p4⟩
    show f (m (ar r0 30 k.toNatClampNeg)).toNatClampNeg = _
    rw [k2 _ (zo2 hI0.2.1 p1.1) p1.2 e']
    exact p3
/-- what a part's value is -/
theorem CPI_val (hI0 : GI a0 r0 rh ta0 N0) (o : ORD r0 rh) (i0 : 0 ≤ i) (io : i < fi r0 12) (h : CPI r0 rh l r rh' ta N m i) {y : Int32} (y1 : -1 ≤ y) (y2 : y < fi r0 11) (hy : ¬ y = -1 → ∃ j : Int32, 0 ≤ j ∧ j < i ∧ ar r0 30 j.toNatClampNeg = rh y) {K : Int32 → S_ → Prop} (hK : ∀ r2, CPI r0 rh l r2 rh' ta N m i → Fr [] [22] r r2 → (-1 ≤ cc rh m y ∧ cc rh m y < fi r2 11) → (cc rh m y = -1 ↔ y = -1) → K (cc rh m y) r2) {ad : Nat → Nat} : wG_valueOf (ad, l) K r y := by
  have h1 := h.1.1
  have le := h.2.2.1.1
  refine ws_valueOf (a := (ad, l)) h1 y1 (zo3 y2 le) (fun e => ?_) (fun e f k1 k2 => ?_)
  · have ec : cc rh m y = -1 := by unfold cc; rw [if_pos e]
    have := hK r h (Fr_refl r)
    rw [ec] at this
    refine this ⟨by decide, ?_⟩ ⟨fun _ => e, fun _ => rfl⟩
    have := h1.2.1
    clear h hK hI0 o h1; grind
  · obtain ⟨j, j0, j1, j2⟩ := hy e
    have y0 : 0 ≤ y := by clear h hK hI0 o h1 k1 k2; grind
    have ec : cc rh m y = m (rh y) := by unfold cc; rw [if_neg e]
    have ev : ar r 29 (rh' y).toNatClampNeg = m (rh y) := by
      rw [h.2.1 y y0 y2, ← j2]
      exact h.2.2.2.2.2.1 j j0 (ltt j1 io)
    have rng : 0 ≤ m (rh y) ∧ m (rh y) < fi r 11 := by
      by_cases hop : ar r0 26 (ar r0 30 j.toNatClampNeg).toNatClampNeg = 1
      · have q := (h.2.2.2.2.2.2.2.1 j j0 j1 hop).1
        rw [j2] at q
        exact ⟨zo2 hI0.2.1 q.1, q.2⟩
      · have q := h.2.2.2.2.2.2.1 j j0 (ltt j1 io) (Or.inl hop)
        have b := (o.2.2 j j0 (ltt j1 io)).1
        rw [j2] at q
        rw [q, ← j2]
        exact ⟨b.1, zo3 b.2.1 le⟩
    rw [ev, ← ec]
    refine hK _ (CPI_22 hI0 o (zo4 io) h k1 k2) (Fr_sA (by decide)) ?_ ⟨fun z => ?_, fun z => absurd z e⟩
    · rw [ec]
      exact ⟨by have := rng.1; clear h hK hI0 o h1 k1 k2; grind, rng.2⟩
    · rw [ec] at z
      rw [z] at rng
      exact absurd rng.1 (by decide)
theorem gb0or {v : Int32} : (0 : Int32) ||| v = v := by
  refine gb_ext (fun i _ => ?_)
  rw [gb_or, gb_0]
  rfl
theorem CPI_skip (o : ORD r0 rh) (i0 : 0 ≤ i) (io : i < fi r0 12) (ib : i < 20000) (h : CPI r0 rh l r rh' ta N m i) (ho : ¬ ar r0 26 (ar r0 30 i.toNatClampNeg).toNatClampNeg = 1) : CPI r0 rh l r rh' ta N m (i + 1) := by
  obtain ⟨h1, h5, h6, h7, h8, h9, h10, h11, h12, h13, L, l1, l2, l3⟩ := h
  have dn : ∀ k : Int32, k < i + 1 → ar r0 26 (ar r0 30 k.toNatClampNeg).toNatClampNeg = 1 → k < i := fun k q1 q2 => by
    refine ps2 ib q1 (fun e => ?_)
    rw [e] at q2
    exact ho q2
  refine ⟨h1, h5, h6, h7, h8, h9, fun k k0 k1 k2 => h10 k k0 k1 ?_, fun k k0 k1 k2 => h11 k k0 (dn k k1 k2) k2, fun z z0 z1 => ?_, fun k k' k0 k1 k2 k3 k4 k5 => h13 k k' k0 (dn k k1 k4) k2 (dn k' k3 k5) k4 k5, L, l1, fun y hy => ?_, l3⟩
  · rcases k2 with q | q
    · exact Or.inl q
    · exact Or.inr (by clear h1 h5 h6 h7 h8 h9 h10 h11 h12 h13 l2 l3 dn o; grind)
  · obtain ⟨k, q0, q1, q2⟩ := h12 z z0 z1
    exact ⟨k, q0, ps ib q1, q2⟩
  · obtain ⟨k, q0, q1, q2⟩ := l2 y hy
    exact ⟨k, q0, ps ib q1, q2⟩
/-- one node copied -/
theorem CPI_next {l' : Nat → Nat} {r3 r4 : S_} {z : Int32} (hI0 : GI a0 r0 rh ta0 N0) (ay0 : AYc r0) (o : ORD r0 rh) (i0 : 0 ≤ i) (io : i < fi r0 12) (ib : i < 20000) (h : CPI r0 rh l r rh' ta N m i) (ho : ar r0 26 (ar r0 30 i.toNatClampNeg).toNatClampNeg = 1) (hc1 : cc rh m (ar r0 22 (ar r0 30 i.toNatClampNeg).toNatClampNeg) = -1 ↔ ar r0 22 (ar r0 30 i.toNatClampNeg).toNatClampNeg = -1) (hc2 : cc rh m (ar r0 23 (ar r0 30 i.toNatClampNeg).toNatClampNeg) = -1 ↔ ar r0 23 (ar r0 30 i.toNatClampNeg).toNatClampNeg = -1) (hn : NP l r rh' ta N z l' r3) (hnn : NNp r z r3 (ar r0 21 (ar r0 30 i.toNatClampNeg).toNatClampNeg) (cc rh m (ar r0 22 (ar r0 30 i.toNatClampNeg).toNatClampNeg)) (cc rh m (ar r0 23 (ar r0 30 i.toNatClampNeg).toNatClampNeg))) (lt : fi r 11 < 4096) (g3 : ar r3 0 = ar r 0) (ole : fi r0 12 ≤ fi r0 11) (e4 : r4 = sA (sA r3 29 (upd (ar r3 29) (ar r0 30 i.toNatClampNeg).toNatClampNeg z)) 24 (upd (ar r3 24) z.toNatClampNeg (ar r3 24 z.toNatClampNeg ||| ar r3 25 (ar r0 30 i.toNatClampNeg).toNatClampNeg))) : ∃ rh4, CPI r0 rh l' r4 rh4 ta N (fun x => if x = ar r0 30 i.toNatClampNeg then z else m x) (i + 1) := by
  obtain ⟨⟨h1, h2, h3, h4⟩, h5, h6, h7, h8, h9, h10, h11, h12, h13, L, l1, l2, l3⟩ := h
  obtain ⟨rh4, n1, n2, n3, n4, n5, n6, n7, n8, n9, _⟩ := hn
  rcases hnn with ⟨_, ez, e11, e15, v21, v22, v23, v24, v25, v26, v27⟩ | ⟨q, _⟩
  rotate_left
  · exact absurd lt q
  have odi := (o.2.2 i i0 io).1
  have di : ar r0 30 i.toNatClampNeg < fi r 11 := zo3 odi.2.1 h6.1
  have z0 : 0 ≤ z := n8
  have c00 : 0 ≤ fi r0 11 := hI0.2.1
  have zc : fi r0 11 ≤ z := by rw [ez]; exact h6.1
  have zi : fi r 11 < fi r3 11 := by rw [e11]; clear h1 h2 h3 h4 h5 h6 h7 h8 h9 h10 h11 h12 h13 l2 l3 n1 n2 n3 n4 n5 n6 o hI0 ay0; grind
  have odlt : ∀ k : Int32, 0 ≤ k → k < fi r0 12 → 0 ≤ ar r0 30 k.toNatClampNeg ∧ ar r0 30 k.toNatClampNeg < fi r0 11 := fun k k0 k1 => ⟨(o.2.2 k k0 k1).1.1, (o.2.2 k k0 k1).1.2.1⟩
  have ne : ∀ k : Int32, 0 ≤ k → k < fi r0 12 → ¬ k = i → ¬ ar r0 30 k.toNatClampNeg = ar r0 30 i.toNatClampNeg := by
    intro k k0 k1 k2 e
    by_cases q : k < i
    · exact o.2.1 k i k0 q io e
    · exact o.2.1 i k i0 (npl k2 q) k1 e.symm
  have x4 : ∀ j, ¬ j = 29 → ¬ j = 24 → ar r4 j = ar r3 j := fun j j1 j2 => by
    rw [e4, ar_sA, if_neg j2, ar_sA, if_neg j1]
  have f4 : ∀ j, fi r4 j = fi r3 j := fun j => by rw [e4]; rfl
  have a29 : ar r4 29 = upd (ar r3 29) (ar r0 30 i.toNatClampNeg).toNatClampNeg z := by rw [e4]; rfl
  have a24 : ar r4 24 = upd (ar r3 24) z.toNatClampNeg (ar r3 24 z.toNatClampNeg ||| ar r3 25 (ar r0 30 i.toNatClampNeg).toNatClampNeg) := by rw [e4]; rfl
  have oo : ∀ x : Int32, 0 ≤ x → x < fi r 11 → ∀ j, 21 ≤ j → j ≤ 30 → ar r3 j x.toNatClampNeg = ar r j x.toNatClampNeg := n6
  have znx : ∀ x : Int32, x < fi r 11 → ¬ x = z := fun x hx e => by rw [e, ez] at hx; exact irr hx
  have gi : GI (A0 l') r4 rh4 ta N := by
    have q := n1
    unfold GI at q ⊢
    rw [f4 11, x4 21 (by decide) (by decide), x4 22 (by decide) (by decide), x4 23 (by decide) (by decide)]
    exact q
  have vb4 : VB r4 := by
    have q := n4
    unfold VB at q ⊢
    rw [f4 13, x4 28 (by decide) (by decide)]
    exact q
  have ayi := ay0 _ odi.1 odi.2.1
  have ay4 : AYc r4 := by
    have q : AYc r3 := NN_AY h1.2.1 n6 g3 (Or.inl ⟨lt, ez, e11, e15, v21, v22, v23, v24, v25, v26, v27⟩) h4 (fun hp => by
      have q := ayi.1 hp
      rw [h6.2.2.2]
      exact ⟨⟨fun k => q.1.mp (fun k2 => k (hc1.mpr k2)), fun k k2 => q.1.mpr k (hc1.mp k2)⟩, ⟨fun k => q.2.mp (fun k2 => k (hc2.mpr k2)), fun k k2 => q.2.mpr k (hc2.mp k2)⟩⟩) (fun hp => by
      have q := ayi.2 hp
      exact ⟨hc1.mpr q.1, hc2.mpr q.2⟩)
    intro x x0 x1
    rw [f4 11] at x1
    rw [x4 21 (by decide) (by decide), x4 22 (by decide) (by decide), x4 23 (by decide) (by decide), x4 0 (by decide) (by decide)]
    exact q x x0 x1
  -- the new map
  have mo : ∀ k : Int32, 0 ≤ k → k < fi r0 12 → ¬ k = i → (if ar r0 30 k.toNatClampNeg = ar r0 30 i.toNatClampNeg then z else m (ar r0 30 k.toNatClampNeg)) = m (ar r0 30 k.toNatClampNeg) := fun k k0 k1 k2 => by rw [if_neg (ne k k0 k1 k2)]
  have mi : (if ar r0 30 i.toNatClampNeg = ar r0 30 i.toNatClampNeg then z else m (ar r0 30 i.toNatClampNeg)) = z := by rw [if_pos rfl]
  have cce : ∀ k : Int32, 0 ≤ k → k ≤ i → ∀ y : Int32, (¬ y = -1 → ∃ j : Int32, 0 ≤ j ∧ j < k ∧ ar r0 30 j.toNatClampNeg = rh y) → cc rh (fun x => if x = ar r0 30 i.toNatClampNeg then z else m x) y = cc rh m y := by
    intro k k0 k1 y hy
    unfold cc
    by_cases e : y = -1
    · rw [if_pos e, if_pos e]
    · rw [if_neg e, if_neg e]
      obtain ⟨j, j0, j1, j2⟩ := hy e
      have ji : j < i := zo3 j1 k1
      have : ¬ rh y = ar r0 30 i.toNatClampNeg := by rw [← j2]; exact o.2.1 j i j0 ji io
      show (if rh y = ar r0 30 i.toNatClampNeg then z else m (rh y)) = m (rh y)
      rw [if_neg this]
  refine ⟨rh4, ⟨gi, n3, vb4, ay4⟩, fun x x0 x1 => (n2 x x0 (zo3 x1 h6.1)).trans (h5 x x0 x1), ⟨?_, ?_, ?_, ?_⟩, fun k k0 k1 => ?_, fun x x0 x1 => ?_, fun k k0 k1 => ?_, fun k k0 k1 k2 => ?_, fun k k0 k1 k2 => ?_, fun w w0 w1 => ?_, fun k k' k0 k1 k2 k3 k4 k5 k6 => ?_, L ++ [ar r0 30 i.toNatClampNeg], ?_, fun y hy => ?_, ?_⟩
  · rw [f4 11]; exact zo2 h6.1 n7
  · rw [f4 12, n5.1 12 (by decide)]; exact h6.2.1
  · rw [f4 15, e15]; exact h6.2.2.1
  · rw [x4 0 (by decide) (by decide), g3]; exact h6.2.2.2
  · rw [x4 30 (by decide) (by decide), oo k k0 (zo3 k1 (zo2 ole h6.1)) 30 (by decide) (by decide)]
    exact h7 k k0 k1
  · have xl := zo3 x1 h6.1
    have q := h8 x x0 x1
    rw [x4 21 (by decide) (by decide), x4 22 (by decide) (by decide), x4 23 (by decide) (by decide), x4 25 (by decide) (by decide), x4 26 (by decide) (by decide), x4 27 (by decide) (by decide), a24, updI _ _ z0 x0, if_neg (znx x xl), oo x x0 xl 21 (by decide) (by decide), oo x x0 xl 22 (by decide) (by decide), oo x x0 xl 23 (by decide) (by decide), oo x x0 xl 24 (by decide) (by decide), oo x x0 xl 25 (by decide) (by decide), oo x x0 xl 26 (by decide) (by decide), oo x x0 xl 27 (by decide) (by decide)]
    exact q
  · have b := odlt k k0 k1
    rw [a29, updI _ _ odi.1 b.1]
    show (if ar r0 30 k.toNatClampNeg = ar r0 30 i.toNatClampNeg then z else ar r3 29 (ar r0 30 k.toNatClampNeg).toNatClampNeg) = (if ar r0 30 k.toNatClampNeg = ar r0 30 i.toNatClampNeg then z else m (ar r0 30 k.toNatClampNeg))
    rw [oo _ b.1 (zo3 b.2 h6.1) 29 (by decide) (by decide), h9 k k0 k1]
  · have ki : ¬ k = i := by
      intro e
      rw [e] at k2
      rcases k2 with q | q
      · exact q ho
      · clear h1 h2 h3 h4 h5 h6 h7 h8 h9 h10 h11 h12 h13 l2 l3 n1 n2 n3 n4 n5 n6 o hI0 ay0; grind
    show (if ar r0 30 k.toNatClampNeg = ar r0 30 i.toNatClampNeg then z else m (ar r0 30 k.toNatClampNeg)) = _
    rw [mo k k0 k1 ki]
    refine h10 k k0 k1 ?_
    rcases k2 with q | q
    · exact Or.inl q
    · exact Or.inr (by clear h1 h2 h3 h4 h5 h6 h7 h8 h9 h10 h11 h12 h13 l2 l3 n1 n2 n3 n4 n5 n6 o hI0 ay0; grind)
  · by_cases e : k = i
    · subst e
      have st := o.2.2 k i0 io
      show (fi r0 11 ≤ (if ar r0 30 k.toNatClampNeg = ar r0 30 k.toNatClampNeg then z else m (ar r0 30 k.toNatClampNeg)) ∧ (if ar r0 30 k.toNatClampNeg = ar r0 30 k.toNatClampNeg then z else m (ar r0 30 k.toNatClampNeg)) < fi r4 11) ∧ ar r4 21 ((if ar r0 30 k.toNatClampNeg = ar r0 30 k.toNatClampNeg then z else m (ar r0 30 k.toNatClampNeg))).toNatClampNeg = _ ∧ ar r4 22 ((if ar r0 30 k.toNatClampNeg = ar r0 30 k.toNatClampNeg then z else m (ar r0 30 k.toNatClampNeg))).toNatClampNeg = _ ∧ ar r4 23 ((if ar r0 30 k.toNatClampNeg = ar r0 30 k.toNatClampNeg then z else m (ar r0 30 k.toNatClampNeg))).toNatClampNeg = _ ∧ ar r4 24 ((if ar r0 30 k.toNatClampNeg = ar r0 30 k.toNatClampNeg then z else m (ar r0 30 k.toNatClampNeg))).toNatClampNeg = _ ∧ ar r4 25 ((if ar r0 30 k.toNatClampNeg = ar r0 30 k.toNatClampNeg then z else m (ar r0 30 k.toNatClampNeg))).toNatClampNeg = _ ∧ ar r4 26 ((if ar r0 30 k.toNatClampNeg = ar r0 30 k.toNatClampNeg then z else m (ar r0 30 k.toNatClampNeg))).toNatClampNeg = _ ∧ ar r4 27 ((if ar r0 30 k.toNatClampNeg = ar r0 30 k.toNatClampNeg then z else m (ar r0 30 k.toNatClampNeg))).toNatClampNeg = _
      rw [mi, f4 11, x4 21 (by decide) (by decide), x4 22 (by decide) (by decide), x4 23 (by decide) (by decide), x4 25 (by decide) (by decide), x4 26 (by decide) (by decide), x4 27 (by decide) (by decide), a24, pk_us, v21, v22, v23, v24, v25, v26, v27, gb0or, oo _ odi.1 di 25 (by decide) (by decide), (h8 _ odi.1 odi.2.1).1.2.2.2.1, cce k i0 (Int32.le_refl _) _ st.2.1, cce k i0 (Int32.le_refl _) _ st.2.2]
      exact ⟨⟨zc, by rw [ez]; exact zi⟩, rfl, rfl, rfl, rfl, rfl, rfl, rfl⟩
    · have ki := ps2 ib k1 e
      have ko : k < fi r0 12 := ltt ki io
      have st := o.2.2 k k0 ko
      obtain ⟨p1, p2, p3, p4, p5, p6, p7, p8⟩ := h11 k k0 ki k2
      have m0 : 0 ≤ m (ar r0 30 k.toNatClampNeg) := zo2 c00 p1.1
      show (fi r0 11 ≤ (if ar r0 30 k.toNatClampNeg = ar r0 30 i.toNatClampNeg then z else m (ar r0 30 k.toNatClampNeg)) ∧ (if ar r0 30 k.toNatClampNeg = ar r0 30 i.toNatClampNeg then z else m (ar r0 30 k.toNatClampNeg)) < fi r4 11) ∧ ar r4 21 ((if ar r0 30 k.toNatClampNeg = ar r0 30 i.toNatClampNeg then z else m (ar r0 30 k.toNatClampNeg))).toNatClampNeg = _ ∧ ar r4 22 ((if ar r0 30 k.toNatClampNeg = ar r0 30 i.toNatClampNeg then z else m (ar r0 30 k.toNatClampNeg))).toNatClampNeg = _ ∧ ar r4 23 ((if ar r0 30 k.toNatClampNeg = ar r0 30 i.toNatClampNeg then z else m (ar r0 30 k.toNatClampNeg))).toNatClampNeg = _ ∧ ar r4 24 ((if ar r0 30 k.toNatClampNeg = ar r0 30 i.toNatClampNeg then z else m (ar r0 30 k.toNatClampNeg))).toNatClampNeg = _ ∧ ar r4 25 ((if ar r0 30 k.toNatClampNeg = ar r0 30 i.toNatClampNeg then z else m (ar r0 30 k.toNatClampNeg))).toNatClampNeg = _ ∧ ar r4 26 ((if ar r0 30 k.toNatClampNeg = ar r0 30 i.toNatClampNeg then z else m (ar r0 30 k.toNatClampNeg))).toNatClampNeg = _ ∧ ar r4 27 ((if ar r0 30 k.toNatClampNeg = ar r0 30 i.toNatClampNeg then z else m (ar r0 30 k.toNatClampNeg))).toNatClampNeg = _
      rw [mo k k0 ko e, f4 11, x4 21 (by decide) (by decide), x4 22 (by decide) (by decide), x4 23 (by decide) (by decide), x4 25 (by decide) (by decide), x4 26 (by decide) (by decide), x4 27 (by decide) (by decide), a24, updI _ _ z0 m0, if_neg (znx _ p1.2), oo _ m0 p1.2 21 (by decide) (by decide), oo _ m0 p1.2 22 (by decide) (by decide), oo _ m0 p1.2 23 (by decide) (by decide), oo _ m0 p1.2 24 (by decide) (by decide), oo _ m0 p1.2 25 (by decide) (by decide), oo _ m0 p1.2 26 (by decide) (by decide), oo _ m0 p1.2 27 (by decide) (by decide), cce k k0 (zo4 ki) _ st.2.1, cce k k0 (zo4 ki) _ st.2.2]
      exact ⟨⟨p1.1, ltt p1.2 zi⟩, p2, p3, p4, p5, p6, p7, p8⟩
  · rw [f4 11, e11] at w1
    by_cases e : w = z
    · refine ⟨i, i0, ps3 ib, ho, ?_⟩
      show (if ar r0 30 i.toNatClampNeg = ar r0 30 i.toNatClampNeg then z else m (ar r0 30 i.toNatClampNeg)) = w
      rw [mi, e]
    · have w2 : w < fi r 11 := by rw [ez] at e; clear h1 h2 h3 h4 h5 h6 h7 h8 h9 h10 h11 h12 h13 l2 l3 n1 n2 n3 n4 n5 n6 o hI0 ay0; grind
      obtain ⟨k, k0, k1, k2, k3⟩ := h12 w w0 w2
      refine ⟨k, k0, ps ib k1, k2, ?_⟩
      show (if ar r0 30 k.toNatClampNeg = ar r0 30 i.toNatClampNeg then z else m (ar r0 30 k.toNatClampNeg)) = w
      rw [mo k k0 (ltt k1 io) (fun e2 => by rw [e2] at k1; exact irr k1)]
      exact k3
  · have k6' : (if ar r0 30 k.toNatClampNeg = ar r0 30 i.toNatClampNeg then z else m (ar r0 30 k.toNatClampNeg)) = (if ar r0 30 (k').toNatClampNeg = ar r0 30 i.toNatClampNeg then z else m (ar r0 30 (k').toNatClampNeg)) := k6
    by_cases e : k = i
    · by_cases e' : k' = i
      · rw [e, e']
      · have k3' := ps2 ib k3 e'
        rw [e, mi, mo k' k2 (ltt k3' io) e'] at k6'
        have := (h11 k' k2 k3' k5).1.2
        exact absurd k6'.symm (znx _ this)
    · have k1' := ps2 ib k1 e
      by_cases e' : k' = i
      · rw [e', mi, mo k k0 (ltt k1' io) e] at k6'
        have := (h11 k k0 k1' k4).1.2
        exact absurd k6' (znx _ this)
      · have k3' := ps2 ib k3 e'
        rw [mo k k0 (ltt k1' io) e, mo k' k2 (ltt k3' io) e'] at k6'
        exact h13 k k' k0 k1' k2 k3' k4 k5 k6'
  · refine List.nodup_append.mpr ⟨l1, by simp, fun p hp q hq e => ?_⟩
    rw [List.mem_singleton.mp hq] at e
    obtain ⟨k, k0, k1, k2, _⟩ := l2 p hp
    exact ne k k0 (ltt k1 io) (fun e2 => by rw [e2] at k1; exact irr k1) (by rw [k2, e])
  · rcases List.mem_append.mp hy with q | q
    · obtain ⟨k, k0, k1, k2⟩ := l2 y q
      exact ⟨k, k0, ps ib k1, k2⟩
    · rw [List.mem_singleton.mp q]
      exact ⟨i, i0, ps3 ib, rfl, ho⟩
  · have := i_inc lt
    rw [f4 11, e11, this, List.length_append]
    simp
    omega
end
end ZCCOPY
