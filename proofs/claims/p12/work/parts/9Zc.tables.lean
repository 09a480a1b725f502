/-! The tables of class and reference are the same: constructors, types, classes. -/
section TABLES
/-- the two sides' tables -/
def TQ (r : S_) : Prop := (fi r 21 = fi r 0 ∧ ar r 36 = ar r 0) ∧ (fi r 22 = fi r 1 ∧ ar r 37 = ar r 1 ∧ ar r 38 = ar r 2 ∧ ar r 39 = ar r 3 ∧ ar r 40 = ar r 4) ∧ (fi r 23 = fi r 2 ∧ ar r 41 = ar r 6 ∧ (∀ c : Int32, 0 ≤ c → c < fi r 2 → ar r 42 c.toNatClampNeg = ar r 8 c.toNatClampNeg) ∧ ∀ c : Int32, fi r 2 ≤ c → c < 8 → ar r 42 c.toNatClampNeg = -1) ∧ (fi r 24 = fi r 3 ∧ (∀ k : Int32, 0 ≤ k → k < 64 → zb (ar r 86 k.toNatClampNeg) ∧ (ar r 86 k.toNatClampNeg = 0 ↔ ar r 9 k.toNatClampNeg = -1)) ∧ ar r 43 = ar r 10 ∧ ar r 44 = ar r 11) ∧ (fi r 25 = fi r 4 ∧ ar r 45 = ar r 12 ∧ ar r 46 = ar r 13 ∧ ar r 47 = ar r 14 ∧ ar r 48 = ar r 15 ∧ ar r 49 = ar r 16)
theorem TQ_20 {r : S_} {v : Int32} (h : TQ r) : TQ (sF r 20 v) := h
def mat (r : S_) (h a b t : Int32) : Prop := ar r 1 t.toNatClampNeg = h ∧ ar r 2 t.toNatClampNeg = a ∧ ar r 3 t.toNatClampNeg = b
theorem search_ok {ad l : Nat → Nat} {r : S_} (w : TT l r) {h x y : Int32} {K : Int32 → Prop} (h1 : ∀ t : Int32, 0 ≤ t → t < fi r 1 → mat r h x y t → (∀ u : Int32, 0 ≤ u → u < t → ¬ mat r h x y u) → K t) (h2 : (∀ u : Int32, 0 ≤ u → u < fi r 1 → ¬ mat r h x y u) → K (-1)) : qT_search (ad, l) r K h x y := by
  obtain ⟨⟨f1, f2, f3, f4⟩, ⟨l0, l1, l2, l3, l4, l5, l20⟩, wc, wt⟩ := w
  have key : ∀ (n : Nat) (v : Int32), 0 ≤ v → v ≤ fi r 1 → (∀ u : Int32, 0 ≤ u → u < v → ¬ mat r h x y u) → (fi r 1).toInt - v.toInt < n → qT_search_L3 (ad, l) r (fun v4 => K v4) (K (-1)) n h x y v := by
    intro n
    induction n with
    | zero => intro v k1 k2 k3 k4; rw [il] at k2; omega
    | succ n ih =>
      intro v k1 k2 k3 k4
      rw [qT_search_L3]
      refine ⟨fun g => h2 (fun u u1 u2 => k3 u u1 (by clear wc wt k3 ih h1 h2; grind)), fun g => ?_⟩
      have hlt : v < fi r 1 := Int32.not_le.mp g
      have hi := i_inc hlt
      have v60 : ∀ k, l k = 60 → vp_in v (l k) := fun k hk => vi2 k1 hlt (by rw [hk]; rw [il] at f4; simpa using f4)
      have nx : ¬ mat r h x y v → qT_search_L3 (ad, l) r (fun v4 => K v4) (K (-1)) n h x y (v + 1) := fun hn => ih (v + 1) (by clear wc wt k3 ih h1 h2; grind) (by clear wc wt k3 ih h1 h2; grind) (fun u u1 u2 => by
        by_cases e : u = v
        · rw [e]; exact hn
        · exact k3 u u1 (by clear wc wt k3 ih h1 h2; grind)) (by omega)
      unfold qT_search_J48
      exact ⟨v60 1 l1, fun g1 => nx (fun z => g1 z.1), fun g1 => ⟨v60 2 l2, fun g2 => nx (fun z => g2 z.2.1), fun g2 => ⟨v60 3 l3, fun g3 => nx (fun z => g3 z.2.2), fun g3 => h1 v k1 hlt ⟨g1, g2, g3⟩ k3⟩⟩⟩
  have c0 := i_nat f3
  exact ⟨(fi r 1).toNatClampNeg + 1, key _ _ (by decide) f3 (fun u u1 u2 => (nl0 u1 u2).elim) (by simp; omega)⟩
theorem rsearch_ok {a : L_} {r : S_} (hM : ML a) (q : TQ r) (f3 : 0 ≤ fi r 1) (f4 : fi r 1 ≤ 60) {h x y s : Int32} {K1 : S_ → Int32 → Prop} {K2 : S_ → Int32 → Int32 → Int32 → Int32 → Prop} (h1 : ∀ t : Int32, 0 ≤ t → t < fi r 1 → mat r h x y t → (∀ u : Int32, 0 ≤ u → u < t → ¬ mat r h x y u) → K1 r t) (h2 : (∀ u : Int32, 0 ≤ u → u < fi r 1 → ¬ mat r h x y u) → K2 r h x y s) : ∃ n, qM_keepType_L3 a K1 K2 n r h x y s 0 := by
  obtain ⟨-, ⟨q1, q2, q3, q4, q5⟩, -⟩ := q
  have key : ∀ (n : Nat) (v : Int32), 0 ≤ v → v ≤ fi r 1 → (∀ u : Int32, 0 ≤ u → u < v → ¬ mat r h x y u) → (fi r 1).toInt - v.toInt < n → qM_keepType_L3 a K1 K2 n r h x y s v := by
    intro n
    induction n with
    | zero => intro v k1 k2 k3 k4; rw [il] at k2; omega
    | succ n ih =>
      intro v k1 k2 k3 k4
      rw [qM_keepType_L3, q1, q2, q3, q4]
      refine ⟨fun g => h2 (fun u u1 u2 => k3 u u1 (by clear k3 ih h1 h2; grind)), fun g => ?_⟩
      have hlt : v < fi r 1 := Int32.not_le.mp g
      have hi := i_inc hlt
      have v60 : ∀ k, 36 ≤ k → k < 89 → ln0 k = 60 → vp_in v (ln a k) := fun k h1 h2 hk => vi2 k1 hlt (by rw [ml hM h1 h2 hk]; rw [il] at f4; simpa using f4)
      have nx : ¬ mat r h x y v → qM_keepType_L3 a K1 K2 n r h x y s (v + 1) := fun hn => ih (v + 1) (by clear k3 ih h1 h2; grind) (by clear k3 ih h1 h2; grind) (fun u u1 u2 => by
        by_cases e : u = v
        · rw [e]; exact hn
        · exact k3 u u1 (by clear k3 ih h1 h2; grind)) (by omega)
      unfold qM_keepType_J48
      exact ⟨v60 37 (by decide) (by decide) rfl, fun g1 => nx (fun z => g1 z.1), fun g1 => ⟨v60 38 (by decide) (by decide) rfl, fun g2 => nx (fun z => g2 z.2.1), fun g2 => ⟨v60 39 (by decide) (by decide) rfl, fun g3 => nx (fun z => g3 z.2.2), fun g3 => h1 v k1 hlt ⟨g1, g2, g3⟩ k3⟩⟩⟩
  have c0 := i_nat f3
  exact ⟨(fi r 1).toNatClampNeg + 1, key _ _ (by decide) f3 (fun u u1 u2 => (nl0 u1 u2).elim) (by simp; omega)⟩
/-- first matches are one -/
theorem mat_one {r : S_} {h x y t u : Int32} (t0 : 0 ≤ t) (u0 : 0 ≤ u) (h1 : mat r h x y t) (h2 : ∀ v : Int32, 0 ≤ v → v < t → ¬ mat r h x y v) (h3 : mat r h x y u) (h4 : ∀ v : Int32, 0 ≤ v → v < u → ¬ mat r h x y v) : t = u := by
  by_cases e : t < u
  · exact absurd h1 (h4 t t0 e)
  · by_cases e2 : u < t
    · exact absurd h3 (h2 u u0 e2)
    · clear h1 h2 h3 h4; grind
/-- a type more, on both sides -/
def addT (r : S_) (h x y s b : Int32) : S_ := sF (sA (sA (sA (sA (sF (sF (sA (sA (sA (sA (sA r 1 (upd (ar r 1) (fi r 1).toNatClampNeg h)) 2 (upd (ar r 2) (fi r 1).toNatClampNeg x)) 3 (upd (ar r 3) (fi r 1).toNatClampNeg y)) 4 (upd (ar r 4) (fi r 1).toNatClampNeg s)) 5 (upd (ar r 5) (fi r 1).toNatClampNeg b)) 1 (fi r 1 + 1)) 20 0) 37 (upd (ar r 1) (fi r 1).toNatClampNeg h)) 38 (upd (ar r 2) (fi r 1).toNatClampNeg x)) 39 (upd (ar r 3) (fi r 1).toNatClampNeg y)) 40 (upd (ar r 4) (fi r 1).toNatClampNeg s)) 22 (fi r 1 + 1)
theorem addT_TQ {r : S_} {h x y s b : Int32} (q : TQ r) : TQ (addT r h x y s b) := ⟨q.1, ⟨rfl, rfl, rfl, rfl, rfl⟩, q.2.2⟩
theorem addT_TT {l : Nat → Nat} {r : S_} {h x y s b : Int32} (w : TT l r) (hc : fi r 1 < 60) (h1 : -8 ≤ h ∧ h < 8) (x1 : -1 ≤ x ∧ x < fi r 1) (y1 : -1 ≤ y ∧ y < fi r 1) (s1 : 1 ≤ s ∧ s ≤ 16) (sx : ¬ x = -1 → ar r 4 x.toNatClampNeg < s) (sy : ¬ y = -1 → ar r 4 y.toNatClampNeg < s) (hn : h < 0 → x = -1 ∧ y = -1) (hb : ¬ b &&& 1 = 0 → h = -1 ∨ (¬ x = -1 ∧ ¬ ar r 5 x.toNatClampNeg &&& 1 = 0) ∨ (¬ y = -1 ∧ ¬ ar r 5 y.toNatClampNeg &&& 1 = 0)) : TT l (addT r h x y s b) := by
  obtain ⟨⟨f1, f2, f3, f4⟩, hl, wc, wt⟩ := w
  have e1 : fi (addT r h x y s b) 1 = fi r 1 + 1 := rfl
  have e0 : fi (addT r h x y s b) 0 = fi r 0 := rfl
  have a0 : ar (addT r h x y s b) 0 = ar r 0 := rfl
  have a1 : ar (addT r h x y s b) 1 = upd (ar r 1) (fi r 1).toNatClampNeg h := rfl
  have a2 : ar (addT r h x y s b) 2 = upd (ar r 2) (fi r 1).toNatClampNeg x := rfl
  have a3 : ar (addT r h x y s b) 3 = upd (ar r 3) (fi r 1).toNatClampNeg y := rfl
  have a4 : ar (addT r h x y s b) 4 = upd (ar r 4) (fi r 1).toNatClampNeg s := rfl
  have a5 : ar (addT r h x y s b) 5 = upd (ar r 5) (fi r 1).toNatClampNeg b := rfl
  have s9 : fi r 1 < fi r 1 + 1 := by clear wc wt hl hb sx sy hn; grind
  unfold TT
  rw [e0, e1, a0, a1, a2, a3, a4, a5]
  refine ⟨⟨f1, f2, by clear wc wt hl hb sx sy hn; grind, by clear wc wt hl hb sx sy hn; grind⟩, hl, wc, fun t t1 t2 => ?_⟩
  by_cases e : t = fi r 1
  · subst e
    have ux : ¬ x = -1 → 0 ≤ x := fun z => by clear wc wt hl hb sx sy hn; grind
    have uy : ¬ y = -1 → 0 ≤ y := fun z => by clear wc wt hl hb sx sy hn; grind
    have nx : ¬ x = fi r 1 := fun z => by have := x1.2; rw [z] at this; exact irr this
    have ny : ¬ y = fi r 1 := fun z => by have := y1.2; rw [z] at this; exact irr this
    rw [pk_us, pk_us, pk_us, pk_us, pk_us]
    refine ⟨h1, x1, y1, s1, fun g => ?_, fun g => ?_, hn, fun g => ?_⟩
    · rw [updI _ _ f3 (ux g), if_neg nx]; exact sx g
    · rw [updI _ _ f3 (uy g), if_neg ny]; exact sy g
    · rcases hb g with k | ⟨k, k2⟩ | ⟨k, k2⟩
      · exact Or.inl k
      · refine Or.inr (Or.inl ⟨k, ?_⟩)
        rw [updI _ _ f3 (ux k), if_neg nx]; exact k2
      · refine Or.inr (Or.inr ⟨k, ?_⟩)
        rw [updI _ _ f3 (uy k), if_neg ny]; exact k2
  · have t3 : t < fi r 1 := by clear wc wt hl hb sx sy hn; grind
    rw [updI _ _ f3 t1, if_neg e, updI _ _ f3 t1, if_neg e, updI _ _ f3 t1, if_neg e, updI _ _ f3 t1, if_neg e, updI _ _ f3 t1, if_neg e]
    obtain ⟨b1, b2, b3, b4, b5, b6, b7, b8⟩ := wt t t1 t3
    have n2 : ∀ k, -1 ≤ k → k < t → ¬ k = -1 → 0 ≤ k ∧ ¬ k = fi r 1 := fun k k1 k2 k3 => by clear wc wt hl hb sx sy hn b5 b6 b7 b8; grind
    refine ⟨b1, b2, b3, b4, fun g => ?_, fun g => ?_, b7, fun g => ?_⟩
    · have m := n2 _ b2.1 b2.2 g
      rw [updI _ _ f3 m.1, if_neg m.2]; exact b5 g
    · have m := n2 _ b3.1 b3.2 g
      rw [updI _ _ f3 m.1, if_neg m.2]; exact b6 g
    · rcases b8 g with k | ⟨k, k2⟩ | ⟨k, k2⟩
      · exact Or.inl k
      · have m := n2 _ b2.1 b2.2 k
        refine Or.inr (Or.inl ⟨k, ?_⟩)
        rw [updI _ _ f3 m.1, if_neg m.2]; exact k2
      · have m := n2 _ b3.1 b3.2 k
        refine Or.inr (Or.inr ⟨k, ?_⟩)
        rw [updI _ _ f3 m.1, if_neg m.2]; exact k2
theorem addT_ET {l : Nat → Nat} {r : S_} {h x y s b : Int32} (w : ET l r) (f3 : 0 ≤ fi r 1) (f4 : fi r 1 < 60) : ET l (addT r h x y s b) := by
  obtain ⟨w1, w2, w3⟩ := w
  have e4 : fi (addT r h x y s b) 4 = fi r 4 := rfl
  have e1 : fi (addT r h x y s b) 1 = fi r 1 + 1 := rfl
  have e2 : fi (addT r h x y s b) 2 = fi r 2 := rfl
  have a5 : ar (addT r h x y s b) 5 = upd (ar r 5) (fi r 1).toNatClampNeg b := rfl
  have a8 : ar (addT r h x y s b) 8 = ar r 8 := rfl
  have a12 : ar (addT r h x y s b) 12 = ar r 12 := rfl
  have a13 : ar (addT r h x y s b) 13 = ar r 13 := rfl
  have a14 : ar (addT r h x y s b) 14 = ar r 14 := rfl
  have a15 : ar (addT r h x y s b) 15 = ar r 15 := rfl
  have a16 : ar (addT r h x y s b) 16 = ar r 16 := rfl
  have s9 : fi r 1 < fi r 1 + 1 := by clear w3; grind
  unfold ET
  rw [e4, e1, e2, a5, a8, a12, a13, a14, a15, a16]
  refine ⟨w1, w2, fun e g1 g2 => ?_⟩
  obtain ⟨k0, k1, k2, k3, k4, k5⟩ := w3 e g1 g2
  refine ⟨k0, k1, k2, k3, fun g => ?_, fun g => ⟨(k5 g).1, ltt (k5 g).2 s9⟩⟩
  obtain ⟨m1, m2, m3⟩ := k4 g
  refine ⟨m1, ⟨m2.1, ltt m2.2 s9⟩, ?_⟩
  rw [updI _ _ f3 m2.1, if_neg (fun z => by have := m2.2; rw [z] at this; exact irr this)]
  exact m3
end TABLES
