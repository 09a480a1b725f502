/-! What classes a type is in: the reference's side. -/
section ISR
theorem Fr1 {k : Nat} {r r1 : S_} (F : Fr [] [k] r r1) : r1 = sA r k (ar r1 k) := by
  obtain ⟨a1, a2, a3⟩ := r1
  obtain ⟨b1, b2, b3⟩ := r
  obtain ⟨F1, F2, F3⟩ := F
  unfold sA
  have g1 : a1 = b1 := funext (fun k => F1 k (by simp))
  have g3 : a3 = b3 := funext (fun k => F3 k)
  have g2 : a2 = fun j => if j = k then ar (a1, a2, a3) k else b2 j := funext (fun j => by
    by_cases e : j = k
    · rw [if_pos e, e]; rfl
    · rw [if_neg e]
      exact F2 j (by simp; exact e))
  rw [g1, g3]
  exact congrArg (fun x => (b1, x, b3)) (g2.trans (by rw [g1, g3]))
theorem nat_i {j : Nat} {n : Int32} (h : (j : Int) < n.toInt) : ∃ c : Int32, 0 ≤ c ∧ c < n ∧ c.toNatClampNeg = j := by
  have hn := Int32.toInt_lt n
  have e : (Int32.ofNat j).toInt = j := i_ofn (by omega)
  have c0 : 0 ≤ Int32.ofNat j := by rw [il, e]; simp
  have := i_nat c0
  exact ⟨Int32.ofNat j, c0, by rw [it, e]; exact h, by omega⟩
def hM (R : S_) (u v : Int32) : Prop := ∀ i, i < 32 → (gb v i = true ↔ ∃ c : Int32, 0 ≤ c ∧ c < fi R 2 ∧ c.toNatClampNeg = i ∧ hH R u c)
theorem sub_h {R : S_} {m v f : Int32} (n8 : fi R 2 ≤ 8) (om : only m (fi R 2)) (hv : 0 ≤ f → hM R f v) (hz : ¬ 0 ≤ f → v = 0) : m &&& (v ^^^ (-1)) = 0 ↔ ∀ i : Int32, 0 ≤ i → i < fi R 2 → gb m i.toNatClampNeg = true → 0 ≤ f ∧ hH R f i := by
  rw [sub_iff]
  constructor
  · intro h i i0 i1 g
    have i8 : i < 8 := by clear h om hv hz g; grind
    have := d_lt i0 i8
    have g2 := h i.toNatClampNeg (by omega) g
    by_cases e : 0 ≤ f
    · obtain ⟨c, c0, c1, c2, c3⟩ := (hv e i.toNatClampNeg (by omega)).mp g2
      rw [(i_inj c0 i0).mp c2] at c3
      exact ⟨e, c3⟩
    · rw [hz e] at g2
      rw [gb_0] at g2
      exact absurd g2 (by decide)
  · intro h j j1 g
    obtain ⟨c, c0, c1, c2⟩ := nat_i (om j j1 g)
    rw [← c2] at g
    have b := h c c0 c1 g
    exact (hv b.1 j j1).mpr ⟨c, c0, c1, c2, b.2⟩
theorem is_in {ad l : Nat → Nat} {R s : S_} {v1 v2 v3 t : Int32} {KX : S_ → Int32 → Int32 → Int32 → Int32 → Int32 → Prop} (h : INV l R) (e23 : fi s 23 = fi R 2) (e37 : ar s 37 = ar R 1) (e38 : ar s 38 = ar R 2) (e39 : ar s 39 = ar R 3) (e86 : ar s 86 = ar R 86) (e43 : ar s 43 = ar R 10) (e44 : ar s 44 = ar R 11) (t0 : 0 ≤ t) (t1 : t < fi R 1) (hm : ¬ ar s 88 t.toNatClampNeg = 0 → (0 ≤ ar R 2 t.toNatClampNeg → hM R (ar R 2 t.toNatClampNeg) (ar s 74 (ar R 2 t.toNatClampNeg).toNatClampNeg)) ∧ (0 ≤ ar R 3 t.toNatClampNeg → hM R (ar R 3 t.toNatClampNeg) (ar s 74 (ar R 3 t.toNatClampNeg).toNatClampNeg))) (hK : ∀ v, (¬ ar s 88 t.toNatClampNeg = 0 → hM R t v) → KX s v1 v2 v3 t v) : ∃ n, qM_is_L81 (ad, l) KX n s v1 v2 v3 t 0 0 := by
  have h' := h
  obtain ⟨⟨-, -, -, ⟨w1, w2, -⟩, -⟩, q, m, -, -, ⟨-, wq⟩, -, sq⟩ := h
  have k0 := w2.1
  have k8 := w2.2.1
  have f2 := w1.1.2.1
  have f4 := w1.1.2.2.2
  have wt := w1.2.2.2 t t0 t1
  have hi := fun c => hH_iff w1 (c := c) t0 t1
  obtain ⟨-, q42, q43, q44⟩ := q.2.2.2.1
  have l88 : l 88 = 60 := ml (n := 60) m (by decide) (by decide) rfl
  have l37 : l 37 = 60 := ml (n := 60) m (by decide) (by decide) rfl
  have l38 : l 38 = 60 := ml (n := 60) m (by decide) (by decide) rfl
  have l39 : l 39 = 60 := ml (n := 60) m (by decide) (by decide) rfl
  have l74 : l 74 = 60 := ml (n := 60) m (by decide) (by decide) rfl
  have l86 : l 86 = 64 := ml (n := 64) m (by decide) (by decide) rfl
  have l43 : l 43 = 64 := ml (n := 64) m (by decide) (by decide) rfl
  have l44 : l 44 = 64 := ml (n := 64) m (by decide) (by decide) rfl
  have v60 : ∀ (u : Int32) q, l q = 60 → 0 ≤ u → u < fi R 1 → vp_in u (ln (ad, l) q) := fun u q hq u0 u1 => vi2 u0 u1 (by show (fi R 1).toInt ≤ l q; rw [hq]; rw [il] at f4; simpa using f4)
  have v64 : ∀ (u : Int32) q, l q = 64 → 0 ≤ u → u < 64 → vp_in u (ln (ad, l) q) := fun u q hq u0 u1 => vi2 u0 u1 (by show (64 : Int32).toInt ≤ l q; rw [hq]; decide)
  have key : ∀ (n : Nat) (v5 v6 : Int32), 0 ≤ v6 → v6 ≤ fi R 2 → (∀ i, i < 32 → (gb v5 i = true ↔ ∃ c : Int32, 0 ≤ c ∧ c < v6 ∧ c.toNatClampNeg = i ∧ hH R t c)) → (fi R 2).toInt - v6.toInt < n → qM_is_L81 (ad, l) KX n s v1 v2 v3 t v5 v6 := by
    intro n
    induction n with
    | zero => intro v5 v6 k1 k2 k3 k4; rw [il] at k2; omega
    | succ n ih =>
      intro v5 v6 d1 d2 d3 d4
      rw [qM_is_L81, e23, e37, e38]
      refine ⟨fun g => hK _ (fun _ => ?_), fun g => ⟨v60 t 88 l88 t0 t1, fun z => hK _ (fun z2 => absurd z z2), fun mk => ⟨v60 t 37 l37 t0 t1, fun z => hK _ (fun _ i i1 => ?_), fun z => ?_⟩⟩⟩
      · have ev : v6 = fi R 2 := by clear d3 ih hK hm hi q42 wq wt w1 w2 sq; grind
        rw [ev] at d3
        exact d3
      · rw [d3 i i1]
        constructor
        · rintro ⟨c, a0, a1, a2, a3⟩
          exact (nl0 ((hi c).mp a3).1 z).elim
        · rintro ⟨c, a0, a1, a2, a3⟩
          exact (nl0 ((hi c).mp a3).1 z).elim
      have x0 : 0 ≤ ar R 1 t.toNatClampNeg := Int32.not_lt.mp z
      have ary := (sq t t0 t1).2.2 x0
      have x8 : ar R 1 t.toNatClampNeg < 8 := by have := ary.1; clear h' w1 w2 sq ih hm hK hi q42 wq wt ary d3; grind
      have hlt : v6 < fi R 2 := Int32.not_le.mp g
      have hinc := i_inc hlt
      have c1 : 0 ≤ v6 + 1 := by clear h' w1 w2 sq ih hm hK hi q42 wq wt ary d3; grind
      have c2 : v6 + 1 ≤ fi R 2 := by clear h' w1 w2 sq ih hm hK hi q42 wq wt ary d3; grind
      have c3 : v6 < 8 := by clear h' w1 w2 sq ih hm hK hi q42 wq wt ary d3; grind
      have s1 := sl_in d1 c3 x0 x8
      have w4 := (wq v6 _ d1 c3 x0 x8).2.2
      rw [q43, q44] at w4
      have hm' := hm mk
      have nx : ∀ v5', (∀ i, i < 32 → (gb v5' i = true ↔ (gb v5 i = true ∨ (v6.toNatClampNeg = i ∧ hH R t v6)))) → qM_is_J245 (ad, l) (qM_is_L81 (ad, l) KX n) KX s v1 v2 v3 t v6 v5' := by
        intro v5' hv
        unfold qM_is_J245
        refine ih _ _ c1 c2 (fun i i1 => ?_) (by omega)
        rw [hv i i1, d3 i i1]
        constructor
        · rintro (⟨c, a0, a1, a2, a3⟩ | ⟨a2, a3⟩)
          · exact ⟨c, a0, (lts8 hlt).mpr (Or.inl a1), a2, a3⟩
          · exact ⟨v6, d1, (lts8 hlt).mpr (Or.inr rfl), a2, a3⟩
        · rintro ⟨c, a0, a1, a2, a3⟩
          rcases (lts8 hlt).mp a1 with e | e
          · exact Or.inl ⟨c, a0, e, a2, a3⟩
          · rw [e] at a2 a3
            exact Or.inr ⟨a2, a3⟩
      have no : ¬ hH R t v6 → qM_is_J225 (ad, l) (qM_is_L81 (ad, l) KX n) KX s v1 v2 v3 t v5 v6 := fun hn => by
        unfold qM_is_J225 qM_is_J226
        exact ⟨fun _ => nx _ (fun i i1 => ⟨fun z => Or.inl z, fun z => z.elim id (fun z => absurd z.2 hn)⟩), fun z => absurd rfl z⟩
      have yes : hH R t v6 → qM_is_J226 (ad, l) (qM_is_L81 (ad, l) KX n) KX s v1 v2 v3 t v5 v6 1 := fun hn => by
        unfold qM_is_J226
        refine ⟨fun z => absurd z (by decide), fun _ => nx _ (fun i i1 => ?_)⟩
        rw [gb_or, Bool.or_eq_true, gb_one d1 c3 i1, decide_eq_true_iff]
        exact ⟨fun z => z.elim Or.inl (fun z => Or.inr ⟨z.symm, hn⟩), fun z => z.elim Or.inl (fun z => Or.inr z.1.symm)⟩
      have j179 : ∀ v8 u0 : Int32, (0 ≤ ar R 2 t.toNatClampNeg → hM R (ar R 2 t.toNatClampNeg) v8) → (¬ 0 ≤ ar R 2 t.toNatClampNeg → v8 = 0) → (0 ≤ ar R 3 t.toNatClampNeg → hM R (ar R 3 t.toNatClampNeg) u0) → (¬ 0 ≤ ar R 3 t.toNatClampNeg → u0 = 0) → qM_is_J179 (ad, l) (qM_is_L81 (ad, l) KX n) KX s v1 v2 v3 t v5 v6 (8 * v6 + ar R 1 t.toNatClampNeg) v8 u0 := by
        intro v8 u0 a1 a2 a3 a4
        have b1 := sub_h k8 w4.1 a1 a2
        have b2 := sub_h k8 w4.2 a3 a4
        have b0 := (q42 _ s1.1.1 s1.1.2).2
        unfold qM_is_J179
        rw [e86, e43, e44]
        refine ⟨v64 _ 86 l86 s1.1.1 s1.1.2, fun z => no (fun hh => ((hi v6).mp hh).2.1 (b0.mp z)), fun z => ⟨v64 _ 43 l43 s1.1.1 s1.1.2, fun z1 => no (fun hh => z1 (b1.mpr ((hi v6).mp hh).2.2.1)), fun z1 => ⟨v64 _ 44 l44 s1.1.1 s1.1.2, fun z2 => no (fun hh => z2 (b2.mpr ((hi v6).mp hh).2.2.2)), fun z2 => yes ((hi v6).mpr ⟨x0, fun q => z (b0.mpr q), b1.mp z1, b2.mp z2⟩)⟩⟩⟩
      have j151 : ∀ v8 : Int32, (0 ≤ ar R 2 t.toNatClampNeg → hM R (ar R 2 t.toNatClampNeg) v8) → (¬ 0 ≤ ar R 2 t.toNatClampNeg → v8 = 0) → qM_is_J151 (ad, l) (qM_is_L81 (ad, l) KX n) KX s v1 v2 v3 t v5 v6 (8 * v6 + ar R 1 t.toNatClampNeg) v8 := by
        intro v8 a1 a2
        unfold qM_is_J151
        rw [e39]
        exact ⟨v60 t 39 l39 t0 t1, fun z => ⟨v60 t 39 l39 t0 t1, v60 _ 74 l74 z (ltt wt.2.2.1.2 t1), j179 _ _ a1 a2 hm'.2 (fun q => absurd z q)⟩, fun z => j179 _ _ a1 a2 (fun q => absurd q z) (fun _ => rfl)⟩
      exact ⟨v60 t 37 l37 t0 t1, v60 t 38 l38 t0 t1, fun z => ⟨v60 t 38 l38 t0 t1, v60 _ 74 l74 z (ltt wt.2.1.2 t1), j151 _ hm'.1 (fun q => absurd z q)⟩, fun z => j151 _ (fun q => absurd q z) (fun _ => rfl)⟩
  have c0 := i_nat k0
  exact ⟨(fi R 2).toNatClampNeg + 1, key _ _ _ (by decide) k0 (fun i i1 => ⟨fun z => by rw [gb_0] at z; exact absurd z (by decide), fun ⟨c, a0, a1, _⟩ => (nl0 a0 a1).elim⟩) (by simp; omega)⟩
end ISR
