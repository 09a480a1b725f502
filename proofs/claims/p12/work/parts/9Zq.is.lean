/-! What classes a type is in: the class's side. -/
section ISC
theorem lts8 {v n j : Int32} (hv : v < n) : j < v + 1 ↔ (j < v ∨ j = v) := by
  have hi := i_inc hv
  rw [it, it, ie, hi]
  omega
theorem haveI_ok {a : L_} {r : S_} (h : KT a r) {b k : Int32} (q1 : 0 ≤ k) (q2 : k < 8) {K : Int32 → Prop} (h1 : (∀ c : Int32, 0 ≤ c → c < fi r 2 → gb b c.toNatClampNeg = true → ¬ ar r 9 (8 * c + k).toNatClampNeg = -1) → K 1) (h0 : ∀ c : Int32, 0 ≤ c → c < fi r 2 → gb b c.toNatClampNeg = true → ar r 9 (8 * c + k).toNatClampNeg = -1 → K 0) : qK_haveInstances a r (fun z => zb z → K z) b k := by
  obtain ⟨k1, k2, -, -, -, k3, -⟩ := h
  unfold qK_haveInstances
  have key : ∀ (n : Nat) (v3 : Int32), 0 ≤ v3 → v3 ≤ fi r 2 → (∀ c : Int32, 0 ≤ c → c < v3 → gb b c.toNatClampNeg = true → ¬ ar r 9 (8 * c + k).toNatClampNeg = -1) → (fi r 2).toInt - v3.toInt < n → qK_haveInstances_L2 a r (zb 0 ∧ (zb 0 → K 0)) (zb 1 ∧ (zb 1 → K 1)) n b k v3 := by
    intro n
    induction n with
    | zero => intro v3 k1 k2 k3 k4; rw [il] at k2; omega
    | succ n ih =>
      intro v3 d1 d2 d3 d4
      rw [qK_haveInstances_L2]
      refine ⟨fun g => ⟨zb1, fun _ => h1 (fun c c0 c1 => d3 c c0 ?_)⟩, fun g => ?_⟩
      · clear d3 ih h1 h0; grind
      have hlt : v3 < fi r 2 := Int32.not_le.mp g
      have hi := i_inc hlt
      have c1 : 0 ≤ v3 + 1 := by clear ih d3 h1 h0; grind
      have c2 : v3 + 1 ≤ fi r 2 := by clear ih d3 h1 h0; grind
      have c3 : v3 < 8 := by clear ih d3 h1 h0; grind
      have s1 := sl_in d1 c3 q1 q2
      unfold qK_haveInstances_J34 qK_slot
      dsimp only
      rw [Int32.mul_comm v3 8]
      refine ⟨fun e => ih _ c1 c2 (fun c a0 a1 a2 => ?_) (by omega), fun e => ⟨vi2 s1.1.1 s1.1.2 (by rw [k3]; decide), fun e2 => ih _ c1 c2 (fun c a0 a1 a2 => ?_) (by omega), fun e2 => ⟨zb0, fun _ => h0 v3 d1 hlt ?_ e2⟩⟩⟩
      · rcases (lts8 hlt).mp a1 with z | z
        · exact d3 c a0 z a2
        · rw [z, (bt_c d1 c3).mp e] at a2
          exact absurd a2 (by decide)
      · rcases (lts8 hlt).mp a1 with z | z
        · exact d3 c a0 z a2
        · rw [z]
          exact e2
      · cases hb : gb b v3.toNatClampNeg with
        | true => rfl
        | false => exact absurd ((bt_c d1 c3).mpr hb) e
  have c0 := i_nat k1
  exact ⟨(fi r 2).toNatClampNeg + 1, key _ _ (by decide) k1 (fun c a0 a1 => (nl0 a0 a1).elim) (by simp; omega)⟩
theorem joinI_ok {a : L_} {r : S_} (h : KT a r) {m0 : Nat} (hm : m0 = 10 ∨ m0 = 11) {b k : Int32} (q1 : 0 ≤ k) (q2 : k < 8) {K : Int32 → Prop} (hK : ∀ z, (∀ i, i < 32 → (gb z i = true ↔ ∃ c : Int32, 0 ≤ c ∧ c < fi r 2 ∧ gb b c.toNatClampNeg = true ∧ gb (ar r m0 (8 * c + k).toNatClampNeg) i = true)) → K z) : qK_joined a r m0 K b k := by
  have hl : ln a m0 = 64 := by
    rcases hm with e | e
    · rw [e]; exact h.2.2.2.2.2.2.1
    · rw [e]; exact h.2.2.2.2.2.2.2
  obtain ⟨k1, k2, -⟩ := h
  unfold qK_joined
  have key : ∀ (n : Nat) (v4 v5 : Int32), 0 ≤ v5 → v5 ≤ fi r 2 → (∀ i, i < 32 → (gb v4 i = true ↔ ∃ c : Int32, 0 ≤ c ∧ c < v5 ∧ gb b c.toNatClampNeg = true ∧ gb (ar r m0 (8 * c + k).toNatClampNeg) i = true)) → (fi r 2).toInt - v5.toInt < n → qK_joined_L6 a r m0 (fun v4 => K v4) n b k v4 v5 := by
    intro n
    induction n with
    | zero => intro v4 v5 k1 k2 k3 k4; rw [il] at k2; omega
    | succ n ih =>
      intro v4 v5 d1 d2 d3 d4
      rw [qK_joined_L6]
      refine ⟨fun g => hK _ (fun i i1 => ?_), fun g => ?_⟩
      · have ev : v5 = fi r 2 := by clear d3 ih hK; grind
        rw [ev] at d3
        exact d3 i i1
      have hlt : v5 < fi r 2 := Int32.not_le.mp g
      have hi := i_inc hlt
      have c1 : 0 ≤ v5 + 1 := by clear ih hK d3; grind
      have c2 : v5 + 1 ≤ fi r 2 := by clear ih hK d3; grind
      have c3 : v5 < 8 := by clear ih hK d3; grind
      have s1 := sl_in d1 c3 q1 q2
      unfold qK_joined_J37 qK_slot
      dsimp only
      rw [Int32.mul_comm v5 8]
      refine ⟨fun e => ih _ _ c1 c2 (fun i i1 => ?_) (by omega), fun e => ⟨vi2 s1.1.1 s1.1.2 (by rw [hl]; decide), ih _ _ c1 c2 (fun i i1 => ?_) (by omega)⟩⟩
      · rw [d3 i i1]
        constructor
        · rintro ⟨c, a0, a1, a2⟩
          exact ⟨c, a0, (lts8 hlt).mpr (Or.inl a1), a2⟩
        · rintro ⟨c, a0, a1, a2⟩
          rcases (lts8 hlt).mp a1 with z | z
          · exact ⟨c, a0, z, a2⟩
          · rw [z, (bt_c d1 c3).mp e] at a2
            exact absurd a2.1 (by decide)
      · have ge : gb b v5.toNatClampNeg = true := by
          cases hb : gb b v5.toNatClampNeg with
          | true => rfl
          | false => exact absurd ((bt_c d1 c3).mpr hb) e
        rw [gb_or, Bool.or_eq_true, d3 i i1]
        constructor
        · rintro (⟨c, a0, a1, a2⟩ | z)
          · exact ⟨c, a0, (lts8 hlt).mpr (Or.inl a1), a2⟩
          · exact ⟨v5, d1, (lts8 hlt).mpr (Or.inr rfl), ge, z⟩
        · rintro ⟨c, a0, a1, a2, a3⟩
          rcases (lts8 hlt).mp a1 with z | z
          · exact Or.inl ⟨c, a0, z, a2, a3⟩
          · rw [z] at a3
            exact Or.inr a3
  have c0 := i_nat k1
  exact ⟨(fi r 2).toNatClampNeg + 1, key _ _ _ (by decide) k1 (fun i i1 => ⟨fun z => by rw [gb_0] at z; exact absurd z (by decide), fun ⟨c, a0, a1, _⟩ => (nl0 a0 a1).elim⟩) (by simp; omega)⟩
/-- whether a type is in a class, with fuel -/
def hC (r : S_) : Nat → Int32 → Int32 → Prop
  | 0, _, _ => False
  | n + 1, t, c => 0 ≤ ar r 1 t.toNatClampNeg ∧ ¬ ar r 9 (8 * c + ar r 1 t.toNatClampNeg).toNatClampNeg = -1 ∧ (∀ i : Int32, 0 ≤ i → i < fi r 2 → gb (ar r 10 (8 * c + ar r 1 t.toNatClampNeg).toNatClampNeg) i.toNatClampNeg = true → 0 ≤ ar r 2 t.toNatClampNeg ∧ hC r n (ar r 2 t.toNatClampNeg) i) ∧ (∀ i : Int32, 0 ≤ i → i < fi r 2 → gb (ar r 11 (8 * c + ar r 1 t.toNatClampNeg).toNatClampNeg) i.toNatClampNeg = true → 0 ≤ ar r 3 t.toNatClampNeg ∧ hC r n (ar r 3 t.toNatClampNeg) i)
theorem hC_st {l : Nat → Nat} {r : S_} (w : TT l r) : ∀ (n m : Nat) (t c : Int32), 0 ≤ t → t < fi r 1 → t.toNatClampNeg < n → t.toNatClampNeg < m → (hC r n t c ↔ hC r m t c) := by
  intro n
  induction n with
  | zero => intro m t c t0 t1 h; omega
  | succ n ih =>
    intro m t c t0 t1 h1 h2
    cases m with
    | zero => omega
    | succ m =>
      have wt := w.2.2.2 t t0 t1
      have e2 : ∀ i, 0 ≤ ar r 2 t.toNatClampNeg → (hC r n (ar r 2 t.toNatClampNeg) i ↔ hC r m (ar r 2 t.toNatClampNeg) i) := fun i p0 => by
        have q := wt.2.1.2
        have a := i_nat p0
        have b := i_nat t0
        have q' := q
        rw [it] at q'
        exact ih m _ i p0 (ltt q t1) (by omega) (by omega)
      have e3 : ∀ i, 0 ≤ ar r 3 t.toNatClampNeg → (hC r n (ar r 3 t.toNatClampNeg) i ↔ hC r m (ar r 3 t.toNatClampNeg) i) := fun i p0 => by
        have q := wt.2.2.1.2
        have a := i_nat p0
        have b := i_nat t0
        have q' := q
        rw [it] at q'
        exact ih m _ i p0 (ltt q t1) (by omega) (by omega)
      unfold hC
      constructor
      · rintro ⟨x0, x1, x2, x3⟩
        exact ⟨x0, x1, fun i a b g => ⟨(x2 i a b g).1, (e2 i (x2 i a b g).1).mp (x2 i a b g).2⟩, fun i a b g => ⟨(x3 i a b g).1, (e3 i (x3 i a b g).1).mp (x3 i a b g).2⟩⟩
      · rintro ⟨x0, x1, x2, x3⟩
        exact ⟨x0, x1, fun i a b g => ⟨(x2 i a b g).1, (e2 i (x2 i a b g).1).mpr (x2 i a b g).2⟩, fun i a b g => ⟨(x3 i a b g).1, (e3 i (x3 i a b g).1).mpr (x3 i a b g).2⟩⟩
/-- whether a type is in a class -/
def hH (r : S_) (t c : Int32) : Prop := hC r (t.toNatClampNeg + 1) t c
theorem hH_iff {l : Nat → Nat} {r : S_} (w : TT l r) {t c : Int32} (t0 : 0 ≤ t) (t1 : t < fi r 1) : hH r t c ↔ 0 ≤ ar r 1 t.toNatClampNeg ∧ ¬ ar r 9 (8 * c + ar r 1 t.toNatClampNeg).toNatClampNeg = -1 ∧ (∀ i : Int32, 0 ≤ i → i < fi r 2 → gb (ar r 10 (8 * c + ar r 1 t.toNatClampNeg).toNatClampNeg) i.toNatClampNeg = true → 0 ≤ ar r 2 t.toNatClampNeg ∧ hH r (ar r 2 t.toNatClampNeg) i) ∧ (∀ i : Int32, 0 ≤ i → i < fi r 2 → gb (ar r 11 (8 * c + ar r 1 t.toNatClampNeg).toNatClampNeg) i.toNatClampNeg = true → 0 ≤ ar r 3 t.toNatClampNeg ∧ hH r (ar r 3 t.toNatClampNeg) i) := by
  have wt := w.2.2.2 t t0 t1
  have b := i_nat t0
  have e2 : ∀ i, 0 ≤ ar r 2 t.toNatClampNeg → (hC r t.toNatClampNeg (ar r 2 t.toNatClampNeg) i ↔ hH r (ar r 2 t.toNatClampNeg) i) := fun i p0 => by
    have q := wt.2.1.2
    have a := i_nat p0
    have q' := q
    rw [it] at q'
    exact hC_st w _ _ _ i p0 (ltt q t1) (by omega) (by omega)
  have e3 : ∀ i, 0 ≤ ar r 3 t.toNatClampNeg → (hC r t.toNatClampNeg (ar r 3 t.toNatClampNeg) i ↔ hH r (ar r 3 t.toNatClampNeg) i) := fun i p0 => by
    have q := wt.2.2.1.2
    have a := i_nat p0
    have q' := q
    rw [it] at q'
    exact hC_st w _ _ _ i p0 (ltt q t1) (by omega) (by omega)
  show hC r (t.toNatClampNeg + 1) t c ↔ _
  rw [hC]
  constructor
  · rintro ⟨x0, x1, x2, x3⟩
    exact ⟨x0, x1, fun i a b g => ⟨(x2 i a b g).1, (e2 i (x2 i a b g).1).mp (x2 i a b g).2⟩, fun i a b g => ⟨(x3 i a b g).1, (e3 i (x3 i a b g).1).mp (x3 i a b g).2⟩⟩
  · rintro ⟨x0, x1, x2, x3⟩
    exact ⟨x0, x1, fun i a b g => ⟨(x2 i a b g).1, (e2 i (x2 i a b g).1).mpr (x2 i a b g).2⟩, fun i a b g => ⟨(x3 i a b g).1, (e3 i (x3 i a b g).1).mpr (x3 i a b g).2⟩⟩
end ISC
