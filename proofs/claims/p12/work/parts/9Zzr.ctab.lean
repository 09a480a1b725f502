/-! The class's tables of classes: what their loops come to, bit by bit. -/
section ZCTAB
variable {a : L_} {r : S_}
def kI (r : S_) (c : Nat) (k : Int32) : Prop := c < (fi r 2).toNatClampNeg → ¬ ar r 9 (8 * c + k.toNatClampNeg) = -1
def kF (r : S_) (m : Nat) (c : Nat) (k : Int32) (c1 : Nat) : Prop := (c < (fi r 2).toNatClampNeg ∧ k.toNatClampNeg < 8) ∧ gb (ar r m (8 * c + k.toNatClampNeg)) c1 = true
def kU (r : S_) (c' c : Nat) : Prop := c' < (fi r 2).toNatClampNeg ∧ gb (ar r 7 c') c = true
theorem slotN {x y : Int32} (x0 : 0 ≤ x) (x1 : x < 8) (y0 : 0 ≤ y) (y1 : y < 8) : (x * 8 + y).toNatClampNeg = 8 * x.toNatClampNeg + y.toNatClampNeg := by
  rcases v8 x0 x1 with e | e | e | e | e | e | e | e <;> rcases v8 y0 y1 with e2 | e2 | e2 | e2 | e2 | e2 | e2 | e2 <;> subst e <;> subst e2 <;> rfl
theorem gb_not {v : Int32} {i : Nat} (hi : i < 32) : gb (v ^^^ (-1)) i = !gb v i := gb_nm hi
theorem inc8 {v c : Int32} (h0 : 0 ≤ v) (h : v < c) (c8 : c ≤ 8) : 0 ≤ v + 1 ∧ v + 1 ≤ c ∧ (v + 1).toNatClampNeg = v.toNatClampNeg + 1 ∧ v < 8 := by
  have k := i_suc h0 h
  refine ⟨?_, ?_, k, ?_⟩ <;> grind
theorem ws_lowest (k0 : 0 ≤ fi r 2) (k8 : fi r 2 ≤ 8) {K : Int32 → Prop} {p : Int32} (hK : ∀ z, (∀ d, d < 32 → (gb z d = true ↔ gb p d = true ∧ ∀ c, gb p c = true → ¬ c = d → ¬ kU r c d)) → K z) : wK_lowest a r K p := by
  unfold wK_lowest
  intro n
  have key : ∀ (n : Nat) (v2 v3 : Int32), 0 ≤ v3 → v3 ≤ fi r 2 → (∀ d, d < 32 → (gb v2 d = true ↔ ∃ c, c < v3.toNatClampNeg ∧ gb p c = true ∧ ¬ c = d ∧ gb (ar r 7 c) d = true)) → wK_lowest_L4 a r (fun v1 v2 => K (v1 &&& (v2 ^^^ (-1)))) n p v2 v3 := by
    intro n
    induction n with
    | zero => intro v2 v3 _ _ _; trivial
    | succ n ih =>
      intro v2 v3 h0 h1 h2
      rw [wK_lowest_L4]
      refine ⟨fun g => hK _ (fun d hd => ?_), fun g => ?_⟩
      · have e : v3 = fi r 2 := by clear ih h2; grind
        rw [gb_and, gb_not hd, Bool.and_eq_true, Bool.not_eq_true', ← Bool.not_eq_true, h2 d hd, e]
        constructor
        · rintro ⟨q1, q2⟩
          exact ⟨q1, fun c q3 q4 q5 => q2 ⟨c, q5.1, q3, q4, q5.2⟩⟩
        · rintro ⟨q1, q2⟩
          exact ⟨q1, fun ⟨c, q3, q4, q5, q6⟩ => q2 c q4 q5 ⟨q3, q6⟩⟩
      · have hlt : v3 < fi r 2 := Int32.not_le.mp g
        obtain ⟨c1, c2, c3, c4⟩ := inc8 h0 hlt k8
        have d8 := d_lt h0 c4
        unfold wK_lowest_J35
        refine ⟨fun q => ih _ _ c1 c2 (fun d hd => ?_), fun q _ z4 e4 => ih _ _ c1 c2 (fun d hd => ?_)⟩
        · rw [bt_c h0 c4] at q
          rw [h2 d hd, c3]
          constructor
          · rintro ⟨c, q1, q2⟩
            exact ⟨c, by omega, q2⟩
          · rintro ⟨c, q1, q2, q3⟩
            refine ⟨c, ?_, q2, q3⟩
            have : ¬ c = v3.toNatClampNeg := fun e => by rw [e, q] at q2; exact absurd q2 (by decide)
            omega
        · rw [bt_c h0 c4] at q
          have q' : gb p v3.toNatClampNeg = true := by simpa using q
          rw [e4, gb_or, gb_and, gb_not hd, gb_one h0 c4 hd, c3, Bool.or_eq_true, h2 d hd, Bool.and_eq_true, Bool.not_eq_true', decide_eq_false_iff_not]
          constructor
          · rintro (⟨c, q1, q2⟩ | ⟨q1, q2⟩)
            · exact ⟨c, by omega, q2⟩
            · exact ⟨v3.toNatClampNeg, by omega, q', fun e => q2 e.symm, q1⟩
          · rintro ⟨c, q1, q2, q3, q4⟩
            by_cases e : c = v3.toNatClampNeg
            · subst e
              exact Or.inr ⟨q4, fun e => q3 e.symm⟩
            · exact Or.inl ⟨c, by omega, q2, q3, q4⟩
  exact key n 0 0 (by decide) k0 (fun d _ => by
    rw [gb_0]
    refine ⟨fun h => absurd h (by decide), fun ⟨c, q1, _⟩ => ?_⟩
    exact absurd q1 (by simp))
theorem ws_have (k0 : 0 ≤ fi r 2) (k8 : fi r 2 ≤ 8) {K : Int32 → Prop} {p k : Int32} (x0 : 0 ≤ k) (x1 : k < 8) (h1 : (∀ c, gb p c = true → kI r c k) → K 1) (h0 : (∃ c, gb p c = true ∧ ¬ kI r c k) → K 0) : wK_haveInstances a r K p k := by
  unfold wK_haveInstances
  intro n
  have key : ∀ (n : Nat) (v3 : Int32), 0 ≤ v3 → v3 ≤ fi r 2 → (∀ c, c < v3.toNatClampNeg → gb p c = true → kI r c k) → wK_haveInstances_L2 a r (zb 0 → K 0) (zb 1 → K 1) n p k v3 := by
    intro n
    induction n with
    | zero => intro v3 _ _ _; trivial
    | succ n ih =>
      intro v3 g0 g1 g2
      rw [wK_haveInstances_L2]
      refine ⟨fun g _ => h1 (fun c hc => ?_), fun g => ?_⟩
      · have e : v3 = fi r 2 := by clear ih g2; grind
        by_cases hc2 : c < v3.toNatClampNeg
        · exact g2 c hc2 hc
        · exact fun z => absurd (by rw [e]; exact z) hc2
      · have hlt : v3 < fi r 2 := Int32.not_le.mp g
        obtain ⟨c1, c2, c3, c4⟩ := inc8 g0 hlt k8
        unfold wK_haveInstances_J34 wK_slot
        refine ⟨fun q => ih _ c1 c2 (fun c q1 q2 => ?_), fun q _ => ⟨fun q3 => ih _ c1 c2 (fun c q1 q2 => ?_), fun q3 _ => h0 ⟨v3.toNatClampNeg, ?_, ?_⟩⟩⟩
        · rw [bt_c g0 c4] at q
          refine g2 c ?_ q2
          have : ¬ c = v3.toNatClampNeg := fun e => by rw [e, q] at q2; exact absurd q2 (by decide)
          omega
        · by_cases e : c = v3.toNatClampNeg
          · intro _
            rw [e, ← slotN g0 c4 x0 x1]
            exact q3
          · exact g2 c (by omega) q2
        · rw [bt_c g0 c4] at q
          simpa using q
        · intro z
          refine z (nl g0 hlt) ?_
          rw [← slotN g0 c4 x0 x1]
          exact q3
  exact key n 0 (by decide) k0 (fun c q1 => absurd q1 (by simp))
theorem ws_joined (k0 : 0 ≤ fi r 2) (k8 : fi r 2 ≤ 8) {m : Nat} {K : Int32 → Prop} {p k : Int32} (x0 : 0 ≤ k) (x1 : k < 8) (hK : ∀ z, (∀ d, gb z d = true ↔ ∃ c, gb p c = true ∧ kF r m c k d) → K z) : wK_joined a r m K p k := by
  unfold wK_joined
  intro n
  have key : ∀ (n : Nat) (v4 v5 : Int32), 0 ≤ v5 → v5 ≤ fi r 2 → (∀ d, gb v4 d = true ↔ ∃ c, c < v5.toNatClampNeg ∧ gb p c = true ∧ gb (ar r m (8 * c + k.toNatClampNeg)) d = true) → wK_joined_L6 a r m (fun v4 => K v4) n p k v4 v5 := by
    intro n
    induction n with
    | zero => intro v4 v5 _ _ _; trivial
    | succ n ih =>
      intro v4 v5 g0 g1 g2
      rw [wK_joined_L6]
      refine ⟨fun g => hK _ (fun d => ?_), fun g => ?_⟩
      · have e : v5 = fi r 2 := by clear ih g2; grind
        rw [g2 d, e]
        exact ⟨fun ⟨c, q1, q2, q3⟩ => ⟨c, q2, ⟨q1, d_lt x0 x1⟩, q3⟩, fun ⟨c, q1, q2, q3⟩ => ⟨c, q2.1, q1, q3⟩⟩
      · have hlt : v5 < fi r 2 := Int32.not_le.mp g
        obtain ⟨c1, c2, c3, c4⟩ := inc8 g0 hlt k8
        unfold wK_joined_J37 wK_slot
        refine ⟨fun q => ih _ _ c1 c2 (fun d => ?_), fun q _ => ih _ _ c1 c2 (fun d => ?_)⟩
        · rw [bt_c g0 c4] at q
          rw [g2 d, c3]
          constructor
          · rintro ⟨c, q1, q2⟩
            exact ⟨c, by omega, q2⟩
          · rintro ⟨c, q1, q2, q3⟩
            refine ⟨c, ?_, q2, q3⟩
            have : ¬ c = v5.toNatClampNeg := fun e => by rw [e, q] at q2; exact absurd q2 (by decide)
            omega
        · rw [bt_c g0 c4] at q
          have q' : gb p v5.toNatClampNeg = true := by simpa using q
          rw [gb_or, Bool.or_eq_true, g2 d, slotN g0 c4 x0 x1, c3]
          constructor
          · rintro (⟨c, q1, q2⟩ | q1)
            · exact ⟨c, by omega, q2⟩
            · exact ⟨v5.toNatClampNeg, by omega, q', q1⟩
          · rintro ⟨c, q1, q2, q3⟩
            by_cases e : c = v5.toNatClampNeg
            · subst e
              exact Or.inr q3
            · exact Or.inl ⟨c, by omega, q2, q3⟩
  exact key n 0 0 (by decide) k0 (fun d => by
    rw [gb_0]
    refine ⟨fun h => absurd h (by decide), fun ⟨c, q1, _⟩ => ?_⟩
    exact absurd q1 (by simp))
/-- how many bits -/
def bn (v : Int32) : Nat := cnt (fun i => gb v i) 8
def bcJ (p0 : Int32) : Int32 :=
  let z1 := p0 - (((p0.toUInt32 >>> ((1 : Int32).toUInt32 &&& Int32.toUInt32 31)).toInt32) &&& 1431655765)
  let z2 := (z1 &&& 858993459) + (((z1.toUInt32 >>> ((2 : Int32).toUInt32 &&& Int32.toUInt32 31)).toInt32) &&& 858993459)
  let z3 := (z2 + ((z2.toUInt32 >>> ((4 : Int32).toUInt32 &&& Int32.toUInt32 31)).toInt32)) &&& 252645135
  let z4 := z3 + ((z3.toUInt32 >>> ((8 : Int32).toUInt32 &&& Int32.toUInt32 31)).toInt32)
  let z5 := z4 + ((z4.toUInt32 >>> ((16 : Int32).toUInt32 &&& Int32.toUInt32 31)).toInt32)
  z5 &&& 63
theorem bc_all : ∀ n : Fin 256, bcJ (Int32.ofNat n.val) = Int32.ofNat (bn (Int32.ofNat n.val)) := by decide +kernel
theorem lo8 {v : Int32} (h : ∀ i, i < 32 → 8 ≤ i → gb v i = false) : ∃ n : Fin 256, v = Int32.ofNat n.val := by
  have h2 : v.toBitVec.toNat < 256 := by
    apply Classical.byContradiction
    intro hc
    have h3 : 2 ^ 8 ≤ v.toBitVec.toNat := by omega
    obtain ⟨i, i1, i2⟩ := Nat.exists_ge_and_testBit_of_ge_two_pow h3
    have i3 : i < 32 := by
      apply Classical.byContradiction
      intro hi
      rw [Nat.testBit_lt_two_pow (Nat.lt_of_lt_of_le v.toBitVec.isLt (Nat.pow_le_pow_right (by decide) (by omega)))] at i2
      exact absurd i2 (by decide)
    have := h i i3 i1
    unfold gb at this
    rw [BitVec.getLsbD, i2] at this
    exact absurd this (by decide)
  refine ⟨⟨v.toBitVec.toNat, h2⟩, ?_⟩
  apply Int32.toBitVec_inj.mp
  show v.toBitVec = BitVec.ofNat 32 v.toBitVec.toNat
  rw [BitVec.ofNat_toNat]
  simp
theorem ws_bc {K : Int32 → Prop} {p : Int32} (h : ∀ i, i < 32 → 8 ≤ i → gb p i = false) (hK : K (Int32.ofNat (bn p))) : wJ_bitCount a r K p := by
  obtain ⟨n, e⟩ := lo8 h
  unfold wJ_bitCount
  intro z1 e1 z2 e2 z3 e3 z4 e4 z5 e5
  have e6 : z5 &&& 63 = bcJ p := by
    subst e1 e2 e3 e4 e5
    rfl
  rw [e6, e, bc_all n, ← e]
  exact hK
end ZCTAB
