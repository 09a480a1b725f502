/-! Sets of classes as bits. -/
section BITS8
theorem v8 {p : Int32} (h1 : 0 ≤ p) (h2 : p < 8) : p = 0 ∨ p = 1 ∨ p = 2 ∨ p = 3 ∨ p = 4 ∨ p = 5 ∨ p = 6 ∨ p = 7 := by grind
def gb (v : Int32) (i : Nat) : Bool := v.toBitVec.getLsbD i
theorem gb_or {a b : Int32} {i : Nat} : gb (a ||| b) i = (gb a i || gb b i) := by
  unfold gb
  simp
theorem gb_and {a b : Int32} {i : Nat} : gb (a &&& b) i = (gb a i && gb b i) := by
  unfold gb
  simp
theorem gb_0 {i : Nat} : gb 0 i = false := by
  unfold gb
  simp
theorem gb_ext {a b : Int32} (h : ∀ i, i < 32 → gb a i = gb b i) : a = b := by
  apply Int32.toBitVec_inj.mp
  exact BitVec.eq_of_getLsbD_eq (fun i hi => h i hi)
theorem gb_one {d : Int32} (d0 : 0 ≤ d) (d1 : d < 8) {i : Nat} (hi : i < 32) : gb (1 <<< (d &&& 31)) i = decide (i = d.toNatClampNeg) := by
  have key : ∀ (e : Nat), e < 8 → ∀ i, i < 32 → (BitVec.twoPow 32 e).getLsbD i = decide (i = e) := by decide
  rcases v8 d0 d1 with h | h | h | h | h | h | h | h <;> subst h
  · exact key 0 (by decide) i hi
  · exact key 1 (by decide) i hi
  · exact key 2 (by decide) i hi
  · exact key 3 (by decide) i hi
  · exact key 4 (by decide) i hi
  · exact key 5 (by decide) i hi
  · exact key 6 (by decide) i hi
  · exact key 7 (by decide) i hi
theorem d_lt {d : Int32} (d0 : 0 ≤ d) (d1 : d < 8) : d.toNatClampNeg < 8 := by
  have := i_nat d0
  rw [it] at d1
  simp at d1
  omega
/-- as the class asks for a bit -/
theorem bt_c {v d : Int32} (d0 : 0 ≤ d) (d1 : d < 8) : v &&& (1 <<< (d &&& 31)) = 0 ↔ gb v d.toNatClampNeg = false := by
  have dl := d_lt d0 d1
  constructor
  · intro h
    have e : gb (v &&& (1 <<< (d &&& 31))) d.toNatClampNeg = gb 0 d.toNatClampNeg := by rw [h]
    rw [gb_and, gb_one d0 d1 (by omega), gb_0] at e
    simpa using e
  · intro h
    apply gb_ext
    intro i hi
    rw [gb_and, gb_one d0 d1 hi, gb_0]
    by_cases e : i = d.toNatClampNeg
    · rw [e, h]; rfl
    · simp [e]
theorem gb_lit1 {i : Nat} (hi : i < 32) : gb 1 i = decide (i = 0) := by
  have key : ∀ i, i < 32 → (1#32).getLsbD i = decide (i = 0) := by decide
  exact key i hi
theorem and1 {x : Int32} : x &&& 1 = 1 ↔ gb x 0 = true := by
  constructor
  · intro h
    have e : gb (x &&& 1) 0 = gb 1 0 := by rw [h]
    rw [gb_and, gb_lit1 (by omega)] at e
    simpa using e
  · intro h
    apply gb_ext
    intro i hi
    rw [gb_and, gb_lit1 hi]
    by_cases e : i = 0
    · subst e; rw [h]; rfl
    · simp [e]
theorem and10 {x : Int32} : x &&& 1 = 0 ↔ gb x 0 = false := by
  constructor
  · intro h
    have e : gb (x &&& 1) 0 = gb 0 0 := by rw [h]
    rw [gb_and, gb_lit1 (by omega), gb_0] at e
    simpa using e
  · intro h
    apply gb_ext
    intro i hi
    rw [gb_and, gb_lit1 hi, gb_0]
    by_cases e : i = 0
    · subst e; rw [h]; rfl
    · simp [e]
/-- as the reference asks for a bit -/
theorem bt_m {v d : Int32} (d0 : 0 ≤ d) (d1 : d < 8) : (v >>> (d &&& 31)) &&& 1 = 1 ↔ gb v d.toNatClampNeg = true := by
  rw [and1]
  have key : gb (v >>> (d &&& 31)) 0 = gb v d.toNatClampNeg := by
    unfold gb
    rcases v8 d0 d1 with h | h | h | h | h | h | h | h <;> (subst h; first | (simp; done) | (simp [BitVec.getElem_sshiftRight]; done))
  rw [key]
theorem sub_iff {s m : Int32} : s &&& (m ^^^ (-1)) = 0 ↔ ∀ i, i < 32 → gb s i = true → gb m i = true := by
  have x : ∀ i, i < 32 → gb (m ^^^ (-1)) i = !gb m i := fun i hi => by
    have key : ∀ i, i < 32 → (BitVec.allOnes 32).getLsbD i = true := by decide
    have e : gb (m ^^^ (-1)) i = (gb m i ^^ (BitVec.allOnes 32).getLsbD i) := by
      unfold gb
      have : (m ^^^ (-1)).toBitVec = m.toBitVec ^^^ BitVec.allOnes 32 := rfl
      rw [this]
      simp
    rw [e, key i hi]
    cases gb m i <;> rfl
  constructor
  · intro h i hi hs
    have e : gb (s &&& (m ^^^ (-1))) i = gb 0 i := by rw [h]
    rw [gb_and, x i hi, gb_0, hs] at e
    simpa using e
  · intro h
    apply gb_ext
    intro i hi
    rw [gb_and, x i hi, gb_0]
    cases e : gb s i
    · rfl
    · rw [h i hi e]; rfl
theorem gb_hi {s : Int32} (h0 : 0 ≤ s) (h1 : s < 256) {i : Nat} (hi : 8 ≤ i) : gb s i = false := by
  unfold gb
  have e : s.toBitVec.toNat < 2 ^ 8 := by
    have h2 := i_nat h0
    rw [it] at h1
    simp at h1
    have h3 : (s.toBitVec.toInt) = s.toInt := rfl
    have h4 : (s.toBitVec.toNat : Int) = s.toInt := by
      rw [← h3, BitVec.toInt_eq_toNat_cond]
      split
      · rfl
      · rename_i g
        have := s.toBitVec.isLt
        rw [il, ← h3, BitVec.toInt_eq_toNat_cond, if_neg g] at h0
        simp at h0
        omega
    omega
  rw [BitVec.getLsbD]
  exact Nat.testBit_lt_two_pow (Nat.lt_of_lt_of_le e (Nat.pow_le_pow_right (by decide) hi))
theorem n9 {n : Int32} (h1 : 0 ≤ n) (h2 : n ≤ 8) : n = 0 ∨ n = 1 ∨ n = 2 ∨ n = 3 ∨ n = 4 ∨ n = 5 ∨ n = 6 ∨ n = 7 ∨ n = 8 := by grind
/-- only classes below n -/
def only (v n : Int32) : Prop := ∀ i, i < 32 → gb v i = true → (i : Int) < n.toInt
theorem only_c {v n : Int32} (h1 : 0 ≤ n) (h2 : n ≤ 8) : (v.toUInt32 >>> (n.toUInt32 &&& Int32.toUInt32 31)).toInt32 = 0 ↔ only v n := by
  have key : ∀ m : Nat, m ≤ 8 → ∀ x : BitVec 32, x >>> m = 0#32 ↔ ∀ i, i < 32 → x.getLsbD i = true → i < m := by
    intro m hm x
    constructor
    · intro h i hi hx
      by_cases g : i < m
      · exact g
      · exfalso
        have e : (x >>> m).getLsbD (i - m) = (0#32).getLsbD (i - m) := by rw [h]
        rw [BitVec.getLsbD_ushiftRight] at e
        have : m + (i - m) = i := by omega
        rw [this, hx] at e
        simp at e
    · intro h
      apply BitVec.eq_of_getLsbD_eq
      intro i hi
      rw [BitVec.getLsbD_ushiftRight]
      cases e : x.getLsbD (m + i)
      · simp
      · exfalso
        have h3 : m + i < 32 := by
          by_cases g : m + i < 32
          · exact g
          · rw [BitVec.getLsbD_of_ge _ _ (by omega)] at e
            exact absurd e (by decide)
        have := h (m + i) h3 e
        omega
  have conv : ∀ m : Nat, m ≤ 8 → n.toInt = m → ((v.toUInt32 >>> (n.toUInt32 &&& Int32.toUInt32 31)).toInt32.toBitVec = v.toBitVec >>> m) → ((v.toUInt32 >>> (n.toUInt32 &&& Int32.toUInt32 31)).toInt32 = 0 ↔ only v n) := by
    intro m hm hn he
    rw [← Int32.toBitVec_inj, he]
    have z : (0 : Int32).toBitVec = 0#32 := rfl
    rw [z, key m hm]
    unfold only gb
    rw [hn]
    constructor
    · intro h i hi hx
      exact Int.ofNat_lt.mpr (h i hi hx)
    · intro h i hi hx
      exact Int.ofNat_lt.mp (h i hi hx)
  rcases n9 h1 h2 with h | h | h | h | h | h | h | h | h <;> subst h
  · exact conv 0 (by decide) rfl rfl
  · exact conv 1 (by decide) rfl rfl
  · exact conv 2 (by decide) rfl rfl
  · exact conv 3 (by decide) rfl rfl
  · exact conv 4 (by decide) rfl rfl
  · exact conv 5 (by decide) rfl rfl
  · exact conv 6 (by decide) rfl rfl
  · exact conv 7 (by decide) rfl rfl
  · exact conv 8 (by decide) rfl rfl
theorem only_m {v n : Int32} (h1 : 0 ≤ n) (h2 : n ≤ 8) : v &&& (((1 <<< (n &&& 31)) - 1) ^^^ (-1)) = 0 ↔ only v n := by
  rw [sub_iff]
  have key : ∀ m : Nat, m < 9 → ∀ i, i < 32 → (BitVec.ofNat 32 (2 ^ m - 1)).getLsbD i = decide (i < m) := by decide
  have conv : ∀ m : Nat, m < 9 → n.toInt = m → ((1 <<< (n &&& 31)) - 1 : Int32).toBitVec = BitVec.ofNat 32 (2 ^ m - 1) → ((∀ i, i < 32 → gb v i = true → gb ((1 <<< (n &&& 31)) - 1) i = true) ↔ only v n) := by
    intro m hm hn he
    have g : ∀ i, i < 32 → gb ((1 <<< (n &&& 31)) - 1) i = decide (i < m) := fun i hi => by
      unfold gb
      rw [he]
      exact key m hm i hi
    unfold only
    rw [hn]
    constructor
    · intro h i hi hx
      have := h i hi hx
      rw [g i hi] at this
      exact Int.ofNat_lt.mpr (of_decide_eq_true this)
    · intro h i hi hx
      rw [g i hi]
      exact decide_eq_true (Int.ofNat_lt.mp (h i hi hx))
  rcases n9 h1 h2 with h | h | h | h | h | h | h | h | h <;> subst h
  · exact conv 0 (by decide) rfl rfl
  · exact conv 1 (by decide) rfl rfl
  · exact conv 2 (by decide) rfl rfl
  · exact conv 3 (by decide) rfl rfl
  · exact conv 4 (by decide) rfl rfl
  · exact conv 5 (by decide) rfl rfl
  · exact conv 6 (by decide) rfl rfl
  · exact conv 7 (by decide) rfl rfl
  · exact conv 8 (by decide) rfl rfl
end BITS8
