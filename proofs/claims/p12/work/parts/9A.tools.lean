/-! Tools of the pure part: reading states, numbers. -/
theorem zb0 : zb 0 := Or.inl rfl
theorem zb1 : zb 1 := Or.inr rfl
theorem fi_sF (r : S_) (k j : Nat) (v : Int32) : fi (sF r k v) j = if j = k then v else fi r j := rfl
theorem fi_sA (r : S_) (k j : Nat) (f : Nat → Int32) : fi (sA r k f) j = fi r j := rfl
theorem fi_sL (r : S_) (k j : Nat) (f : Nat → Int64) : fi (sL r k f) j = fi r j := rfl
theorem ar_sF (r : S_) (k j : Nat) (v : Int32) : ar (sF r k v) j = ar r j := rfl
theorem ar_sA (r : S_) (k j : Nat) (f : Nat → Int32) : ar (sA r k f) j = if j = k then f else ar r j := rfl
theorem ar_sL (r : S_) (k j : Nat) (f : Nat → Int64) : ar (sL r k f) j = ar r j := rfl
theorem la_sF (r : S_) (k j : Nat) (v : Int32) : la (sF r k v) j = la r j := rfl
theorem la_sA (r : S_) (k j : Nat) (f : Nat → Int32) : la (sA r k f) j = la r j := rfl
theorem la_sL (r : S_) (k j : Nat) (f : Nat → Int64) : la (sL r k f) j = if j = k then f else la r j := rfl
theorem sA_id (r : S_) (k : Nat) : sA r k (ar r k) = r := by
  obtain ⟨r1, r2, r3⟩ := r
  unfold sA ar
  congr 1
  congr 1
  funext j
  by_cases h : j = k <;> simp [h]
theorem sA_sA (r : S_) (k : Nat) (f g : Nat → Int32) : sA (sA r k f) k g = sA r k g := by
  unfold sA
  congr 1
  congr 1
  funext j
  by_cases h : j = k <;> simp [h]
theorem il (x y : Int32) : x ≤ y ↔ x.toInt ≤ y.toInt := Int32.le_iff_toInt_le
theorem it (x y : Int32) : x < y ↔ x.toInt < y.toInt := Int32.lt_iff_toInt_lt
theorem ie (x y : Int32) : x = y ↔ x.toInt = y.toInt := Int32.toInt_inj.symm
theorem ir (x : Int32) : -2147483648 ≤ x.toInt ∧ x.toInt ≤ 2147483647 := by
  have h1 := x.le_toInt
  have h2 := x.toInt_lt
  omega
theorem i_add {x y : Int32} (h1 : -2147483648 ≤ x.toInt + y.toInt) (h2 : x.toInt + y.toInt ≤ 2147483647) : (x + y).toInt = x.toInt + y.toInt := by
  rw [Int32.toInt_add]
  simp [Int.bmod]
  omega
theorem i_sub {x y : Int32} (h1 : -2147483648 ≤ x.toInt - y.toInt) (h2 : x.toInt - y.toInt ≤ 2147483647) : (x - y).toInt = x.toInt - y.toInt := by
  rw [Int32.toInt_sub]
  simp [Int.bmod]
  omega
theorem i_nat {x : Int32} (h : 0 ≤ x) : (x.toNatClampNeg : Int) = x.toInt := by
  rw [il, show (0 : Int32).toInt = 0 from rfl] at h
  have h2 : x.toNatClampNeg = x.toInt.toNat := rfl
  rw [h2]
  omega
theorem i_inj {x y : Int32} (hx : 0 ≤ x) (hy : 0 ≤ y) : x.toNatClampNeg = y.toNatClampNeg ↔ x = y := by
  rw [ie]
  have h1 := i_nat hx
  have h2 := i_nat hy
  omega
theorem i_inc {x y : Int32} (h : x < y) : (x + 1).toInt = x.toInt + 1 := by
  have h1 := ir y
  have h2 := ir x
  rw [it] at h
  exact i_add (by simp; omega) (by simp; omega)
theorem i_ofn {n : Nat} (h : n ≤ 2147483647) : (Int32.ofNat n).toInt = n := by
  exact Int32.toInt_ofNat_of_lt (by omega)
theorem updI (f : Nat → Int32) {i x : Int32} (v : Int32) (hi : 0 ≤ i) (hx : 0 ≤ x) : upd f i.toNatClampNeg v x.toNatClampNeg = if x = i then v else f x.toNatClampNeg := by
  by_cases h : x = i
  · subst h
    simp [upd]
  · have h2 : ¬ x.toNatClampNeg = i.toNatClampNeg := fun z => h ((i_inj hx hi).mp z)
    simp [upd, h, h2]
theorem vi {x : Int32} {n : Nat} (h0 : 0 ≤ x) (h1 : x.toInt < n) : vp_in x n := by
  unfold vp_in
  have h2 := i_nat h0
  rw [il] at h0
  rw [it]
  simp at h0 ⊢
  omega
theorem vi2 {x y : Int32} {n : Nat} (h0 : 0 ≤ x) (h1 : x < y) (h2 : y.toInt ≤ n) : vp_in x n := by
  rw [it] at h1
  exact vi h0 (by omega)
/-- how many there are below n -/
def cnt (p : Nat → Bool) : Nat → Nat
  | 0 => 0
  | n + 1 => cnt p n + (if p n then 1 else 0)
theorem cnt_le (p : Nat → Bool) (n : Nat) : cnt p n ≤ n := by
  induction n with
  | zero => simp [cnt]
  | succ n ih => rw [cnt]; split <;> omega
theorem cnt_congr {p q : Nat → Bool} {n : Nat} (h : ∀ i, i < n → p i = q i) : cnt p n = cnt q n := by
  induction n with
  | zero => rfl
  | succ n ih => rw [cnt, cnt, ih (fun i hi => h i (by omega)), h n (by omega)]
theorem cnt_more {p q : Nat → Bool} {n i : Nat} (hi : i < n) (hp : p i = false) (hq : q i = true) (h : ∀ j, j < n → j ≠ i → p j = q j) : cnt q n = cnt p n + 1 := by
  induction n with
  | zero => omega
  | succ n ih =>
    rw [cnt, cnt]
    by_cases e : i = n
    · subst e
      rw [cnt_congr (p := q) (q := p) (fun j hj => (h j (by omega) (by omega)).symm), hp, hq]
      simp
    · rw [ih (by omega) (fun j hj hn => h j (by omega) hn), h n (by omega) (fun z => e z.symm)]
      omega
theorem cnt_lt {p : Nat → Bool} {n i : Nat} (hi : i < n) (hp : p i = false) : cnt p n < n := by
  have h1 := cnt_more (p := p) (q := fun j => if j = i then true else p j) hi hp (by simp) (fun j _ hj => by simp [hj])
  have h2 := cnt_le (fun j => if j = i then true else p j) n
  omega
