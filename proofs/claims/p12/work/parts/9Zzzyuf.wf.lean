/-! What is wanted, as one list: for each variable, its classes upwards. -/
section ZWF
variable {r0 : S_}
/-- from variable j on, k of them -/
def WF (b : Nat → Nat → Bool) : Nat → Nat → List (Nat × Int32)
  | _, 0 => []
  | j, k + 1 => blk (b j) (Int32.ofNat j) 0 8 ++ WF b (j + 1) k
theorem WF_snoc {b : Nat → Nat → Bool} : ∀ k j, WF b j (k + 1) = WF b j k ++ blk (b (j + k)) (Int32.ofNat (j + k)) 0 8 := by
  intro k
  induction k with
  | zero => intro j; rw [WF, WF, WF]; simp
  | succ k ih =>
    intro j
    rw [WF, ih (j + 1), WF, List.append_assoc]
    have e : j + 1 + k = j + (k + 1) := by omega
    rw [e]
theorem WF_cg {b b2 : Nat → Nat → Bool} : ∀ k j, (∀ i, j ≤ i → i < j + k → b i = b2 i) → WF b j k = WF b2 j k := by
  intro k
  induction k with
  | zero => intro j _; rfl
  | succ k ih =>
    intro j h
    rw [WF, WF, h j (by omega) (by omega), ih (j + 1) (fun i h1 h2 => h i (by omega) (by omega))]
theorem blk_len {b : Nat → Bool} {v : Int32} : ∀ k c, (blk b v c k).length + cnt b c = cnt b (c + k) := by
  intro k
  induction k with
  | zero => intro c; rw [blk]; simp
  | succ k ih =>
    intro c
    have h := ih (c + 1)
    have e : c + 1 + k = c + (k + 1) := by omega
    rw [e, cnt] at h
    rw [blk, List.length_append]
    by_cases q : b c = true
    · rw [if_pos q] at h ⊢
      simp at h ⊢
      omega
    · rw [if_neg q] at h ⊢
      simp at h ⊢
      omega
theorem blk_8 {b v : Int32} : (blk (fun c => gb b c) v 0 8).length = bn b := by
  have h := blk_len (b := fun c => gb b c) (v := v) 8 0
  rw [cnt] at h
  unfold bn
  omega
/-- bits beyond n are no bits -/
theorem blk_cut {b : Nat → Bool} {v : Int32} : ∀ k c m, (∀ i, c + k ≤ i → b i = false) → blk b v c (k + m) = blk b v c k := by
  intro k
  induction k with
  | zero =>
    intro c m h
    rw [Nat.zero_add]
    have z : ∀ m c, (∀ i, c ≤ i → b i = false) → blk b v c m = [] := by
      intro m
      induction m with
      | zero => intro c _; rfl
      | succ m ihm =>
        intro c h
        rw [blk, h c (Nat.le_refl _), ihm (c + 1) (fun i hi => h i (by omega))]
        rfl
    exact z m c (fun i hi => h i (by omega))
  | succ k ih =>
    intro c m h
    have e : k + 1 + m = (k + m) + 1 := by omega
    rw [e, blk, blk, ih (c + 1) m (fun i hi => h i (by omega))]
theorem blk_cg {b b2 : Nat → Bool} {v : Int32} : ∀ k c, (∀ i, b i = b2 i) → blk b v c k = blk b2 v c k := by
  intro k c h
  have e : b = b2 := funext h
  rw [e]
theorem fl_none {f : Nat → Nat → Bool} {v : Int32} {nc : Nat} : ∀ k j, (∀ i, j ≤ i → i < j + k → ¬ ar r0 83 (ar r0 84 i).toNatClampNeg = v) → fl r0 f v nc j k = [] := by
  intro k
  induction k with
  | zero => intro j _; rfl
  | succ k ih =>
    intro j h
    rw [fl, if_neg (h j (by omega) (by omega)), ih (j + 1) (fun i h1 h2 => h i (by omega) (by omega))]
    rfl
theorem fl_one {f : Nat → Nat → Bool} {v : Int32} {nc i0 : Nat} : ∀ k j, j ≤ i0 → i0 < j + k → ar r0 83 (ar r0 84 i0).toNatClampNeg = v → (∀ i, j ≤ i → i < j + k → ar r0 83 (ar r0 84 i).toNatClampNeg = v → i = i0) → fl r0 f v nc j k = blk (f i0) v 0 nc := by
  intro k
  induction k with
  | zero => intro j h1 h2; omega
  | succ k ih =>
    intro j h1 h2 hv h
    rw [fl]
    by_cases e : j = i0
    · subst e
      rw [if_pos hv, fl_none k (j + 1) (fun i g1 g2 z => by have := h i (by omega) (by omega) z; omega), List.append_nil]
    · rw [if_neg (fun z => e (h j (by omega) (by omega) z)), ih (j + 1) (by omega) (by omega) hv (fun i g1 g2 => h i (by omega) (by omega))]
      rfl
theorem nl2_WF {f b : Nat → Nat → Bool} {nc : Nat} : ∀ k j, (∀ i, j ≤ i → i < j + k → fl r0 f (Int32.ofNat i) nc 0 (fi r0 40).toNatClampNeg = blk (b i) (Int32.ofNat i) 0 8) → nl2 r0 f nc j k = WF b j k := by
  intro k
  induction k with
  | zero => intro j _; rfl
  | succ k ih =>
    intro j h
    rw [nl2, WF, h j (by omega) (by omega), ih (j + 1) (fun i h1 h2 => h i (by omega) (by omega))]
/-- what the class tells of the order's variables -/
theorem VLo_at {h ord f : Nat → Int32} {F : Int32 → Int32} : ∀ n, (∀ j, j < n → h (ord j).toNatClampNeg = -1 → f (cnt (fun k => decide (h (ord k).toNatClampNeg = -1)) j) = F (ord j)) → (VLo h ord n).length = cnt (fun k => decide (h (ord k).toNatClampNeg = -1)) n ∧ ∀ (i : Nat) (x : Int32), (VLo h ord n)[i]? = some x → f i = F x := by
  intro n
  induction n with
  | zero => intro _; exact ⟨rfl, fun i x hx => by rw [VLo] at hx; simp at hx⟩
  | succ n ih =>
    intro hf
    obtain ⟨l1, l2⟩ := ih (fun j hj => hf j (by omega))
    rw [VLo, cnt]
    by_cases q : h (ord n).toNatClampNeg = -1
    · rw [if_pos q, if_pos (decide_eq_true q), List.length_append, l1]
      refine ⟨rfl, fun i x hx => ?_⟩
      by_cases e : i < (VLo h ord n).length
      · rw [List.getElem?_append_left e] at hx
        exact l2 i x hx
      · rw [List.getElem?_append_right (by omega)] at hx
        have ei : i - (VLo h ord n).length = 0 := by
          apply Classical.byContradiction
          intro ne
          rw [List.getElem?_eq_none (by simp; omega)] at hx
          exact absurd hx (by simp)
        rw [ei] at hx
        have ex : ord n = x := by simpa using hx
        have hi : i = cnt (fun k => decide (h (ord k).toNatClampNeg = -1)) n := by omega
        rw [hi, ← ex]
        exact hf n (by omega) q
    · rw [if_neg q, if_neg (by rw [decide_eq_true_iff]; exact q), List.append_nil]
      exact ⟨by rw [l1]; rfl, l2⟩
/-- what was found of x -/
def FB (r : S_) (x : Int32) (c : Nat) : Prop := ∃ i, i < (fi r 40).toNatClampNeg ∧ ar r 84 i = x ∧ gb (ar r 85 i) c = true
theorem nl2_full {D : List Int32} {f b : Nat → Nat → Bool} {nc : Nat} {U : Nat → Nat → Prop} (nc8 : nc ≤ 8) (f83 : ∀ (i : Nat) (h : i < D.length), ar r0 83 (D[i]).toNatClampNeg = Int32.ofNat i) (db : D.length < 2147483648) (fin : ∀ i, i < (fi r0 40).toNatClampNeg → ar r0 84 i ∈ D) (dj : DJ (ar r0 84) (fi r0 40).toNatClampNeg) (hf : ∀ i c, i < (fi r0 40).toNatClampNeg → (f i c = true ↔ zLow U (fun c => gb (ar r0 85 i) c = true) c)) (hc : ∀ i c, i < (fi r0 40).toNatClampNeg → gb (ar r0 85 i) c = true → c < nc) (hb : ∀ j x c, D[j]? = some x → (b j c = true ↔ zLow U (FB r0 x) c)) : nl2 r0 f nc 0 D.length = WF b 0 D.length := by
  refine nl2_WF D.length 0 (fun i _ hi => ?_)
  rw [Nat.zero_add] at hi
  have hx : D[i]? = some D[i] := List.getElem?_eq_getElem hi
  have idx : ∀ k, k < (fi r0 40).toNatClampNeg → ar r0 83 (ar r0 84 k).toNatClampNeg = Int32.ofNat i → ar r0 84 k = D[i] := fun k hk e => by
    obtain ⟨j, j1, j2⟩ := List.getElem_of_mem (fin k hk)
    have q := f83 j j1
    rw [j2, e] at q
    have o1 := ofNs (n := i) (by omega)
    have o2 := ofNs (n := j) (by omega)
    have : i = j := by rw [← o1.2.2, q, o2.2.2]
    subst this
    exact j2.symm
  by_cases h0 : ∃ k, k < (fi r0 40).toNatClampNeg ∧ ar r0 84 k = D[i]
  · obtain ⟨k, k1, k2⟩ := h0
    have fb : ∀ c, FB r0 D[i] c ↔ gb (ar r0 85 k) c = true := fun c => ⟨fun ⟨m, m1, m2, m3⟩ => by rw [dj k m k1 m1 (k2.trans m2.symm)]; exact m3, fun q => ⟨k, k1, k2, q⟩⟩
    have fbe : FB r0 D[i] = fun c => gb (ar r0 85 k) c = true := funext (fun c => propext (fb c))
    rw [fl_one (i0 := k) (fi r0 40).toNatClampNeg 0 (by omega) (by omega) (by rw [k2]; exact f83 i hi) (fun m _ m2 m3 => dj m k (by omega) k1 ((idx m (by omega) m3).trans k2.symm))]
    have eb : b i = f k := funext (fun c => by
      rw [Bool.eq_iff_iff, hb i _ c hx, hf k c k1, fbe])
    rw [eb]
    have e8 : (8 : Nat) = nc + (8 - nc) := by omega
    rw [e8, blk_cut nc 0 (8 - nc) (fun m hm => ?_)]
    apply Bool.eq_false_iff.mpr
    intro q
    have := hc k m k1 ((hf k m k1).mp q).1
    omega
  · rw [fl_none (fi r0 40).toNatClampNeg 0 (fun k _ k1 k2 => h0 ⟨k, by omega, idx k (by omega) k2⟩)]
    have e := blk_cut (b := b i) (v := Int32.ofNat i) 0 0 8 (fun m _ => by
      apply Bool.eq_false_iff.mpr
      intro q
      obtain ⟨k, k1, k2, _⟩ := ((hb i _ m hx).mp q).1
      exact h0 ⟨k, k1, k2⟩)
    rw [Nat.zero_add] at e
    rw [e]
    rfl
end ZWF
