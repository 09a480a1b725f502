/-! The reference: copying, whole. -/
section COPY3
variable {a : L_} {r : S_} {rh ta : Int32 → Int32} {N : Int32}
def newL (T T' : Int32) : List Int32 := (List.range ((T').toNatClampNeg - T.toNatClampNeg)).map (fun i => Int32.ofNat (T.toNatClampNeg + i))
theorem newL_len {T T' : Int32} : (newL T T').length = (T').toNatClampNeg - T.toNatClampNeg := by
  unfold newL
  rw [List.length_map, List.length_range]
theorem newL_mem {T T' x : Int32} (h0 : 0 ≤ T) (h1 : T ≤ T') : x ∈ newL T T' ↔ T ≤ x ∧ x < T' := by
  have e1 := i_nat h0
  have e2 := i_nat (Int32.le_trans h0 h1)
  have rT := ir T'
  have h1' := h1
  rw [il] at h1'
  unfold newL
  rw [List.mem_map]
  constructor
  · intro ⟨i, i1, i2⟩
    rw [List.mem_range] at i1
    have k : x.toInt = ((T.toNatClampNeg + i : Nat) : Int) := by rw [← i2, i_ofn (by omega)]
    rw [il, it]
    omega
  · intro ⟨x1, x2⟩
    have x0 : 0 ≤ x := Int32.le_trans h0 x1
    have e3 := i_nat x0
    rw [il] at x1
    rw [it] at x2
    refine ⟨x.toNatClampNeg - T.toNatClampNeg, List.mem_range.mpr (by omega), ?_⟩
    rw [ie, i_ofn (by omega)]
    omega
theorem cnt_ext {p : Nat → Bool} {n : Nat} : ∀ m, n ≤ m → (∀ i, n ≤ i → i < m → p i = false) → cnt p m = cnt p n := by
  intro m
  induction m with
  | zero => intro h _; rw [Nat.le_zero.mp h]
  | succ m ih =>
    intro h hp
    by_cases e : n = m + 1
    · rw [e]
    · rw [cnt, hp m (by omega) (by omega), ih (by omega) (fun i h1 h2 => hp i h1 (by omega))]
      rfl
theorem LU_rh {G2 Gc : Int32 → Prop} {t y : Int32} {U : List Int32} (w : MI a r rh ta N) (h : LU r G2 Gc t U) (hy : vt r y) (hU : y ∈ U ∨ DM r G2 y) : rh y ∈ U ∨ DM r G2 (rh y) := by
  refine rh_ind w (A := fun z => z ∈ U ∨ DM r G2 z) (fun x x1 x2 x3 => ?_) hy.1 hy.2 hU
  rcases x3 with z | z
  · exact (h.2.1 x z).2.1
  · right
    intro B h1 h2 h3
    exact (h1 x ⟨x1, x2⟩).mp (z B h1 h2 h3)
theorem CGr_eq {r' : S_} (h : CGr r rh) (e28 : fi r' 28 = fi r 28) (e65 : ar r' 65 = ar r 65) (e66 : ar r' 66 = ar r 66) (e67 : ar r' 67 = ar r 67) : CGr r' rh := by
  unfold CGr
  rw [e28, e65, e66, e67]
  exact h
/-- new terms that stand for themselves -/
theorem MI_more {r' : S_} (w : MI a r rh ta N) (le : fi r 28 ≤ fi r' 28) (h4 : (fi r' 28).toInt ≤ 40000) (e21 : fi r' 21 = fi r 21) (e36 : ar r' 36 = ar r 36) (old : ∀ x, vt r x → ar r' 64 x.toNatClampNeg = ar r 64 x.toNatClampNeg ∧ ar r' 65 x.toNatClampNeg = ar r 65 x.toNatClampNeg ∧ ar r' 66 x.toNatClampNeg = ar r 66 x.toNatClampNeg ∧ ar r' 67 x.toNatClampNeg = ar r 67 x.toNatClampNeg) (new : ∀ x : Int32, fi r 28 ≤ x → x < fi r' 28 → ar r' 64 x.toNatClampNeg = x ∧ (-1 ≤ ar r' 65 x.toNatClampNeg ∧ ar r' 65 x.toNatClampNeg < fi r 21) ∧ (-1 ≤ ar r' 66 x.toNatClampNeg ∧ ar r' 66 x.toNatClampNeg < fi r' 28) ∧ (-1 ≤ ar r' 67 x.toNatClampNeg ∧ ar r' 67 x.toNatClampNeg < fi r' 28) ∧ (ar r' 65 x.toNatClampNeg < 0 → ar r' 66 x.toNatClampNeg = -1 ∧ ar r' 67 x.toNatClampNeg = -1) ∧ (0 ≤ ar r' 65 x.toNatClampNeg → (0 ≤ ar r' 66 x.toNatClampNeg ↔ 0 < ar r 36 (ar r' 65 x.toNatClampNeg).toNatClampNeg) ∧ (0 ≤ ar r' 67 x.toNatClampNeg ↔ 1 < ar r 36 (ar r' 65 x.toNatClampNeg).toNatClampNeg))) : MI a r' (fun x => if x < fi r 28 then rh x else x) ta N ∧ (CGr r rh → CGr r' (fun x => if x < fi r 28 then rh x else x)) := by
  obtain ⟨hL, hnc, ⟨hc0, hcl⟩, hN, hR, hn⟩ := w
  have lt_le : ∀ x : Int32, x < fi r 28 → x < fi r' 28 := fun x hx => by
    rw [it] at hx ⊢
    rw [il] at le
    omega
  have c0' : 0 ≤ fi r' 28 := Int32.le_trans hc0 le
  refine ⟨⟨hL, by rw [e21]; exact hnc, ⟨c0', h4⟩, fun x x1 x2 => ?_, ⟨Int32.le_trans hR.1 le, fun x x1 x2 => ?_⟩, ?_⟩, fun cg x x1 x2 x3 => ?_⟩
  · rw [e36, e21]
    by_cases g : x < fi r 28
    · have o := old x ⟨x1, g⟩
      have b := hN x x1 g
      rw [o.1, o.2.1, o.2.2.1, o.2.2.2]
      exact ⟨⟨b.1.1, lt_le _ b.1.2⟩, b.2.1, ⟨b.2.2.1.1, lt_le _ b.2.2.1.2⟩, ⟨b.2.2.2.1.1, lt_le _ b.2.2.2.1.2⟩, b.2.2.2.2⟩
    · have k := new x (Int32.not_lt.mp g) x2
      rw [k.1]
      exact ⟨⟨x1, x2⟩, k.2⟩
  · by_cases g : x < fi r 28
    · have o := old x ⟨x1, g⟩
      have b := hR.2 x x1 g
      have nb := hN x x1 g
      have o2 := old _ b.1
      have o3 := old _ nb.1
      simp only [if_pos g]
      rw [o.1, o2.1, if_pos nb.1.2, o3.1]
      exact ⟨⟨b.1.1, lt_le _ b.1.2⟩, b.2⟩
    · have k := new x (Int32.not_lt.mp g) x2
      simp only [if_neg g]
      exact ⟨⟨x1, x2⟩, k.1, fun _ => trivial, fun z => absurd k.1 z⟩
  · rw [hn]
    unfold nms
    have e1 := i_nat hc0
    have e2 := i_nat c0'
    have le' := le
    rw [il] at le'
    have k1 : cnt (fun i => decide (¬ ar r' 64 i = Int32.ofNat i)) (fi r' 28).toNatClampNeg = cnt (fun i => decide (¬ ar r' 64 i = Int32.ofNat i)) (fi r 28).toNatClampNeg := cnt_ext _ (by omega) (fun i i1 i2 => by
      obtain ⟨x, x1, x2, x3⟩ := nat_i (j := i) (n := fi r' 28) (by omega)
      have e3 := i_nat x1
      have k := (new x (by rw [il]; omega) x2).1
      rw [x3] at k
      have ox : Int32.ofNat i = x := by
        rw [ie, i_ofn (by have := ir x; omega)]
        omega
      rw [ox, k]
      simp)
    rw [k1]
    congr 1
    exact cnt_congr (fun i hi => by
      obtain ⟨x, x1, x2, x3⟩ := nat_i (j := i) (n := fi r 28) (by omega)
      have k := (old x ⟨x1, x2⟩).1
      rw [x3] at k
      rw [k])
  · by_cases g : x < fi r 28
    · have o := old x ⟨x1, g⟩
      have b := hR.2 x x1 g
      have nb := hN x x1 g
      have nr := hN _ b.1.1 b.1.2
      have o2 := old _ b.1
      rw [o.2.1] at x3
      have c := cg x x1 g x3
      simp only [if_pos g]
      rw [o.2.1, o.2.2.1, o.2.2.2, o2.2.1, o2.2.2.1, o2.2.2.2]
      refine ⟨c.1, fun g1 => ?_, fun g1 => ?_⟩
      · rw [if_pos nb.2.2.1.2, if_pos nr.2.2.1.2]
        exact c.2.1 g1
      · rw [if_pos nb.2.2.2.1.2, if_pos nr.2.2.2.1.2]
        exact c.2.2 g1
    · have k := new x (Int32.not_lt.mp g) x2
      simp only [if_neg g]
      exact ⟨trivial, fun _ => trivial, fun _ => trivial⟩
theorem cop_L337 {r0 rB : S_} {v1 v3 o0 oc : Int32} (w : MI a r0 rh ta N) (h64 : ∀ y : Int32, 0 ≤ y → y < fi r0 28 → ar rB 64 y.toNatClampNeg = ar r0 64 y.toNatClampNeg) (hcv : ∀ t, vt r0 t → vt rB (cpd rB rh t)) (b0 : 0 ≤ v1) (b1 : v1 < 25) (e57 : ar rB 57 v1.toNatClampNeg = o0) (e58 : ar rB 58 v1.toNatClampNeg = oc) (o00 : 0 ≤ o0) (oc0 : 0 ≤ oc.toInt) (oc1 : oc.toInt ≤ 1510) (oo : o0.toInt + oc.toInt ≤ 20000) (hv : ∀ i : Nat, (i : Int) < o0.toInt + oc.toInt → vt r0 (ar rB 62 i)) (w0 : 0 ≤ fi rB 31) (w1 : (fi rB 31).toInt + 1510 ≤ 20000) {KX : S_ → Int32 → Prop} (hK : ∀ r, Fr [31, 35] [75, 76] rB r → (fi rB 31 ≤ fi r 31 ∧ (fi r 31).toInt ≤ (fi rB 31).toInt + 1510) → (∀ i, i < (fi r 31).toNatClampNeg → vt rB (ar r 75 i)) → KX r v3) : ∀ (n : Nat) (r : S_) (v5 : Int32), Fr [31, 35] [75, 76] rB r → (fi r 31).toInt = (fi rB 31).toInt + (v5.toInt - o0.toInt) → (∀ i, i < (fi r 31).toNatClampNeg → vt rB (ar r 75 i)) → o0 ≤ v5 → v5.toInt ≤ o0.toInt + oc.toInt → o0.toInt + oc.toInt - v5.toInt < n → qM_copyOf_L337 a KX n r v1 v3 v5 := by
  have o00' := o00
  rw [il] at o00' w0
  simp at o00' w0
  have se : (o0 + oc).toInt = o0.toInt + oc.toInt := i_add (by omega) (by omega)
  intro n
  induction n with
  | zero =>
    intro r v5 _ _ _ _ h1 h
    omega
  | succ n ih =>
    intro r v5 F hw hv2 h0 h1 h
    have h0' := h0
    rw [il] at h0'
    have aE : ∀ k, ¬ k = 75 → ¬ k = 76 → ar r k = ar rB k := fun k k1 k2 => F.2.1 k (by simp [k1, k2])
    have e29 : fi r 29 = fi rB 29 := F.1 29 (by decide)
    have r31 : 0 ≤ fi r 31 := by rw [il, hw]; simp; omega
    have i25 : ∀ k, 36 ≤ k → k < 89 → ln0 k = 25 → vp_in v1 (ln a k) := fun k k1 k2 k3 => vi2 b0 b1 (by rw [ml w.1 k1 k2 k3]; decide)
    rw [qM_copyOf_L337, aE 57 (by decide) (by decide), aE 58 (by decide) (by decide), aE 62 (by decide) (by decide), aE 63 (by decide) (by decide), e57, e58]
    refine ⟨i25 57 (by decide) (by decide) rfl, i25 58 (by decide) (by decide) rfl, fun _ => hK r F ⟨by rw [il, hw]; omega, by omega⟩ hv2, fun g => ?_⟩
    have g' := Int32.not_le.mp g
    rw [it, se] at g'
    have v50 : 0 ≤ v5 := by rw [il]; simp; omega
    have p1 : (v5 + 1).toInt = v5.toInt + 1 := i_add (by simp; omega) (by simp; omega)
    have i20 : ∀ k, 36 ≤ k → k < 89 → ln0 k = 20000 → vp_in v5 (ln a k) := fun k k1 k2 k3 => vi v50 (by rw [ml w.1 k1 k2 k3]; omega)
    have n5 := i_nat v50
    have vx := hv v5.toNatClampNeg (by omega)
    have ce : cpd r rh (ar rB 62 v5.toNatClampNeg) = cpd rB rh (ar rB 62 v5.toNatClampNeg) := by
      unfold cpd
      rw [aE 68 (by decide) (by decide), aE 69 (by decide) (by decide), e29]
    refine ⟨i20 62 (by decide) (by decide) rfl, copied_ok w (fun y y1 y2 => by rw [aE 64 (by decide) (by decide)]; exact h64 y y1 y2) vx.2 ⟨i20 63 (by decide) (by decide) rfl, ?_⟩⟩
    rw [ce]
    refine addWant_ok w.1 r31 (by omega) ⟨i20 63 (by decide) (by decide) rfl, ones_ok (fun z65 r66 e66 => ?_)⟩
    have n1 : (fi r 31 + 1).toInt = (fi r 31).toInt + 1 := i_add (by simp; omega) (by simp; omega)
    have n0 : 0 ≤ fi r 31 + 1 := by rw [il, n1]; simp; omega
    have nn : (fi r 31 + 1).toNatClampNeg = (fi r 31).toNatClampNeg + 1 := by
      have e1 := i_nat r31
      have e2 := i_nat n0
      omega
    have f66 : fi r66 31 = fi r 31 + 1 := by rw [e66]; rfl
    have a66 : ar r66 75 = upd (ar r 75) (fi r 31).toNatClampNeg (cpd rB rh (ar rB 62 v5.toNatClampNeg)) := by rw [e66]; rfl
    refine ih r66 _ ?_ (by rw [f66, n1, p1, hw]; omega) (fun i hi => ?_) (by rw [il, p1]; omega) (by omega) (by omega)
    · rw [e66]
      unfold aw
      exact Fr_trans F (Fr_trans (Fr_sA (by decide)) (Fr_trans (Fr_sA (by decide)) (Fr_trans (Fr_sF (by decide)) (Fr_sF (by decide)))))
    · rw [a66]
      rw [f66, nn] at hi
      by_cases e : i = (fi r 31).toNatClampNeg
      · rw [e, pk_us]
        exact hcv _ vx
      · rw [pk_un e]
        exact hv2 i (by omega)
end COPY3
