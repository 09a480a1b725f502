/-! The reference's typing: the nodes of an expression. -/
section SPREAD
variable {a : L_} {r : S_} {l ad : Nat → Nat} {rI : S_}
/-- one node more -/
def AN (r r' : S_) (e p s : Int32) : Prop := Fr [26] [50, 51, 52, 53, 54, 59] r r' ∧ fi r' 26 = fi r 26 + 1 ∧ (∀ k : Int32, 0 ≤ k → ¬ k = fi r 26 → ∀ j, ar r' j k.toNatClampNeg = ar r j k.toNatClampNeg) ∧ ar r' 50 (fi r 26).toNatClampNeg = e ∧ ar r' 51 (fi r 26).toNatClampNeg = p ∧ ar r' 52 (fi r 26).toNatClampNeg = s ∧ ar r' 59 (fi r 26).toNatClampNeg = 0
theorem addNode_ok (hM : ML a) (h0 : 0 ≤ fi r 26) (h1 : (fi r 26).toInt < 25) {e p s : Int32} {K : Int32 → S_ → Prop} (hK : ∀ r', AN r r' e p s → K (fi r 26) r') : qM_addNode a K r e p s := by
  have i25 : ∀ k, 36 ≤ k → k < 89 → ln0 k = 25 → vp_in (fi r 26) (ln a k) := fun k k1 k2 k3 => vi h0 (by rw [ml hM k1 k2 k3]; exact h1)
  unfold qM_addNode
  refine ⟨i25 50 (by decide) (by decide) rfl, fun r2 e2 => ?_⟩
  subst e2
  refine ⟨i25 51 (by decide) (by decide) rfl, fun r4 e4 => ?_⟩
  subst e4
  refine ⟨i25 52 (by decide) (by decide) rfl, fun r6 e6 => ?_⟩
  subst e6
  refine ⟨i25 53 (by decide) (by decide) rfl, fun r8 e8 => ?_⟩
  subst e8
  refine ⟨i25 54 (by decide) (by decide) rfl, fun r10 e10 => ?_⟩
  subst e10
  refine ⟨i25 59 (by decide) (by decide) rfl, fun r12 e12 => ?_⟩
  subst e12
  intro r13 e13
  have ee : fi r13 26 - 1 = fi r 26 := by
    have e' : fi r13 26 = fi r 26 + 1 := by rw [e13]; rfl
    rw [e', vv1]
  rw [ee]
  refine hK r13 ⟨?_, by rw [e13]; rfl, fun k k0 kn j => ?_, ?_, ?_, ?_, ?_⟩
  · rw [e13]
    exact Fr_trans (Fr_sA (by decide)) (Fr_trans (Fr_sA (by decide)) (Fr_trans (Fr_sA (by decide)) (Fr_trans (Fr_sA (by decide)) (Fr_trans (Fr_sA (by decide)) (Fr_trans (Fr_sA (by decide)) (Fr_sF (by decide)))))))
  · have ne : ∀ (f : Nat → Int32) (x : Int32), upd f (fi r 26).toNatClampNeg x k.toNatClampNeg = f k.toNatClampNeg := fun f x => by rw [updI _ _ h0 k0, if_neg kn]
    rw [e13]
    show ar (sA (sA (sA (sA (sA (sA r 50 (upd (ar r 50) (fi r 26).toNatClampNeg e)) 51 (upd (ar r 51) (fi r 26).toNatClampNeg p)) 52 (upd (ar r 52) (fi r 26).toNatClampNeg s)) 53 (upd (ar r 53) (fi r 26).toNatClampNeg (-1))) 54 (upd (ar r 54) (fi r 26).toNatClampNeg (-1))) 59 (upd (ar r 59) (fi r 26).toNatClampNeg 0)) j k.toNatClampNeg = _
    simp only [ar_sA]
    by_cases j1 : j = 59
    · rw [if_pos j1, ne, j1]
    · rw [if_neg j1]
      by_cases j2 : j = 54
      · rw [if_pos j2, ne, j2]
      · rw [if_neg j2]
        by_cases j3 : j = 53
        · rw [if_pos j3, ne, j3]
        · rw [if_neg j3]
          by_cases j4 : j = 52
          · rw [if_pos j4, ne, j4]
          · rw [if_neg j4]
            by_cases j5 : j = 51
            · rw [if_pos j5, ne, j5]
            · rw [if_neg j5]
              by_cases j6 : j = 50
              · rw [if_pos j6, ne, j6]
              · rw [if_neg j6]
  · rw [e13]; exact pk_us
  · rw [e13]; exact pk_us
  · rw [e13]; exact pk_us
  · rw [e13]; exact pk_us
/-- the expressions, as the reference reads them -/
def ETr (r : S_) : Prop := (0 ≤ fi r 25 ∧ fi r 25 ≤ 120) ∧ ∀ e : Int32, 0 ≤ e → e < fi r 25 → (1 ≤ (ar r 49 e.toNatClampNeg).toInt) ∧ (ar r 45 e.toNatClampNeg = 0 ∨ ar r 45 e.toNatClampNeg = 1 ∨ ar r 45 e.toNatClampNeg = 2 ∨ ar r 45 e.toNatClampNeg = 3 ∨ ar r 45 e.toNatClampNeg = 4 ∨ ar r 45 e.toNatClampNeg = 5) ∧ (ar r 45 e.toNatClampNeg = 1 → (0 ≤ ar r 47 e.toNatClampNeg ∧ ar r 47 e.toNatClampNeg < fi r 25) ∧ ((ar r 49 e.toNatClampNeg).toInt ≤ 24 → (ar r 49 e.toNatClampNeg).toInt = 1 + (ar r 49 (ar r 47 e.toNatClampNeg).toNatClampNeg).toInt)) ∧ (ar r 45 e.toNatClampNeg = 2 → (0 ≤ ar r 46 e.toNatClampNeg ∧ ar r 46 e.toNatClampNeg < fi r 25) ∧ (0 ≤ ar r 47 e.toNatClampNeg ∧ ar r 47 e.toNatClampNeg < fi r 25) ∧ ((ar r 49 e.toNatClampNeg).toInt ≤ 24 → (ar r 49 e.toNatClampNeg).toInt = 1 + (ar r 49 (ar r 46 e.toNatClampNeg).toNatClampNeg).toInt + (ar r 49 (ar r 47 e.toNatClampNeg).toNatClampNeg).toInt)) ∧ (ar r 45 e.toNatClampNeg = 3 → (0 ≤ ar r 47 e.toNatClampNeg ∧ ar r 47 e.toNatClampNeg < fi r 25) ∧ (0 ≤ ar r 48 e.toNatClampNeg ∧ ar r 48 e.toNatClampNeg < fi r 25) ∧ ((ar r 49 e.toNatClampNeg).toInt ≤ 24 → (ar r 49 e.toNatClampNeg).toInt = 1 + (ar r 49 (ar r 47 e.toNatClampNeg).toNatClampNeg).toInt + (ar r 49 (ar r 48 e.toNatClampNeg).toNatClampNeg).toInt)) ∧ (ar r 45 e.toNatClampNeg = 4 → (0 ≤ ar r 46 e.toNatClampNeg ∧ ar r 46 e.toNatClampNeg < 8) ∧ 0 ≤ ar r 42 (ar r 46 e.toNatClampNeg).toNatClampNeg ∧ ar r 42 (ar r 46 e.toNatClampNeg).toNatClampNeg < fi r 1) ∧ (ar r 45 e.toNatClampNeg = 5 → 0 ≤ ar r 46 e.toNatClampNeg ∧ ar r 46 e.toNatClampNeg < fi r 1)
theorem ETr_of (h : INV l rI) : ETr rI := by
  obtain ⟨hcr, htq, hML, hlast, hkq, hwq, hmtq, hsq⟩ := h
  have et := hcr.2.2.2.1.2.2
  have k8 := hcr.2.2.2.1.2.1.2.1
  obtain ⟨t1, t2, t3, t4, t5, t6⟩ := htq.2.2.2.2
  have t42 := htq.2.2.1.2.2.1
  unfold ETr
  rw [t1, t2, t3, t4, t5, t6]
  refine ⟨et.1, fun e e0 e1 => ?_⟩
  obtain ⟨b1, b2, b3, b4, b5, b6⟩ := et.2.2 e e0 e1
  have up : ∀ x : Int32, x < e → x < fi rI 4 := fun x hx => ltt hx e1
  have le24 : ∀ x : Int32, x.toInt ≤ 24 → x ≤ 24 := fun x hx => by rw [il]; simpa using hx
  refine ⟨?_, hlast.1.2.2.2.1 e e0 e1, fun g => ?_, fun g => ?_, fun g => ?_, fun g => ?_, b6⟩
  · have k := b1.1
    rw [il] at k
    simpa using k
  · have k := b2 g
    exact ⟨⟨k.1.1, up _ k.1.2⟩, fun z => k.2 (le24 _ z)⟩
  · have k := b3 g
    exact ⟨⟨k.1.1, up _ k.1.2⟩, ⟨k.2.1.1, up _ k.2.1.2⟩, fun z => k.2.2 (le24 _ z)⟩
  · have k := b4 g
    exact ⟨⟨k.1.1, up _ k.1.2⟩, ⟨k.2.1.1, up _ k.2.1.2⟩, fun z => k.2.2 (le24 _ z)⟩
  · have k := b5 g
    rw [t42 _ k.1.1 k.1.2]
    refine ⟨⟨k.1.1, ?_⟩, k.2.1⟩
    have k2 := k.1.2
    rw [it] at k2 ⊢
    rw [il] at k8
    omega
theorem ETr_eq {r' : S_} (h : ETr r) (f1 : fi r' 1 = fi r 1) (f25 : fi r' 25 = fi r 25) (e42 : ar r' 42 = ar r 42) (e45 : ar r' 45 = ar r 45) (e46 : ar r' 46 = ar r 46) (e47 : ar r' 47 = ar r 47) (e48 : ar r' 48 = ar r 48) (e49 : ar r' 49 = ar r 49) : ETr r' := by
  unfold ETr
  rw [f1, f25, e42, e45, e46, e47, e48, e49]
  exact h
def szn (r : S_) (e : Int32) : Int := (ar r 49 e.toNatClampNeg).toInt
def gv (r : S_) (v : Nat) (j : Nat) : Int := if j < v then 1 else szn r (ar r 50 j)
theorem sm_ge1 {g : Nat → Int} : ∀ (n : Nat), (∀ i, i < n → 1 ≤ g i) → (n : Int) ≤ sm g n ∧ ∀ i, i < n → g i + (n : Int) ≤ sm g n + 1 := by
  intro n
  induction n with
  | zero => intro _; exact ⟨Int.le_refl _, fun i hi => absurd hi (Nat.not_lt_zero _)⟩
  | succ n ih =>
    intro h
    have k := ih (fun i hi => h i (by omega))
    have k1 := h n (by omega)
    rw [sm]
    refine ⟨by omega, fun i hi => ?_⟩
    by_cases e : i = n
    · rw [e]; omega
    · have := k.2 i (by omega)
      omega
/-- the parts of a node that is through -/
def KD (r : S_) (k c : Int32) : Prop := (kd r k = 1 → (k < ar r 53 k.toNatClampNeg ∧ ar r 53 k.toNatClampNeg < c) ∧ ar r 51 (ar r 53 k.toNatClampNeg).toNatClampNeg = k) ∧ (kd r k = 2 ∨ kd r k = 3 → (k < ar r 53 k.toNatClampNeg ∧ ar r 53 k.toNatClampNeg < c) ∧ (k < ar r 54 k.toNatClampNeg ∧ ar r 54 k.toNatClampNeg < c) ∧ ¬ ar r 53 k.toNatClampNeg = ar r 54 k.toNatClampNeg ∧ (ar r 51 (ar r 53 k.toNatClampNeg).toNatClampNeg = k ∧ ar r 51 (ar r 54 k.toNatClampNeg).toNatClampNeg = k) ∧ (ar r 52 (ar r 53 k.toNatClampNeg).toNatClampNeg = 0 ∧ ar r 52 (ar r 54 k.toNatClampNeg).toNatClampNeg = 1))
def SPI (r0 r : S_) (M : Int) (v : Int32) : Prop := Fr [26] [50, 51, 52, 53, 54, 59] r0 r ∧ ETr r ∧ (0 ≤ v ∧ v ≤ fi r 26 ∧ 1 ≤ (fi r 26).toInt) ∧ (∀ k : Int32, 0 ≤ k → k < fi r 26 → (0 ≤ ar r 50 k.toNatClampNeg ∧ ar r 50 k.toNatClampNeg < fi r 25) ∧ ar r 59 k.toNatClampNeg = 0 ∧ (k = 0 ∨ (0 ≤ ar r 51 k.toNatClampNeg ∧ ar r 51 k.toNatClampNeg < k))) ∧ (∀ k : Int32, 0 ≤ k → k < v → KD r k (fi r 26)) ∧ sm (gv r v.toNatClampNeg) (fi r 26).toNatClampNeg ≤ M ∧ ar r 51 ((0 : Int32)).toNatClampNeg = -1
theorem SPI_len {r0 : S_} {M : Int} {v : Int32} (h : SPI r0 r M v) : (fi r 26).toInt ≤ M ∧ ∀ k : Int32, v ≤ k → k < fi r 26 → szn r (ar r 50 k.toNatClampNeg) + (fi r 26).toInt ≤ M + 1 := by
  obtain ⟨h1, h2, h3, h4, h5, h6, h7⟩ := h
  have c0 : 0 ≤ fi r 26 := Int32.le_trans h3.1 h3.2.1
  have e := i_nat c0
  have key := sm_ge1 (g := gv r v.toNatClampNeg) (fi r 26).toNatClampNeg (fun i hi => by
    unfold gv
    split
    · exact Int.le_refl _
    · obtain ⟨x, x1, x2, x3⟩ := nat_i (j := i) (n := fi r 26) (by omega)
      have k := h4 x x1 x2
      rw [x3] at k
      exact (h2.2 _ k.1.1 k.1.2).1)
  refine ⟨by omega, fun k k1 k2 => ?_⟩
  have k0 : 0 ≤ k := Int32.le_trans h3.1 k1
  have en := nl k0 k2
  have q := key.2 k.toNatClampNeg en
  have e1 := i_nat k0
  have e2 := i_nat h3.1
  rw [il] at k1
  have eg : gv r v.toNatClampNeg k.toNatClampNeg = szn r (ar r 50 k.toNatClampNeg) := by
    unfold gv
    rw [if_neg (by omega)]
  rw [eg] at q
  omega
theorem SPI_leaf {r0 : S_} {M : Int} {v : Int32} (h : SPI r0 r M v) (hv : v < fi r 26) (hk : ¬ kd r v = 1 ∧ ¬ kd r v = 2 ∧ ¬ kd r v = 3) : SPI r0 r M (v + 1) := by
  obtain ⟨h1, h2, h3, h4, h5, h6, h7⟩ := h
  obtain ⟨p1, p2, p3⟩ := inc_le h3.1 hv
  have e1 := i_nat h3.1
  have e2 := i_nat p1
  refine ⟨h1, h2, ⟨p1, p2, h3.2.2⟩, h4, fun k k0 k1 => ?_, ?_, h7⟩
  · by_cases e : k = v
    · rw [e]
      exact ⟨fun z => absurd z hk.1, fun z => z.elim (fun y => absurd y hk.2.1) (fun y => absurd y hk.2.2)⟩
    · refine h5 k k0 ?_
      rw [it, p3] at k1
      rw [ie] at e
      rw [it]
      omega
  · refine Int.le_trans (sm_le (fun i hi => ?_)) h6
    unfold gv
    by_cases g : i < v.toNatClampNeg
    · rw [if_pos g, if_pos (by omega)]
      exact Int.le_refl _
    · rw [if_neg g]
      split
      · have ec := i_nat (Int32.le_trans h3.1 h3.2.1)
        obtain ⟨x, x1, x2, x3⟩ := nat_i (j := i) (n := fi r 26) (by omega)
        have k := h4 x x1 x2
        rw [x3] at k
        exact (h2.2 _ k.1.1 k.1.2).1
      · exact Int.le_refl _
end SPREAD
