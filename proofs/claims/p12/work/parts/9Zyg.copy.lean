/-! The reference: a copy of what a LET binds. -/
section COPY
variable {a : L_} {r : S_} {rh ta : Int32 → Int32} {N : Int32}
def cpd (r : S_) (rh : Int32 → Int32) (t : Int32) : Int32 := if 0 ≤ t then (if ar r 68 (rh t).toNatClampNeg = fi r 29 then ar r 69 (rh t).toNatClampNeg else rh t) else -1
theorem copied_ok {r0 : S_} (w : MI a r0 rh ta N) (h64 : ∀ y : Int32, 0 ≤ y → y < fi r0 28 → ar r 64 y.toNatClampNeg = ar r0 64 y.toNatClampNeg) {t : Int32} (ht : t < fi r0 28) {K : Int32 → Prop} (hK : K (cpd r rh t)) : qM_copied a r K t := by
  unfold cpd at hK
  unfold qM_copied
  refine ⟨fun g => ?_, fun g => by rw [if_neg g] at hK; exact hK⟩
  rw [if_pos g] at hK
  have b := (w.2.2.2.2.1.2 t g ht).1
  refine find_ok2 w h64 g ht ⟨tin w b.1 b.2 (by decide) (by decide) rfl, fun g2 => ?_, fun g2 => ?_⟩
  · rw [if_neg g2] at hK
    exact find_ok2 w h64 g ht hK
  · rw [if_pos g2] at hK
    exact find_ok2 w h64 g ht ⟨tin w b.1 b.2 (by decide) (by decide) rfl, hK⟩
def okm (r0 r : S_) (ard z : Int32) : Prop := ar r 68 z.toNatClampNeg = fi r0 29 ∨ ar r 68 z.toNatClampNeg = ard
/-- copying, under way -/
def CJ (r0 r : S_) (rh : Int32 → Int32) (U : List Int32) (G2 : Int32 → Prop) (ard z v x : Int32) (el er : Prop) (d : Int) : Prop := Fr [28, 30] [64, 65, 66, 67, 68, 69, 70, 71, 72, 73] r0 r ∧ (∀ y, vt r0 y → ∀ k, ¬ k = 68 → ¬ k = 69 → ¬ k = 72 → ¬ k = 73 → ar r k y.toNatClampNeg = ar r0 k y.toNatClampNeg) ∧ (0 ≤ fi r 30 ∧ (fi r 28).toInt = (fi r0 28).toInt + (fi r 30).toInt) ∧ (∀ i, i < (fi r 30).toNatClampNeg → vt r0 (ar r 73 i) ∧ ar r0 64 (ar r 73 i).toNatClampNeg = ar r 73 i ∧ ar r 73 i ∈ U ∧ ar r 68 (ar r 73 i).toNatClampNeg = fi r0 29 ∧ (ar r 69 (ar r 73 i).toNatClampNeg).toInt = (fi r0 28).toInt + i ∧ ar r 65 (ar r 69 (ar r 73 i).toNatClampNeg).toNatClampNeg = ar r0 65 (ar r 73 i).toNatClampNeg) ∧ (∀ y, vt r0 y → ar r 68 y.toNatClampNeg = ar r0 68 y.toNatClampNeg ∨ (ar r 68 y.toNatClampNeg = fi r0 29 ∧ ∃ i, i < (fi r 30).toNatClampNeg ∧ ar r 73 i = y)) ∧ (∀ y : Int32, fi r0 28 ≤ y → y < fi r 28 → ar r 64 y.toNatClampNeg = y ∧ ar r 66 y.toNatClampNeg = -1 ∧ ar r 67 y.toNatClampNeg = -1 ∧ ar r 68 y.toNatClampNeg = 0 ∧ ar r 70 y.toNatClampNeg = 0 ∧ ar r 71 y.toNatClampNeg = 0) ∧ (∀ i, i < v.toNatClampNeg → vt r0 (ar r 72 i) ∧ (ar r 72 i ∈ U ∨ DM r0 G2 (ar r 72 i))) ∧ (∀ i, i < (fi r 30).toNatClampNeg → (0 ≤ ar r0 66 (ar r 73 i).toNatClampNeg → okm r0 r ard (rh (ar r0 66 (ar r 73 i).toNatClampNeg)) ∨ (∃ j, j < v.toNatClampNeg ∧ ar r 72 j = ar r0 66 (ar r 73 i).toNatClampNeg) ∨ (ar r 73 i = x ∧ el)) ∧ (0 ≤ ar r0 67 (ar r 73 i).toNatClampNeg → okm r0 r ard (rh (ar r0 67 (ar r 73 i).toNatClampNeg)) ∨ (∃ j, j < v.toNatClampNeg ∧ ar r 72 j = ar r0 67 (ar r 73 i).toNatClampNeg) ∨ (ar r 73 i = x ∧ er))) ∧ (okm r0 r ard (rh z) ∨ ∃ j, j < v.toNatClampNeg ∧ ar r 72 j = z) ∧ (0 ≤ v.toInt ∧ v.toInt + d ≤ 1 + (fi r 30).toInt)
theorem CJ_len {r0 : S_} {U : List Int32} {G2 : Int32 → Prop} {ard z v x : Int32} {el er : Prop} {d : Int} (h : CJ r0 r rh U G2 ard z v x el er d) : (fi r 30).toInt ≤ U.length := by
  have k := pig (ar r 73) (fi r 30).toNatClampNeg U (fun i hi => (h.2.2.2.1 i hi).2.2.1) (fun i j hi hj e => by
    have k1 := (h.2.2.2.1 i hi).2.2.2.2.1
    have k2 := (h.2.2.2.1 j hj).2.2.2.2.1
    rw [e] at k1
    omega)
  have e := i_nat h.2.2.1.1
  omega
theorem CJ_pop {r0 : S_} {U : List Int32} {G2 : Int32 → Prop} {ard z v x : Int32} (h : CJ r0 r rh U G2 ard z v x False False 0) (hv : 0 < v.toInt) (hd : (v + -1).toInt = v.toInt - 1) (ho : okm r0 r ard (rh (ar r 72 (v + -1).toNatClampNeg))) : CJ r0 r rh U G2 ard z (v + -1) x False False 0 := by
  obtain ⟨h1, h2, h3, h4, h5, h6, h7, h8, h9, h10⟩ := h
  have v0 : 0 ≤ v := by rw [il]; simp; omega
  have d0 : 0 ≤ v + -1 := by rw [il, hd]; simp; omega
  have e1 := i_nat v0
  have e2 := i_nat d0
  have pe : ∀ t : Int32, (∃ j, j < v.toNatClampNeg ∧ ar r 72 j = t) → okm r0 r ard (rh t) ∨ ∃ j, j < (v + -1).toNatClampNeg ∧ ar r 72 j = t := fun t ⟨j, j1, j2⟩ => by
    by_cases e : j = (v + -1).toNatClampNeg
    · left
      rw [← j2, e]
      exact ho
    · exact Or.inr ⟨j, by omega, j2⟩
  refine ⟨h1, h2, h3, h4, h5, h6, fun i hi => h7 i (by omega), fun i hi => ⟨fun g => ?_, fun g => ?_⟩, ?_, by omega, by omega⟩
  · rcases (h8 i hi).1 g with k | k | k
    · exact Or.inl k
    · exact (pe _ k).imp id Or.inl
    · exact k.2.elim
  · rcases (h8 i hi).2 g with k | k | k
    · exact Or.inl k
    · exact (pe _ k).imp id Or.inl
    · exact k.2.elim
  · exact h9.elim Or.inl (pe z)
theorem CJ_skipL {r0 : S_} {U : List Int32} {G2 : Int32 → Prop} {ard z v x : Int32} {er : Prop} {d : Int} (h : CJ r0 r rh U G2 ard z v x True er (d + 1)) (hn : ¬ 0 ≤ ar r0 66 x.toNatClampNeg) : CJ r0 r rh U G2 ard z v x False er d := by
  obtain ⟨h1, h2, h3, h4, h5, h6, h7, h8, h9, h10⟩ := h
  refine ⟨h1, h2, h3, h4, h5, h6, h7, fun i hi => ⟨fun g => ?_, fun g => ?_⟩, h9, h10.1, by omega⟩
  · rcases (h8 i hi).1 g with k | k | k
    · exact Or.inl k
    · exact Or.inr (Or.inl k)
    · exact absurd (show 0 ≤ ar r0 66 x.toNatClampNeg from by have k1 : ar r 73 i = x := k.1; rw [← k1]; exact g) hn
  · rcases (h8 i hi).2 g with k | k | k
    · exact Or.inl k
    · exact Or.inr (Or.inl k)
    · exact Or.inr (Or.inr k)
theorem CJ_pushL {r0 : S_} {U : List Int32} {G2 : Int32 → Prop} {ard z v x : Int32} {er : Prop} {d : Int} (h : CJ r0 r rh U G2 ard z v x True er (d + 1)) (hd : 0 ≤ d) (hg : 0 ≤ ar r0 66 x.toNatClampNeg) (vy : vt r0 (ar r0 66 x.toNatClampNeg)) (hU : ar r0 66 x.toNatClampNeg ∈ U ∨ DM r0 G2 (ar r0 66 x.toNatClampNeg)) (hl : U.length ≤ 2000) (hM : ML a) : CJ r0 (sA r 72 (upd (ar r 72) v.toNatClampNeg (ar r0 66 x.toNatClampNeg))) rh U G2 ard z (v + 1) x False er d ∧ vp_in v (ln a 72) ∧ (v + 1).toInt = v.toInt + 1 := by
  have hlen := CJ_len h
  obtain ⟨h1, h2, h3, h4, h5, h6, h7, h8, h9, h10⟩ := h
  have v0 : 0 ≤ v := by rw [il]; simp; omega
  have v1 : (v + 1).toInt = v.toInt + 1 := i_add (by simp; omega) (by simp; omega)
  have v10 : 0 ≤ v + 1 := by rw [il, v1]; simp; omega
  have sv : (v + 1).toNatClampNeg = v.toNatClampNeg + 1 := by
    have e1 := i_nat v0
    have e2 := i_nat v10
    omega
  have a72 : ar (sA r 72 (upd (ar r 72) v.toNatClampNeg (ar r0 66 x.toNatClampNeg))) 72 = upd (ar r 72) v.toNatClampNeg (ar r0 66 x.toNatClampNeg) := rfl
  have pe : ∀ t : Int32, (∃ j, j < v.toNatClampNeg ∧ ar r 72 j = t) → ∃ j, j < v.toNatClampNeg + 1 ∧ upd (ar r 72) v.toNatClampNeg (ar r0 66 x.toNatClampNeg) j = t := fun t ⟨j, j1, j2⟩ => ⟨j, by omega, by rw [pk_un (by omega)]; exact j2⟩
  refine ⟨⟨Fr_trans h1 (Fr_sA (by decide)), fun y hy k k1 k2 k3 k4 => by rw [ar_sA, if_neg k3]; exact h2 y hy k k1 k2 k3 k4, h3, h4, h5, h6, fun i hi => ?_, fun i hi => ⟨fun g => ?_, fun g => ?_⟩, ?_, by omega, ?_⟩, vi v0 (by rw [ml (n := 200000) hM (by decide) (by decide) rfl]; omega), v1⟩
  · rw [a72]
    rw [sv] at hi
    by_cases e : i = v.toNatClampNeg
    · rw [e, pk_us]; exact ⟨vy, hU⟩
    · rw [pk_un e]; exact h7 i (by omega)
  · rw [a72, sv]
    rcases (h8 i hi).1 g with k | k | k
    · exact Or.inl k
    · exact Or.inr (Or.inl (pe _ k))
    · exact Or.inr (Or.inl ⟨v.toNatClampNeg, by omega, by rw [pk_us]; exact (congrArg (fun u : Int32 => ar r0 66 u.toNatClampNeg) k.1).symm⟩)
  · rw [a72, sv]
    rcases (h8 i hi).2 g with k | k | k
    · exact Or.inl k
    · exact Or.inr (Or.inl (pe _ k))
    · exact Or.inr (Or.inr k)
  · rw [a72, sv]
    exact h9.imp id (pe z)
  · rw [v1]
    show v.toInt + 1 + d ≤ 1 + (fi r 30).toInt
    omega
theorem CJ_skipR {r0 : S_} {U : List Int32} {G2 : Int32 → Prop} {ard z v x : Int32} {el : Prop} {d : Int} (h : CJ r0 r rh U G2 ard z v x el True (d + 1)) (hn : ¬ 0 ≤ ar r0 67 x.toNatClampNeg) : CJ r0 r rh U G2 ard z v x el False d := by
  obtain ⟨h1, h2, h3, h4, h5, h6, h7, h8, h9, h10⟩ := h
  refine ⟨h1, h2, h3, h4, h5, h6, h7, fun i hi => ⟨fun g => ?_, fun g => ?_⟩, h9, h10.1, by omega⟩
  · rcases (h8 i hi).1 g with k | k | k
    · exact Or.inl k
    · exact Or.inr (Or.inl k)
    · exact Or.inr (Or.inr k)
  · rcases (h8 i hi).2 g with k | k | k
    · exact Or.inl k
    · exact Or.inr (Or.inl k)
    · exact absurd (show 0 ≤ ar r0 67 x.toNatClampNeg from by have k1 : ar r 73 i = x := k.1; rw [← k1]; exact g) hn
theorem CJ_pushR {r0 : S_} {U : List Int32} {G2 : Int32 → Prop} {ard z v x : Int32} {el : Prop} {d : Int} (h : CJ r0 r rh U G2 ard z v x el True (d + 1)) (hd : 0 ≤ d) (hg : 0 ≤ ar r0 67 x.toNatClampNeg) (vy : vt r0 (ar r0 67 x.toNatClampNeg)) (hU : ar r0 67 x.toNatClampNeg ∈ U ∨ DM r0 G2 (ar r0 67 x.toNatClampNeg)) (hl : U.length ≤ 2000) (hM : ML a) : CJ r0 (sA r 72 (upd (ar r 72) v.toNatClampNeg (ar r0 67 x.toNatClampNeg))) rh U G2 ard z (v + 1) x el False d ∧ vp_in v (ln a 72) ∧ (v + 1).toInt = v.toInt + 1 := by
  have hlen := CJ_len h
  obtain ⟨h1, h2, h3, h4, h5, h6, h7, h8, h9, h10⟩ := h
  have v0 : 0 ≤ v := by rw [il]; simp; omega
  have v1 : (v + 1).toInt = v.toInt + 1 := i_add (by simp; omega) (by simp; omega)
  have v10 : 0 ≤ v + 1 := by rw [il, v1]; simp; omega
  have sv : (v + 1).toNatClampNeg = v.toNatClampNeg + 1 := by
    have e1 := i_nat v0
    have e2 := i_nat v10
    omega
  have a72 : ar (sA r 72 (upd (ar r 72) v.toNatClampNeg (ar r0 67 x.toNatClampNeg))) 72 = upd (ar r 72) v.toNatClampNeg (ar r0 67 x.toNatClampNeg) := rfl
  have pe : ∀ t : Int32, (∃ j, j < v.toNatClampNeg ∧ ar r 72 j = t) → ∃ j, j < v.toNatClampNeg + 1 ∧ upd (ar r 72) v.toNatClampNeg (ar r0 67 x.toNatClampNeg) j = t := fun t ⟨j, j1, j2⟩ => ⟨j, by omega, by rw [pk_un (by omega)]; exact j2⟩
  refine ⟨⟨Fr_trans h1 (Fr_sA (by decide)), fun y hy k k1 k2 k3 k4 => by rw [ar_sA, if_neg k3]; exact h2 y hy k k1 k2 k3 k4, h3, h4, h5, h6, fun i hi => ?_, fun i hi => ⟨fun g => ?_, fun g => ?_⟩, ?_, by omega, ?_⟩, vi v0 (by rw [ml (n := 200000) hM (by decide) (by decide) rfl]; omega), v1⟩
  · rw [a72]
    rw [sv] at hi
    by_cases e : i = v.toNatClampNeg
    · rw [e, pk_us]; exact ⟨vy, hU⟩
    · rw [pk_un e]; exact h7 i (by omega)
  · rw [a72, sv]
    rcases (h8 i hi).1 g with k | k | k
    · exact Or.inl k
    · exact Or.inr (Or.inl (pe _ k))
    · exact Or.inr (Or.inr k)
  · rw [a72, sv]
    rcases (h8 i hi).2 g with k | k | k
    · exact Or.inl k
    · exact Or.inr (Or.inl (pe _ k))
    · exact Or.inr (Or.inl ⟨v.toNatClampNeg, by omega, by rw [pk_us]; exact (congrArg (fun u : Int32 => ar r0 67 u.toNatClampNeg) k.1).symm⟩)
  · rw [a72, sv]
    exact h9.imp id (pe z)
  · rw [v1]
    show v.toInt + 1 + d ≤ 1 + (fi r 30).toInt
    omega
theorem CJ_visit {r0 r5 : S_} {U : List Int32} {G2 : Int32 → Prop} {ard z v x x0 : Int32} (w : MI a r0 rh ta N) (h : CJ r0 r rh U G2 ard z v x0 False False 0) (hv : 0 < v.toInt) (hd : (v + -1).toInt = v.toInt - 1) (ex : rh (ar r 72 (v + -1).toNatClampNeg) = x) (hx : vt r0 x) (rx : ar r0 64 x.toNatClampNeg = x) (hz : vt r0 z) (xU : x ∈ U) (hm : ¬ ar r 68 x.toNatClampNeg = fi r0 29) (m0 : ¬ fi r0 29 = 0) (h28 : (fi r0 28).toInt ≤ 20000) (hl : U.length ≤ 2000) (hN : NT (sF (sA (sA r 68 (upd (ar r 68) x.toNatClampNeg (fi r0 29))) 73 (upd (ar r 73) (fi r 30).toNatClampNeg x)) 30 (fi r 30 + 1)) r5 (ar r0 65 x.toNatClampNeg) (-1) (-1)) : CJ r0 (sA r5 69 (upd (ar r5 69) x.toNatClampNeg (fi r 28))) rh U G2 ard z (v + -1) x True True 2 := by
  have hlen := CJ_len h
  obtain ⟨h1, h2, ⟨h30, h3⟩, h4, h5, h6, h7, h8, h9, h10⟩ := h
  obtain ⟨n28, nF, nO, n64, n65, n66, n67, n68, n70, n71⟩ := hN
  have e28 : fi (sF (sA (sA r 68 (upd (ar r 68) x.toNatClampNeg (fi r0 29))) 73 (upd (ar r 73) (fi r 30).toNatClampNeg x)) 30 (fi r 30 + 1)) 28 = fi r 28 := rfl
  rw [e28] at n28 n64 n65 n66 n67 n68 n70 n71 nO
  have c0 := w.2.2.1.1
  have c0' := c0
  rw [il] at c0'
  have z30 := h30
  rw [il] at z30
  simp at c0' z30
  have r28 : 0 ≤ fi r 28 := by rw [il, h3]; simp; omega
  have i28 : (fi r 28 + 1).toInt = (fi r 28).toInt + 1 := i_add (by simp; omega) (by simp; omega)
  have i30 : (fi r 30 + 1).toInt = (fi r 30).toInt + 1 := i_add (by simp; omega) (by simp; omega)
  have p30 : 0 ≤ fi r 30 + 1 := by rw [il, i30]; simp; omega
  have s30 : (fi r 30 + 1).toNatClampNeg = (fi r 30).toNatClampNeg + 1 := by
    have e1 := i_nat h30
    have e2 := i_nat p30
    omega
  have n30 := i_nat h30
  have up : ∀ y, vt r0 y → 0 ≤ y ∧ y < fi r 28 := fun y hy => ⟨hy.1, by have k := hy.2; rw [it] at k ⊢; omega⟩
  have a69 : ar (sA r5 69 (upd (ar r5 69) x.toNatClampNeg (fi r 28))) 69 = upd (ar r 69) x.toNatClampNeg (fi r 28) := by
    have e : ar r5 69 = ar r 69 := nF.2.1 69 (by decide)
    rw [ar_sA, if_pos rfl, e]
  have a73 : ar (sA r5 69 (upd (ar r5 69) x.toNatClampNeg (fi r 28))) 73 = upd (ar r 73) (fi r 30).toNatClampNeg x := nF.2.1 73 (by decide)
  have a72 : ar (sA r5 69 (upd (ar r5 69) x.toNatClampNeg (fi r 28))) 72 = ar r 72 := nF.2.1 72 (by decide)
  have f30 : fi (sA r5 69 (upd (ar r5 69) x.toNatClampNeg (fi r 28))) 30 = fi r 30 + 1 := nF.1 30 (by decide)
  have f28 : fi (sA r5 69 (upd (ar r5 69) x.toNatClampNeg (fi r 28))) 28 = fi r 28 + 1 := n28
  have m68 : ∀ y, vt r0 y → ar (sA r5 69 (upd (ar r5 69) x.toNatClampNeg (fi r 28))) 68 y.toNatClampNeg = if y = x then fi r0 29 else ar r 68 y.toNatClampNeg := fun y hy => by
    have k := nO y (up y hy).1 (up y hy).2 68
    show ar r5 68 y.toNatClampNeg = _
    rw [k]
    show upd (ar r 68) x.toNatClampNeg (fi r0 29) y.toNatClampNeg = _
    rw [updI _ _ hx.1 hy.1]
  have okk : ∀ y, vt r0 y → okm r0 r ard y → okm r0 (sA r5 69 (upd (ar r5 69) x.toNatClampNeg (fi r 28))) ard y := fun y hy k => by
    unfold okm
    rw [m68 y hy]
    split
    · exact Or.inl rfl
    · exact k
  have okx : okm r0 (sA r5 69 (upd (ar r5 69) x.toNatClampNeg (fi r 28))) ard x := by
    unfold okm
    rw [m68 x hx, if_pos rfl]
    exact Or.inl rfl
  have v0 : 0 ≤ v := by rw [il]; simp; omega
  have d0 : 0 ≤ v + -1 := by rw [il, hd]; simp; omega
  have e1 := i_nat v0
  have e2 := i_nat d0
  have rv : ∀ y, vt r0 y → vt r0 (rh y) := fun y hy => (w.2.2.2.2.1.2 y hy.1 hy.2).1
  have pe : ∀ t : Int32, (∃ j, j < v.toNatClampNeg ∧ ar r 72 j = t) → okm r0 (sA r5 69 (upd (ar r5 69) x.toNatClampNeg (fi r 28))) ard (rh t) ∨ ∃ j, j < (v + -1).toNatClampNeg ∧ ar r 72 j = t := fun t ⟨j, j1, j2⟩ => by
    by_cases e : j = (v + -1).toNatClampNeg
    · left
      rw [← j2, e, ex]
      exact okx
    · exact Or.inr ⟨j, by omega, j2⟩
  have vn := MI_VN w
  have ne : ∀ i, i < (fi r 30).toNatClampNeg → ¬ ar r 73 i = x := fun i hi e => hm (by rw [← e]; exact (h4 i hi).2.2.2.1)
  have ofn : ∀ i, i < (fi r 30).toNatClampNeg → 0 ≤ ar r 69 (ar r 73 i).toNatClampNeg ∧ ar r 69 (ar r 73 i).toNatClampNeg < fi r 28 := fun i hi => by
    have k := (h4 i hi).2.2.2.2.1
    refine ⟨by rw [il, k]; simp; omega, by rw [it, k, h3]; omega⟩
  refine ⟨Fr_trans (Fr_trans h1 (Fr_trans (Fr_sA (by decide)) (Fr_trans (Fr_sA (by decide)) (Fr_sF (by decide))))) (Fr_trans (Fr_mono nF (by decide) (by decide)) (Fr_sA (by decide))), fun y hy k k1 k2 k3 k4 => ?_, ⟨by rw [f30]; exact p30, by rw [f28, f30, i28, i30, h3]; omega⟩, fun i hi => ?_, fun y hy => ?_, fun y y1 y2 => ?_, fun i hi => ?_, fun i hi => ?_, ?_, by omega, ?_⟩
  · rw [ar_sA, if_neg k2, nO y (up y hy).1 (up y hy).2 k]
    show ar (sA (sA r 68 (upd (ar r 68) x.toNatClampNeg (fi r0 29))) 73 (upd (ar r 73) (fi r 30).toNatClampNeg x)) k y.toNatClampNeg = _
    rw [ar_sA, if_neg k4, ar_sA, if_neg k1]
    exact h2 y hy k k1 k2 k3 k4
  · rw [f30, s30] at hi
    rw [a73, a69]
    by_cases e : i = (fi r 30).toNatClampNeg
    · rw [e, pk_us, pk_us]
      refine ⟨hx, rx, xU, by rw [m68 x hx, if_pos rfl], by rw [h3]; omega, n65⟩
    · rw [pk_un e]
      have hi' : i < (fi r 30).toNatClampNeg := by omega
      have k := h4 i hi'
      have kn := ne i hi'
      refine ⟨k.1, k.2.1, k.2.2.1, by rw [m68 _ k.1, if_neg kn]; exact k.2.2.2.1, ?_⟩
      rw [updI _ _ hx.1 k.1.1, if_neg kn]
      refine ⟨k.2.2.2.2.1, ?_⟩
      have o := ofn i hi'
      have q := nO _ o.1 o.2 65
      exact q.trans k.2.2.2.2.2
  · rw [m68 y hy, f30, s30, a73]
    by_cases e : y = x
    · rw [if_pos e]
      exact Or.inr ⟨rfl, (fi r 30).toNatClampNeg, by omega, by rw [pk_us, e]⟩
    · rw [if_neg e]
      rcases h5 y hy with k | ⟨k, i, i1, i2⟩
      · exact Or.inl k
      · exact Or.inr ⟨k, i, by omega, by rw [pk_un (by omega)]; exact i2⟩
  · rw [f28] at y2
    by_cases e : y = fi r 28
    · rw [e]
      exact ⟨n64, n66, n67, n68, n70, n71⟩
    · have y3 : y < fi r 28 := by
        rw [it, i28] at y2
        rw [ie] at e
        rw [it]
        omega
      have y0 : 0 ≤ y := by
        rw [il] at y1 ⊢
        simp
        omega
      have k := h6 y y1 y3
      have ny : ¬ y = x := fun z => by
        have k2 := hx.2
        rw [← z, it] at k2
        rw [il] at y1
        omega
      have q : ∀ m, ¬ m = 69 → ¬ m = 73 → ¬ m = 68 → ar (sA r5 69 (upd (ar r5 69) x.toNatClampNeg (fi r 28))) m y.toNatClampNeg = ar r m y.toNatClampNeg := fun m m1 m2 m3 => by
        rw [ar_sA, if_neg m1, nO y y0 y3 m]
        show ar (sA (sA r 68 (upd (ar r 68) x.toNatClampNeg (fi r0 29))) 73 (upd (ar r 73) (fi r 30).toNatClampNeg x)) m y.toNatClampNeg = _
        rw [ar_sA, if_neg m2, ar_sA, if_neg m3]
      rw [q 64 (by decide) (by decide) (by decide), q 66 (by decide) (by decide) (by decide), q 67 (by decide) (by decide) (by decide), q 70 (by decide) (by decide) (by decide), q 71 (by decide) (by decide) (by decide)]
      have q68 : ar (sA r5 69 (upd (ar r5 69) x.toNatClampNeg (fi r 28))) 68 y.toNatClampNeg = ar r 68 y.toNatClampNeg := by
        show ar r5 68 y.toNatClampNeg = _
        rw [nO y y0 y3 68]
        show upd (ar r 68) x.toNatClampNeg (fi r0 29) y.toNatClampNeg = _
        rw [updI _ _ hx.1 y0, if_neg ny]
      rw [q68]
      exact k
  · rw [a72]
    exact h7 i (by omega)
  · rw [f30, s30] at hi
    rw [a73, a72]
    by_cases e : i = (fi r 30).toNatClampNeg
    · rw [e, pk_us]
      exact ⟨fun _ => Or.inr (Or.inr ⟨rfl, trivial⟩), fun _ => Or.inr (Or.inr ⟨rfl, trivial⟩)⟩
    · rw [pk_un e]
      have hi' : i < (fi r 30).toNatClampNeg := by omega
      have k := h8 i hi'
      have b := (vn _ (h4 i hi').1).2
      refine ⟨fun g => ?_, fun g => ?_⟩
      · rcases k.1 g with y | y | y
        · exact Or.inl (okk _ (rv _ (b.1 g)) y)
        · exact (pe _ y).imp id Or.inl
        · exact y.2.elim
      · rcases k.2 g with y | y | y
        · exact Or.inl (okk _ (rv _ (b.2 g)) y)
        · exact (pe _ y).imp id Or.inl
        · exact y.2.elim
  · rw [a72]
    rcases h9 with y | y
    · exact Or.inl (okk _ (rv _ hz) y)
    · exact pe z y
  · rw [hd, f30, i30]
    omega
end COPY
