/-! The reference: what is reached from a term. -/
section REACH2
variable {a : L_} {r r' : S_} {rh ta : Int32 → Int32} {N : Int32}
def cM (r : S_) (mk c : Int32) : Nat := cnt (fun i => ar r 68 i == mk) c.toNatClampNeg
theorem MI_Fr {F A : List Nat} (w : MI a r rh ta N) (h : Fr F A r r') (h1 : 21 ∉ F ∧ 28 ∉ F) (h2 : 36 ∉ A ∧ 64 ∉ A ∧ 65 ∉ A ∧ 66 ∉ A ∧ 67 ∉ A) : MI a r' rh ta N := by
  unfold MI
  rw [h.1 21 h1.1, h.1 28 h1.2, h.2.1 36 h2.1, h.2.1 64 h2.2.1, h.2.1 65 h2.2.2.1, h.2.1 66 h2.2.2.2.1, h.2.1 67 h2.2.2.2.2]
  exact w
/-- between the start of a reaching, r0, and now; v terms still to be looked at -/
def RJ (a : L_) (r0 r : S_) (rh : Int32 → Int32) (t v : Int32) : Prop := Fr [30] [68, 72, 73] r0 r ∧ (0 ≤ v.toInt ∧ v.toInt + (cM r0 (fi r0 29) (fi r0 28) : Int) ≤ 1 + cM r (fi r0 29) (fi r0 28)) ∧ (∀ k : Int32, 0 ≤ k → k < v → 0 ≤ ar r 72 k.toNatClampNeg ∧ ar r 72 k.toNatClampNeg < fi r0 28) ∧ (∀ x : Int32, 0 ≤ x → x < fi r0 28 → ar r 68 x.toNatClampNeg = ar r0 68 x.toNatClampNeg ∨ (ar r 68 x.toNatClampNeg = fi r0 29 ∧ ¬ ar r0 68 x.toNatClampNeg = fi r0 29 ∧ ar r0 64 x.toNatClampNeg = x ∧ ∃ k : Int32, fi r0 30 ≤ k ∧ k < fi r 30 ∧ ar r 73 k.toNatClampNeg = x)) ∧ ((∀ k : Int32, fi r0 30 ≤ k → k < fi r 30 → (0 ≤ ar r 73 k.toNatClampNeg ∧ ar r 73 k.toNatClampNeg < fi r0 28) ∧ ar r0 64 (ar r 73 k.toNatClampNeg).toNatClampNeg = ar r 73 k.toNatClampNeg ∧ ar r 68 (ar r 73 k.toNatClampNeg).toNatClampNeg = fi r0 29 ∧ ¬ ar r0 68 (ar r 73 k.toNatClampNeg).toNatClampNeg = fi r0 29) ∧ (∀ k : Int32, 0 ≤ k → k < fi r0 30 → ar r 73 k.toNatClampNeg = ar r0 73 k.toNatClampNeg)) ∧ (fi r 30).toInt + (cM r0 (fi r0 29) (fi r0 28) : Int) = (fi r0 30).toInt + cM r (fi r0 29) (fi r0 28) ∧ (∀ x : Int32, 0 ≤ x → x < fi r0 28 → ar r 68 x.toNatClampNeg = fi r0 29 → ¬ ar r0 68 x.toNatClampNeg = fi r0 29 → (0 ≤ ar r0 66 x.toNatClampNeg → ar r 68 (rh (ar r0 66 x.toNatClampNeg)).toNatClampNeg = fi r0 29 ∨ ∃ k : Int32, 0 ≤ k ∧ k < v ∧ ar r 72 k.toNatClampNeg = ar r0 66 x.toNatClampNeg) ∧ (0 ≤ ar r0 67 x.toNatClampNeg → ar r 68 (rh (ar r0 67 x.toNatClampNeg)).toNatClampNeg = fi r0 29 ∨ ∃ k : Int32, 0 ≤ k ∧ k < v ∧ ar r 72 k.toNatClampNeg = ar r0 67 x.toNatClampNeg)) ∧ (ar r 68 (rh t).toNatClampNeg = fi r0 29 ∨ ∃ k : Int32, 0 ≤ k ∧ k < v ∧ ar r 72 k.toNatClampNeg = t) ∧ (∀ A : Int32 → Prop, Cld r0 A → A t → (∀ x : Int32, 0 ≤ x → x < fi r0 28 → ar r 68 x.toNatClampNeg = fi r0 29 → ¬ ar r0 68 x.toNatClampNeg = fi r0 29 → A x) ∧ ∀ k : Int32, 0 ≤ k → k < v → A (ar r 72 k.toNatClampNeg))
theorem cM_le (hc : 0 ≤ fi r 28) {q : S_} {mk : Int32} : (cM q mk (fi r 28) : Int) ≤ (fi r 28).toInt := by
  have := cnt_le (fun i => ar q 68 i == mk) (fi r 28).toNatClampNeg
  have h := i_nat hc
  unfold cM
  omega
theorem lt_sub {k v : Int32} (h : (v + -1).toInt = v.toInt - 1) (h1 : k < v + -1) : k < v := by
  rw [it, h] at h1
  rw [it]
  omega
theorem lt_sub2 {k v : Int32} (h : (v + -1).toInt = v.toInt - 1) (h1 : k < v) (h2 : ¬ k = v + -1) : k < v + -1 := by
  rw [it] at h1
  rw [ie, h] at h2
  rw [it, h]
  omega
/-- the top is marked already -/
theorem RJ_pop {r0 : S_} {t v : Int32} (w0 : MI a r0 rh ta N) (w : RJ a r0 r rh t v) (hd : (v + -1).toInt = v.toInt - 1) (hv : 0 < v.toInt) (h : ar r 68 (rh (ar r 72 (v + -1).toNatClampNeg)).toNatClampNeg = fi r0 29) : RJ a r0 r rh t (v + -1) := by
  obtain ⟨w1, ⟨w21, w22⟩, w3, w4, w5, w6, w7, w8, w9⟩ := w
  refine ⟨w1, ⟨by omega, by omega⟩, fun k k1 k2 => w3 k k1 (lt_sub hd k2), w4, w5, w6, fun x x1 x2 x3 x4 => ?_, ?_, fun A h1 h2 => ⟨(w9 A h1 h2).1, fun k k1 k2 => (w9 A h1 h2).2 k k1 (lt_sub hd k2)⟩⟩
  · have b := w7 x x1 x2 x3 x4
    refine ⟨fun g => ?_, fun g => ?_⟩
    · rcases b.1 g with b | ⟨k, k1, k2, k3⟩
      · exact Or.inl b
      · by_cases e : k = v + -1
        · rw [e] at k3; rw [k3] at h; exact Or.inl h
        · exact Or.inr ⟨k, k1, lt_sub2 hd k2 e, k3⟩
    · rcases b.2 g with b | ⟨k, k1, k2, k3⟩
      · exact Or.inl b
      · by_cases e : k = v + -1
        · rw [e] at k3; rw [k3] at h; exact Or.inl h
        · exact Or.inr ⟨k, k1, lt_sub2 hd k2 e, k3⟩
  · rcases w8 with b | ⟨k, k1, k2, k3⟩
    · exact Or.inl b
    · by_cases e : k = v + -1
      · rw [e] at k3; rw [k3] at h; exact Or.inl h
      · exact Or.inr ⟨k, k1, lt_sub2 hd k2 e, k3⟩
/-- with parts of x still to be pushed: el, er say which are not yet -/
def RX (a : L_) (r0 r : S_) (rh : Int32 → Int32) (t v x : Int32) (el er : Prop) (d : Int) : Prop := Fr [30] [68, 72, 73] r0 r ∧ (0 ≤ v.toInt ∧ v.toInt + d + (cM r0 (fi r0 29) (fi r0 28) : Int) ≤ 1 + cM r (fi r0 29) (fi r0 28)) ∧ (∀ k : Int32, 0 ≤ k → k < v → 0 ≤ ar r 72 k.toNatClampNeg ∧ ar r 72 k.toNatClampNeg < fi r0 28) ∧ (∀ x : Int32, 0 ≤ x → x < fi r0 28 → ar r 68 x.toNatClampNeg = ar r0 68 x.toNatClampNeg ∨ (ar r 68 x.toNatClampNeg = fi r0 29 ∧ ¬ ar r0 68 x.toNatClampNeg = fi r0 29 ∧ ar r0 64 x.toNatClampNeg = x ∧ ∃ k : Int32, fi r0 30 ≤ k ∧ k < fi r 30 ∧ ar r 73 k.toNatClampNeg = x)) ∧ ((∀ k : Int32, fi r0 30 ≤ k → k < fi r 30 → (0 ≤ ar r 73 k.toNatClampNeg ∧ ar r 73 k.toNatClampNeg < fi r0 28) ∧ ar r0 64 (ar r 73 k.toNatClampNeg).toNatClampNeg = ar r 73 k.toNatClampNeg ∧ ar r 68 (ar r 73 k.toNatClampNeg).toNatClampNeg = fi r0 29 ∧ ¬ ar r0 68 (ar r 73 k.toNatClampNeg).toNatClampNeg = fi r0 29) ∧ (∀ k : Int32, 0 ≤ k → k < fi r0 30 → ar r 73 k.toNatClampNeg = ar r0 73 k.toNatClampNeg)) ∧ (fi r 30).toInt + (cM r0 (fi r0 29) (fi r0 28) : Int) = (fi r0 30).toInt + cM r (fi r0 29) (fi r0 28) ∧ (∀ y : Int32, 0 ≤ y → y < fi r0 28 → ar r 68 y.toNatClampNeg = fi r0 29 → ¬ ar r0 68 y.toNatClampNeg = fi r0 29 → (0 ≤ ar r0 66 y.toNatClampNeg → ar r 68 (rh (ar r0 66 y.toNatClampNeg)).toNatClampNeg = fi r0 29 ∨ (∃ k : Int32, 0 ≤ k ∧ k < v ∧ ar r 72 k.toNatClampNeg = ar r0 66 y.toNatClampNeg) ∨ (y = x ∧ el)) ∧ (0 ≤ ar r0 67 y.toNatClampNeg → ar r 68 (rh (ar r0 67 y.toNatClampNeg)).toNatClampNeg = fi r0 29 ∨ (∃ k : Int32, 0 ≤ k ∧ k < v ∧ ar r 72 k.toNatClampNeg = ar r0 67 y.toNatClampNeg) ∨ (y = x ∧ er))) ∧ (ar r 68 (rh t).toNatClampNeg = fi r0 29 ∨ ∃ k : Int32, 0 ≤ k ∧ k < v ∧ ar r 72 k.toNatClampNeg = t) ∧ (∀ A : Int32 → Prop, Cld r0 A → A t → (∀ y : Int32, 0 ≤ y → y < fi r0 28 → ar r 68 y.toNatClampNeg = fi r0 29 → ¬ ar r0 68 y.toNatClampNeg = fi r0 29 → A y) ∧ ∀ k : Int32, 0 ≤ k → k < v → A (ar r 72 k.toNatClampNeg)) ∧ ((0 ≤ x ∧ x < fi r0 28) ∧ ar r 68 x.toNatClampNeg = fi r0 29 ∧ ¬ ar r0 68 x.toNatClampNeg = fi r0 29)
theorem RX_skipL {r0 : S_} {t v x : Int32} {er : Prop} {d : Int} (w : RX a r0 r rh t v x True er (d + 1)) (h : ¬ 0 ≤ ar r0 66 x.toNatClampNeg) (hd : 0 ≤ d) : RX a r0 r rh t v x False er d := by
  obtain ⟨w1, ⟨w21, w22⟩, w3, w4, w5, w6, w7, w8, w9, w10⟩ := w
  refine ⟨w1, ⟨w21, by omega⟩, w3, w4, w5, w6, fun y y1 y2 y3 y4 => ⟨fun g => ?_, (w7 y y1 y2 y3 y4).2⟩, w8, w9, w10⟩
  rcases (w7 y y1 y2 y3 y4).1 g with b | b | ⟨b, -⟩
  · exact Or.inl b
  · exact Or.inr (Or.inl b)
  · rw [b] at g; exact absurd g h
theorem RX_pushL {r0 : S_} {t v x : Int32} {er : Prop} {d : Int} (w0 : MI a r0 rh ta N) (w : RX a r0 r rh t v x True er (d + 1)) (h : 0 ≤ ar r0 66 x.toNatClampNeg) (hd : 0 ≤ d) : RX a r0 (sA r 72 (upd (ar r 72) v.toNatClampNeg (ar r0 66 x.toNatClampNeg))) rh t (v + 1) x False er d ∧ (v + 1).toInt = v.toInt + 1 ∧ vp_in v (ln a 72) := by
  obtain ⟨w1, ⟨w21, w22⟩, w3, w4, w5, w6, w7, w8, w9, w10⟩ := w
  have l72 : ln a 72 = 200000 := ml w0.1 (by decide) (by decide) rfl
  have cl := cM_le (q := r) (mk := fi r0 29) w0.2.2.1.1
  have c4 := w0.2.2.1.2
  have v1 : (v + 1).toInt = v.toInt + 1 := i_add (by simp; omega) (by simp; omega)
  have v0 : 0 ≤ v := by rw [il]; simpa using w21
  have nb := w0.2.2.2.1 x w10.1.1 w10.1.2
  have rd : ∀ k : Int32, 0 ≤ k → upd (ar r 72) v.toNatClampNeg (ar r0 66 x.toNatClampNeg) k.toNatClampNeg = if k = v then ar r0 66 x.toNatClampNeg else ar r 72 k.toNatClampNeg := fun k k1 => updI _ _ v0 k1
  have lts : ∀ k : Int32, k < v + 1 → ¬ k = v → k < v := fun k k1 k2 => by
    rw [it, v1] at k1
    rw [ie] at k2
    rw [it]
    omega
  have ext : ∀ k : Int32, 0 ≤ k → k < v → k < v + 1 ∧ upd (ar r 72) v.toNatClampNeg (ar r0 66 x.toNatClampNeg) k.toNatClampNeg = ar r 72 k.toNatClampNeg := fun k k1 k2 => by
    refine ⟨by rw [it, v1]; rw [it] at k2; omega, ?_⟩
    rw [rd k k1, if_neg (fun e => by rw [e] at k2; exact irr k2)]
  have exk : ∀ y, (∃ k : Int32, 0 ≤ k ∧ k < v ∧ ar r 72 k.toNatClampNeg = y) → ∃ k : Int32, 0 ≤ k ∧ k < v + 1 ∧ upd (ar r 72) v.toNatClampNeg (ar r0 66 x.toNatClampNeg) k.toNatClampNeg = y := fun y ⟨k, k1, k2, k3⟩ => ⟨k, k1, (ext k k1 k2).1, (ext k k1 k2).2.trans k3⟩
  refine ⟨⟨Fr_trans w1 (Fr_sA (by decide)), ⟨by omega, by rw [v1]; show v.toInt + 1 + d + (cM r0 (fi r0 29) (fi r0 28) : Int) ≤ 1 + cM r (fi r0 29) (fi r0 28); omega⟩, fun k k1 k2 => ?_, w4, w5, w6, fun y y1 y2 y3 y4 => ⟨fun g => ?_, fun g => ?_⟩, ?_, fun A h1 h2 => ⟨(w9 A h1 h2).1, fun k k1 k2 => ?_⟩, w10⟩, v1, vi v0 (by rw [l72]; omega)⟩
  · rw [ar_sA, if_pos rfl, rd k k1]
    split
    · exact ⟨h, nb.2.2.1.2⟩
    · rename_i g
      exact w3 k k1 (lts k k2 g)
  · rcases (w7 y y1 y2 y3 y4).1 g with b | b | ⟨b, -⟩
    · exact Or.inl b
    · exact Or.inr (Or.inl (exk _ b))
    · refine Or.inr (Or.inl ⟨v, v0, by rw [it, v1]; omega, ?_⟩)
      rw [ar_sA, if_pos rfl, rd v v0, if_pos rfl, b]
  · rcases (w7 y y1 y2 y3 y4).2 g with b | b | b
    · exact Or.inl b
    · exact Or.inr (Or.inl (exk _ b))
    · exact Or.inr (Or.inr b)
  · rcases w8 with b | b
    · exact Or.inl b
    · exact Or.inr (exk _ b)
  · rw [ar_sA, if_pos rfl, rd k k1]
    split
    · exact (h1 x w10.1.1 w10.1.2 ((w9 A h1 h2).1 x w10.1.1 w10.1.2 w10.2.1 w10.2.2)).2.1 h
    · rename_i g
      exact (w9 A h1 h2).2 k k1 (lts k k2 g)
theorem RX_skipR {r0 : S_} {t v x : Int32} {d : Int} (w : RX a r0 r rh t v x False True (d + 1)) (h : ¬ 0 ≤ ar r0 67 x.toNatClampNeg) (hd : 0 ≤ d) : RJ a r0 r rh t v := by
  obtain ⟨w1, ⟨w21, w22⟩, w3, w4, w5, w6, w7, w8, w9, w10⟩ := w
  refine ⟨w1, ⟨w21, by omega⟩, w3, w4, w5, w6, fun y y1 y2 y3 y4 => ⟨fun g => ?_, fun g => ?_⟩, w8, w9⟩
  · rcases (w7 y y1 y2 y3 y4).1 g with b | b | ⟨-, b⟩
    · exact Or.inl b
    · exact Or.inr b
    · exact b.elim
  · rcases (w7 y y1 y2 y3 y4).2 g with b | b | ⟨b, -⟩
    · exact Or.inl b
    · exact Or.inr b
    · rw [b] at g; exact absurd g h
theorem RX_pushR {r0 : S_} {t v x : Int32} {d : Int} (w0 : MI a r0 rh ta N) (w : RX a r0 r rh t v x False True (d + 1)) (h : 0 ≤ ar r0 67 x.toNatClampNeg) (hd : 0 ≤ d) : RJ a r0 (sA r 72 (upd (ar r 72) v.toNatClampNeg (ar r0 67 x.toNatClampNeg))) rh t (v + 1) ∧ (v + 1).toInt = v.toInt + 1 ∧ vp_in v (ln a 72) := by
  obtain ⟨w1, ⟨w21, w22⟩, w3, w4, w5, w6, w7, w8, w9, w10⟩ := w
  have l72 : ln a 72 = 200000 := ml w0.1 (by decide) (by decide) rfl
  have cl := cM_le (q := r) (mk := fi r0 29) w0.2.2.1.1
  have c4 := w0.2.2.1.2
  have v1 : (v + 1).toInt = v.toInt + 1 := i_add (by simp; omega) (by simp; omega)
  have v0 : 0 ≤ v := by rw [il]; simpa using w21
  have nb := w0.2.2.2.1 x w10.1.1 w10.1.2
  have rd : ∀ k : Int32, 0 ≤ k → upd (ar r 72) v.toNatClampNeg (ar r0 67 x.toNatClampNeg) k.toNatClampNeg = if k = v then ar r0 67 x.toNatClampNeg else ar r 72 k.toNatClampNeg := fun k k1 => updI _ _ v0 k1
  have lts : ∀ k : Int32, k < v + 1 → ¬ k = v → k < v := fun k k1 k2 => by
    rw [it, v1] at k1
    rw [ie] at k2
    rw [it]
    omega
  have exk : ∀ y, (∃ k : Int32, 0 ≤ k ∧ k < v ∧ ar r 72 k.toNatClampNeg = y) → ∃ k : Int32, 0 ≤ k ∧ k < v + 1 ∧ upd (ar r 72) v.toNatClampNeg (ar r0 67 x.toNatClampNeg) k.toNatClampNeg = y := fun y ⟨k, k1, k2, k3⟩ => ⟨k, k1, by rw [it, v1]; rw [it] at k2; omega, by rw [rd k k1, if_neg (fun e => by rw [e] at k2; exact irr k2)]; exact k3⟩
  refine ⟨⟨Fr_trans w1 (Fr_sA (by decide)), ⟨by omega, by rw [v1]; show v.toInt + 1 + (cM r0 (fi r0 29) (fi r0 28) : Int) ≤ 1 + cM r (fi r0 29) (fi r0 28); omega⟩, fun k k1 k2 => ?_, w4, w5, w6, fun y y1 y2 y3 y4 => ⟨fun g => ?_, fun g => ?_⟩, ?_, fun A h1 h2 => ⟨(w9 A h1 h2).1, fun k k1 k2 => ?_⟩⟩, v1, vi v0 (by rw [l72]; omega)⟩
  · rw [ar_sA, if_pos rfl, rd k k1]
    split
    · exact ⟨h, nb.2.2.2.1.2⟩
    · rename_i g
      exact w3 k k1 (lts k k2 g)
  · rcases (w7 y y1 y2 y3 y4).1 g with b | b | ⟨-, b⟩
    · exact Or.inl b
    · exact Or.inr (exk _ b)
    · exact b.elim
  · rcases (w7 y y1 y2 y3 y4).2 g with b | b | ⟨b, -⟩
    · exact Or.inl b
    · exact Or.inr (exk _ b)
    · refine Or.inr ⟨v, v0, by rw [it, v1]; omega, ?_⟩
      rw [ar_sA, if_pos rfl, rd v v0, if_pos rfl, b]
  · rcases w8 with b | b
    · exact Or.inl b
    · exact Or.inr (exk _ b)
  · rw [ar_sA, if_pos rfl, rd k k1]
    split
    · exact (h1 x w10.1.1 w10.1.2 ((w9 A h1 h2).1 x w10.1.1 w10.1.2 w10.2.1 w10.2.2)).2.2 h
    · rename_i g
      exact (w9 A h1 h2).2 k k1 (lts k k2 g)
end REACH2
