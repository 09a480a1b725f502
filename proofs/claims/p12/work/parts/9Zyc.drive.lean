/-! The reference: needs driven down, the loops. -/
section DRIVE2
variable {a : L_} {r : S_} {rh ta : Int32 → Int32} {N : Int32}
/-- what driving comes to -/
def DP (r r' : S_) : Prop := Fr [29, 30, 33] [68, 70, 71, 72, 73] r r' ∧ fi r' 29 = fi r 29 + 1 ∧ (∀ x : Int32, vt r x → ar r' 68 x.toNatClampNeg = ar r 68 x.toNatClampNeg ∨ ar r' 68 x.toNatClampNeg = fi r 29 + 1) ∧ (0 ≤ fi r' 30 ∧ fi r' 30 ≤ fi r 28) ∧ (∀ i, i < (fi r' 30).toNatClampNeg → vt r (ar r' 73 i)) ∧ DJ (ar r' 73) (fi r' 30).toNatClampNeg ∧ ND r'
theorem drive_L77 {r0 : S_} {W : Int} (w : MI a r0 rh ta N) (h23 : 0 ≤ fi r0 23 ∧ fi r0 23 ≤ 8) (hw : W2 r0) (hW : W ≤ 200000) {KX : S_ → Prop} (hK : ∀ (r : S_) (v : Int32), DV r0 r v W → KX r) : ∀ (n : Nat) (r : S_) (v : Int32), DV r0 r v W → v.toInt + 2 * (pot r (fi r0 28) : Int) < n → qM_drive_L77 a KX n r v := by
  intro n
  induction n with
  | zero =>
    intro r v h hn
    have := h.2.2.2.2.2.1
    omega
  | succ n ih =>
    intro r v h hn
    have h' := h
    obtain ⟨F, h2, h3, h4, h5, h60, h6⟩ := h
    rw [qM_drive_L77, F.1 29 (by decide)]
    refine ⟨fun _ => hK r v h', fun g => ?_⟩
    have hv : 0 < v.toInt := by
      have g3 : 0 < v := Int32.not_le.mp g
      rw [it] at g3
      simpa using g3
    have d1 : (v + -1).toInt = v.toInt - 1 := by
      rw [i_add (by simp; omega) (by simp; omega)]
      simp
      omega
    have d0 : 0 ≤ v + -1 := by rw [il, d1]; simp; omega
    have v0 : 0 ≤ v := by rw [il]; simp; omega
    have dn : (v + -1).toNatClampNeg < v.toNatClampNeg := by
      have e1 := i_nat d0
      have e2 := i_nat v0
      omega
    obtain ⟨x, ex⟩ : ∃ x, x = ar r 72 (v + -1).toNatClampNeg := ⟨_, rfl⟩
    have vx : vt r0 x := by rw [ex]; exact h2 _ dn
    rw [← ex]
    have t68 : vp_in x (ln a 68) := tin w vx.1 vx.2 (by decide) (by decide) rfl
    have wk : ∀ i, i < (v + -1).toNatClampNeg → vt r0 (ar r 72 i) := fun i hi => h2 i (by omega)
    refine ⟨vi d0 (by rw [ml (n := 200000) w.1 (by decide) (by decide) rfl]; omega), t68, fun _ => ?_, fun gm => ⟨t68, fun r56 e56 => ?_⟩⟩
    · exact drive_J134 w h23 hw hW vx ih ⟨F, wk, h3, h4, h5, by omega, by omega⟩ (by omega)
    · subst e56
      have lt28 : (fi r 30).toInt < (fi r0 28).toInt := by
        have k := DJ_le (f := fun i => if i = (fi r 30).toNatClampNeg then x else ar r 73 i) (c := (fi r 30).toNatClampNeg + 1) (m := fi r0 28) w.2.2.1.1 (fun i j hi hj hij => ?_) (fun i hi => ?_)
        · have e1 := i_nat h4.1
          have e2 := i_nat w.2.2.1.1
          omega
        · have ne : ∀ i, i < (fi r 30).toNatClampNeg → ¬ ar r 73 i = x := fun i hi e => gm (by rw [← e]; exact (h4.2.1 i hi).2)
          have hij' : (if i = (fi r 30).toNatClampNeg then x else ar r 73 i) = (if j = (fi r 30).toNatClampNeg then x else ar r 73 j) := hij
          by_cases ei : i = (fi r 30).toNatClampNeg
          · by_cases ej : j = (fi r 30).toNatClampNeg
            · omega
            · rw [if_pos ei, if_neg ej] at hij'
              exact absurd hij'.symm (ne j (by omega))
          · by_cases ej : j = (fi r 30).toNatClampNeg
            · rw [if_neg ei, if_pos ej] at hij'
              exact absurd hij' (ne i (by omega))
            · rw [if_neg ei, if_neg ej] at hij'
              exact h4.2.2 i j (by omega) (by omega) hij'
        · show 0 ≤ (if i = (fi r 30).toNatClampNeg then x else ar r 73 i) ∧ (if i = (fi r 30).toNatClampNeg then x else ar r 73 i) < fi r0 28
          by_cases ei : i = (fi r 30).toNatClampNeg
          · rw [if_pos ei]; exact vx
          · rw [if_neg ei]; exact (h4.2.1 i (by omega)).1
      have c28 := w.2.2.1.2
      have n1 : (fi r 30 + 1).toInt = (fi r 30).toInt + 1 := i_inc (y := fi r0 28) (by rw [it]; exact lt28)
      have n0 : 0 ≤ fi r 30 + 1 := by
        have f := h4.1
        rw [il] at f ⊢
        rw [n1]
        simp at f ⊢
        omega
      have nn : (fi r 30 + 1).toNatClampNeg = (fi r 30).toNatClampNeg + 1 := by
        have e1 := i_nat h4.1
        have e2 := i_nat n0
        omega
      refine ⟨vi h4.1 (by rw [ml (n := 40000) w.1 (by decide) (by decide) rfl]; show (fi r 30).toInt < _; omega), fun r58 e58 => ?_⟩
      subst e58
      intro r59 e59
      have f30 : fi r59 30 = fi r 30 + 1 := by rw [e59]; rfl
      have a73 : ar r59 73 = upd (ar r 73) (fi r 30).toNatClampNeg x := by rw [e59]; rfl
      have a68 : ar r59 68 = upd (ar r 68) x.toNatClampNeg (fi r0 29) := by rw [e59]; rfl
      have a71 : ar r59 71 = ar r 71 := by rw [e59]; rfl
      have a70 : ar r59 70 = ar r 70 := by rw [e59]; rfl
      have a72 : ar r59 72 = ar r 72 := by rw [e59]; rfl
      have ep : pot r59 (fi r0 28) = pot r (fi r0 28) := by unfold pot; rw [a71]
      refine drive_J134 w h23 hw hW vx ih ⟨?_, by rw [a72]; exact wk, fun y hy => ?_, ⟨by rw [f30]; exact n0, fun i hi => ?_, fun i j hi hj hij => ?_⟩, by rw [a71, a70]; exact h5, by omega, by rw [ep]; omega⟩ (by rw [ep]; omega)
      · rw [e59]
        exact Fr_trans F (Fr_trans (Fr_sA (by decide)) (Fr_trans (Fr_sA (by decide)) (Fr_sF (by decide))))
      · rw [a68, updI _ _ vx.1 hy.1]
        split
        · exact Or.inr rfl
        · exact h3 y hy
      · rw [a73]
        rw [f30, nn] at hi
        by_cases e : i = (fi r 30).toNatClampNeg
        · rw [e, pk_us, a68, pk_us]
          exact ⟨vx, rfl⟩
        · rw [pk_un e]
          have k := h4.2.1 i (by omega)
          refine ⟨k.1, ?_⟩
          rw [a68, updI _ _ vx.1 k.1.1]
          split
          · rfl
          · exact k.2
      · rw [a73] at hij
        rw [f30, nn] at hi hj
        have ne : ∀ i, i < (fi r 30).toNatClampNeg → ¬ ar r 73 i = x := fun i hi e => gm (by rw [← e]; exact (h4.2.1 i hi).2)
        by_cases ei : i = (fi r 30).toNatClampNeg
        · by_cases ej : j = (fi r 30).toNatClampNeg
          · omega
          · rw [ei, pk_us, pk_un ej] at hij
            exact absurd hij.symm (ne j (by omega))
        · by_cases ej : j = (fi r 30).toNatClampNeg
          · rw [ej, pk_us, pk_un ei] at hij
            exact absurd hij (ne i (by omega))
          · rw [pk_un ei, pk_un ej] at hij
            exact h4.2.2 i j (by omega) (by omega) hij
theorem drive_L19 {r0 : S_} {W : Int} (w : MI a r0 rh ta N) (hW : W ≤ 200000) (w31 : (fi r0 31).toInt ≤ 20000) (hv : ∀ i, i < (fi r0 31).toNatClampNeg → vt r0 (ar r0 75 i)) {KX : S_ → Int32 → Prop} (hK : ∀ (r : S_) (v : Int32), DV r0 r v W → KX r v) : ∀ (n : Nat) (r : S_) (v2 v3 : Int32), DV r0 r v2 (W - ((fi r0 31).toInt - v3.toInt)) → 0 ≤ v3 → v3 ≤ fi r0 31 → (fi r0 31).toInt - v3.toInt < n → qM_drive_L19 a KX n r v2 v3 := by
  intro n
  induction n with
  | zero =>
    intro r v2 v3 _ _ h1 h
    rw [il] at h1
    omega
  | succ n ih =>
    intro r v2 v3 h h0 h1 hn
    have h' := h
    obtain ⟨F, h2, h3, h4, h5, h60, h6⟩ := h
    rw [qM_drive_L19, F.1 31 (by decide), F.2.1 75 (by decide), F.2.1 76 (by decide)]
    refine ⟨fun g => hK r v2 ⟨F, h2, h3, h4, h5, h60, ?_⟩, fun g => ?_⟩
    · rw [il] at h1
      omega
    · have g' := Int32.not_le.mp g
      obtain ⟨q1, q2, q3⟩ := inc_le h0 g'
      have vy := hv _ (nl h0 g')
      have w1 : MI a r rh ta N := MI_Fr w F (by decide) (by decide)
      have vr := (w.2.2.2.2.1.2 _ vy.1 vy.2).1
      have i20 : ∀ k, 36 ≤ k → k < 89 → ln0 k = 20000 → vp_in v3 (ln a k) := fun k k1 k2 k3 => vi2 h0 g' (by rw [ml w.1 k1 k2 k3]; exact w31)
      refine ⟨i20 75 (by decide) (by decide) rfl, find_ok w1 vy.1 (by rw [F.1 28 (by decide)]; exact vy.2) ⟨tin w vr.1 vr.2 (by decide) (by decide) rfl, i20 76 (by decide) (by decide) rfl, tin w vr.1 vr.2 (by decide) (by decide) rfl, fun r9 e9 => ?_⟩⟩
      rw [it] at g'
      have h'' : DV r0 r v2 (W - ((fi r0 31).toInt - (v3 + 1).toInt) - 1) := ⟨F, h2, h3, h4, h5, h60, by omega⟩
      obtain ⟨P1, P2, P3, P4⟩ := DV_push (a := a) (b := ar r0 76 v3.toNatClampNeg) h'' vr (by rw [il] at q2; omega) w.1
      refine ⟨P2, fun r11 e11 => ?_⟩
      have e11' : r11 = sA (sA r 70 (upd (ar r 70) (rh (ar r0 75 v3.toNatClampNeg)).toNatClampNeg (ar r 70 (rh (ar r0 75 v3.toNatClampNeg)).toNatClampNeg ||| ar r0 76 v3.toNatClampNeg))) 72 (upd (ar r 72) v2.toNatClampNeg (rh (ar r0 75 v3.toNatClampNeg))) := by rw [e11, e9]; rfl
      rw [e11']
      exact ih _ _ _ P1 q1 q2 (by omega)
theorem drive_ok (w : MI a r rh ta N) (h23 : 0 ≤ fi r 23 ∧ fi r 23 ≤ 8) (hw : W2 r) (h28 : (fi r 28).toInt ≤ 20000) (w0 : 0 ≤ fi r 31) (w31 : (fi r 31).toInt ≤ 20000) (hv : ∀ i, i < (fi r 31).toNatClampNeg → vt r (ar r 75 i)) (nd : ND r) {p : Int32} (p0 : 0 ≤ p) (p1 : p ≤ fi r 31) {K : S_ → Prop} (hK : ∀ r', DP r r' → K r') : qM_drive a K r p := by
  unfold qM_drive
  intro r1 e1 r2 e2
  have F2 : Fr [29, 30] [] r r2 := by rw [e2, e1]; exact Fr_trans (Fr_sF (by decide)) (Fr_sF (by decide))
  have f29 : fi r2 29 = fi r 29 + 1 := by rw [e2, e1]; rfl
  have f30 : fi r2 30 = 0 := by rw [e2, e1]; rfl
  have f28 : fi r2 28 = fi r 28 := F2.1 28 (by decide)
  have f31 : fi r2 31 = fi r 31 := F2.1 31 (by decide)
  have f23 : fi r2 23 = fi r 23 := F2.1 23 (by decide)
  have aE : ∀ k, ar r2 k = ar r k := fun k => F2.2.1 k List.not_mem_nil
  have w2 : MI a r2 rh ta N := MI_Fr w F2 (by decide) (by decide)
  have pl : pot r2 (fi r2 28) ≤ 160000 := by
    have k : pot r2 (fi r2 28) ≤ 8 * (fi r2 28).toNatClampNeg := cnt_le _ _
    have e := i_nat w2.2.2.1.1
    rw [f28] at e k ⊢
    omega
  have vE : ∀ x, vt r2 x ↔ vt r x := fun x => by unfold vt; rw [f28]
  have fin : ∀ (r' : S_) (v : Int32), DV r2 r' v 190000 → K r' := fun r' v h => by
    obtain ⟨F, h2, h3, h4, h5, h60, h6⟩ := h
    refine hK r' ⟨Fr_trans (Fr_mono F2 (fun k hk => ?_) (fun k hk => absurd hk List.not_mem_nil)) (Fr_mono F (fun k hk => ?_) (fun k hk => hk)), ?_, fun x hx => ?_, ⟨h4.1, ?_⟩, fun i hi => (vE _).mp (h4.2.1 i hi).1, h4.2.2, fun x hx => ?_⟩
    · simp at hk ⊢; omega
    · simp at hk ⊢; omega
    · rw [F.1 29 (by decide), f29]
    · have k := h3 x ((vE x).mpr hx)
      rw [aE, f29] at k
      exact k
    · have k := DJ_le (m := fi r2 28) w2.2.2.1.1 h4.2.2 (fun i hi => (h4.2.1 i hi).1)
      rw [f28] at k
      have e1 := i_nat h4.1
      have e2 := i_nat w.2.2.1.1
      rw [il]
      omega
    · refine h5 x ?_
      unfold vt at hx ⊢
      rw [F.1 28 (by decide)] at hx
      exact hx
  have l31 : (fi r2 31).toInt - p.toInt ≤ 20000 := by
    rw [f31]
    rw [il] at p0
    simp at p0
    omega
  refine ⟨(fi r2 31).toInt.toNat + 1, drive_L19 (W := 190000) w2 (by decide) (by rw [f31]; exact w31) (fun i hi => ?_) (fun r' v h => ⟨(v.toInt + 2 * (pot r' (fi r2 28) : Int)).toNat + 1, drive_L77 w2 (by rw [f23]; exact h23) (by unfold W2; rw [aE, aE, aE]; exact hw) (by decide) fin _ r' v h (by have := h.2.2.2.2.2.1; omega)⟩) _ r2 0 p ⟨Fr_refl _, fun i hi => absurd hi (Nat.not_lt_zero _), fun x _ => Or.inl rfl, ⟨by rw [f30]; decide, fun i hi => ?_, fun i j hi => ?_⟩, fun x hx => ?_, by decide, ?_⟩ p0 (by rw [f31]; exact p1) ?_⟩
  · rw [f31] at hi
    rw [aE]
    exact (vE _).mpr (hv i hi)
  · rw [f30] at hi
    exact absurd hi (Nat.not_lt_zero _)
  · rw [f30] at hi
    exact absurd hi (Nat.not_lt_zero _)
  · rw [aE, aE]
    exact nd x ((vE x).mp hx)
  · show (0 : Int) + _ ≤ _
    omega
  · rw [il] at p0 w0
    have e0 : (0 : Int32).toInt = 0 := rfl
    rw [f31]
    omega
end DRIVE2
