/-! The reference: generalising. -/
section GENER
variable {a : L_} {r : S_} {rh ta : Int32 → Int32} {N : Int32}
theorem gen_L98 {r0 : S_} {v1 v2 : Int32} {l0 : List Int32} (hM : ML a) (h28 : (fi r0 28).toInt ≤ 40000) (h84 : ∀ i, i < (fi r0 40).toNatClampNeg → vt r0 (ar r0 84 i)) (dj : DJ (ar r0 84) (fi r0 40).toNatClampNeg) (f0 : 0 ≤ fi r0 40) (f40 : (fi r0 40).toInt ≤ 40000) (w0 : 0 ≤ fi r0 31) (w1 : (fi r0 31).toInt + 1510 ≤ 20000) (hs : ∀ i, i < (fi r0 40).toNatClampNeg → ar r0 68 (ar r0 84 i).toNatClampNeg = v2 → ar r0 84 i ∈ l0) (hl : l0.length ≤ 1510) {KX : S_ → Int32 → Prop} (hK : ∀ r, Fr [31] [75, 76, 85] r0 r → (fi r0 31 ≤ fi r 31 ∧ (fi r 31).toInt ≤ (fi r0 31).toInt + 1510) → (∀ i, i < (fi r 31).toNatClampNeg → vt r0 (ar r 75 i)) → KX r v1) : ∀ (n : Nat) (r : S_) (v3 : Int32), Fr [31] [75, 76, 85] r0 r → (fi r 31).toInt = (fi r0 31).toInt + cnt (fun i => decide (ar r0 68 (ar r0 84 i).toNatClampNeg = v2)) v3.toNatClampNeg → (∀ i, i < (fi r 31).toNatClampNeg → vt r0 (ar r 75 i)) → 0 ≤ v3 → v3 ≤ fi r0 40 → (fi r0 40).toInt - v3.toInt < n → qM_generalise_L98 a KX n r v1 v2 v3 := by
  have cl : ∀ v : Int32, 0 ≤ v → v ≤ fi r0 40 → cnt (fun i => decide (ar r0 68 (ar r0 84 i).toNatClampNeg = v2)) v.toNatClampNeg ≤ 1510 := fun v v0 v1 => by
    have e1 := i_nat v0
    have e2 := i_nat f0
    rw [il] at v1
    refine Nat.le_trans (cnt_pig (f := ar r0 84) v.toNatClampNeg l0 (fun i hi h => hs i (by omega) (by simpa using h)) (fun i j hi hj => dj i j (by omega) (by omega))) hl
  intro n
  induction n with
  | zero =>
    intro r v3 _ _ _ _ h1 h
    rw [il] at h1
    omega
  | succ n ih =>
    intro r v3 F hw hv h0 h1 h
    have c3 := cl v3 h0 h1
    have w0' := w0
    rw [il] at w0'
    simp at w0'
    have e84 : ar r 84 = ar r0 84 := F.2.1 84 (by decide)
    have e68 : ar r 68 = ar r0 68 := F.2.1 68 (by decide)
    have r31 : 0 ≤ fi r 31 := by rw [il, hw]; simp; omega
    rw [qM_generalise_L98, F.1 40 (by decide), e84, e68]
    refine ⟨fun _ => hK r F ⟨by rw [il, hw]; omega, by omega⟩ hv, fun g => ?_⟩
    have g' := Int32.not_le.mp g
    obtain ⟨q1, q2, q3⟩ := inc_le h0 g'
    have vn := nl h0 g'
    have vx := h84 _ vn
    have sv : (v3 + 1).toNatClampNeg = v3.toNatClampNeg + 1 := by
      have e1 := i_nat h0
      have e2 := i_nat q1
      omega
    have i40 : ∀ k, 36 ≤ k → k < 89 → ln0 k = 40000 → vp_in v3 (ln a k) := fun k k1 k2 k3 => vi2 h0 g' (by rw [ml hM k1 k2 k3]; exact f40)
    unfold qM_generalise_J144
    refine ⟨i40 84 (by decide) (by decide) rfl, vi2 vx.1 vx.2 (by rw [ml (n := 40000) hM (by decide) (by decide) rfl]; exact h28), fun gm => ?_, fun gm => ⟨i40 84 (by decide) (by decide) rfl, i40 85 (by decide) (by decide) rfl, ?_⟩⟩
    · refine ih r (v3 + 1) F ?_ hv q1 q2 (by omega)
      rw [sv, cnt, if_neg (by simpa using gm), hw]
      omega
    · have c4 := cl (v3 + 1) q1 q2
      rw [sv, cnt, if_pos (by simpa using gm)] at c4
      refine addWant_ok hM r31 (by omega) ⟨i40 85 (by decide) (by decide) rfl, fun r25 e25 => ?_⟩
      have n1 : (fi r 31 + 1).toInt = (fi r 31).toInt + 1 := i_inc (y := 20000) (by rw [it]; simp; omega)
      have n0 : 0 ≤ fi r 31 + 1 := by rw [il, n1]; simp; omega
      have nn : (fi r 31 + 1).toNatClampNeg = (fi r 31).toNatClampNeg + 1 := by
        have e1 := i_nat r31
        have e2 := i_nat n0
        omega
      have f25 : fi r25 31 = fi r 31 + 1 := by rw [e25]; rfl
      have a25 : ar r25 75 = upd (ar r 75) (fi r 31).toNatClampNeg (ar r0 84 v3.toNatClampNeg) := by rw [e25]; rfl
      refine ih r25 (v3 + 1) ?_ ?_ (fun i hi => ?_) q1 q2 (by omega)
      · rw [e25]
        unfold aw
        exact Fr_trans F (Fr_trans (Fr_sA (by decide)) (Fr_trans (Fr_sA (by decide)) (Fr_trans (Fr_sF (by decide)) (Fr_sA (by decide)))))
      · rw [f25, n1, sv, cnt, if_pos (by simpa using gm), hw]
        omega
      · rw [a25]
        rw [f25, nn] at hi
        by_cases e : i = (fi r 31).toNatClampNeg
        · rw [e, pk_us]; exact vx
        · rw [pk_un e]; exact hv i (by omega)
theorem gen_L187 {rI r0 : S_} {v1 : Int32} {l0 : List Int32} (hM : ML a) (kq : KQ rI) (k0 : 0 ≤ fi rI 2) (k8 : fi rI 2 ≤ 8) (e41 : ar r0 41 = ar rI 6) (e23 : fi r0 23 = fi rI 2) (h28 : (fi r0 28).toInt ≤ 40000) (h84 : ∀ i, i < (fi r0 40).toNatClampNeg → vt r0 (ar r0 84 i)) (dj : DJ (ar r0 84) (fi r0 40).toNatClampNeg) (f0 : 0 ≤ fi r0 40) (f40 : (fi r0 40).toInt ≤ 40000) (w0 : 0 ≤ fi r0 27) (w1 : (fi r0 27).toInt + 1510 ≤ 20000) (hs : ∀ i, i < (fi r0 40).toNatClampNeg → ar r0 68 (ar r0 84 i).toNatClampNeg = fi r0 29 → ar r0 84 i ∈ l0) (hl : l0.length ≤ 1510) {KX : S_ → Int32 → Prop} (hK : ∀ r, Fr [27, 34] [62, 63] r0 r → (fi r0 27 ≤ fi r 27 ∧ (fi r 27).toInt ≤ (fi r0 27).toInt + 1510) → (∀ i, i < (fi r0 27).toNatClampNeg → ar r 62 i = ar r0 62 i) → (∀ i, (fi r0 27).toNatClampNeg ≤ i → i < (fi r 27).toNatClampNeg → vt r0 (ar r 62 i)) → KX r v1) : ∀ (n : Nat) (r : S_) (v3 : Int32), Fr [27, 34] [62, 63] r0 r → (fi r0 27 ≤ fi r 27 ∧ (fi r 27).toInt ≤ (fi r0 27).toInt + cnt (fun i => decide (ar r0 68 (ar r0 84 i).toNatClampNeg = fi r0 29)) v3.toNatClampNeg) → (∀ i, i < (fi r0 27).toNatClampNeg → ar r 62 i = ar r0 62 i) → (∀ i, (fi r0 27).toNatClampNeg ≤ i → i < (fi r 27).toNatClampNeg → vt r0 (ar r 62 i)) → 0 ≤ v3 → v3 ≤ fi r0 40 → (fi r0 40).toInt - v3.toInt < n → qM_generalise_L187 a KX n r v1 v3 := by
  have cl : ∀ v : Int32, 0 ≤ v → v ≤ fi r0 40 → cnt (fun i => decide (ar r0 68 (ar r0 84 i).toNatClampNeg = fi r0 29)) v.toNatClampNeg ≤ 1510 := fun v v0 v1 => by
    have e1 := i_nat v0
    have e2 := i_nat f0
    rw [il] at v1
    refine Nat.le_trans (cnt_pig (f := ar r0 84) v.toNatClampNeg l0 (fun i hi h => hs i (by omega) (by simpa using h)) (fun i j hi hj => dj i j (by omega) (by omega))) hl
  intro n
  induction n with
  | zero =>
    intro r v3 _ _ _ _ _ h1 h
    rw [il] at h1
    omega
  | succ n ih =>
    intro r v3 F hw ho hv h0 h1 h
    have c3 := cl v3 h0 h1
    have w0' := w0
    rw [il] at w0'
    simp at w0'
    have hw1 := hw.1
    rw [il] at hw1
    have e84 : ar r 84 = ar r0 84 := F.2.1 84 (by decide)
    have e68 : ar r 68 = ar r0 68 := F.2.1 68 (by decide)
    have e29 : fi r 29 = fi r0 29 := F.1 29 (by decide)
    have r27 : 0 ≤ fi r 27 := by rw [il]; simp; omega
    rw [qM_generalise_L187, F.1 40 (by decide), e84, e68, e29]
    refine ⟨fun _ => hK r F ⟨hw.1, by omega⟩ ho hv, fun g => ?_⟩
    have g' := Int32.not_le.mp g
    obtain ⟨q1, q2, q3⟩ := inc_le h0 g'
    have vn := nl h0 g'
    have vx := h84 _ vn
    have sv : (v3 + 1).toNatClampNeg = v3.toNatClampNeg + 1 := by
      have e1 := i_nat h0
      have e2 := i_nat q1
      omega
    have i40 : ∀ k, 36 ≤ k → k < 89 → ln0 k = 40000 → vp_in v3 (ln a k) := fun k k1 k2 k3 => vi2 h0 g' (by rw [ml hM k1 k2 k3]; exact f40)
    have mono : cnt (fun i => decide (ar r0 68 (ar r0 84 i).toNatClampNeg = fi r0 29)) v3.toNatClampNeg ≤ cnt (fun i => decide (ar r0 68 (ar r0 84 i).toNatClampNeg = fi r0 29)) (v3 + 1).toNatClampNeg := by
      rw [sv, cnt]
      omega
    have hw2 := hw.2
    have j291 : ∀ u0 : Int32, zb u0 → qM_generalise_J291 a (qM_generalise_L187 a KX n) KX r v1 v3 u0 := fun u0 hu => by
      unfold qM_generalise_J291 qM_generalise_J294
      refine ⟨hu, fun r36 e36 => ?_⟩
      rw [e36]
      exact ih _ _ (Fr_trans F (Fr_sF (by decide))) ⟨hw.1, by show (fi r 27).toInt ≤ _; omega⟩ ho hv q1 q2 (by omega)
    have j269 : qM_generalise_J269 a (qM_generalise_L187 a KX n) KX r v1 v3 := by
      unfold qM_generalise_J269 qM_generalise_J286
      exact ⟨fun _ => j291 1 zb1, fun _ => ⟨i40 85 (by decide) (by decide) rfl, fun _ => j291 0 zb0, fun _ => j291 1 zb1⟩⟩
    refine ⟨i40 85 (by decide) (by decide) rfl, fun _ => j269, fun _ => ⟨i40 84 (by decide) (by decide) rfl, vi2 vx.1 vx.2 (by rw [ml (n := 40000) hM (by decide) (by decide) rfl]; exact h28), fun _ => j269, fun gm => ⟨i40 84 (by decide) (by decide) rfl, ?_⟩⟩⟩
    have c4 := cl (v3 + 1) q1 q2
    rw [sv, cnt, if_pos (by simpa using gm)] at c4
    have i20 : ∀ k, 36 ≤ k → k < 89 → ln0 k = 20000 → vp_in (fi r 27) (ln a k) := fun k k1 k2 k3 => vi r27 (by rw [ml hM k1 k2 k3]; omega)
    refine ⟨i20 62 (by decide) (by decide) rfl, fun r45 e45 => ⟨i40 85 (by decide) (by decide) rfl, ?_⟩⟩
    have F45 : Fr [27, 34] [62, 63] r0 r45 := by rw [e45]; exact Fr_trans F (Fr_sA (by decide))
    refine least_ok (r0 := rI) hM kq k0 k8 ((F45.2.1 41 (by decide)).trans e41) ((F45.1 23 (by decide)).trans e23) (fun z47 => ?_)
    have f45 : fi r45 27 = fi r 27 := by rw [e45]; rfl
    rw [f45]
    refine ⟨i20 63 (by decide) (by decide) rfl, fun r49 e49 r50 e50 => ?_⟩
    have n1 : (fi r 27 + 1).toInt = (fi r 27).toInt + 1 := i_inc (y := 20000) (by rw [it]; simp; omega)
    have n0 : 0 ≤ fi r 27 + 1 := by rw [il, n1]; simp; omega
    have nn : (fi r 27 + 1).toNatClampNeg = (fi r 27).toNatClampNeg + 1 := by
      have e1 := i_nat r27
      have e2 := i_nat n0
      omega
    have f50 : fi r50 27 = fi r 27 + 1 := by rw [e50, e49, e45]; rfl
    have a50 : ar r50 62 = upd (ar r 62) (fi r 27).toNatClampNeg (ar r0 84 v3.toNatClampNeg) := by rw [e50, e49, e45]; rfl
    have no := i_nat w0
    have nr := i_nat r27
    unfold qM_generalise_J294
    refine ih r50 (v3 + 1) ?_ ⟨?_, ?_⟩ (fun i hi => ?_) (fun i hi1 hi2 => ?_) q1 q2 (by omega)
    · rw [e50, e49]
      exact Fr_trans F45 (Fr_trans (Fr_sA (by decide)) (Fr_sF (by decide)))
    · rw [f50, il, n1]; omega
    · rw [f50, n1, sv, cnt, if_pos (by simpa using gm)]
      omega
    · rw [a50, pk_un (by omega)]
      exact ho i hi
    · rw [a50]
      rw [f50, nn] at hi2
      by_cases e : i = (fi r 27).toNatClampNeg
      · rw [e, pk_us]; exact vx
      · rw [pk_un e]; exact hv i hi1 (by omega)
end GENER
