/-! The reference: infer is safe, and keeps what is between calls. -/
section MINFER
variable {a : L_} {r : S_} {rh ta : Int32 → Int32} {N : Int32} {l ad : Nat → Nat} {rI : S_}
theorem nFF {k : Nat} (h1 : k ≤ 25) (h2 : ¬ k = 20) : k ∉ FFl := fun z => by
  simp [FFl] at z
  omega
theorem nAA {k : Nat} (h : k ≤ 49 ∨ k = 86) : k ∉ AAl := fun z => by
  simp [AAl] at z
  omega
theorem INV_F (h : INV l rI) (F : Fr FFl AAl rI r) : INV l r := by
  refine INV_to h (fun k k1 k2 => F.1 k (nFF k1 k2)) (fun k hk => F.2.1 k (nAA hk)) F.2.2 ?_
  unfold LAST KND KN0 UVr NI
  rw [F.1 38 (by decide), F.1 37 (by decide), F.1 4 (by decide), F.1 1 (by decide), F.2.1 0 (by decide), F.2.1 1 (by decide), F.2.1 9 (by decide), F.2.1 10 (by decide), F.2.1 11 (by decide), F.2.1 12 (by decide), F.2.1 78 (by decide), F.2.1 79 (by decide), F.2.1 80 (by decide)]
  exact h.2.2.2.1
theorem inf_L128 {r0 : S_} (hM : ML a) (h28 : (fi r0 28).toInt ≤ 40000) (f0 : 0 ≤ fi r0 40) (f40 : (fi r0 40).toInt ≤ 40000) (hv : ∀ i, i < (fi r0 40).toNatClampNeg → vt r0 (ar r0 84 i)) {KX : S_ → Prop} (hK : ∀ r, Fr [34] [] r0 r → (fi r 34 = 0 → ∀ i, i < (fi r0 40).toNatClampNeg → ar r0 68 (ar r0 84 i).toNatClampNeg = fi r0 29) → KX r) : ∀ (n : Nat) (r : S_) (v : Int32), Fr [34] [] r0 r → (fi r 34 = 0 → ∀ i, i < v.toNatClampNeg → ar r0 68 (ar r0 84 i).toNatClampNeg = fi r0 29) → 0 ≤ v → v ≤ fi r0 40 → (fi r0 40).toInt - v.toInt < n → qM_infer_L128 a KX n r v := by
  intro n
  induction n with
  | zero =>
    intro r v _ _ _ h1 h
    rw [il] at h1
    omega
  | succ n ih =>
    intro r v F hq v0 h1 h
    have aE : ∀ k, ar r k = ar r0 k := fun k => F.2.1 k List.not_mem_nil
    rw [qM_infer_L128, F.1 40 (by decide), F.1 29 (by decide), aE 84, aE 68]
    refine ⟨fun g => hK r F ?_, fun g => ?_⟩
    · have e : v = fi r0 40 := by
        rw [il] at g h1
        rw [ie]
        omega
      rw [← e]
      exact hq
    · have g' := Int32.not_le.mp g
      obtain ⟨p1, p2, p3⟩ := inc_le v0 g'
      have vx := hv _ (nl v0 g')
      have sv : (v + 1).toNatClampNeg = v.toNatClampNeg + 1 := by
        have e1 := i_nat v0
        have e2 := i_nat p1
        omega
      have j167 : ∀ u0 : Int32, zb u0 → (u0 = 0 → fi r 34 = 0 ∧ ar r0 68 (ar r0 84 v.toNatClampNeg).toNatClampNeg = fi r0 29) → qM_infer_J167 a (qM_infer_L128 a KX n) KX r v u0 := fun u0 hu h0 => by
        unfold qM_infer_J167
        refine ⟨hu, fun r29 e29 => ?_⟩
        rw [e29]
        refine ih _ _ (Fr_trans F (Fr_sF (by decide))) (fun z i hi => ?_) p1 p2 (by omega)
        have z' : u0 = 0 := z
        have k := h0 z'
        rw [sv] at hi
        by_cases e : i = v.toNatClampNeg
        · rw [e]; exact k.2
        · exact hq k.1 i (by omega)
      unfold qM_infer_J162
      refine ⟨fun _ => j167 1 zb1 (fun z => absurd z (by decide)), fun g0 => ⟨vi2 v0 g' (by rw [ml (n := 40000) hM (by decide) (by decide) rfl]; exact f40), vi2 vx.1 vx.2 (by rw [ml (n := 40000) hM (by decide) (by decide) rfl]; exact h28), fun ge => j167 0 zb0 (fun _ => ⟨g0, ge⟩), fun _ => j167 1 zb1 (fun z => absurd z (by decide))⟩⟩
theorem minfer_tail {r18 : S_} {K : Int32 → S_ → Prop} (hI : INV l rI) (hK : ∀ z r', INV l r' → fi r' 13 = fi rI 13 → K z r') (h : TD2 ad l rI r18) : qM_needNoRing (ad, l) (fun r19 => (((fi r19 32) = 0) → qM_drive (ad, l) (fun r21 => qM_takeNeeds (ad, l) (fun r22 => ∀ r23 : S_, r23 = sF r22 30 0 → ∀ r24 : S_, r24 = sF r23 29 ((fi r23 29) + 1) → vp_in 0 (ln (ad, l) 55) ∧ qM_reach (ad, l) (fun r26 => ∃ n38 : Nat, qM_infer_L128 (ad, l) (fun r => (((fi r 33) = 0) → (((fi r 34) = 0) → qM_keep (ad, l) (fun r36 => vp_in (fi r36 37) (ln (ad, l) 80) ∧ K (ar r36 80 (fi r36 37).toNatClampNeg) r36) r) ∧ ((¬ (fi r 34) = 0) → K (-5) r)) ∧ ((¬ (fi r 33) = 0) → K (-4) r)) n38 r26 0) r24 (ar r24 55 ((0 : Int32)).toNatClampNeg)) r21) r19 0) ∧ ((¬ (fi r19 32) = 0) → K (-2) r19)) r18 := by
  obtain ⟨⟨rh, ta, N, q, cg⟩, f32, R, rn, cR, tR, vt0, b29⟩ := h
  obtain ⟨qF, w, q28, ⟨⟨q31, q31'⟩, q75⟩, q27, ⟨qm, qm0, qm1⟩, qnd⟩ := q
  have hM : ML (ad, l) := w.1
  have ret : ∀ z r', Fr FFl AAl rI r' → K z r' := fun z r' F => hK z r' (INV_F hI F) (F.1 13 (by decide))
  have htq := hI.2.1
  have hwq := hI.2.2.2.2.2.1
  have e23 : fi r18 23 = fi rI 2 := (qF.1 23 (by decide)).trans htq.2.2.1.1
  have k28 : 0 ≤ fi rI 2 ∧ fi rI 2 ≤ 8 := ⟨hI.1.2.2.2.1.2.1.1, hI.1.2.2.2.1.2.1.2.1⟩
  have hw2 : W2 r18 := by
    unfold W2
    rw [qF.2.1 43 (by decide), qF.2.1 44 (by decide), qF.2.1 36 (by decide)]
    exact fun c k c1 c2 k1 k2 => ⟨fun z => ((hwq.2 c k c1 c2 k1 k2).1 z).2, fun z => ((hwq.2 c k c1 c2 k1 k2).2.1 z).2⟩
  refine needNoRing_ok w (fun r19 F1 z1 _ => ⟨fun h0 => ?_, fun _ => ret _ _ (Fr_trans qF (Fr_mono F1 (by decide) (by decide)))⟩)
  have w1 : MI (ad, l) r19 rh ta N := MI_Fr w F1 (by decide) (by decide)
  have aE : ∀ k, ¬ k = 87 → ar r19 k = ar r18 k := fun k hk => F1.2.1 k (by simpa using hk)
  have fE : ∀ k, ¬ k = 32 → fi r19 k = fi r18 k := fun k hk => F1.1 k (by simpa using hk)
  refine drive_ok w1 (by rw [fE 23 (by decide), e23]; exact k28) (by unfold W2; rw [aE 43 (by decide), aE 44 (by decide), aE 36 (by decide)]; exact hw2) (by rw [fE 28 (by decide)]; exact q28) (by rw [fE 31 (by decide)]; exact q31) (by rw [fE 31 (by decide)]; exact q31') (fun i hi => ?_) (fun x hx => ?_) (Int32.le_refl _) (by rw [fE 31 (by decide)]; exact q31) (fun r21 D4 => ?_)
  · rw [fE 31 (by decide)] at hi
    rw [aE 75 (by decide)]
    exact (vt_eq (fE 28 (by decide))).mpr (q75 i hi)
  · rw [aE 70 (by decide), aE 71 (by decide)]
    exact qnd x ((vt_eq (fE 28 (by decide))).mp hx)
  obtain ⟨d1, d2, d3, ⟨d40, d4⟩, d5, d6, d7⟩ := D4
  have e4_28 : fi r21 28 = fi r18 28 := (d1.1 28 (by decide)).trans (fE 28 (by decide))
  have v4 : ∀ x, vt r21 x ↔ vt r18 x := fun x => vt_eq e4_28
  have v1 : ∀ x, vt r19 x ↔ vt r18 x := fun x => vt_eq (fE 28 (by decide))
  have d4' : (fi r21 30).toInt ≤ 20000 := by
    rw [fE 28 (by decide), il] at d4
    omega
  refine takeNeeds_ok hM (by rw [e4_28]; omega) d40 (by omega) (fun i hi => (v4 _).mpr ((v1 _).mp (d5 i hi))) d6 (fun r22 T5 => ?_)
  obtain ⟨t1, ⟨t20, t2⟩, t3, t4, t5⟩ := T5
  intro r23 e23' r24 e24
  have F24 : Fr [29, 30] [] r22 r24 := by rw [e24, e23']; exact Fr_trans (Fr_sF (by decide)) (Fr_sF (by decide))
  have F9 : Fr [29, 30, 32, 33, 40] [68, 70, 71, 72, 73, 84, 85, 87] r18 r24 := Fr_trans (Fr_mono F1 (by decide) (by decide)) (Fr_trans (Fr_mono d1 (by decide) (by decide)) (Fr_trans (Fr_mono t1 (by decide) (by decide)) (Fr_mono F24 (by decide) (by decide))))
  have w9 : MI (ad, l) r24 rh ta N := MI_Fr w F9 (by decide) (by decide)
  have e9_28 : fi r24 28 = fi r18 28 := F9.1 28 (by decide)
  have v9 : ∀ x, vt r24 x ↔ vt r18 x := fun x => vt_eq e9_28
  have f9_30 : fi r24 30 = 0 := by rw [e24, e23']; rfl
  have n29a : (fi r21 29).toInt = (fi r18 29).toInt + 1 := by
    rw [d2, fE 29 (by decide), i_add (by simp; omega) (by simp; omega)]
    rfl
  have n29b : (fi r24 29).toInt = (fi r18 29).toInt + 2 := by
    have e : fi r24 29 = fi r22 29 + 1 := by rw [e24, e23']; rfl
    rw [e, t1.1 29 (by decide), i_add (by simp; omega) (by simp; omega), n29a]
    simp
    omega
  have m9 : ∀ x, vt r24 x → ¬ ar r24 68 x.toNatClampNeg = fi r24 29 := fun x hx e => by
    have hx' := (v9 x).mp hx
    have k : (ar r24 68 x.toNatClampNeg).toInt ≤ (fi r18 29).toInt + 1 := by
      rw [F24.2.1 68 List.not_mem_nil, t1.2.1 68 (by decide)]
      rcases d3 x ((v1 x).mpr hx') with z | z
      · rw [z, aE 68 (by decide)]
        have := qm x hx'
        omega
      · rw [z, ← d2]
        omega
    rw [e] at k
    omega
  have e55 : ar r24 55 = ar r18 55 := F9.2.1 55 (by decide)
  rw [e55]
  refine ⟨vi (by decide) (by rw [ml (n := 25) hM (by decide) (by decide) rfl]; decide), reach_ok w9 (by rw [f9_30]; decide) (by rw [f9_30, e9_28]; show (0 : Int) + _ ≤ _; omega) vt0.1 (by rw [e9_28]; exact vt0.2) (fun r26 R26 => ?_)⟩
  obtain ⟨vv, ⟨s1, s2, s3, s4, s5, s6, s7, s8, s9⟩, hvv⟩ := R26
  have nov : ∀ k : Int32, 0 ≤ k → k < vv → False := fun k k1 k2 => by
    rw [il] at k1
    rw [it] at k2
    simp at k1
    omega
  have F26 : Fr [29, 30, 32, 33, 40] [68, 70, 71, 72, 73, 84, 85, 87] r18 r26 := Fr_trans F9 (Fr_mono s1 (by decide) (by decide))
  have w26 : MI (ad, l) r26 rh ta N := MI_Fr w F26 (by decide) (by decide)
  have e26_28 : fi r26 28 = fi r18 28 := F26.1 28 (by decide)
  have v26 : ∀ x, vt r26 x ↔ vt r18 x := fun x => vt_eq e26_28
  have v26_9 : ∀ x, vt r26 x ↔ vt r24 x := fun x => (v26 x).trans (v9 x).symm
  have f40e : fi r26 40 = fi r22 40 := (s1.1 40 (by decide)).trans (F24.1 40 (by decide))
  have a84e : ar r26 84 = ar r22 84 := (s1.2.1 84 (by decide)).trans (F24.2.1 84 List.not_mem_nil)
  have e29 : fi r26 29 = fi r24 29 := s1.1 29 (by decide)
  have e66 : ar r26 66 = ar r24 66 := s1.2.1 66 (by decide)
  have e67 : ar r26 67 = ar r24 67 := s1.2.1 67 (by decide)
  have h84 : ∀ i, i < (fi r26 40).toNatClampNeg → vt r26 (ar r26 84 i) := fun i hi => by
    rw [f40e] at hi
    rw [a84e]
    exact (v26 _).mpr ((v4 _).mp (t3 i hi))
  have f400 : 0 ≤ fi r26 40 := by rw [f40e]; exact t20
  have f40l : (fi r26 40).toInt ≤ 40000 := by
    rw [f40e]
    rw [il] at t2
    omega
  have cl24 : Cld r24 (fun x => x ∈ R) := Cld_eq e9_28 (F9.2.1 64 (by decide)) (F9.2.1 66 (by decide)) (F9.2.1 67 (by decide)) cR
  refine ⟨(fi r26 40).toInt.toNat + 1, inf_L128 hM (by rw [e26_28]; omega) f400 f40l h84 (fun r27 F27 am => ?_) _ r26 0 (Fr_refl _) (fun _ i hi => absurd hi (Nat.not_lt_zero _)) (Int32.le_refl _) f400 (fu f400)⟩
  have F_27 : Fr FFl AAl rI r27 := Fr_trans qF (Fr_trans (Fr_mono F26 (by decide) (by decide)) (Fr_mono F27 (by decide) (by decide)))
  refine ⟨fun _ => ⟨fun h34 => ?_, fun _ => ret _ _ F_27⟩, fun _ => ret _ _ F_27⟩
  have am' := am h34
  have a27 : ∀ k, ar r27 k = ar r26 k := fun k => F27.2.1 k List.not_mem_nil
  have f27 : ∀ k, ¬ k = 34 → fi r27 k = fi r26 k := fun k hk => F27.1 k (by simpa using hk)
  have w27 : MI (ad, l) r27 rh ta N := MI_Fr w26 F27 (by decide) (by decide)
  have v27 : ∀ x, vt r27 x ↔ vt r26 x := fun x => vt_eq (f27 28 (by decide))
  have nb : ∀ x, vt r24 x → (0 ≤ ar r24 66 x.toNatClampNeg → vt r24 (ar r24 66 x.toNatClampNeg)) ∧ (0 ≤ ar r24 67 x.toNatClampNeg → vt r24 (ar r24 67 x.toNatClampNeg)) := fun x hx => (MI_VN w9 x hx).2
  -- what is found stands in the type
  have fR : ∀ i, i < (fi r26 40).toNatClampNeg → ar r26 84 i ∈ R := fun i hi => by
    have k := am' i hi
    rw [e29] at k
    have vx := (v26_9 _).mp (h84 i hi)
    exact (s9 (fun x => x ∈ R) cl24 tR).1 _ vx.1 vx.2 k (m9 _ vx)
  have dj : DJ (ar r26 84) (fi r26 40).toNatClampNeg := by rw [f40e, a84e]; exact t4
  have f1510 : (fi r26 40).toInt ≤ 1510 := by
    have k := pig (ar r26 84) (fi r26 40).toNatClampNeg R fR dj
    have e := i_nat f400
    omega
  have c26 : 0 ≤ fi r26 30 ∧ (fi r26 30).toInt ≤ 20000 := by
    have z := cM_none (r := r24) (mk := fi r24 29) (c := fi r24 28) w9.2.2.1.1 (fun x x0 x1 => m9 x ⟨x0, x1⟩)
    rw [z, f9_30] at s6
    have k := cM_le (r := r24) w9.2.2.1.1 (q := r26) (mk := fi r24 29)
    have z0 : (0 : Int32).toInt = 0 := rfl
    rw [e9_28] at k s6
    rw [z0] at s6
    refine ⟨by rw [il, z0]; omega, by omega⟩
  have n30 := i_nat c26.1
  have idx' : ∀ i, i < (fi r26 30).toNatClampNeg → ∃ k : Int32, fi r24 30 ≤ k ∧ k < fi r26 30 ∧ k.toNatClampNeg = i := fun i hi => by
    obtain ⟨k, k0, k1, k2⟩ := nat_i (j := i) (n := fi r26 30) (by omega)
    exact ⟨k, by rw [f9_30]; exact k0, k1, k2⟩
  refine keep_ok (ad := ad) (rI := rI) hI F_27 w27 (by rw [f27 30 (by decide)]; exact c26.1) (by rw [f27 30 (by decide)]; omega) ?_ (fun i hi => ?_) (fun x hx hm => ?_) (fun x hx hm => ?_) ?_ (by rw [f27 40 (by decide)]; exact f400) (by rw [f27 40 (by decide)]; exact f1510) (fun i hi => ?_) (fun r36 F36 ls => ?_)
  · rw [a27, s1.2.1 55 (by decide), e55]
    exact (v27 _).mpr ((v26 _).mpr vt0)
  · rw [f27 30 (by decide)] at hi
    rw [a27, a27, f27 29 (by decide), e29]
    obtain ⟨k, k0, k1, k2⟩ := idx' i hi
    have q := s5.1 k k0 k1
    rw [k2] at q
    exact ⟨(v27 _).mpr ((v26_9 _).mpr q.1), q.2.2.1⟩
  · rw [a27, f27 29 (by decide), e29] at hm
    have vx := (v26_9 _).mp ((v27 _).mp hx)
    rcases s4 x vx.1 vx.2 with y | y
    · rw [y] at hm
      exact absurd hm (m9 x vx)
    · obtain ⟨k, k0, k1, k2⟩ := y.2.2.2
      refine ⟨k.toNatClampNeg, ?_, by rw [a27]; exact k2⟩
      rw [f27 30 (by decide)]
      rw [f9_30] at k0
      exact nl k0 k1
  · rw [a27, f27 29 (by decide), e29] at hm
    rw [a27 66, a27 67, a27 68, f27 29 (by decide), e29, e66, e67]
    have vx := (v26_9 _).mp ((v27 _).mp hx)
    have k := s7 x vx.1 vx.2 hm (m9 x vx)
    exact ⟨fun g => (k.1 g).elim id (fun ⟨j, j1, j2, _⟩ => (nov j j1 j2).elim), fun g => (k.2 g).elim id (fun ⟨j, j1, j2, _⟩ => (nov j j1 j2).elim)⟩
  · rw [a27 55, s1.2.1 55 (by decide), e55, a27 68, f27 29 (by decide), e29]
    exact s8.elim id (fun ⟨j, j1, j2, _⟩ => (nov j j1 j2).elim)
  · rw [f27 40 (by decide)] at hi
    rw [a27]
    exact (v27 _).mpr (h84 i hi)
  · obtain ⟨l38, l37, C, c1, c2, c3⟩ := ls
    have l80 : ln (ad, l) 80 = 40000 := ml (n := 40000) hM (by decide) (by decide) rfl
    have nF : ∀ k, k ≤ 25 → ¬ k = 20 → fi r36 k = fi rI k := fun k k1 k2 => (F36.1 k (by simp; omega)).trans (F_27.1 k (nFF k1 k2))
    have nA : ∀ k, k ≤ 49 ∨ k = 86 → ar r36 k = ar rI k := fun k hk => (F36.2.1 k (by simp; omega)).trans (F_27.2.1 k (nAA hk))
    refine ⟨vi2 l37.1 l37.2 (by rw [l80]; decide), hK _ _ (INV_to hI nF nA (fun k => (F36.2.2 k).trans (F_27.2.2 k)) ⟨⟨l38.1, l38.2, by rw [nA 0 (by decide)]; exact hI.2.2.2.1.1.2.2.1, ?_⟩, C, c1, fun x hx => ?_⟩) (nF 13 (by decide) (by decide))⟩
    · unfold KND KN0 UVr NI
      rw [nF 4 (by decide) (by decide), nF 1 (by decide) (by decide), nA 12 (by decide), nA 1 (by decide), nA 9 (by decide), nA 10 (by decide), nA 11 (by decide)]
      exact hI.2.2.2.1.1.2.2.2
    · have k := c2 x hx
      have k2 := c3 x hx
      exact ⟨k.1, k.2.1, k.2.2.1, k.2.2.2, k2.1, k2.2⟩
theorem minfer_ok {e : Int32} {K : Int32 → S_ → Prop} (hI : INV l rI) (hK : ∀ z r', INV l r' → fi r' 13 = fi rI 13 → K z r') : qM_infer (ad, l) K rI e := by
  have hM : ML (ad, l) := hI.2.2.1
  have et := ETr_of hI
  unfold qM_infer
  intro r1 e1
  subst e1
  have ret : ∀ z r', Fr FFl AAl rI r' → K z r' := fun z r' F => hK z r' (INV_F hI F) (F.1 13 (by decide))
  have F1 : Fr FFl AAl rI (sF rI 20 0) := Fr_sF (by decide)
  refine risE_ok (r := sF rI 20 0) (c := fi rI 25) rfl (fun _ => ⟨fun z => absurd rfl z, fun _ => ret _ _ F1⟩) (fun he => ⟨fun _ => ?_, fun z => absurd z (by decide)⟩)
  have f120 := et.1.2
  rw [il] at f120
  refine ⟨vi2 he.1 he.2 (by rw [ml (n := 120) hM (by decide) (by decide) rfl]; simpa using f120), fun g => ?_, fun _ => ret _ _ F1⟩
  intro r6 e6 r7 e7 r8 e8 r9 e9
  refine ⟨zb0, fun r10 e10 => ⟨zb0, fun r12 e12 => ⟨zb0, fun r14 e14 r16 e16 => ?_⟩⟩⟩
  have F16 : Fr FFl AAl rI r16 := by
    rw [e16, e14, e12, e10, e9, e8, e7, e6]
    exact Fr_trans F1 (Fr_trans (Fr_sF (by decide)) (Fr_trans (Fr_sF (by decide)) (Fr_trans (Fr_sF (by decide)) (Fr_trans (Fr_sF (by decide)) (Fr_trans (Fr_sF (by decide)) (Fr_trans (Fr_sF (by decide)) (Fr_trans (Fr_sF (by decide)) (Fr_sF (by decide)))))))))
  have f28 : fi r16 28 = 0 := by rw [e16, e14, e12, e10, e9, e8, e7, e6]; rfl
  have f29 : fi r16 29 = 0 := by rw [e16, e14, e12, e10, e9, e8, e7]; rfl
  have f31 : fi r16 31 = 0 := by rw [e16, e14, e12, e10, e9, e8]; rfl
  have f27 : fi r16 27 = 0 := by rw [e16, e14, e12, e10, e9]; rfl
  have f32 : fi r16 32 = 0 := by rw [e16, e14, e12, e10]; rfl
  have et16 : ETr r16 := ETr_eq et (F16.1 1 (by decide)) (F16.1 25 (by decide)) (F16.2.1 42 (by decide)) (F16.2.1 45 (by decide)) (F16.2.1 46 (by decide)) (F16.2.1 47 (by decide)) (F16.2.1 48 (by decide)) (F16.2.1 49 (by decide))
  have g24 : (ar rI 49 e.toNatClampNeg).toInt ≤ 24 := by
    have g' : ar rI 49 e.toNatClampNeg ≤ 24 := g
    rw [il] at g'
    simpa using g'
  refine spread_ok hM et16 he.1 (by rw [F16.1 25 (by decide)]; exact he.2) (by rw [F16.2.1 49 (by decide)]; exact g24) (fun r17 sp => ?_)
  refine typeAll_ok hI F16 f28 f29 f31 f27 f32 sp (fun r18 td => minfer_tail hI hK td) (fun r18 bad => ?_)
  obtain ⟨⟨rh, ta, N, w⟩, b2, b3⟩ := bad
  exact needNoRing_ok w (fun r19 F19 z19 h19 => ⟨fun h0 => absurd (h19 h0) b3, fun _ => ret _ _ (Fr_trans b2 (Fr_mono F19 (by decide) (by decide)))⟩)
end MINFER
