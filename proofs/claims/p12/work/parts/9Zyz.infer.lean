/-! The reference: infer, safe. -/
section RINFER
variable {a : L_} {r : S_} {rh ta : Int32 → Int32} {N : Int32} {l ad : Nat → Nat} {rI : S_}
theorem kp_L297 {r0 : S_} {v2 : Int32} {A : Nat} (hM : ML a) (kq : KQ rI) (k0 : 0 ≤ fi rI 2) (k8 : fi rI 2 ≤ 8) (e41 : ar r0 41 = ar rI 6) (e23 : fi r0 23 = fi rI 2) (h28 : (fi r0 28).toInt ≤ 40000) (f0 : 0 ≤ fi r0 40) (f40 : (fi r0 40).toInt ≤ 1510) (hv : ∀ i, i < (fi r0 40).toNatClampNeg → vt r0 (ar r0 84 i)) (hA : A + cnt (fun i => decide (ar r0 83 (ar r0 84 i).toNatClampNeg = v2)) (fi r0 40).toNatClampNeg ≤ (fi r0 40).toNatClampNeg) {KX : S_ → Int32 → Prop} (hK : ∀ r, Fr [38] [81, 82] r0 r → (0 ≤ fi r 38 ∧ (fi r 38).toInt ≤ 8 * (A + cnt (fun i => decide (ar r0 83 (ar r0 84 i).toNatClampNeg = v2)) (fi r0 40).toNatClampNeg : Nat)) → KX r v2) : ∀ (n : Nat) (r : S_) (v3 : Int32), Fr [38] [81, 82] r0 r → (0 ≤ fi r 38 ∧ (fi r 38).toInt ≤ 8 * (A + cnt (fun i => decide (ar r0 83 (ar r0 84 i).toNatClampNeg = v2)) v3.toNatClampNeg : Nat)) → 0 ≤ v3 → v3 ≤ fi r0 40 → (fi r0 40).toInt - v3.toInt < n → qM_keep_L297 a KX n r v2 v3 := by
  have ef := i_nat f0
  intro n
  induction n with
  | zero =>
    intro r v3 _ _ _ h1 h
    rw [il] at h1
    omega
  | succ n ih =>
    intro r v3 F hw v0 h1 h
    have aE : ∀ k, ¬ k = 81 → ¬ k = 82 → ar r k = ar r0 k := fun k k1 k2 => F.2.1 k (by simp [k1, k2])
    have e40 : fi r 40 = fi r0 40 := F.1 40 (by decide)
    rw [qM_keep_L297, e40, aE 84 (by decide) (by decide), aE 83 (by decide) (by decide), aE 85 (by decide) (by decide)]
    refine ⟨fun g => hK r F ?_, fun g => ?_⟩
    · have e : v3 = fi r0 40 := by
        rw [il] at g h1
        rw [ie]
        omega
      rw [← e]
      exact hw
    · have g' := Int32.not_le.mp g
      obtain ⟨p1, p2, p3⟩ := inc_le v0 g'
      have vn := nl v0 g'
      have sv : (v3 + 1).toNatClampNeg = v3.toNatClampNeg + 1 := by
        have e1 := i_nat v0
        have e2 := i_nat p1
        omega
      have vx := hv _ vn
      have i40 : ∀ k, 36 ≤ k → k < 89 → ln0 k = 40000 → vp_in v3 (ln a k) := fun k k1 k2 k3 => vi2 v0 g' (by rw [ml hM k1 k2 k3]; omega)
      have cu := cnt_up (p := fun i => decide (ar r0 83 (ar r0 84 i).toNatClampNeg = v2)) v3.toNatClampNeg (fi r0 40).toNatClampNeg (by omega)
      have hw2 := hw.2
      have f23 : fi r 23 = fi rI 2 := (F.1 23 (by decide)).trans e23
      have j334 : ∀ u0 : Int32, (u0 = 0 ∨ ar r0 83 (ar r0 84 v3.toNatClampNeg).toNatClampNeg = v2) → qM_keep_J334 a (qM_keep_L297 a KX n) KX r v2 v3 u0 := fun u0 hu => by
        unfold qM_keep_J334
        refine ⟨(fi r 23).toInt.toNat + 1, kp_L339 (KX := fun r v2 v3 => qM_keep_L297 a KX n r v2 (v3 + 1)) (v2 := v2) (v3 := v3) (v4 := u0) hM (by rw [f23]; exact ⟨k0, k8⟩) hw.1 (by omega) (fun r2 F2 w2 => ih r2 _ (Fr_trans F F2) ⟨Int32.le_trans hw.1 w2.1, ?_⟩ p1 p2 (by omega)) _ r 0 (Fr_refl _) ⟨Int32.le_refl _, ?_⟩ (Int32.le_refl _) (by rw [f23]; exact k0) (fu (by rw [f23]; exact k0))⟩
        · have w22 := w2.2
          rw [sv, cnt]
          by_cases e : ar r0 83 (ar r0 84 v3.toNatClampNeg).toNatClampNeg = v2
          · rw [if_pos (by simpa using e)]
            split at w22 <;> omega
          · have e0 : u0 = 0 := hu.resolve_right e
            rw [if_pos e0] at w22
            rw [if_neg (by simpa using e)]
            omega
        · split
          · omega
          · show _ ≤ _ + (0 : Int)
            omega
      refine ⟨i40 84 (by decide) (by decide) rfl, vi2 vx.1 vx.2 (by rw [ml (n := 40000) hM (by decide) (by decide) rfl]; exact h28), fun _ => j334 0 (Or.inl rfl), fun ge => ⟨i40 85 (by decide) (by decide) rfl, least_ok (r0 := rI) hM kq k0 k8 ((aE 41 (by decide) (by decide)).trans e41) f23 (fun z65 => j334 z65 (Or.inr ge))⟩⟩
theorem kp_L287 {r0 : S_} (hM : ML a) (kq : KQ rI) (k0 : 0 ≤ fi rI 2) (k8 : fi rI 2 ≤ 8) (e41 : ar r0 41 = ar rI 6) (e23 : fi r0 23 = fi rI 2) (h28 : (fi r0 28).toInt ≤ 40000) (f0 : 0 ≤ fi r0 40) (f40 : (fi r0 40).toInt ≤ 1510) (hv : ∀ i, i < (fi r0 40).toNatClampNeg → vt r0 (ar r0 84 i)) {KX : S_ → Prop} (hK : ∀ r, Fr [38] [81, 82] r0 r → (0 ≤ fi r 38 ∧ fi r 38 ≤ 20000) → KX r) : ∀ (n : Nat) (r : S_) (v2 : Int32), Fr [38] [81, 82] r0 r → (0 ≤ fi r 38 ∧ (fi r 38).toInt ≤ 8 * (cnt (fun i => decide ((ar r0 83 (ar r0 84 i).toNatClampNeg).toInt < v2.toInt)) (fi r0 40).toNatClampNeg : Nat)) → 0 ≤ v2 → (v2 < fi r0 36 → (fi r0 36).toInt - v2.toInt < n) → 1 ≤ n → qM_keep_L287 a KX n r v2 := by
  have ef := i_nat f0
  intro n
  induction n with
  | zero =>
    intro r v2 _ _ _ _ h
    omega
  | succ n ih =>
    intro r v2 F hw v0 h _
    have e36 : fi r 36 = fi r0 36 := F.1 36 (by decide)
    have cl := cnt_le (fun i => decide ((ar r0 83 (ar r0 84 i).toNatClampNeg).toInt < v2.toInt)) (fi r0 40).toNatClampNeg
    rw [qM_keep_L287, e36]
    refine ⟨fun _ => hK r F ⟨hw.1, ?_⟩, fun g => ?_⟩
    · have := hw.2
      rw [il]
      simp
      omega
    · have g' := Int32.not_le.mp g
      have hm := h g'
      obtain ⟨p1, p2, p3⟩ := inc_le v0 g'
      have aE : ∀ k, ¬ k = 81 → ¬ k = 82 → ar r k = ar r0 k := fun k k1 k2 => F.2.1 k (by simp [k1, k2])
      have f40e : fi r 40 = fi r0 40 := F.1 40 (by decide)
      have f28e : fi r 28 = fi r0 28 := F.1 28 (by decide)
      refine ⟨(fi r 40).toInt.toNat + 1, kp_L297 (rI := rI) (A := cnt (fun i => decide ((ar r0 83 (ar r0 84 i).toNatClampNeg).toInt < v2.toInt)) (fi r0 40).toNatClampNeg) hM kq k0 k8 ((aE 41 (by decide) (by decide)).trans e41) ((F.1 23 (by decide)).trans e23) (by rw [f28e]; exact h28) (by rw [f40e]; exact f0) (by rw [f40e]; exact f40) (fun i hi => ?_) ?_ (fun r2 F2 w2 => ?_) _ r 0 (Fr_refl _) ⟨hw.1, ?_⟩ (Int32.le_refl _) (by rw [f40e]; exact f0) (fu (by rw [f40e]; exact f0))⟩
      · rw [f40e] at hi
        rw [aE 84 (by decide) (by decide)]
        exact (vt_eq f28e).mpr (hv i hi)
      · rw [f40e, aE 83 (by decide) (by decide), aE 84 (by decide) (by decide)]
        refine cnt_dis _ (fun i _ h1 h2 => ?_)
        have h1' := of_decide_eq_true h1
        have h2' := of_decide_eq_true h2
        rw [h2'] at h1'
        omega
      · rw [f40e, aE 83 (by decide) (by decide), aE 84 (by decide) (by decide)] at w2
        refine ih r2 _ (Fr_trans F F2) ⟨w2.1, ?_⟩ p1 (fun gg => ?_) ?_
        · have k := cnt_sum (p := fun i => decide ((ar r0 83 (ar r0 84 i).toNatClampNeg).toInt < v2.toInt)) (q := fun i => decide (ar r0 83 (ar r0 84 i).toNatClampNeg = v2)) (s := fun i => decide ((ar r0 83 (ar r0 84 i).toNatClampNeg).toInt < (v2 + 1).toInt)) (fi r0 40).toNatClampNeg (fun i _ h1 h2 => by
            have h1' := of_decide_eq_true h1
            have h2' := of_decide_eq_true h2
            rw [h2'] at h1'
            omega) (fun i _ h => by
            refine decide_eq_true ?_
            rcases h with h | h
            · have := of_decide_eq_true h
              omega
            · have := of_decide_eq_true h
              rw [this]
              omega)
          have := w2.2
          omega
        · omega
        · rw [il] at p2
          rw [it] at g'
          omega
      · have := hw.2
        omega
/-- what the last type comes to -/
def LST (r : S_) : Prop := (0 ≤ fi r 38 ∧ fi r 38 ≤ 20000) ∧ (0 ≤ fi r 37 ∧ fi r 37 < 40000) ∧ ∃ C : Int32 → Prop, C (fi r 37) ∧ CC r C ∧ LZs r C
theorem keep_ok (hI : INV l rI) (F0 : Fr FFl AAl rI r) (w : MI (ad, l) r rh ta N) (h0 : 0 ≤ fi r 30) (h30 : (fi r 30).toInt ≤ 40000) (vτ : vt r (ar r 55 ((0 : Int32)).toNatClampNeg)) (hv : ∀ i, i < (fi r 30).toNatClampNeg → vt r (ar r 73 i) ∧ ar r 68 (ar r 73 i).toNatClampNeg = fi r 29) (cov : ∀ x, vt r x → ar r 68 x.toNatClampNeg = fi r 29 → ∃ i, i < (fi r 30).toNatClampNeg ∧ ar r 73 i = x) (cl : ∀ x, vt r x → ar r 68 x.toNatClampNeg = fi r 29 → (0 ≤ ar r 66 x.toNatClampNeg → ar r 68 (rh (ar r 66 x.toNatClampNeg)).toNatClampNeg = fi r 29) ∧ (0 ≤ ar r 67 x.toNatClampNeg → ar r 68 (rh (ar r 67 x.toNatClampNeg)).toNatClampNeg = fi r 29)) (rt : ar r 68 (rh (ar r 55 ((0 : Int32)).toNatClampNeg)).toNatClampNeg = fi r 29) (f0 : 0 ≤ fi r 40) (f40 : (fi r 40).toInt ≤ 1510) (hf : ∀ i, i < (fi r 40).toNatClampNeg → vt r (ar r 84 i)) {K : S_ → Prop} (hK : ∀ r', Fr [29, 36, 37, 38, 39] [68, 72, 77, 78, 79, 80, 81, 82, 83] r r' → LST r' → K r') : qM_keep (ad, l) K r := by
  obtain ⟨hcr, htq, hML, hlast, hkq, hwq, hmtq, hsq⟩ := hI
  have hM : ML (ad, l) := w.1
  have e23 : fi r 23 = fi rI 2 := (F0.1 23 (by decide)).trans htq.2.2.1.1
  have e41 : ar r 41 = ar rI 6 := (F0.2.1 41 (by decide)).trans htq.2.2.1.2.1
  have k28 : 0 ≤ fi rI 2 ∧ fi rI 2 ≤ 8 := ⟨hcr.2.2.2.1.2.1.1, hcr.2.2.2.1.2.1.2.1⟩
  have h28 := w.2.2.1.2
  have vn := MI_VN w
  have rv : ∀ x, vt r x → vt r (rh x) := fun x hx => (w.2.2.2.2.1.2 x hx.1 hx.2).1
  have x40 : ∀ x, vt r x → 0 ≤ x ∧ x < 40000 := fun x hx => ⟨hx.1, by have := hx.2; rw [it] at this ⊢; simp; omega⟩
  unfold qM_keep
  refine ⟨vi (by decide) (by rw [ml (n := 25) hM (by decide) (by decide) rfl]; decide), find_ok w vτ.1 vτ.2 (fun r3 e3 => ?_)⟩
  have F3 : Fr [37] [] r r3 := by rw [e3]; exact Fr_sF (by decide)
  have a3 : ∀ k, ar r3 k = ar r k := fun k => F3.2.1 k List.not_mem_nil
  have f3 : ∀ k, ¬ k = 37 → fi r3 k = fi r k := fun k hk => F3.1 k (by simpa using hk)
  have w3 : MI (ad, l) r3 rh ta N := MI_Fr w F3 (by decide) (by decide)
  have f37 : fi r3 37 = rh (ar r 55 ((0 : Int32)).toNatClampNeg) := by rw [e3]; rfl
  refine ⟨(fi r3 30).toInt.toNat + 1, keep_L16 w3 (by rw [f3 30 (by decide)]; exact h0) (by rw [f3 30 (by decide)]; exact h30) (fun i hi => ?_) (fun r4 kl => ?_) _ r3 0 ⟨Fr_refl _, fun i hi => absurd hi (Nat.not_lt_zero _)⟩ (Int32.le_refl _) (by rw [f3 30 (by decide)]; exact h0) (fu (by rw [f3 30 (by decide)]; exact h0))⟩
  · rw [f3 30 (by decide)] at hi
    rw [a3]
    exact (vt_eq (f3 28 (by decide))).mpr (hv i hi).1
  · obtain ⟨F4, kl⟩ := kl
    rw [f3 30 (by decide), a3, a3, a3, a3] at kl
    have f4 : ∀ k, ¬ k = 37 → fi r4 k = fi r k := fun k hk => (F4.1 k List.not_mem_nil).trans (f3 k hk)
    have a4 : ∀ k, ¬ k = 77 → ¬ k = 78 → ¬ k = 79 → ¬ k = 80 → ar r4 k = ar r k := fun k k1 k2 k3 k4 => (F4.2.1 k (by simp [k1, k2, k3, k4])).trans (a3 k)
    have C78 : ∀ x, vt r x ∧ ar r 68 x.toNatClampNeg = fi r 29 → ar r4 78 x.toNatClampNeg = pr rh (ar r 66 x.toNatClampNeg) ∧ ar r4 79 x.toNatClampNeg = pr rh (ar r 67 x.toNatClampNeg) ∧ ar r4 80 x.toNatClampNeg = 0 := fun x hx => by
      obtain ⟨i, i1, i2⟩ := cov x hx.1 hx.2
      have k := kl i i1
      rw [i2] at k
      exact k.2
    have prv : ∀ t : Int32, (0 ≤ t → vt r t ∧ ar r 68 (rh t).toNatClampNeg = fi r 29) → -1 ≤ pr rh t ∧ (0 ≤ pr rh t → vt r (pr rh t) ∧ ar r 68 (pr rh t).toNatClampNeg = fi r 29) ∧ (pr rh t = -1 ↔ ¬ 0 ≤ t) := fun t ht => by
      unfold pr
      by_cases g : 0 ≤ t
      · rw [if_pos g]
        have k := rv t (ht g).1
        have k0 := k.1
        refine ⟨?_, fun _ => ⟨k, (ht g).2⟩, ⟨fun z => ?_, fun z => absurd g z⟩⟩
        · rw [il] at k0 ⊢
          simp at k0 ⊢
          omega
        · rw [z] at k0
          exact absurd k0 (by decide)
      · rw [if_neg g]
        exact ⟨by decide, fun z => absurd z (by decide), ⟨fun _ => g, fun _ => rfl⟩⟩
    have cc4 : CC r4 (fun x => vt r x ∧ ar r 68 x.toNatClampNeg = fi r 29) := fun x hx => by
      have k := C78 x hx
      have c := cl x hx.1 hx.2
      have nb := w.2.2.2.1 x hx.1.1 hx.1.2
      have p1 := prv (ar r 66 x.toNatClampNeg) (fun g => ⟨(vn x hx.1).2.1 g, c.1 g⟩)
      have p2 := prv (ar r 67 x.toNatClampNeg) (fun g => ⟨(vn x hx.1).2.2 g, c.2 g⟩)
      rw [k.1, k.2.1]
      refine ⟨x40 x hx.1, ⟨p1.1, p1.2.1⟩, ⟨p2.1, p2.2.1⟩, fun e => p2.2.2.mpr (fun g => ?_)⟩
      have n1 := p1.2.2.mp e
      by_cases hh : 0 ≤ ar r 65 x.toNatClampNeg
      · have ay := nb.2.2.2.2.2 hh
        refine n1 (ay.1.mpr ?_)
        have z := ay.2.mp g
        rw [it] at z ⊢
        simp at z ⊢
        omega
      · have z := (nb.2.2.2.2.1 (Int32.not_le.mp hh)).2
        rw [z] at g
        exact absurd g (by decide)
    have ls4 : LZs r4 (fun x => vt r x ∧ ar r 68 x.toNatClampNeg = fi r 29) := fun x hx => by
      have k := C78 x hx
      have c := cc4 x hx
      have zn : ∀ t : Int32, (-1 ≤ t ∧ (0 ≤ t → vt r t ∧ ar r 68 t.toNatClampNeg = fi r 29)) → 0 ≤ zz r4 t := fun t ht => by
        unfold zz
        by_cases e : t = -1
        · rw [if_pos e]; omega
        · rw [if_neg e]
          have t0 : 0 ≤ t := by
            by_cases g : 0 ≤ t
            · exact g
            · exact absurd ((neg1 ht.1).mpr g) e
          rw [(C78 t (ht.2 t0)).2.2]
          decide
      have z1 := zn _ c.2.1
      have z2 := zn _ c.2.2.1
      have z0 : (ar r4 80 x.toNatClampNeg).toInt = 0 := by rw [k.2.2]; rfl
      rw [z0]
      omega
    have hv4 : ∀ i, i < (fi r4 30).toNatClampNeg → vt r (ar r4 73 i) ∧ ar r 68 (ar r4 73 i).toNatClampNeg = fi r 29 := fun i hi => by
      rw [f4 30 (by decide)] at hi
      rw [a4 73 (by decide) (by decide) (by decide) (by decide)]
      exact hv i hi
    refine ⟨zc r4 + 2, keep_L116 (C := fun x => vt r x ∧ ar r 68 x.toNatClampNeg = fi r 29) hM (by rw [f4 30 (by decide)]; exact h0) (by rw [f4 30 (by decide)]; exact h30) hv4 cc4 (fun r5 F5 ls5 => ?_) _ r4 1 (Fr_refl _) ls4 (by omega) (Or.inr (by omega))⟩
    have f5 : ∀ k, fi r5 k = fi r4 k := fun k => F5.1 k List.not_mem_nil
    have a5 : ∀ k, ¬ k = 80 → ar r5 k = ar r4 k := fun k hk => F5.2.1 k (by simpa using hk)
    have v5 : ∀ x, vt r5 x ↔ vt r x := fun x => vt_eq ((f5 28).trans (f4 28 (by decide)))
    have cc5 : CC r5 (fun x => vt r x ∧ ar r 68 x.toNatClampNeg = fi r 29) := by
      unfold CC
      rw [a5 78 (by decide), a5 79 (by decide)]
      exact cc4
    have rt5 : vt r (fi r5 37) ∧ ar r 68 (fi r5 37).toNatClampNeg = fi r 29 := by
      rw [f5, F4.1 37 List.not_mem_nil, f37]
      exact ⟨rv _ vτ, rt⟩
    refine number_ok (C := fun x => vt r x ∧ ar r 68 x.toNatClampNeg = fi r 29) hM (by rw [f5, f4 28 (by decide)]; exact w.2.2.1.1) (by rw [f5, f4 28 (by decide)]; exact h28) (by rw [f5, f4 30 (by decide)]; exact h0) (by rw [f5, f4 30 (by decide)]; exact h30) (fun i hi => ?_) cc5 (fun x hx => (v5 x).mpr hx.1) rt5 (fun r48 F48 r49 e49 r50 e50 => ?_)
    · rw [f5] at hi
      rw [a5 73 (by decide)]
      exact (v5 _).mpr (hv4 i hi).1
    · have F50 : Fr [29, 36, 38, 39] [68, 72, 77, 83] r5 r50 := by
        rw [e50, e49]
        exact Fr_trans (Fr_mono F48 (by decide) (by decide)) (Fr_trans (Fr_sF (by decide)) (Fr_sF (by decide)))
      have F_50 : Fr [29, 36, 37, 38, 39] [68, 72, 77, 78, 79, 80, 81, 82, 83] r r50 := Fr_trans (Fr_mono F3 (by decide) (by decide)) (Fr_trans (Fr_mono F4 (by decide) (by decide)) (Fr_trans (Fr_mono F5 (by decide) (by decide)) (Fr_mono F50 (by decide) (by decide))))
      have f38 : fi r50 38 = 0 := by rw [e50]; rfl
      have f40e : fi r50 40 = fi r 40 := F_50.1 40 (by decide)
      have v50 : ∀ x, vt r50 x ↔ vt r x := fun x => vt_eq (F_50.1 28 (by decide))
      have lst : ∀ r6 : S_, Fr [38] [81, 82] r50 r6 → (0 ≤ fi r6 38 ∧ fi r6 38 ≤ 20000) → LST r6 := fun r6 F6 w6 => by
        have f37' : fi r6 37 = fi r5 37 := (F6.1 37 (by decide)).trans (F50.1 37 (by decide))
        have e78 : ar r6 78 = ar r5 78 := (F6.2.1 78 (by decide)).trans (F50.2.1 78 (by decide))
        have e79 : ar r6 79 = ar r5 79 := (F6.2.1 79 (by decide)).trans (F50.2.1 79 (by decide))
        have e80 : ar r6 80 = ar r5 80 := (F6.2.1 80 (by decide)).trans (F50.2.1 80 (by decide))
        refine ⟨w6, by rw [f37']; exact x40 _ rt5.1, (fun x => vt r x ∧ ar r 68 x.toNatClampNeg = fi r 29), by rw [f37']; exact rt5, ?_, ?_⟩
        · unfold CC
          rw [e78, e79]
          exact cc5
        · unfold LZs zz
          rw [e78, e79, e80]
          exact ls5
      refine ⟨(fi r50 36).toInt.toNat + 1, kp_L287 (rI := rI) hM hkq k28.1 k28.2 ((F_50.2.1 41 (by decide)).trans e41) ((F_50.1 23 (by decide)).trans e23) (by rw [F_50.1 28 (by decide)]; exact h28) (by rw [f40e]; exact f0) (by rw [f40e]; exact f40) (fun i hi => ?ga) (fun r6 F6 w6 => hK r6 (Fr_trans F_50 (Fr_mono F6 (by decide) (by decide))) (lst r6 F6 w6)) _ r50 0 (Fr_refl _) ⟨by rw [f38]; decide, ?gb⟩ (Int32.le_refl _) (fun g => ?gc) (by omega)⟩
      case ga =>
        rw [f40e] at hi
        rw [F_50.2.1 84 (by decide)]
        exact (v50 _).mpr (hf i hi)
      case gb =>
        rw [f38]
        show (0 : Int) ≤ _
        omega
      case gc =>
        have z : (0 : Int32).toInt = 0 := rfl
        rw [z]
        omega
end RINFER
