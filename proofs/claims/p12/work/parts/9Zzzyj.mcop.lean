/-! The reference: copyOf. -/
section ZMCOPZ
variable {a : L_} {rI r r' : S_} {rh ta : Int32 → Int32} {N : Int32}
theorem zRc_rt {g : Gr} {x y u : Int32} (e : gR g x = gR g y) (h : zRc g x u) : zRc g y u := fun S h1 h2 => h S (by rw [e]; exact h1) h2
theorem ws_mcopy {b s e : Int32} {L : List (Int32 × Nat)} (si : SIm a rI r rh ta N) (hc : CH r b L) (hv : ∀ p, (p, 0) ∈ L → vt r (ar r 56 p.toNatClampNeg)) (vf : vt r (ar r 55 (ar r 53 b.toNatClampNeg).toNatClampNeg)) (e57 : ar r 57 b.toNatClampNeg = s) (e58 : ar r 58 b.toNatClampNeg = e - s) (s0 : 0 ≤ s) (se : s ≤ e) (ho : ∀ i, s.toNatClampNeg ≤ i → i < e.toNatClampNeg → vt r (ar r 62 i) ∧ DM r (fun x => x = ar r 55 (ar r 53 b.toNatClampNeg).toNatClampNeg) (ar r 62 i) ∧ (∃ c, gb (ar r 63 i) c = true) ∧ ∀ c, gb (ar r 63 i) c = true → c < (fi rI 2).toNatClampNeg) (mb : (fi r 29).toInt + 2 ≤ 1000) {K : Int32 → S_ → Prop} (hK : ∀ z r' rh', (SIm a rI r' rh' ta N ∧ OS r r' ∧ Fr [28, 29, 30, 31, 35] [64, 65, 66, 67, 68, 69, 70, 71, 72, 73, 75, 76] r r' ∧ (fi r' 29).toInt = (fi r 29).toInt + 2) → (fi r 31 ≤ fi r' 31 ∧ ∀ i, i < (fi r 31).toNatClampNeg → ar r' 75 i = ar r 75 i ∧ ar r' 76 i = ar r 76 i) → fi r' 35 = fi r 35 + Int32.ofNat (sB (ar r 63) s.toNatClampNeg (e.toNatClampNeg - s.toNatClampNeg)) → zCopy (GC r L) (ar r 55 (ar r 53 b.toNatClampNeg).toNatClampNeg) (Own r s.toNatClampNeg e.toNatClampNeg) (fi r 28) (VM r) z (fi r' 28) (VM r') (mW r' (fi r 31)) → (∀ ρ, VM r' ρ → VM r ρ) → vt r' z → K z r') : wM_copyOf a K r b := by
  obtain ⟨qF, w, cg, f32, ⟨qm, qm0, qm1⟩, z0, ⟨q31, q75⟩, q27⟩ := si
  unfold wM_copyOf
  intro r1 e1 r2 e2 _ n71
  have F2 : Fr [29, 30] [] r r2 := by rw [e2, e1]; exact Fr_trans (Fr_sF (by decide)) (Fr_sF (by decide))
  have n29 : (fi r 29 + 1).toInt = (fi r 29).toInt + 1 := i_add (by simp; omega) (by simp; omega)
  have f2_29 : fi r2 29 = fi r 29 + 1 := by rw [e2, e1]; rfl
  have a2 : ∀ k, ar r2 k = ar r k := fun k => F2.2.1 k List.not_mem_nil
  have w2 : MI a r2 rh ta N := MI_Fr w F2 (by decide) (by decide)
  have mg2 : mG r2 = mG r := mG_Fr F2 (by decide) (by decide)
  have v2 : ∀ x, vt r2 x ↔ vt r x := fun x => vt_eq (F2.1 28 (by decide))
  have c2 : CH r2 b L := CH_congr (a2 45) (a2 50) (a2 51) (a2 52) L b hc
  have gce : (fun x => False ∨ GC r2 L x) = GC r L := funext (fun x => propext ⟨fun h => by
    obtain ⟨p, p1, p2⟩ := h.resolve_left id
    exact ⟨p, p1, by rw [p2, a2]⟩, fun ⟨p, p1, p2⟩ => Or.inr ⟨p, p1, by rw [p2, a2]⟩⟩)
  refine ws_copAR w2 L n71 r2 b _ (fun _ => False) c2 rfl (AW_start (fun x vx e => ?_) (fun _ h => h)) (fun p hp => by rw [a2]; exact (v2 _).mpr (hv p hp)) (fun rA AA r10 e10 _ _ => ?_)
  · rw [a2, f2_29] at e
    have k := qm x ((v2 x).mp vx)
    rw [e, n29] at k
    omega
  rw [gce] at AA
  obtain ⟨A1, A2, A3, A4⟩ := AA
  rw [mg2] at A3
  rw [f2_29] at A2 A3
  have FA : Fr [29, 30] [68, 72, 73] r r10 := by rw [e10]; exact Fr_trans (Fr_mono F2 (by decide) (by decide)) (Fr_trans (Fr_mono A1 (by decide) (by decide)) (Fr_sF (by decide)))
  have w10 : MI a r10 rh ta N := MI_Fr w FA (by decide) (by decide)
  rw [FA.2.1 53 (by decide), FA.2.1 55 (by decide)]
  refine ws_mfind w10 vf.1 (by rw [FA.1 28 (by decide)]; exact vf.2) (fun _ r15 e15 r16 e16 n70 => ?_)
  have F16 : Fr [29, 30] [68, 72, 73] r r16 := by rw [e16, e15]; exact Fr_trans FA (Fr_trans (Fr_sA (by decide)) (Fr_sF (by decide)))
  have w16 : MI a r16 rh ta N := MI_Fr w F16 (by decide) (by decide)
  have mg16 : mG r16 = mG r := mG_Fr F16 (by decide) (by decide)
  have e28 : fi r16 28 = fi r 28 := F16.1 28 (by decide)
  have v16 : ∀ x, vt r16 x ↔ vt r x := fun x => vt_eq e28
  have a16_68 : ar r16 68 = ar rA 68 := by rw [e16, e15, e10]; rfl
  have f16_29 : fi r16 29 = fi r 29 + 1 + 1 := by
    have e : fi r16 29 = fi rA 29 + 1 := by rw [e16, e15, e10]; rfl
    rw [e, A1.1 29 (by decide), f2_29]
  have n29b : (fi r16 29).toInt = (fi r 29).toInt + 2 := by
    rw [f16_29, i_add (by rw [n29]; simp; omega) (by rw [n29]; simp; omega), n29]
    simp
    omega
  have m16 : ∀ x, vt r x → (ar r16 68 x.toNatClampNeg).toInt ≤ (fi r 29).toInt + 1 := fun x vx => by
    rw [a16_68]
    rcases A2 x ((v2 x).mpr vx) with z | z
    · rw [z, a2]
      have := qm x vx
      omega
    · rw [z, n29]
      exact Int.le_refl _
  have m16' : ∀ x, vt r x → ¬ ar r16 68 x.toNatClampNeg = fi r16 29 := fun x vx q => by
    have k := m16 x vx
    rw [q] at k
    omega
  have bd : ∀ x, vt r x → (ar r16 68 x.toNatClampNeg = fi r 29 + 1 ↔ zBd (mG r) (GC r L) x) := fun x vx => by rw [a16_68]; exact A3 x ((v2 x).mpr vx)
  have f16_30 : fi r16 30 = 0 := by rw [e16, e15, e10]; rfl
  have rt := m_rr w vf
  have zz : gR (mG r) (rh (ar r 55 (ar r 53 b.toNatClampNeg).toNatClampNeg)) = gR (mG r) (ar r 55 (ar r 53 b.toNatClampNeg).toNatClampNeg) := by rw [mgR w rt.1, mgR w vf, rt.2.1]
  have a16_72 : ar r16 72 ((0 : Int32)).toNatClampNeg = rh (ar r 55 (ar r 53 b.toNatClampNeg).toNatClampNeg) := by rw [e16, ar_sF, e15, ar_sA, if_pos rfl, pk_us]
  have e2_29 : fi r2 29 = fi r 29 + 1 := f2_29
  rw [e2_29]
  have c0 := w.2.2.1.1
  have c0i : 0 ≤ (fi r 28).toInt := by have := c0; rw [il] at this; simpa using this
  refine ws_cop101 w16 ((v16 _).mpr rt.1) rt.2.1 (fun q => ?_) (fun q => ?_) (fun rC vC cw gC n69 => ?_) n70 r16 1 ?_
  · rw [q] at n29b
    have : (0 : Int32).toInt = 0 := rfl
    omega
  · rw [q, n29] at n29b
    omega
  rotate_left
  · have lt1 : ∀ k : Int32, 0 ≤ k → k < 1 → k = 0 := fun k k0 k1 => by
      rw [il] at k0
      rw [it] at k1
      rw [ie]
      simp at k0 k1 ⊢
      omega
    refine ⟨⟨Fr_refl _, fun _ _ _ _ _ _ _ => rfl⟩, ⟨by rw [f16_30]; exact Int32.le_refl _, by rw [f16_30]; simp, by rw [e28]; exact w.2.2.1.2⟩, fun i hi => ?_, fun y _ => Or.inl rfl, fun y y0 y1 => absurd y1 (Int32.not_lt.mpr y0), ⟨by decide, fun k k0 k1 => ?_⟩, fun i hi => ?_, Or.inr ⟨0, by decide, by decide, by rw [a16_72, rt.2.1]⟩⟩
    · rw [f16_30] at hi; exact absurd hi (Nat.not_lt_zero _)
    · rw [lt1 k k0 k1, a16_72, mg16, rt.2.1]
      have := m_rc0 w rt.1
      rw [rt.2.1] at this
      exact ⟨(v16 _).mpr rt.1, this⟩
    · rw [f16_30] at hi; exact absurd hi (Nat.not_lt_zero _)
  have cw' := cw
  obtain ⟨⟨c1, c1'⟩, ⟨c20, c21, c22⟩, c3, c4, c5, ⟨c6, c6'⟩, c7, c8⟩ := cw
  rw [mg16] at c3
  rw [e28] at c21
  have nC := i_nat c20
  refine ws_cop259 w16 cw' (fun rD CLD _ n68 => ?_) n69 rC 0 ⟨Fr_refl _, fun _ _ _ => ⟨rfl, rfl⟩, fun i _ h => absurd h (Nat.not_lt_zero _)⟩ (Int32.le_refl _) c20
  obtain ⟨D1, D2, D3⟩ := CLD
  have F0C : Fr [28, 29, 30] [64, 65, 66, 67, 68, 69, 70, 71, 72, 73] r rC := Fr_trans (Fr_mono F16 (by decide) (by decide)) (Fr_mono c1 (by decide) (by decide))
  have F0D : Fr [28, 29, 30] [64, 65, 66, 67, 68, 69, 70, 71, 72, 73] r rD := Fr_trans F0C (Fr_mono D1 (by decide) (by decide))
  have d57 : ar rD 57 b.toNatClampNeg = s := by rw [F0D.2.1 57 (by decide)]; exact e57
  have d58 : ar rD 58 b.toNatClampNeg = e - s := by rw [F0D.2.1 58 (by decide)]; exact e58
  have d62 : ar rD 62 = ar r 62 := F0D.2.1 62 (by decide)
  have d63 : ar rD 63 = ar r 63 := F0D.2.1 63 (by decide)
  have d31 : fi rD 31 = fi r 31 := F0D.1 31 (by decide)
  have h64D : ∀ y : Int32, 0 ≤ y → y < fi r16 28 → ar rD 64 y.toNatClampNeg = ar r16 64 y.toNatClampNeg := fun y y0 y1 => by rw [D1.2.1 64 (by decide)]; exact c1' y ⟨y0, y1⟩ 64 (by decide) (by decide) (by decide) (by decide)
  rw [d57]
  refine ws_cop337 (s := s) (e := e) w16 h64D d57 d58 s0 (fun i i1 i2 => by rw [d62]; exact (v16 _).mpr (ho i i1 i2).1) (fun rE co => ?_) n68 rD s ⟨Fr_refl _, ⟨by rw [d31]; exact q31, by simp⟩, fun _ _ => ⟨rfl, rfl⟩, fun j hj => absurd hj (by omega), by rw [Nat.sub_self]; show _ = fi rD 35 + Int32.ofNat 0; simp⟩ (Int32.le_refl _) se
  obtain ⟨E1, ⟨E2, E2'⟩, E3, E4, E5⟩ := co
  rw [d31] at E2 E2' E3 E4
  rw [d62, d63] at E4
  rw [d63] at E5
  have FE : Fr [28, 29, 30, 31, 35] [64, 65, 66, 67, 68, 69, 70, 71, 72, 73, 75, 76] r rE := Fr_trans (Fr_mono F0D (by decide) (by decide)) (Fr_mono E1 (by decide) (by decide))
  have cpDC : ∀ t, cpd rD rh t = cpd rC rh t := fun t => cpd_eq (D1.2.1 68 (by decide)) (D1.2.1 69 (by decide)) (D1.1 29 (by decide))
  have cpEC : ∀ t, cpd rE rh t = cpd rC rh t := fun t => (cpd_eq (E1.2.1 68 (by decide)) (E1.2.1 69 (by decide)) (E1.1 29 (by decide))).trans (cpDC t)
  refine ws_mcopied w16 (fun y y0 y1 => by rw [E1.2.1 64 (by decide)]; exact h64D y y0 y1) (by rw [e28]; exact rt.1.2) ?_
  rw [cpEC]
  have eE28 : fi rE 28 = fi rC 28 := (E1.1 28 (by decide)).trans (D1.1 28 (by decide))
  have a16 : ∀ k, ¬ k = 68 → ¬ k = 72 → ¬ k = 73 → ar r16 k = ar r k := fun k k1 k2 k3 => F16.2.1 k (by simp [k1, k2, k3])
  have oldC : ∀ x, vt r x → ∀ k, ¬ k = 68 → ¬ k = 69 → ¬ k = 72 → ¬ k = 73 → ar rC k x.toNatClampNeg = ar r k x.toNatClampNeg := fun x vx k k1 k2 k3 k4 => by rw [c1' x ((v16 x).mpr vx) k k1 k2 k3 k4, a16 k k1 k3 k4]
  have eDE : ∀ k, ¬ k = 75 → ¬ k = 76 → ar rE k = ar rD k := fun k k1 k2 => E1.2.1 k (by simp [k1, k2])
  have eCD : ∀ k, ¬ k = 66 → ¬ k = 67 → ar rD k = ar rC k := fun k k1 k2 => D1.2.1 k (by simp [k1, k2])
  have X69 : ∀ i, i < (fi rC 30).toNatClampNeg → ∀ y : Int32, y.toInt = (fi r 28).toInt + i → y = ar rC 69 (ar rC 73 i).toNatClampNeg := fun i hi y hy => by
    have := (c3 i hi).2.2.1
    rw [e28] at this
    apply Int32.toInt_inj.mp
    omega
  have cgm : CGM r rE (ar rC 73) (cpd rC rh) (fi rC 30).toNatClampNeg := by
    refine ⟨fun x vx => ?_, by rw [eE28]; omega, fun i hi y hy => ?_⟩
    · have d2 := D2 x vx.1 (by rw [e28]; exact vx.2)
      refine ⟨?_, ?_, ?_, ?_⟩
      · rw [eDE 64 (by decide) (by decide), eCD 64 (by decide) (by decide)]; exact oldC x vx 64 (by decide) (by decide) (by decide) (by decide)
      · rw [eDE 65 (by decide) (by decide), eCD 65 (by decide) (by decide)]; exact oldC x vx 65 (by decide) (by decide) (by decide) (by decide)
      · rw [eDE 66 (by decide) (by decide), d2.1]; exact oldC x vx 66 (by decide) (by decide) (by decide) (by decide)
      · rw [eDE 67 (by decide) (by decide), d2.2]; exact oldC x vx 67 (by decide) (by decide) (by decide) (by decide)
    · have ey := X69 i hi y hy
      have k := c3 i hi
      have vx := (v16 _).mp k.1.1.1
      have yb : fi r16 28 ≤ y ∧ y < fi rC 28 := by
        rw [e28]
        refine ⟨by rw [il]; omega, by rw [it]; omega⟩
      have k5 := c5 y yb.1 yb.2
      have k3 := D3 i hi hi
      rw [← ey] at k k3
      rw [eDE 64 (by decide) (by decide), eCD 64 (by decide) (by decide), eDE 65 (by decide) (by decide), eCD 65 (by decide) (by decide), eDE 66 (by decide) (by decide), eDE 67 (by decide) (by decide), k3.1, k3.2, oldC _ vx 66 (by decide) (by decide) (by decide) (by decide), oldC _ vx 67 (by decide) (by decide) (by decide) (by decide), k.2.2.2, a16 65 (by decide) (by decide) (by decide)]
      exact ⟨k5.1, rfl, rfl, rfl⟩
  -- marked or around
  have lst : ∀ y, vt r y → okw r16 rC (fi r 29 + 1) y → (∃ i, i < (fi rC 30).toNatClampNeg ∧ y = ar rC 73 i) ∨ zBd (mG r) (GC r L) y := fun y vy h => by
    rcases c4 y ((v16 y).mpr vy) with z | ⟨_, i, i1, i2⟩
    · rcases h with h | h
      · exact absurd (by rw [← z]; exact h) (m16' y vy)
      · exact Or.inr ((bd y vy).mp (by rw [← z]; exact h))
    · exact Or.inl ⟨i, i1, i2.symm⟩
  have hX : ∀ i, i < (fi rC 30).toNatClampNeg → (vt r (ar rC 73 i) ∧ rh (ar rC 73 i) = ar rC 73 i) ∧ zRc (mG r) (ar r 55 (ar r 53 b.toNatClampNeg).toNatClampNeg) (ar rC 73 i) ∧ ¬ zBd (mG r) (GC r L) (ar rC 73 i) := fun i hi => by
    have k := c3 i hi
    have vx := (v16 _).mp k.1.1.1
    exact ⟨⟨vx, k.1.1.2⟩, zRc_rt zz k.1.2.1, fun q => k.1.2.2 ((bd _ vx).mpr q)⟩
  have dj : ∀ i j, i < (fi rC 30).toNatClampNeg → j < (fi rC 30).toNatClampNeg → ar rC 73 i = ar rC 73 j → i = j := fun i j hi hj q => by
    have a1 := (c3 i hi).2.2.1
    have a2' := (c3 j hj).2.2.1
    rw [q] at a1
    omega
  have hP : ∀ t, (t = -1 → cpd rC rh t = -1) ∧ (vt r t → (∀ i, i < (fi rC 30).toNatClampNeg → rh t = ar rC 73 i → (cpd rC rh t).toInt = (fi r 28).toInt + i) ∧ ((∀ i, i < (fi rC 30).toNatClampNeg → ¬ rh t = ar rC 73 i) → cpd rC rh t = rh t)) := fun t => by
    have f29C : fi rC 29 = fi r16 29 := c1.1 29 (by decide)
    unfold cpd
    rw [f29C]
    refine ⟨fun q => by rw [q, if_neg (by decide)], fun vt' => ⟨fun i hi q => ?_, fun q => ?_⟩⟩
    · have k := c3 i hi
      rw [if_pos vt'.1, q, if_pos k.2.1, k.2.2.1, e28]
    · have rr := m_rr w vt'
      rw [if_pos vt'.1, if_neg (fun z => ?_)]
      rcases c4 _ ((v16 _).mpr rr.1) with z2 | ⟨_, i, i1, i2⟩
      · exact m16' _ rr.1 (by rw [← z2]; exact z)
      · exact q i i1 i2.symm
  have hR : ∀ y, zRc (mG r) (ar r 55 (ar r 53 b.toNatClampNeg).toNatClampNeg) y → (∃ i, i < (fi rC 30).toNatClampNeg ∧ y = ar rC 73 i) ∨ zBd (mG r) (GC r L) y := fun y hy => by
    refine (m_rcm w vf (S := fun y => vt r y ∧ ((∃ i, i < (fi rC 30).toNatClampNeg ∧ y = ar rC 73 i) ∨ zBd (mG r) (GC r L) y)) ⟨rt.1, lst _ rt.1 (c8.resolve_right (Sk_no gC))⟩ (fun y vy sy => ?_) hy).2
    have l := m_lf w vy
    rcases sy.2 with ⟨i, i1, i2⟩ | hb
    · have k := c7 i i1
      rw [← i2, a16 66 (by decide) (by decide) (by decide), a16 67 (by decide) (by decide) (by decide)] at k
      refine ⟨fun q => ?_, fun q => ?_⟩
      · have vl := (m_rr w (l.1.2 q)).1
        exact ⟨vl, lst _ vl ((k.1 q).resolve_right (fun z => z.elim (Sk_no gC) id))⟩
      · have vl := (m_rr w (l.2.2 q)).1
        exact ⟨vl, lst _ vl ((k.2 q).resolve_right (fun z => z.elim (Sk_no gC) id))⟩
    · obtain ⟨g, g1, g2⟩ := hb
      have gv : vt r g := by obtain ⟨p, p1, p2⟩ := g1; rw [p2]; exact hv p p1
      have yr := (m_rcv w gv g2).2
      exact ⟨fun q => ⟨(m_rr w (l.1.2 q)).1, Or.inr ⟨g, g1, m_rc1 w g2 vy yr q⟩⟩, fun q => ⟨(m_rr w (l.2.2 q)).1, Or.inr ⟨g, g1, m_rc2 w g2 vy yr q⟩⟩⟩
  have hKw : ∀ v c, Own r s.toNatClampNeg e.toNatClampNeg v c → vt r v ∧ zRc (mG r) (ar r 55 (ar r 53 b.toNatClampNeg).toNatClampNeg) (rh v) := fun v c ⟨i, i1, i2, i3, _⟩ => by
    have k := ho i i1 i2
    rw [i3] at k
    exact ⟨k.1, DM_rc w cg vf k.1 k.2.1⟩
  have vG : ∀ x, GC r L x → vt r x := fun x ⟨p, p1, p2⟩ => by rw [p2]; exact hv p p1
  have c4E : (fi rE 28).toInt ≤ 40000 := by rw [eE28]; exact c22
  obtain ⟨zc, mono, Pin⟩ := CGM_copy (Kw := Own r s.toNatClampNeg e.toNatClampNeg) w cg cgm c4E vf vG hX dj hP hR hKw
  have nE := i_nat E2
  have f31E : 0 ≤ fi rE 31 := by rw [il, E2']; simp; omega
  have nEE := i_nat f31E
  have ns := i_nat s0
  have ne := i_nat (zo2 s0 se)
  have se' : s.toNatClampNeg ≤ e.toNatClampNeg := by have := se; rw [il] at this; omega
  have wE : (fun x c => ∃ v, x = cpd rC rh v ∧ Own r s.toNatClampNeg e.toNatClampNeg v c) = mW rE (fi r 31) := funext (fun x => funext (fun c => propext ⟨fun ⟨v, h1, i, i1, i2, i3, i4⟩ => by
    have k := E4 (i - s.toNatClampNeg) (by omega)
    rw [show s.toNatClampNeg + (i - s.toNatClampNeg) = i by omega, cpDC] at k
    exact ⟨(fi r 31).toNatClampNeg + (i - s.toNatClampNeg), by omega, by omega, by rw [k.1, h1, i3], by rw [k.2]; exact i4⟩, fun ⟨i, i1, i2, i3, i4⟩ => by
    have k := E4 (i - (fi r 31).toNatClampNeg) (by omega)
    rw [show (fi r 31).toNatClampNeg + (i - (fi r 31).toNatClampNeg) = i by omega, cpDC] at k
    exact ⟨ar r 62 (s.toNatClampNeg + (i - (fi r 31).toNatClampNeg)), by rw [← i3, k.1], s.toNatClampNeg + (i - (fi r 31).toNatClampNeg), by omega, by omega, rfl, by rw [← k.2]; exact i4⟩⟩))
  rw [wE] at zc
  have le28 : fi r 28 ≤ fi rE 28 := by rw [il, eE28]; omega
  have os : OS r rE := ⟨le28, fun x vx => ⟨Or.inl (cgm.1 x vx).1, (cgm.1 x vx).2⟩⟩
  have newi : ∀ x : Int32, fi r 28 ≤ x → x < fi rE 28 → ∃ i, i < (fi rC 30).toNatClampNeg ∧ x.toInt = (fi r 28).toInt + i := fun x h1 h2 => by
    rw [il] at h1
    rw [it, eE28] at h2
    exact ⟨(x.toInt - (fi r 28).toInt).toNat, by omega, by omega⟩
  obtain ⟨wE', cgE⟩ := MI_more w le28 c4E (FE.1 21 (by decide)) (FE.2.1 36 (by decide)) cgm.1 (fun x h1 h2 => by
    obtain ⟨i, i1, i2⟩ := newi x h1 h2
    have k := cgm.2.2 i i1 x i2
    have vx := (hX i i1).1.1
    have nb := w.2.2.2.1 _ vx.1 vx.2
    have l := m_lf w vx
    rw [k.2.1, k.2.2.1, k.2.2.2]
    have pr : ∀ t, -1 ≤ t → (0 ≤ t → vt r t) → (-1 ≤ cpd rC rh t ∧ cpd rC rh t < fi rE 28) ∧ (0 ≤ cpd rC rh t ↔ 0 ≤ t) := fun t t0 t1 => by
      rcases m1c t0 with q | q
      · rw [q, (hP (-1)).1 rfl]
        refine ⟨⟨by decide, ?_⟩, Iff.rfl⟩
        have := zo2 c0 le28
        clear hP hR hX hK lst cgm oldC c3 c4 c5 c7 c8 D3 newi E4 E3 ho hv
        grind
      · have p := Pin t (t1 q)
        refine ⟨⟨?_, p.2⟩, fun _ => q, fun _ => p.1⟩
        have := p.1
        clear hP hR hX hK lst cgm oldC c3 c4 c5 c7 c8 D3 newi E4 E3 ho hv
        grind
    have p1 := pr _ l.1.1 l.1.2
    have p2 := pr _ l.2.1 l.2.2
    refine ⟨k.1, nb.2.1, p1.1, p2.1, fun q => ?_, fun q => ?_⟩
    · have m := nb.2.2.2.2.1 q
      rw [m.1, m.2]
      exact ⟨(hP (-1)).1 rfl, (hP (-1)).1 rfl⟩
    · rw [p1.2, p2.2]
      exact nb.2.2.2.2.2 q)
  have f29E : (fi rE 29).toInt = (fi r 29).toInt + 2 := by
    rw [E1.1 29 (by decide), D1.1 29 (by decide), c1.1 29 (by decide)]
    exact n29b
  have cE68 : ar rE 68 = ar rC 68 := (eDE 68 (by decide) (by decide)).trans (eCD 68 (by decide) (by decide))
  have cE70 : ar rE 70 = ar rC 70 := (eDE 70 (by decide) (by decide)).trans (eCD 70 (by decide) (by decide))
  have cE71 : ar rE 71 = ar rC 71 := (eDE 71 (by decide) (by decide)).trans (eCD 71 (by decide) (by decide))
  refine hK _ rE (fun x => if x < fi r 28 then rh x else x) ⟨⟨Fr_trans qF (Fr_mono FE (by decide) (by decide)), wE', cgE cg, by rw [FE.1 32 (by decide)]; exact f32, ⟨fun x vx => ?_, by omega, by omega⟩, fun x vx => ?_, ⟨f31E, fun i hi => ?_⟩, by rw [FE.1 27 (by decide)]; exact q27⟩, os, FE, f29E⟩ ⟨by rw [il, E2']; omega, fun i hi => ?_⟩ ?_ (by
      have pe : cpd rC rh (rh (ar r 55 (ar r 53 b.toNatClampNeg).toNatClampNeg)) = cpd rC rh (ar r 55 (ar r 53 b.toNatClampNeg).toNatClampNeg) := by
        unfold cpd
        rw [if_pos rt.1.1, if_pos vf.1, rt.2.1]
      rw [pe]
      exact zc) mono (Pin _ rt.1)
  · rw [f29E, cE68]
    by_cases q : x < fi r 28
    · have vx' : vt r x := ⟨vx.1, q⟩
      rcases c4 x ((v16 x).mpr vx') with z | z
      · rw [z]
        have := m16 x vx'
        omega
      · rw [z.1, n29b]
        exact Int.le_refl _
    · have x1 := vx.2
      rw [eE28] at x1
      rw [(c5 x (by rw [e28]; exact Int32.not_lt.mp q) x1).2.2.2.1]
      have : (0 : Int32).toInt = 0 := rfl
      omega
  · rw [cE70, cE71]
    by_cases q : x < fi r 28
    · have vx' : vt r x := ⟨vx.1, q⟩
      rw [oldC x vx' 70 (by decide) (by decide) (by decide) (by decide), oldC x vx' 71 (by decide) (by decide) (by decide) (by decide)]
      exact z0 x vx'
    · have x1 := vx.2
      rw [eE28] at x1
      exact (c5 x (by rw [e28]; exact Int32.not_lt.mp q) x1).2.2.2.2
  · by_cases q : i < (fi r 31).toNatClampNeg
    · have k := E3 i q
      rw [k.1, k.2, F0D.2.1 75 (by decide), F0D.2.1 76 (by decide)]
      have k2 := q75 i q
      exact ⟨OS_vt os k2.1, k2.2⟩
    · have k := E4 (i - (fi r 31).toNatClampNeg) (by omega)
      rw [show (fi r 31).toNatClampNeg + (i - (fi r 31).toNatClampNeg) = i by omega, cpDC] at k
      rw [k.1, k.2]
      have k2 := ho (s.toNatClampNeg + (i - (fi r 31).toNatClampNeg)) (by omega) (by omega)
      exact ⟨Pin _ k2.1, k2.2.2⟩
  · have k := E3 i hi
    rw [k.1, k.2, F0D.2.1 75 (by decide), F0D.2.1 76 (by decide)]
    exact ⟨rfl, rfl⟩
  · rw [E5, F0D.1 35 (by decide)]
end ZMCOPZ
