/-! The reference: keep, whole; infer. -/
section ZMKEEP2
variable {ad l : Nat → Nat} {a : L_} {rI r r' r1 : S_} {rh ta : Int32 → Int32} {N : Int32}
theorem ws_keep116 {r1 : S_} {X : Nat → Int32} {nX : Nat} {Nd : Int32 → Nat} (n30 : nX = (fi r1 30).toNatClampNeg) (f30 : 0 ≤ fi r1 30) (e73 : ∀ i, i < nX → ar r1 73 i = X i) (x0 : ∀ i, i < nX → 0 ≤ X i) (hp : ∀ i, i < nX → (ar r1 78 (X i).toNatClampNeg = -1 ∨ ∃ j, j < nX ∧ ar r1 78 (X i).toNatClampNeg = X j) ∧ (ar r1 79 (X i).toNatClampNeg = -1 ∨ ∃ j, j < nX ∧ ar r1 79 (X i).toNatClampNeg = X j)) (hN : ∀ i, i < nX → 1 ≤ Nd (X i) ∧ Nd (X i) = 1 + (if ar r1 78 (X i).toNatClampNeg = -1 then 0 else Nd (ar r1 78 (X i).toNatClampNeg)) + (if ar r1 79 (X i).toNatClampNeg = -1 then 0 else Nd (ar r1 79 (X i).toNatClampNeg))) {KX : S_ → Prop} (hK : ∀ r, Fr [] [80] r1 r → (∀ i, i < nX → (ar r 80 (X i).toNatClampNeg).toInt = capM (Nd (X i))) → KX r) : ∀ (n : Nat) (r : S_) (v1 : Int32), KZ r1 r X nX Nd → (v1 = 0 → ∀ i, i < nX → ar r 80 (X i).toNatClampNeg = 0 → UZ r1 r (X i)) → wM_keep_L116 a KX n r v1 := by
  intro n
  induction n with
  | zero => intro r v1 _ _; trivial
  | succ n ih =>
    intro r v1 kz hu
    rw [wM_keep_L116]
    refine ⟨fun z => hK r kz.1 ?_, fun _ m => ?_⟩
    · have key : ∀ (k : Nat) (i : Nat), i < nX → Nd (X i) < k → ¬ ar r 80 (X i).toNatClampNeg = 0 := by
        intro k
        induction k with
        | zero => intro i _ h; omega
        | succ k ihk =>
          intro i hi hl h0
          have part : ∀ u : Int32, (u = -1 ∨ ∃ j, j < nX ∧ u = X j) → 0 ≤ u → Nd u < k → ar r 80 u.toNatClampNeg = 0 → False := fun u hu u0 hl2 hz => by
            rcases hu with e | ⟨j, j1, j2⟩
            · rw [e] at u0; exact absurd u0 (by decide)
            · rw [j2] at hz hl2; exact ihk j j1 hl2 hz
          have hNi := (hN i hi).2
          rcases hu z i hi h0 with ⟨u0, hz⟩ | ⟨u0, hz⟩
          · rw [if_neg (nm1 u0)] at hNi
            exact part _ (hp i hi).1 u0 (by omega) hz
          · rw [if_neg (nm1 u0)] at hNi
            exact part _ (hp i hi).2 u0 (by omega) hz
      exact fun i hi => (kz.2 i hi).resolve_left (key _ i hi (Nat.lt_succ_self _))
    · exact ws_keep124 n30 f30 e73 x0 hp hN (fun r2 v kz2 h2 => ih r2 v kz2 h2) m r 0 0 kz (fun _ i hi => absurd hi (Nat.not_lt_zero _)) (Int32.le_refl _) f30
theorem ws_num27 {r0 : S_} {KX : S_ → Prop} (hK : ∀ r, Fr [36] [68, 72, 83] r0 r → KX r) : ∀ (n : Nat) (r : S_) (v : Int32), Fr [36] [68, 72, 83] r0 r → wM_number_L27 a KX n r v := by
  intro n
  induction n with
  | zero => intro r v _; trivial
  | succ n ih =>
    intro r v F
    rw [wM_number_L27]
    have j117 : ∀ r2 v2 x, Fr [36] [68, 72, 83] r0 r2 → wM_number_J117 a (wM_number_L27 a KX n) KX r2 v2 x := fun r2 v2 x F2 => by
      unfold wM_number_J117 wM_number_J141
      exact fun _ => ⟨fun _ => ih _ _ F2, fun _ _ _ r19 e19 => ih _ _ (by rw [e19]; exact Fr_trans F2 (Fr_sA (by decide)))⟩
    have j93 : ∀ r2 v2 x, Fr [36] [68, 72, 83] r0 r2 → wM_number_J93 a (wM_number_L27 a KX n) KX r2 v2 x := fun r2 v2 x F2 => by
      unfold wM_number_J93
      exact fun _ => ⟨fun _ => j117 _ _ _ F2, fun _ _ _ r22 e22 => j117 _ _ _ (by rw [e22]; exact Fr_trans F2 (Fr_sA (by decide)))⟩
    refine ⟨fun _ => hK r F, fun _ _ _ => ⟨fun _ => ?_, fun _ _ r10 e10 _ => ?_⟩⟩
    · unfold wM_number_J141
      exact ih _ _ F
    · have F10 : Fr [36] [68, 72, 83] r0 r10 := by rw [e10]; exact Fr_trans F (Fr_sA (by decide))
      exact ⟨fun _ => j93 _ _ _ F10, fun _ _ r24 e24 r25 e25 => j93 _ _ _ (by rw [e25, e24]; exact Fr_trans F10 (Fr_trans (Fr_sA (by decide)) (Fr_sF (by decide))))⟩
theorem ws_num146 {r0 : S_} {KX : S_ → Prop} (hK : ∀ r, Fr [] [77] r0 r → KX r) : ∀ (n : Nat) (r : S_) (v : Int32), Fr [] [77] r0 r → wM_number_L146 a KX n r v := by
  intro n
  induction n with
  | zero => intro r v _; trivial
  | succ n ih =>
    intro r v F
    rw [wM_number_L146]
    unfold wM_number_J205
    exact ⟨fun _ => hK r F, fun _ _ _ _ => ⟨fun _ _ _ _ r34 e34 => ih _ _ (by rw [e34]; exact Fr_trans F (Fr_sA (by decide))), fun _ _ _ _ r34 e34 => ih _ _ (by rw [e34]; exact Fr_trans F (Fr_sA (by decide)))⟩⟩
theorem ws_keep339 {r0 : S_} {KX : S_ → Int32 → Int32 → Prop} (hK : ∀ r v2 v3, Fr [38] [81, 82] r0 r → KX r v2 v3) : ∀ (n : Nat) (r : S_) (v2 v3 v4 v5 : Int32), Fr [38] [81, 82] r0 r → wM_keep_L339 a KX n r v2 v3 v4 v5 := by
  intro n
  induction n with
  | zero => intro r v2 v3 v4 v5 _; trivial
  | succ n ih =>
    intro r v2 v3 v4 v5 F
    rw [wM_keep_L339]
    unfold wM_keep_J390
    exact ⟨fun _ => hK r _ _ F, fun _ => ⟨fun _ => ih _ _ _ _ _ F, fun _ _ r59 e59 _ r61 e61 r62 e62 => ih _ _ _ _ _ (by rw [e62, e61, e59]; exact Fr_trans F (Fr_trans (Fr_sA (by decide)) (Fr_trans (Fr_sA (by decide)) (Fr_sF (by decide)))))⟩⟩
theorem ws_keep297 {r0 : S_} {KX : S_ → Int32 → Prop} (hK : ∀ r v2, Fr [38] [81, 82] r0 r → KX r v2) : ∀ (n : Nat) (r : S_) (v2 v3 : Int32), Fr [38] [81, 82] r0 r → wM_keep_L297 a KX n r v2 v3 := by
  intro n
  induction n with
  | zero => intro r v2 v3 _; trivial
  | succ n ih =>
    intro r v2 v3 F
    rw [wM_keep_L297]
    have j334 : ∀ u, wM_keep_J334 a (wM_keep_L297 a KX n) KX r v2 v3 u := fun u => by
      unfold wM_keep_J334
      exact fun m => ws_keep339 (r0 := r0) (fun r2 _ _ F2 => ih _ _ _ F2) m r v2 v3 u 0 F
    exact ⟨fun _ => hK r _ F, fun _ _ _ => ⟨fun _ => j334 0, fun _ _ => wa_M_least (fun z => j334 z)⟩⟩
theorem ws_keep287 {r0 : S_} {KX : S_ → Prop} (hK : ∀ r, Fr [38] [81, 82] r0 r → KX r) : ∀ (n : Nat) (r : S_) (v2 : Int32), Fr [38] [81, 82] r0 r → wM_keep_L287 a KX n r v2 := by
  intro n
  induction n with
  | zero => intro r v2 _; trivial
  | succ n ih =>
    intro r v2 F
    rw [wM_keep_L287]
    exact ⟨fun _ => hK r F, fun _ m => ws_keep297 (r0 := r0) (fun r2 _ F2 => ih _ _ F2) m r v2 0 F⟩
theorem ws_mkeep {t : Int32} (w : MI a r rh ta N) (cg : CGr r rh) (e55 : ar r 55 ((0 : Int32)).toNatClampNeg = t) (vt0 : vt r t) (f30 : 0 ≤ fi r 30) (cov : ∀ x, vt r x → zRc (mG r) t x → ∃ i, i < (fi r 30).toNatClampNeg ∧ ar r 73 i = x) (lst : ∀ i, i < (fi r 30).toNatClampNeg → vt r (ar r 73 i) ∧ zRc (mG r) t (ar r 73 i)) {ρ : Int32 → Ut} (v : VM r ρ) (h2 : ∀ x, zRc (mG r) t x → ¬ 0 ≤ ar r 65 x.toNatClampNeg → (ρ x).length = 2) {K : S_ → Prop} (hK : ∀ r', fi r' 39 = fi r 35 → (∀ k, k < 20 → fi r' k = fi r k) → (ar r' 80 (fi r' 37).toNatClampNeg).toInt = capM ((ρ t).length / 2) → K r') : wM_keep a K r := by
  have rt := m_rr w vt0
  have mx := fun i hi => m_rcv w vt0 (lst i hi).2
  have cl : ∀ x, zRc (mG r) t x → (0 ≤ ar r 66 x.toNatClampNeg → zRc (mG r) t (rh (ar r 66 x.toNatClampNeg))) ∧ (0 ≤ ar r 67 x.toNatClampNeg → zRc (mG r) t (rh (ar r 67 x.toNatClampNeg))) := fun x hx => by
    have k := m_rcv w vt0 hx
    exact ⟨fun q => m_rc1 w hx k.1 k.2 q, fun q => m_rc2 w hx k.1 k.2 q⟩
  have inl : ∀ x, zRc (mG r) t x → ∃ i, i < (fi r 30).toNatClampNeg ∧ ar r 73 i = x := fun x hx => cov x (m_rcv w vt0 hx).1 hx
  unfold wM_keep
  intro _
  rw [e55]
  refine ws_mfind w vt0.1 vt0.2 (fun r3 e3 n69 => ?_)
  have F3 : Fr [37] [] r r3 := by rw [e3]; exact Fr_sF (by decide)
  have a3 : ∀ k, ar r3 k = ar r k := fun k => F3.2.1 k List.not_mem_nil
  have f3 : ∀ k, ¬ k = 37 → fi r3 k = fi r k := fun k hk => F3.1 k (by simpa using hk)
  have w3 : MI a r3 rh ta N := MI_Fr w F3 (by decide) (by decide)
  have v3 : ∀ x, vt r3 x ↔ vt r x := fun x => vt_eq (f3 28 (by decide))
  refine ws_keep16 w3 (by rw [f3 30 (by decide)]; exact f30) (fun i hi => by rw [f3 30 (by decide)] at hi; rw [a3]; exact (v3 _).mpr (lst i hi).1) (fun r4 s4 n68 => ?_) n69 r3 0 ⟨Fr_refl _, fun i hi => absurd hi (Nat.not_lt_zero _)⟩ (Int32.le_refl _) (by rw [f3 30 (by decide)]; exact f30)
  obtain ⟨F4, s4⟩ := s4
  rw [f3 30 (by decide)] at s4
  simp only [a3] at s4
  have f4 : ∀ k, ¬ k = 37 → fi r4 k = fi r k := fun k hk => (F4.1 k List.not_mem_nil).trans (f3 k hk)
  have a4 : ∀ k, ¬ k = 77 → ¬ k = 78 → ¬ k = 79 → ¬ k = 80 → ar r4 k = ar r k := fun k h1 h2 h3 h4 => (F4.2.1 k (by simp [h1, h2, h3, h4])).trans (a3 k)
  have g37 : fi r4 37 = rh t := by rw [F4.1 37 List.not_mem_nil, e3, fi_sF, if_pos rfl]
  -- parts of listed ones
  have pt : ∀ u : Int32, -1 ≤ u → (0 ≤ u → vt r u) → (0 ≤ u → zRc (mG r) t (rh u)) → (pF r3 rh u = -1 ∨ ∃ j, j < (fi r 30).toNatClampNeg ∧ pF r3 rh u = ar r 73 j) ∧ ((if pF r3 rh u = -1 then 0 else (ρ (pF r3 rh u)).length / 2) = (ρ u).length / 2) := fun u u0 u1 u2 => by
    unfold pF
    rcases m1c u0 with e | e
    · rw [e, if_neg (by decide), if_pos rfl, v.1]
      exact ⟨Or.inl rfl, rfl⟩
    · have k := m_rr w (u1 e)
      obtain ⟨j, j1, j2⟩ := inl _ (u2 e)
      rw [if_pos e, if_neg (nm1 k.1.1), ← VM_rh w v (u1 e).1 (u1 e).2]
      exact ⟨Or.inr ⟨j, j1, j2.symm⟩, rfl⟩
  have nd : ∀ x, zRc (mG r) t x → 1 ≤ (ρ x).length / 2 ∧ (ρ x).length / 2 = 1 + (ρ (ar r 66 x.toNatClampNeg)).length / 2 + (ρ (ar r 67 x.toNatClampNeg)).length / 2 ∧ (ρ x).length % 2 = 0 := by
    have key : ∀ (n : Nat) (x : Int32), zRc (mG r) t x → (ρ x).length < n → 1 ≤ (ρ x).length / 2 ∧ (ρ x).length / 2 = 1 + (ρ (ar r 66 x.toNatClampNeg)).length / 2 + (ρ (ar r 67 x.toNatClampNeg)).length / 2 ∧ (ρ x).length % 2 = 0 := by
      intro n
      induction n with
      | zero => intro x _ h; omega
      | succ n ih =>
        intro x hx hl
        have k := m_rcv w vt0 hx
        have nb := w.2.2.2.1 x k.1.1 k.1.2
        by_cases h0 : 0 ≤ ar r 65 x.toNatClampNeg
        · have e := (v.2 x k.1.1 k.1.2).2 h0
          have le := congrArg List.length e
          rw [Jn_len] at le
          have l := m_lf w k.1
          have ev : ∀ u : Int32, -1 ≤ u → (0 ≤ u → vt r u) → (0 ≤ u → zRc (mG r) t (rh u)) → (ρ u).length < n → (ρ u).length % 2 = 0 := fun u u0 u1 u2 u3 => by
            rcases m1c u0 with q | q
            · rw [q, v.1]; rfl
            · rw [VM_rh w v (u1 q).1 (u1 q).2] at u3 ⊢
              exact (ih _ (u2 q) u3).2.2
          have e1 := ev _ l.1.1 l.1.2 (cl x hx).1 (by omega)
          have e2 := ev _ l.2.1 l.2.2 (cl x hx).2 (by omega)
          omega
        · have le := h2 x hx h0
          have z := nb.2.2.2.2.1 (Int32.not_le.mp h0)
          rw [z.1, z.2, v.1, le]
          decide
    exact fun x hx => key _ x hx (Nat.lt_succ_self _)
  refine ws_keep116 (X := ar r 73) (nX := (fi r 30).toNatClampNeg) (Nd := fun x => (ρ x).length / 2) (by rw [f4 30 (by decide)]) (by rw [f4 30 (by decide)]; exact f30) (fun i _ => by rw [a4 73 (by decide) (by decide) (by decide) (by decide)]) (fun i hi => (lst i hi).1.1) (fun i hi => ?_) (fun i hi => ?_) (fun r5 F5 sz => ?_) n68 r4 1 ⟨Fr_refl _, fun i hi => Or.inl (s4 i hi).2.2.1⟩ (fun z => absurd z (by decide))
  · have l := m_lf w (lst i hi).1
    have c := cl _ (lst i hi).2
    rw [(s4 i hi).1, (s4 i hi).2.1]
    exact ⟨(pt _ l.1.1 l.1.2 c.1).1, (pt _ l.2.1 l.2.2 c.2).1⟩
  · have l := m_lf w (lst i hi).1
    have c := cl _ (lst i hi).2
    have n := nd _ (lst i hi).2
    rw [(s4 i hi).1, (s4 i hi).2.1]
    show 1 ≤ (ρ (ar r 73 i)).length / 2 ∧ (ρ (ar r 73 i)).length / 2 = 1 + (if pF r3 rh (ar r 66 (ar r 73 i).toNatClampNeg) = -1 then 0 else (ρ (pF r3 rh (ar r 66 (ar r 73 i).toNatClampNeg))).length / 2) + (if pF r3 rh (ar r 67 (ar r 73 i).toNatClampNeg) = -1 then 0 else (ρ (pF r3 rh (ar r 67 (ar r 73 i).toNatClampNeg))).length / 2)
    rw [(pt _ l.1.1 l.1.2 c.1).2, (pt _ l.2.1 l.2.2 c.2).2]
    exact ⟨n.1, n.2.1⟩
  · unfold wM_number
    intro ra ea rb eb _ rc ec n38
    have Fc : Fr [29, 36] [72] r5 rc := by rw [ec, eb, ea]; exact Fr_trans (Fr_sF (by decide)) (Fr_trans (Fr_sF (by decide)) (Fr_sA (by decide)))
    refine ws_num27 (r0 := rc) (fun rd Fd n37 => ?_) n38 rc 1 (Fr_refl _)
    refine ws_num146 (r0 := rd) (fun rg Fg r49 e49 r50 e50 n67 => ?_) n37 rd 0 (Fr_refl _)
    refine ws_keep287 (r0 := r50) (fun rz Fz => hK rz ?_ (fun k hk => ?_) ?_) n67 r50 0 (Fr_refl _)
    · rw [Fz.1 39 (by decide), e50, fi_sF, if_neg (by decide), e49, fi_sF, if_pos rfl, Fg.1 35 (by decide), Fd.1 35 (by decide), Fc.1 35 (by decide), F5.1 35 (by decide), f4 35 (by decide)]
    · have F50 : Fr [38, 39] [] rg r50 := by rw [e50, e49]; exact Fr_trans (Fr_sF (by decide)) (Fr_sF (by decide))
      rw [Fz.1 k (by simp; omega), F50.1 k (by simp; omega), Fg.1 k List.not_mem_nil, Fd.1 k (by simp; omega), Fc.1 k (by simp; omega), F5.1 k List.not_mem_nil, f4 k (by omega)]
    · have F50 : Fr [38, 39] [] rg r50 := by rw [e50, e49]; exact Fr_trans (Fr_sF (by decide)) (Fr_sF (by decide))
      rw [Fz.1 37 (by decide), F50.1 37 (by decide), Fg.1 37 (by decide), Fd.1 37 (by decide), Fc.1 37 (by decide), F5.1 37 (by decide), g37]
      rw [Fz.2.1 80 (by decide), F50.2.1 80 (by decide), Fg.2.1 80 (by decide), Fd.2.1 80 (by decide), Fc.2.1 80 (by decide)]
      obtain ⟨i, i1, i2⟩ := inl _ (m_rc0 w vt0)
      have k := sz i i1
      rw [i2] at k
      rw [k, VM_rh w v vt0.1 vt0.2]
end ZMKEEP2
