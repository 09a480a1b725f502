/-! The reference: keep, whole; infer. -/
section ZMKEEP2
variable {ad l : Nat → Nat} {a : L_} {rI r r' r1 : S_} {rh ta : Int32 → Int32} {N : Int32}
theorem ws_keep116 {r1 : S_} {X : Nat → Int32} {nX : Nat} {Nd : Int32 → Nat} (n30 : nX = (fi r1 30).toNatClampNeg) (f30 : 0 ≤ fi r1 30) (e73 : ∀ i, i < nX → ar r1 73 i = X i) (x0 : ∀ i, i < nX → 0 ≤ X i) (hp : ∀ i, i < nX → (ar r1 78 (X i).toNatClampNeg = -1 ∨ ∃ j, j < nX ∧ ar r1 78 (X i).toNatClampNeg = X j) ∧ (ar r1 79 (X i).toNatClampNeg = -1 ∨ ∃ j, j < nX ∧ ar r1 79 (X i).toNatClampNeg = X j)) (hN : ∀ i, i < nX → 1 ≤ Nd (X i) ∧ Nd (X i) = 1 + (if ar r1 78 (X i).toNatClampNeg = -1 then 0 else Nd (ar r1 78 (X i).toNatClampNeg)) + (if ar r1 79 (X i).toNatClampNeg = -1 then 0 else Nd (ar r1 79 (X i).toNatClampNeg))) {KX : S_ → Prop} (hK : ∀ r, Fr [] [80] r1 r → (∀ i, i < nX → (ar r 80 (X i).toNatClampNeg).toInt = capM (Nd (X i))) → KX r) : ∀ (n : Nat) (r : S_) (v1 : Int32), KZ r1 r X nX Nd → (v1 = 0 → ∀ i, i < nX → ar r 80 (X i).toNatClampNeg = 0 → UZ r1 r (X i)) → wM_keep_L116 a KX n r v1 := by
  intro n
  induction n with
  | zero => intro r v1 _ _; trivial
  | succ n ih =>
    intro r v1 kz hu
    rw [wM_keep_L116]
    refine ⟨fun z => hK r kz.1 ?_, fun _ m => ?_⟩
    · have key : ∀ (k : Nat) (i : Nat), i < nX → Nd (X i) < k → ¬ ar r 80 (X i).toNatClampNeg = 0 := by
        intro k
        induction k with
        | zero => intro i _ h; omega
        | succ k ihk =>
          intro i hi hl h0
          have part : ∀ u : Int32, (u = -1 ∨ ∃ j, j < nX ∧ u = X j) → 0 ≤ u → Nd u < k → ar r 80 u.toNatClampNeg = 0 → False := fun u hu u0 hl2 hz => by
            rcases hu with e | ⟨j, j1, j2⟩
            · rw [e] at u0; exact absurd u0 (by decide)
            · rw [j2] at hz hl2; exact ihk j j1 hl2 hz
          have hNi := (hN i hi).2
          rcases hu z i hi h0 with ⟨u0, hz⟩ | ⟨u0, hz⟩
          · rw [if_neg (nm1 u0)] at hNi
            exact part _ (hp i hi).1 u0 (by omega) hz
          · rw [if_neg (nm1 u0)] at hNi
            exact part _ (hp i hi).2 u0 (by omega) hz
      exact fun i hi => (kz.2 i hi).resolve_left (key _ i hi (Nat.lt_succ_self _))
    · exact ws_keep124 n30 f30 e73 x0 hp hN (fun r2 v kz2 h2 => ih r2 v kz2 h2) m r 0 0 kz (fun _ i hi => absurd hi (Nat.not_lt_zero _)) (Int32.le_refl _) f30
theorem ws_num27 {r0 : S_} {KX : S_ → Prop} (hK : ∀ r, Fr [36] [68, 72, 83] r0 r → KX r) : ∀ (n : Nat) (r : S_) (v : Int32), Fr [36] [68, 72, 83] r0 r → wM_number_L27 a KX n r v := by
  intro n
  induction n with
  | zero => intro r v _; trivial
  | succ n ih =>
    intro r v F
    rw [wM_number_L27]
    have j117 : ∀ r2 v2 x, Fr [36] [68, 72, 83] r0 r2 → wM_number_J117 a (wM_number_L27 a KX n) KX r2 v2 x := fun r2 v2 x F2 => by
      unfold wM_number_J117 wM_number_J141
      exact fun _ => ⟨fun _ => ih _ _ F2, fun _ _ _ r19 e19 => ih _ _ (by rw [e19]; exact Fr_trans F2 (Fr_sA (by decide)))⟩
    have j93 : ∀ r2 v2 x, Fr [36] [68, 72, 83] r0 r2 → wM_number_J93 a (wM_number_L27 a KX n) KX r2 v2 x := fun r2 v2 x F2 => by
      unfold wM_number_J93
      exact fun _ => ⟨fun _ => j117 _ _ _ F2, fun _ _ _ r22 e22 => j117 _ _ _ (by rw [e22]; exact Fr_trans F2 (Fr_sA (by decide)))⟩
    refine ⟨fun _ => hK r F, fun _ _ _ => ⟨fun _ => ?_, fun _ _ r10 e10 _ => ?_⟩⟩
    · unfold wM_number_J141
      exact ih _ _ F
    · have F10 : Fr [36] [68, 72, 83] r0 r10 := by rw [e10]; exact Fr_trans F (Fr_sA (by decide))
      exact ⟨fun _ => j93 _ _ _ F10, fun _ _ r24 e24 r25 e25 => j93 _ _ _ (by rw [e25, e24]; exact Fr_trans F10 (Fr_trans (Fr_sA (by decide)) (Fr_sF (by decide))))⟩
theorem ws_num146 {r0 : S_} {KX : S_ → Prop} (hK : ∀ r, Fr [] [77] r0 r → KX r) : ∀ (n : Nat) (r : S_) (v : Int32), Fr [] [77] r0 r → wM_number_L146 a KX n r v := by
  intro n
  induction n with
  | zero => intro r v _; trivial
  | succ n ih =>
    intro r v F
    rw [wM_number_L146]
    unfold wM_number_J205
    exact ⟨fun _ => hK r F, fun _ _ _ _ => ⟨fun _ _ _ _ r34 e34 => ih _ _ (by rw [e34]; exact Fr_trans F (Fr_sA (by decide))), fun _ _ _ _ r34 e34 => ih _ _ (by rw [e34]; exact Fr_trans F (Fr_sA (by decide)))⟩⟩
theorem ws_keep339 {r0 : S_} {KX : S_ → Int32 → Int32 → Prop} (hK : ∀ r v2 v3, Fr [38] [81, 82] r0 r → KX r v2 v3) : ∀ (n : Nat) (r : S_) (v2 v3 v4 v5 : Int32), Fr [38] [81, 82] r0 r → wM_keep_L339 a KX n r v2 v3 v4 v5 := by
  intro n
  induction n with
  | zero => intro r v2 v3 v4 v5 _; trivial
  | succ n ih =>
    intro r v2 v3 v4 v5 F
    rw [wM_keep_L339]
    unfold wM_keep_J390
    exact ⟨fun _ => hK r _ _ F, fun _ => ⟨fun _ => ih _ _ _ _ _ F, fun _ _ r59 e59 _ r61 e61 r62 e62 => ih _ _ _ _ _ (by rw [e62, e61, e59]; exact Fr_trans F (Fr_trans (Fr_sA (by decide)) (Fr_trans (Fr_sA (by decide)) (Fr_sF (by decide)))))⟩⟩
theorem ws_keep297 {r0 : S_} {KX : S_ → Int32 → Prop} (hK : ∀ r v2, Fr [38] [81, 82] r0 r → KX r v2) : ∀ (n : Nat) (r : S_) (v2 v3 : Int32), Fr [38] [81, 82] r0 r → wM_keep_L297 a KX n r v2 v3 := by
  intro n
  induction n with
  | zero => intro r v2 v3 _; trivial
  | succ n ih =>
    intro r v2 v3 F
    rw [wM_keep_L297]
    have j334 : ∀ u, wM_keep_J334 a (wM_keep_L297 a KX n) KX r v2 v3 u := fun u => by
      unfold wM_keep_J334
      exact fun m => ws_keep339 (r0 := r0) (fun r2 _ _ F2 => ih _ _ _ F2) m r v2 v3 u 0 F
    exact ⟨fun _ => hK r _ F, fun _ _ _ => ⟨fun _ => j334 0, fun _ _ => wa_M_least (fun z => j334 z)⟩⟩
theorem ws_keep287 {r0 : S_} {KX : S_ → Prop} (hK : ∀ r, Fr [38] [81, 82] r0 r → KX r) : ∀ (n : Nat) (r : S_) (v2 : Int32), Fr [38] [81, 82] r0 r → wM_keep_L287 a KX n r v2 := by
  intro n
  induction n with
  | zero => intro r v2 _; trivial
  | succ n ih =>
    intro r v2 F
    rw [wM_keep_L287]
    exact ⟨fun _ => hK r F, fun _ m => ws_keep297 (r0 := r0) (fun r2 _ F2 => ih _ _ F2) m r v2 0 F⟩
/-- what the reference tells of wants, as a list -/
def TL2 (r : S_) (L : List (Nat × Int32)) : Prop := fi r 38 = Int32.ofNat L.length ∧ L.length ≤ 100000 ∧ ∀ (i : Nat) (h : i < L.length), ar r 81 i = Int32.ofNat (L[i]).1 ∧ ar r 82 i = (L[i]).2
/-- what is kept of wants: rI before the call, r before keep, r' behind it -/
def MWn (rI r r' : S_) (t : Int32) : Prop := ar r' 35 = ar r 35 ∧ ∀ (σ : Int32 → Ut) (D : List Int32) (b : Nat → Nat → Bool), zVal (mG r) σ → D = dd [] (LVS (mG r) σ (gR (mG r) t)) → (∀ j x c, D[j]? = some x → (b j c = true ↔ zLow (kU rI) (FB r x) c)) → TL2 r' (WF b 0 D.length)
theorem ws_mkeep {t : Int32} (hM : ML a) (kq : KQ rI) (k0 : 0 ≤ fi rI 2) (k8 : fi rI 2 ≤ 8) (e41 : ar r 41 = ar rI 6) (e23 : fi r 23 = fi rI 2) (fresh : ∀ x, zRc (mG r) t x → ¬ ar r 68 x.toNatClampNeg = fi r 29 + 1) (fd0 : 0 ≤ fi r 40) (fdv : ∀ i, i < (fi r 40).toNatClampNeg → zVR (mG r) (ar r 84 i) ∧ zRc (mG r) t (ar r 84 i)) (fdj : DJ (ar r 84) (fi r 40).toNatClampNeg) (fdb : ∀ i c, i < (fi r 40).toNatClampNeg → gb (ar r 85 i) c = true → c < (fi rI 2).toNatClampNeg) (w : MI a r rh ta N) (cg : CGr r rh) (e55 : ar r 55 ((0 : Int32)).toNatClampNeg = t) (vt0 : vt r t) (f30 : 0 ≤ fi r 30) (cov : ∀ x, vt r x → zRc (mG r) t x → ∃ i, i < (fi r 30).toNatClampNeg ∧ ar r 73 i = x) (lst : ∀ i, i < (fi r 30).toNatClampNeg → vt r (ar r 73 i) ∧ zRc (mG r) t (ar r 73 i)) {ρ : Int32 → Ut} (v : VM r ρ) (h2 : ∀ x, zRc (mG r) t x → ¬ 0 ≤ ar r 65 x.toNatClampNeg → (ρ x).length = 2) {K : S_ → Prop} (hK : ∀ r', fi r' 39 = fi r 35 → (∀ k, k < 20 → fi r' k = fi r k) → (ar r' 80 (fi r' 37).toNatClampNeg).toInt = capM ((ρ t).length / 2) → MWn rI r r' t → K r') : wM_keep a K r := by
  have rt := m_rr w vt0
  have mx := fun i hi => m_rcv w vt0 (lst i hi).2
  have cl : ∀ x, zRc (mG r) t x → (0 ≤ ar r 66 x.toNatClampNeg → zRc (mG r) t (rh (ar r 66 x.toNatClampNeg))) ∧ (0 ≤ ar r 67 x.toNatClampNeg → zRc (mG r) t (rh (ar r 67 x.toNatClampNeg))) := fun x hx => by
    have k := m_rcv w vt0 hx
    exact ⟨fun q => m_rc1 w hx k.1 k.2 q, fun q => m_rc2 w hx k.1 k.2 q⟩
  have inl : ∀ x, zRc (mG r) t x → ∃ i, i < (fi r 30).toNatClampNeg ∧ ar r 73 i = x := fun x hx => cov x (m_rcv w vt0 hx).1 hx
  unfold wM_keep
  intro _
  rw [e55]
  refine ws_mfind w vt0.1 vt0.2 (fun r3 e3 n69 => ?_)
  have F3 : Fr [37] [] r r3 := by rw [e3]; exact Fr_sF (by decide)
  have a3 : ∀ k, ar r3 k = ar r k := fun k => F3.2.1 k List.not_mem_nil
  have f3 : ∀ k, ¬ k = 37 → fi r3 k = fi r k := fun k hk => F3.1 k (by simpa using hk)
  have w3 : MI a r3 rh ta N := MI_Fr w F3 (by decide) (by decide)
  have v3 : ∀ x, vt r3 x ↔ vt r x := fun x => vt_eq (f3 28 (by decide))
  refine ws_keep16 w3 (by rw [f3 30 (by decide)]; exact f30) (fun i hi => by rw [f3 30 (by decide)] at hi; rw [a3]; exact (v3 _).mpr (lst i hi).1) (fun r4 s4 n68 => ?_) n69 r3 0 ⟨Fr_refl _, fun i hi => absurd hi (Nat.not_lt_zero _)⟩ (Int32.le_refl _) (by rw [f3 30 (by decide)]; exact f30)
  obtain ⟨F4, s4⟩ := s4
  rw [f3 30 (by decide)] at s4
  simp only [a3] at s4
  have f4 : ∀ k, ¬ k = 37 → fi r4 k = fi r k := fun k hk => (F4.1 k List.not_mem_nil).trans (f3 k hk)
  have a4 : ∀ k, ¬ k = 77 → ¬ k = 78 → ¬ k = 79 → ¬ k = 80 → ar r4 k = ar r k := fun k h1 h2 h3 h4 => (F4.2.1 k (by simp [h1, h2, h3, h4])).trans (a3 k)
  have g37 : fi r4 37 = rh t := by rw [F4.1 37 List.not_mem_nil, e3, fi_sF, if_pos rfl]
  -- parts of listed ones
  have pt : ∀ u : Int32, -1 ≤ u → (0 ≤ u → vt r u) → (0 ≤ u → zRc (mG r) t (rh u)) → (pF r3 rh u = -1 ∨ ∃ j, j < (fi r 30).toNatClampNeg ∧ pF r3 rh u = ar r 73 j) ∧ ((if pF r3 rh u = -1 then 0 else (ρ (pF r3 rh u)).length / 2) = (ρ u).length / 2) := fun u u0 u1 u2 => by
    unfold pF
    rcases m1c u0 with e | e
    · rw [e, if_neg (by decide), if_pos rfl, v.1]
      exact ⟨Or.inl rfl, rfl⟩
    · have k := m_rr w (u1 e)
      obtain ⟨j, j1, j2⟩ := inl _ (u2 e)
      rw [if_pos e, if_neg (nm1 k.1.1), ← VM_rh w v (u1 e).1 (u1 e).2]
      exact ⟨Or.inr ⟨j, j1, j2.symm⟩, rfl⟩
  have nd : ∀ x, zRc (mG r) t x → 1 ≤ (ρ x).length / 2 ∧ (ρ x).length / 2 = 1 + (ρ (ar r 66 x.toNatClampNeg)).length / 2 + (ρ (ar r 67 x.toNatClampNeg)).length / 2 ∧ (ρ x).length % 2 = 0 := by
    have key : ∀ (n : Nat) (x : Int32), zRc (mG r) t x → (ρ x).length < n → 1 ≤ (ρ x).length / 2 ∧ (ρ x).length / 2 = 1 + (ρ (ar r 66 x.toNatClampNeg)).length / 2 + (ρ (ar r 67 x.toNatClampNeg)).length / 2 ∧ (ρ x).length % 2 = 0 := by
      intro n
      induction n with
      | zero => intro x _ h; omega
      | succ n ih =>
        intro x hx hl
        have k := m_rcv w vt0 hx
        have nb := w.2.2.2.1 x k.1.1 k.1.2
        by_cases h0 : 0 ≤ ar r 65 x.toNatClampNeg
        · have e := (v.2 x k.1.1 k.1.2).2 h0
          have le := congrArg List.length e
          rw [Jn_len] at le
          have l := m_lf w k.1
          have ev : ∀ u : Int32, -1 ≤ u → (0 ≤ u → vt r u) → (0 ≤ u → zRc (mG r) t (rh u)) → (ρ u).length < n → (ρ u).length % 2 = 0 := fun u u0 u1 u2 u3 => by
            rcases m1c u0 with q | q
            · rw [q, v.1]; rfl
            · rw [VM_rh w v (u1 q).1 (u1 q).2] at u3 ⊢
              exact (ih _ (u2 q) u3).2.2
          have e1 := ev _ l.1.1 l.1.2 (cl x hx).1 (by omega)
          have e2 := ev _ l.2.1 l.2.2 (cl x hx).2 (by omega)
          omega
        · have le := h2 x hx h0
          have z := nb.2.2.2.2.1 (Int32.not_le.mp h0)
          rw [z.1, z.2, v.1, le]
          decide
    exact fun x hx => key _ x hx (Nat.lt_succ_self _)
  refine ws_keep116 (X := ar r 73) (nX := (fi r 30).toNatClampNeg) (Nd := fun x => (ρ x).length / 2) (by rw [f4 30 (by decide)]) (by rw [f4 30 (by decide)]; exact f30) (fun i _ => by rw [a4 73 (by decide) (by decide) (by decide) (by decide)]) (fun i hi => (lst i hi).1.1) (fun i hi => ?_) (fun i hi => ?_) (fun r5 F5 sz => ?_) n68 r4 1 ⟨Fr_refl _, fun i hi => Or.inl (s4 i hi).2.2.1⟩ (fun z => absurd z (by decide))
  · have l := m_lf w (lst i hi).1
    have c := cl _ (lst i hi).2
    rw [(s4 i hi).1, (s4 i hi).2.1]
    exact ⟨(pt _ l.1.1 l.1.2 c.1).1, (pt _ l.2.1 l.2.2 c.2).1⟩
  · have l := m_lf w (lst i hi).1
    have c := cl _ (lst i hi).2
    have n := nd _ (lst i hi).2
    rw [(s4 i hi).1, (s4 i hi).2.1]
    show 1 ≤ (ρ (ar r 73 i)).length / 2 ∧ (ρ (ar r 73 i)).length / 2 = 1 + (if pF r3 rh (ar r 66 (ar r 73 i).toNatClampNeg) = -1 then 0 else (ρ (pF r3 rh (ar r 66 (ar r 73 i).toNatClampNeg))).length / 2) + (if pF r3 rh (ar r 67 (ar r 73 i).toNatClampNeg) = -1 then 0 else (ρ (pF r3 rh (ar r 67 (ar r 73 i).toNatClampNeg))).length / 2)
    rw [(pt _ l.1.1 l.1.2 c.1).2, (pt _ l.2.1 l.2.2 c.2).2]
    exact ⟨n.1, n.2.1⟩
  · unfold wM_number
    intro ra ea rb eb _ rc ec n38
    have Fc : Fr [29, 36] [72] r5 rc := by rw [ec, eb, ea]; exact Fr_trans (Fr_sF (by decide)) (Fr_trans (Fr_sF (by decide)) (Fr_sA (by decide)))
    have f5 : ∀ k, ¬ k = 37 → fi r5 k = fi r k := fun k hk => (F5.1 k List.not_mem_nil).trans (f4 k hk)
    have z0 : ((0 : Int32)).toNatClampNeg = 0 := by decide
    have z1 : ((1 : Int32)).toNatClampNeg = 1 := by decide
    have zv := (VM_val w cg).mpr v
    have gwm := mG_GW w
    have gt : gR (mG r) t = rh t := mgR w vt0
    have hrt : zRn (mG r) (rh t) := (m_rt w rt.1).mpr rt.2.1
    have rce : ∀ x, zRc (mG r) (rh t) x ↔ zRc (mG r) t x := fun x => by unfold zRc; rw [hrt.2, gt]
    have l72 : ln a 72 ≤ 1000000 := by rw [ml (n := ln0 72) hM (by decide) (by decide) rfl]; decide
    have l81 : ln a 81 ≤ 100000 := by rw [ml (n := ln0 81) hM (by decide) (by decide) rfl]; decide
    have a5 : ∀ k, ¬ k = 80 → ar r5 k = ar r4 k := fun k hk => F5.2.1 k (by simpa using hk)
    have c37 : fi rc 37 = rh t := by rw [Fc.1 37 (by decide), F5.1 37 (by decide), g37]
    have c36 : fi rc 36 = 0 := by rw [ec, eb, ea]; rfl
    have c29 : fi rc 29 = fi r 29 + 1 := by
      have e : fi rc 29 = fi r5 29 + 1 := by rw [ec, eb, ea]; rfl
      rw [e, f5 29 (by decide)]
    have c72 : ar rc 72 0 = rh t := by
      have e : ar rc 72 = upd (ar r5 72) 0 (fi r5 37) := by rw [ec, eb, ea]; rfl
      rw [e, pk_us, F5.1 37 (by decide), g37]
    have nt : NTB (mG r) (rh t) rc := fun x hx => by
      have hx' := (rce x).mp hx
      obtain ⟨i, i1, i2⟩ := inl x hx'
      have s := s4 i i1
      rw [i2] at s
      have kx := m_rcv w vt0 hx'
      have lf := m_lf w kx.1
      have pf : ∀ u : Int32, -1 ≤ u → (0 ≤ u → vt r u) → pF r3 rh u = if u = -1 then -1 else gR (mG r) u := fun u u0 u1 => by
        unfold pF
        rcases m1c u0 with e | e
        · rw [e, if_neg (by decide), if_pos rfl]
        · rw [if_pos e, if_neg (nm1 e), mgR w (u1 e)]
      have c77 : ar rc 77 = ar r4 77 := (Fc.2.1 77 (by decide)).trans (a5 77 (by decide))
      have c78 : ar rc 78 = ar r4 78 := (Fc.2.1 78 (by decide)).trans (a5 78 (by decide))
      have c79 : ar rc 79 = ar r4 79 := (Fc.2.1 79 (by decide)).trans (a5 79 (by decide))
      rw [c77, c78, c79, s.1, s.2.1, s.2.2.2]
      exact ⟨kx.1.1, Iff.rfl, pf _ lf.1.1 lf.1.2, pf _ lf.2.1 lf.2.2⟩
    have stk1 : stk (ar rc 72) ((1 : Int32)).toNatClampNeg = [rh t] := by rw [z1, stk, stk, c72]
    have c68 : ar rc 68 = ar r 68 := (Fc.2.1 68 (by decide)).trans ((a5 68 (by decide)).trans (a4 68 (by decide) (by decide) (by decide) (by decide)))
    have nm0 : NMI (mG r) ρ (rh t) rc rc 1 [] := by
      refine ⟨Fr_refl _, by decide, fun s hs => ?_, ?_, by rw [stk1], by rw [c36]; rfl, fun x hx => absurd hx List.not_mem_nil, fun i hi => absurd hi (Nat.not_lt_zero _)⟩
      · rw [stk1] at hs
        rw [List.mem_singleton.mp hs]
        exact (rce _).mpr (m_rc0 w vt0)
      · rw [stk1]
        exact DFI_cg (fun y => ⟨False.elim, fun h => fresh y ((rce y).mp h.1) (by have := h.2; rw [c68, c29] at this; exact this)⟩) DF_start
    refine ws_numL (r0 := rc) gwm zv hrt nt l72 (fun rd D Fd eD d36 d83 n37 => ?_) n38 rc 1 [] nm0
    have nd : D.Nodup := by rw [eD]; exact dd_nd _ _ List.nodup_nil
    have Dm : ∀ x, x ∈ D ↔ zVR (mG r) x ∧ zRc (mG r) t x := fun x => by
      rw [eD, dd_mem, LVS_in gwm zv _ _ hrt (Nat.lt_succ_self _), rce]
      exact ⟨fun h => h.resolve_left List.not_mem_nil, Or.inr⟩
    have dl : D.length ≤ (fi r 30).toNatClampNeg := nd_le nd (fun x hx => inl x ((Dm x).mp hx).2)
    have d30 := i_nat f30
    have m30 : (fi r 30).toInt ≤ 2147483647 := Int32.toInt_le _
    have oD := ofNs (n := D.length) (by omega)
    refine ws_num146 (r0 := rd) (fun rg Fg r49 e49 r50 e50 n67 => ?_) n37 rd 0 (Fr_refl _)
    have F50 : Fr [38, 39] [] rg r50 := by rw [e50, e49]; exact Fr_trans (Fr_sF (by decide)) (Fr_sF (by decide))
    have x50 : ∀ k, ¬ k = 36 → ¬ k = 38 → ¬ k = 39 → ¬ k = 29 → ¬ k = 37 → fi r50 k = fi r k := fun k k1 k2 k3 k4 k5 => by
      rw [F50.1 k (by simp [k2, k3]), Fg.1 k List.not_mem_nil, Fd.1 k (by simp [k1]), Fc.1 k (by simp [k1, k4]), f5 k k5]
    have y50 : ∀ k, 83 < k ∨ k < 68 → ar r50 k = ar r k := fun k hk => by
      rw [F50.2.1 k List.not_mem_nil, Fg.2.1 k (by simp; omega), Fd.2.1 k (by simp; omega), Fc.2.1 k (by simp; omega), a5 k (by omega), a4 k (by omega) (by omega) (by omega) (by omega)]
    have b40 : fi r50 40 = fi r 40 := x50 40 (by decide) (by decide) (by decide) (by decide) (by decide)
    have b23 : fi r50 23 = fi rI 2 := (x50 23 (by decide) (by decide) (by decide) (by decide) (by decide)).trans e23
    have b41 : ar r50 41 = ar rI 6 := (y50 41 (by decide)).trans e41
    have b84 : ar r50 84 = ar r 84 := y50 84 (by decide)
    have b85 : ar r50 85 = ar r 85 := y50 85 (by decide)
    have b35 : ar r50 35 = ar r 35 := y50 35 (by decide)
    have b36 : fi r50 36 = Int32.ofNat D.length := by rw [F50.1 36 (by decide), Fg.1 36 List.not_mem_nil, d36]
    have b83 : ∀ (i : Nat) (h : i < D.length), ar r50 83 (D[i]).toNatClampNeg = Int32.ofNat i := fun i h => by rw [F50.2.1 83 List.not_mem_nil, Fg.2.1 83 (by decide)]; exact d83 i h
    have b38 : fi r50 38 = 0 := by rw [e50, fi_sF, if_pos rfl]
    have fbe : ∀ x c, FB r50 x c ↔ FB r x c := fun x c => by unfold FB; rw [b40, b84, b85]
    have n2 := i_nat k0
    have k8i := k8
    rw [il] at k8i
    simp at k8i
    refine ws_k287 (r0 := r50) (f := fun j c => @decide (zLow (kU rI) (fun c => gb (ar r 85 j) c = true) c) (Classical.propDecidable _)) (L0 := nl2 r50 (fun j c => @decide (zLow (kU rI) (fun c => gb (ar r 85 j) c = true) c) (Classical.propDecidable _)) (fi rI 2).toNatClampNeg 0 D.length) l81 (by rw [b23]; exact k0) (by rw [b23]; exact k8) (by rw [b40]; exact fd0) (fun r6 j F6 hj K6 h6 => ?_) (fun rz wz => ?_) n67 r50 0 [] ⟨Fr_refl _, Nat.zero_le _, by rw [b38]; rfl, fun i hi => absurd hi (Nat.not_lt_zero _)⟩ (Int32.le_refl _) (by rw [b36]; exact oD.2.1) (by rw [b23, b36, oD.2.2, z0, Nat.sub_zero, List.nil_append])
    · rw [b40] at hj
      rw [b85]
      refine ws_mleast hM kq k0 k8 (by rw [F6.2.1 41 (by decide)]; exact b41) (by rw [F6.1 23 (by decide)]; exact b23) (fun c hc => fdb j c hj hc) (fun z hz => h6 z (fun c => ?_))
      rw [hz c]
      exact ⟨fun q => @decide_eq_true _ (Classical.propDecidable _) q, fun q => @of_decide_eq_true _ (Classical.propDecidable _) q⟩
    obtain ⟨Fz, wl, w38, wi⟩ := wz
    have mw : MWn rI r rz t := by
      refine ⟨by rw [Fz.2.1 35 (by decide)]; exact b35, fun σ D' b vσ eD' hb => ?_⟩
      have ed : D' = D := by rw [eD', eD, gt, LVS_irr gwm vσ zv hrt]
      subst ed
      have full := nl2_full (r0 := r50) (D := D') (b := b) (nc := (fi rI 2).toNatClampNeg) (U := kU rI) (f := fun j c => @decide (zLow (kU rI) (fun c => gb (ar r 85 j) c = true) c) (Classical.propDecidable _)) (by omega) b83 (by omega) (fun i hi => by
        rw [b40] at hi
        rw [b84]
        exact (Dm _).mpr (fdv i hi)) (by rw [b84, b40]; exact fdj) (fun i c _ => by
        rw [b85]
        exact ⟨fun q => @of_decide_eq_true _ (Classical.propDecidable _) q, fun q => @decide_eq_true _ (Classical.propDecidable _) q⟩) (fun i c hi hc => by
        rw [b40] at hi
        rw [b85] at hc
        exact fdb i c hi hc) (fun j x c hx => by
        rw [hb j x c hx]
        have e : FB r50 x = FB r x := funext (fun c => propext (fbe x c))
        rw [e])
      rw [full] at wl w38 wi
      exact ⟨w38, wl, wi⟩
    refine hK rz ?_ (fun k hk => ?_) ?_ mw
    · rw [Fz.1 39 (by decide), e50, fi_sF, if_neg (by decide), e49, fi_sF, if_pos rfl, Fg.1 35 (by decide), Fd.1 35 (by decide), Fc.1 35 (by decide), F5.1 35 (by decide), f4 35 (by decide)]
    · rw [Fz.1 k (by simp; omega), F50.1 k (by simp; omega), Fg.1 k List.not_mem_nil, Fd.1 k (by simp; omega), Fc.1 k (by simp; omega), F5.1 k List.not_mem_nil, f4 k (by omega)]
    · rw [Fz.1 37 (by decide), F50.1 37 (by decide), Fg.1 37 (by decide), Fd.1 37 (by decide), Fc.1 37 (by decide), F5.1 37 (by decide), g37]
      rw [Fz.2.1 80 (by decide), F50.2.1 80 (by decide), Fg.2.1 80 (by decide), Fd.2.1 80 (by decide), Fc.2.1 80 (by decide)]
      obtain ⟨i, i1, i2⟩ := inl _ (m_rc0 w vt0)
      have k := sz i i1
      rw [i2] at k
      rw [k, VM_rh w v vt0.1 vt0.2]
end ZMKEEP2
