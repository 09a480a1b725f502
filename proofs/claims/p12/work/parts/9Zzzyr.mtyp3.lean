/-! The reference's typing: LET; every tree. -/
section ZMTYP3
variable {ad l : Nat → Nat} {a : L_} {rI r r' r1 r2 r3 : S_} {rh ta : Int32 → Int32} {N : Int32}
theorem rc_DM (w : MI a r rh ta N) {t y : Int32} (ht : vt r t) (h : zRc (mG r) t y) : DM r (fun x => x = t) y := fun B h1 h2 h3 => by
  have up : ∀ x, vt r x → B x → B (rh x) := fun x vx bx => (rh_ind w (A := fun y => vt r y ∧ B y) (fun z z1 z2 z3 => ⟨(w.2.2.2.1 z z1 z2).1, (h1 z ⟨z1, z2⟩).mp z3.2⟩) vx.1 vx.2 ⟨vx, bx⟩).2
  refine (m_rcm w ht (S := fun y => vt r y ∧ B y) ⟨(m_rr w ht).1, up t ht (h3 t rfl)⟩ (fun y vy sy => ?_) h).2
  have l := m_lf w vy
  have k := h2 y vy sy.2
  exact ⟨fun q => ⟨(m_rr w (l.1.2 q)).1, up _ (l.1.2 q) (k.1 q)⟩, fun q => ⟨(m_rr w (l.2.2 q)).1, up _ (l.2.2 q) (k.2 q)⟩⟩
theorem typm_let {KX : S_ → Prop} {d : Nat} (tab : TAB l rI) (ih : TYPr ad l rI KX d) {n : Int32} {m1 m2 : Nat} {S1 S2 : List Int32} {L : List (Int32 × Nat)} {Γ : List En} {v : Int32} (nk : nodeOK r n) (hk : kd r n = 3) (e51 : ar r 51 (ar r 53 n.toNatClampNeg).toNatClampNeg = n ∧ ar r 51 (ar r 54 n.toNatClampNeg).toNatClampNeg = n) (e52 : ar r 52 (ar r 53 n.toNatClampNeg).toNatClampNeg = 0 ∧ ar r 52 (ar r 54 n.toNatClampNeg).toNatClampNeg = 1) (tr1 : TrR r d (ar r 53 n.toNatClampNeg) m1 S1) (tr2 : TrR r d (ar r 54 n.toNatClampNeg) m2 S2) (nd : (n :: (S1 ++ S2)).Nodup) (hx : ∀ x, x ∈ n :: (S1 ++ S2) → XEn r x) (p : PRm (ad, l) rI r L n Γ (m1 + m2 + 1)) (st : ∀ x, x ∈ n :: (S1 ++ S2) → ar r 59 x.toNatClampNeg = 0) (rd : ∀ x, RD r L x → x ∉ n :: (S1 ++ S2)) (hv : 1 ≤ v.toInt ∧ v.toInt ≤ 64) (hp : ar r 60 (v - 1).toNatClampNeg = n) (hc : ∀ r', POm (ad, l) rI r r' (n :: (S1 ++ S2)) n Γ (d + 1) (m1 + m2 + 1) → (∀ i, i < v.toNatClampNeg → ar r' 60 i = ar r 60 i) → ∀ F, wM_typeAll_L9 (ad, l) KX F r' (v + -1)) (hB : ∀ r', ¬ fi r' 32 = 0 → NOm rI r n Γ (d + 1) (m1 + m2 + 1) → KX r') (F : Nat) : wM_typeAll_L9 (ad, l) KX F r v := by
  have p0 := p
  obtain ⟨⟨rh, ta, N, si⟩, ch, em, b29⟩ := p
  obtain ⟨tbI, te, tym⟩ := tab
  obtain ⟨m1p, sS1, ns1⟩ := TrR_pos d _ _ _ tr1
  obtain ⟨m2p, sS2, ns2⟩ := TrR_pos d _ _ _ tr2
  obtain ⟨d', rfl⟩ : ∃ d', d = d' + 1 := by
    cases d with
    | zero => exact tr1.elim
    | succ d' => exact ⟨d', rfl⟩
  have n0 := nk.1.1
  have qF := si.1
  have w := si.2.1
  have hM := w.1
  have q27 := si.2.2.2.2.2.2.2
  have q31 := si.2.2.2.2.2.2.1.1
  have c0 := w.2.2.1.1
  have c0i : 0 ≤ (fi r 28).toInt := by have := c0; rw [il] at this; simpa using this
  obtain ⟨t1, t2, t3, t4⟩ := kds (n := n) te qF
  obtain ⟨v0, i1, i2, i3⟩ := idx64 hv.1 hv.2
  have m200 : (m1 : Int) + m2 ≤ 200 := by have := si.2.2.2.2.1.2.1; simp at b29; omega
  have b29' : (fi r 29).toInt + 5 * ((m1 : Int) + m2 + 1) ≤ 1000 := by simpa using b29
  have kinds : tK (ctb rI) (ar r 50 n.toNatClampNeg) = 0 ∨ tK (ctb rI) (ar r 50 n.toNatClampNeg) = 1 ∨ tK (ctb rI) (ar r 50 n.toNatClampNeg) = 2 ∨ tK (ctb rI) (ar r 50 n.toNatClampNeg) = 3 ∨ tK (ctb rI) (ar r 50 n.toNatClampNeg) = 4 ∨ tK (ctb rI) (ar r 50 n.toNatClampNeg) = 5 := Or.inr (Or.inr (Or.inr (Or.inl (by rw [t1, hk]))))
  have no : ∀ k, ¬ k = 3 → ¬ tK (ctb rI) (ar r 50 n.toNatClampNeg) = k := fun k hk' z => hk' (by rw [← z, t1, hk])
  have x1 : ar r 50 (ar r 53 n.toNatClampNeg).toNatClampNeg = tB (ctb rI) (ar r 50 n.toNatClampNeg) := by rw [t3]; exact ((hx n List.mem_cons_self).2.2 hk).1
  have x2 : ar r 50 (ar r 54 n.toNatClampNeg).toNatClampNeg = tC (ctb rI) (ar r 50 n.toNatClampNeg) := by rw [t4]; exact ((hx n List.mem_cons_self).2.2 hk).2
  have nS : n ∉ S1 ++ S2 := (List.nodup_cons.mp nd).1
  have hS1 : n ∉ S1 := fun h => nS (List.mem_append.mpr (Or.inl h))
  have hS2 : n ∉ S2 := fun h => nS (List.mem_append.mpr (Or.inr h))
  have ndd := List.nodup_append.mp (List.nodup_cons.mp nd).2
  have in1 : ∀ x, x ∈ n :: S1 → x ∈ n :: (S1 ++ S2) := fun x h => by
    rcases List.mem_cons.mp h with e | e
    · rw [e]; exact List.mem_cons_self
    · exact List.mem_cons_of_mem _ (List.mem_append.mpr (Or.inl e))
  have in2 : ∀ x, x ∈ S2 → x ∈ n :: (S1 ++ S2) := fun x h => List.mem_cons_of_mem _ (List.mem_append.mpr (Or.inr h))
  -- no solution behind e
  have gar : ∀ (t c' : Int32) (V' : (Int32 → Ut) → Prop) (W : Int32 → Nat → Prop) (k am : Prop) (pp : Int), zTY (ctb rI) (d' + 1) (tB (ctb rI) (ar r 50 n.toNatClampNeg)) Γ (fi r 28) (VM r) t c' V' W k am pp → (∀ ρ, ¬ V' ρ) → fi r 28 ≤ c' → c'.toInt ≤ 40000 + 2 * (m1 : Int) → 0 ≤ t → t < c' → NOm rI r n Γ (d' + 1 + 1) (m1 + m2 + 1) := by
    intro t c' V' W k am pp zt emp b1 b2 b3 b4
    refine ⟨t, c', fun _ => False, fun x cl => False ∨ False, False ∨ False, False ∨ False, pp + 0, ⟨fun ρ h => h.elim, Or.inr ⟨fun _ _ _ h => h, b1, ⟨b3, b4⟩, kinds, fun z => absurd z (no 0 (by decide)), fun z => absurd z (no 1 (by decide)), fun z => absurd z (no 2 (by decide)), fun _ => ⟨t, c', V', W, k, am, pp, fun _ _ => False, 0, fun _ _ => False, False, False, fun _ _ => False, False, False, 0, zt, fun _ _ _ h => absurd h (emp _), fun ⟨ρ, h⟩ => absurd h (emp ρ), zTY_gar emp (fun ρ h => h.elim), fun x cl => Iff.rfl, Iff.rfl, Iff.rfl, rfl⟩, fun z => absurd z (no 4 (by decide)), fun z => absurd z (no 5 (by decide))⟩⟩, fun ρ h => h, ⟨b1, by simp; omega⟩, b3, b4⟩
  refine typm_half ih nk (Or.inr hk) e51.1 e52.1 tr1 nd hx p0 st rd hv hp (fun r3 half F => ?_) (fun r' f32' ⟨t, c', V', W, k, am, pp, zt, emp, ⟨b1, b2⟩, b3, b4⟩ => hB r' f32' (gar t c' V' W k am pp (by rw [← x1]; exact zt) emp b1 b2 b3 b4)) F
  cases F with
  | zero => trivial
  | succ F =>
  obtain ⟨⟨rh3, ta3, N3, si3⟩, s3, ws3, b3, vt3, ⟨h59, h61⟩, pl3, k1, am1, pp1, zt1, fl1⟩ := half
  rw [x1] at zt1
  have q273 := zo2 q27 s3.2.2.1.1
  have q313 := zo2 q31 ws3.1
  refine L9w_unf (n := n) hv.1 si3.2.2.2.1 (by rw [pl3 _ i1]; exact hp) ?_
  have k3' : ar r3 45 (ar r3 50 n.toNatClampNeg).toNatClampNeg = 3 := by have := kd_eq s3.1 (n := n); unfold kd at this; rw [this]; exact hk
  unfold wM_visit wM_kindOf
  rw [k3', h59]
  intro _ _ _ _ r4 e4
  refine ⟨fun _ => ⟨fun _ => ⟨fun _ => ⟨fun _ => ?_, fun z => absurd z (by decide)⟩, fun z => absurd z (by decide)⟩, fun z => absurd z (by decide)⟩, fun z => absurd z (by decide)⟩
  unfold wM_visit_J194 wM_visit_J265
  refine ⟨fun _ => ⟨fun _ => ⟨fun z => absurd rfl z, fun _ => ⟨fun z => absurd rfl z, fun _ => ?_⟩⟩, fun z => absurd z (by decide)⟩, fun z => absurd z (by decide)⟩
  have F4 : Fr [] [59] r3 r4 := by rw [e4]; exact Fr_sA (by decide)
  have s4 : SRm r3 r4 (n :: S1) := SRm_row n0 List.mem_cons_self (by unfold nda; decide) e4
  have si4 := SIm_row si3 (k := 59) (by unfold nda; decide) e4
  have f4 : ∀ k, fi r4 k = fi r3 k := fun k => F4.1 k List.not_mem_nil
  have a4 : ∀ k, ¬ k = 59 → ar r4 k = ar r3 k := fun k hk => F4.2.1 k (by simpa using hk)
  have rdN : ∀ x, RD r L x → x ∉ n :: S1 := fun x h q => rd x h (in1 x q)
  have rd2 : ∀ x, RD r L x → x ∉ S2 := fun x h q => rd x h (in2 x q)
  have s04 : SRm r r4 (n :: S1) := SRm_trans q27 s3 s4 (fun x h => h) (fun x h => h)
  have ch4 : CH r4 n L := CH_NFr s04.1 ch
  have em4 : EM rI r4 L Γ := EM_SRm q27 s04 ch rdN em
  have y61 : ar r4 61 n.toNatClampNeg = fi r 31 := by rw [a4 61 (by decide)]; exact h61
  have y53 : ar r4 53 = ar r 53 := (tabs s04.1).2 53 (by decide)
  have y55 : ar r4 55 (ar r4 53 n.toNatClampNeg).toNatClampNeg = ar r3 55 (ar r 53 n.toNatClampNeg).toNatClampNeg := by rw [y53, a4 55 (by decide)]
  have V4 : VM r4 = VM r3 := VM_Fr F4 (by decide) (by decide)
  have le03 := s3.2.1.1
  have le03i := le03
  rw [il] at le03i
  have hv4 := EM_vt L Γ n ch4 em4
  have c3b : (fi r3 28).toInt ≤ 40000 + 2 * (m1 : Int) := by have := si3.2.1.2.2.1.2; omega
  refine ws_mgen tbI si4 ch4 n0 (by rw [y61]; exact q31) (by rw [y61, f4]; exact ws3.1) (by rw [f4]; omega) hv4 (by rw [y55]; exact (vt_eq (f4 28)).mpr vt3) (fun r31 f31 emp _ => ⟨fun _ _ r10 e10 => L9w_bad (hB r10 (by rw [e10]; exact f31) ?_) (by rw [e10]; exact f31) F, fun _ => L9w_bad (hB r31 f31 ?_) f31 F⟩) (fun r31 g _ => ?_)
  · exact gar _ _ (VM r3) _ _ _ _ zt1 (fun ρ h => emp ρ (by rw [V4]; exact h)) le03 c3b vt3.1 vt3.2
  · exact gar _ _ (VM r3) _ _ _ _ zt1 (fun ρ h => emp ρ (by rw [V4]; exact h)) le03 c3b vt3.1 vt3.2
  have gl := GMP_let (Γ := Γ) tbI si4.1 si4.2.1 si4.2.2.1 (by rw [f4]; exact q273) g (EM_lams L Γ n ch4 em4) k1 am1
  obtain ⟨⟨sol, si31, F31, f29⟩, ⟨wg, wnt⟩, ⟨l33, l34⟩, ⟨o57, o58, le27, o57', o62⟩, own, inj, b8, ow2⟩ := g
  rw [y61] at gl wg wnt l33 l34
  rw [y55, V4, f4] at gl
  have mW4 : mW r4 (fi r 31) = mW r3 (fi r 31) := mW_Fr F4 (by decide) (by decide)
  rw [mW4] at gl l33 l34
  have e54 : ar r31 54 n.toNatClampNeg = ar r 54 n.toNatClampNeg := by rw [F31.2.1 54 (by decide), a4 54 (by decide), (tabs s3.1).2 54 (by decide)]
  rw [e54]
  refine ⟨fun _ vp60 r10 e10 => ?_, fun z => absurd ns2.1.1 z⟩
  have v64 := pile64 hM vp60
  obtain ⟨s10, F10⟩ := SRm_60 (S := n :: S1) e10
  have os31 : OS r4 r31 := OS_Fr F31 (by decide) (by decide)
  have s31 : SRm r4 r31 (n :: S1) := by
    refine ⟨⟨Fr_mono F31 (by decide) (by decide), fun k hk m m0 hm => ?_⟩, os31, ⟨le27, o62⟩, fun ρ h => by rw [VM_Fr F31 (by decide) (by decide)] at h; exact h⟩
    have mn : ¬ m = n := fun e => hm (by rw [e]; exact List.mem_cons_self)
    have mn' : ¬ m.toNatClampNeg = n.toNatClampNeg := fun e => mn (by
      have e1 := i_nat m0
      have e2 := i_nat n0
      apply Int32.toInt_inj.mp
      omega)
    unfold nda at hk
    rcases hk with e | e | e | e | e | e <;> subst e
    · rw [F31.2.1 55 (by decide)]
    · rw [F31.2.1 56 (by decide)]
    · exact (o57' _ mn').1
    · exact (o57' _ mn').2
    · rw [F31.2.1 59 (by decide)]
    · rw [F31.2.1 61 (by decide)]
  have g27 : 0 ≤ fi r4 27 := by rw [f4]; exact q273
  have g2731 := zo2 g27 le27
  have s410 : SRm r4 r10 (n :: S1) := SRm_trans g27 s31 s10 (fun x h => h) (fun x h => h)
  have sN : SRm r r10 (n :: S1) := SRm_trans q27 s04 s410 (fun x h => h) (fun x h => h)
  have si10 : SIm (ad, l) rI r10 rh3 ta3 N3 := SIm_Fr si31 F10 (by decide) (by decide) (by decide) (by decide)
  have V31 : VM r31 = VM r3 := by rw [VM_Fr F31 (by decide) (by decide), V4]
  have V10 : VM r10 = VM r3 := by rw [VM_Fr F10 (by decide) (by decide), V31]
  have f10 : ∀ k, fi r10 k = fi r31 k := fun k => F10.1 k List.not_mem_nil
  have g28 : fi r10 28 = fi r3 28 := by rw [f10, F31.1 28 (by decide), f4]
  have a10 : ∀ k, ¬ k = 60 → ar r10 k = ar r31 k := fun k hk => F10.2.1 k (by simpa using hk)
  have e59 : ar r10 59 n.toNatClampNeg = 2 := by rw [a10 59 (by decide), F31.2.1 59 (by decide), e4, ar_sA, if_pos rfl, pk_us]; rfl
  have e60 : ar r10 60 v.toNatClampNeg = ar r 54 n.toNatClampNeg := by rw [e10, ar_sA, if_pos rfl, pk_us]
  have e60' : ∀ i, i < v.toNatClampNeg → ar r10 60 i = ar r 60 i := fun i hi => by rw [e10, ar_sA, if_pos rfl, pk_un (by omega), F31.2.1 60 (by decide), a4 60 (by decide)]; exact pl3 i hi
  have z53 : ar r10 53 = ar r 53 := (tabs sN.1).2 53 (by decide)
  have z55 : ar r10 55 (ar r10 53 n.toNatClampNeg).toNatClampNeg = ar r3 55 (ar r 53 n.toNatClampNeg).toNatClampNeg := by rw [z53, a10 55 (by decide), F31.2.1 55 (by decide), a4 55 (by decide)]
  have vT10 : vt r10 (ar r3 55 (ar r 53 n.toNatClampNeg).toNatClampNeg) := (vt_eq g28).mpr vt3
  have w4 := si4.2.1
  have lm : LetM rI r10 n (fi r4 27) (fi r31 27) := by
    refine ⟨by rw [z53]; exact ns1.1, by rw [z55]; exact vT10, ⟨by rw [a10 57 (by decide)]; exact o57, by rw [a10 58 (by decide)]; exact o58⟩, ⟨g27, le27, by rw [f10]; exact Int32.le_refl _⟩, fun i i1 i2 => ?_⟩
    have k := ow2 i i1 i2
    rw [a10 62 (by decide), a10 63 (by decide), z55]
    have vo : vt r10 (ar r31 62 i) := (vt_eq (g28.trans (f4 28).symm)).mpr k.1.1
    refine ⟨vo, ?_, k.2⟩
    have dm := rc_DM w4 (by rw [y55]; exact (vt_eq (f4 28)).mpr vt3) k.1.2
    rw [y55] at dm
    exact DM_OS s410.2.1 dm
  have ch10 : CH r10 (ar r 54 n.toNatClampNeg) ((n, 1) :: L) := ⟨by rw [(tabs sN.1).2 51 (by decide)]; exact e51.2, (nodeOK_eq sN.1).mpr nk, Or.inr (Or.inl ⟨rfl, by rw [kd_eq sN.1]; exact hk, by rw [(tabs sN.1).2 52 (by decide)]; exact e52.2⟩), CH_NFr sN.1 ch⟩
  have em10 : EM rI r10 ((n, 1) :: L) (letE r10 n (fi r4 27) (fi r31 27) :: Γ) := ⟨fun z => absurd z (by decide), fun _ => ⟨Γ, _, _, rfl, lm, EM_SRm q27 sN ch rdN em⟩, fun z => absurd z (by decide)⟩
  have pk : PRm (ad, l) rI r10 ((n, 1) :: L) (ar r 54 n.toNatClampNeg) (letE r10 n (fi r4 27) (fi r31 27) :: Γ) m2 := ⟨⟨_, ta3, N3, si10⟩, ch10, em10, by rw [f10, f29, f4]; omega⟩
  have le : letE r10 n (fi r4 27) (fi r31 27) = (tA (ctb rI) (ar r 50 n.toNatClampNeg), true, ar r3 55 (ar r 53 n.toNatClampNeg).toNatClampNeg, Own r31 (fi r4 27).toNatClampNeg (fi r31 27).toNatClampNeg, ((sB (ar r31 63) (fi r4 27).toNatClampNeg ((fi r31 27).toNatClampNeg - (fi r4 27).toNatClampNeg) : Nat) : Int)) := by
    unfold letE nmE Own
    rw [z55, (tabs sN.1).2 46 (by decide), (tabs sN.1).2 50 (by decide), t2, a10 62 (by decide), a10 63 (by decide)]
  have x50 : ar r10 50 = ar r 50 := (tabs sN.1).2 50 (by decide)
  have dis : ∀ x, x ∈ S2 → x ∉ n :: S1 := fun x h q => by
    rcases List.mem_cons.mp q with e | e
    · rw [e] at h; exact hS2 h
    · exact ndd.2.2 x e x h rfl
  have q31_31 : 0 ≤ fi r31 31 := si31.2.2.2.2.2.2.1.1
  have ws031 : WSm r r31 := ⟨wg.1, fun i hi => by
    have k := wg.2 i hi
    rw [a4 75 (by decide), a4 76 (by decide)] at k
    have k2 := ws3.2 i hi
    exact ⟨k.1.trans k2.1, k.2.trans k2.2⟩⟩
  have fl31 : FLm r r31 (k1 ∨ mLK r4 (mW r3 (fi r 31))) (am1 ∨ ∃ v c, zVR (mG r4) v ∧ mNd r4 (mW r3 (fi r 31)) v c ∧ ¬ zBd (mG r4) (GC r4 L) v ∧ ¬ zRc (mG r4) (ar r3 55 (ar r 53 n.toNatClampNeg).toNatClampNeg) v) pp1 := by
    refine ⟨by rw [l33, f4, fl1.1, or_assoc], ?_, by rw [F31.1 35 (by decide), f4]; exact fl1.2.2⟩
    rw [l34, f4, fl1.2.1, or_assoc, y55]
  refine ih r10 (ar r 54 n.toNatClampNeg) m2 S2 ((n, 1) :: L) (letE r10 n (fi r4 27) (fi r31 27) :: Γ) (v + 1) (TrR_eq (tabs sN.1).1 (tabs sN.1).2 (d' + 1) _ _ _ tr2) ndd.2.1 (fun x h => XEn_eq sN.1 (hx x (in2 x h))) pk (fun x h => ?_) (RD_kid sN.1 rd2 hS2 (fun _ q => ndd.2.2 _ sS1 _ q rfl)) ⟨by omega, by omega⟩ (by rw [vv1]; exact e60) (fun r6 po pl F2 => ?_) (fun r6 f6 no6 => hB r6 f6 ?_) F
  · rw [sN.1.2 59 (by unfold nda; decide) x (TrR_all (d' + 1) _ _ _ tr2 x h) (dis x h)]
    exact st x (in2 x h)
  · rw [vv2]
    cases F2 with
    | zero => trivial
    | succ F2 =>
    obtain ⟨⟨rh6, ta6, N6, si6⟩, s6, ws6, b6, vt6, k2, am2, pp2, zt2, fl2⟩ := po
    rw [x50, V10, g28, x2, le, f10] at zt2
    rw [f10, f29, f4] at b6
    have N6' : NFr r r6 (n :: (S1 ++ S2)) := NFr_trans sN.1 s6.1 in1 in2
    have pl6 : ∀ i, i < v.toNatClampNeg → ar r6 60 i = ar r 60 i := fun i hi => by rw [pl i (by omega), e60' i hi]
    have h59' : ar r6 59 n.toNatClampNeg = 2 := by rw [s6.1.2 59 (by unfold nda; decide) n n0 hS2]; exact e59
    have q2710 : 0 ≤ fi r10 27 := by rw [f10]; exact g2731
    have q276 := zo2 q2710 s6.2.2.1.1
    have q3110 : 0 ≤ fi r10 31 := by rw [f10]; exact q31_31
    refine L9w_unf (n := n) hv.1 si6.2.2.2.1 (by rw [pl6 _ i1]; exact hp) ?_
    have k3'' : ar r6 45 (ar r6 50 n.toNatClampNeg).toNatClampNeg = 3 := by have := kd_eq N6' (n := n); unfold kd at this; rw [this]; exact hk
    unfold wM_visit wM_kindOf
    rw [k3'', h59']
    intro _ _ _ _ r7 e7
    refine ⟨fun _ => ⟨fun _ => ⟨fun _ => ⟨fun _ => ?_, fun z => absurd z (by decide)⟩, fun z => absurd z (by decide)⟩, fun z => absurd z (by decide)⟩, fun z => absurd z (by decide)⟩
    unfold wM_visit_J194
    refine ⟨fun _ => ⟨fun _ => ⟨fun _ => ⟨fun _ _ _ _ r16 e16 => ?_, fun z => absurd z (by decide)⟩, fun z => absurd z (by decide)⟩, fun z => absurd z (by decide)⟩, fun z => absurd z (by decide)⟩
    have F7 : Fr [] [59] r6 r7 := by rw [e7]; exact Fr_sA (by decide)
    have s7 : SRm r6 r7 (n :: (S1 ++ S2)) := SRm_row n0 List.mem_cons_self (by unfold nda; decide) e7
    have si7 := SIm_row si6 (k := 59) (by unfold nda; decide) e7
    have F16 : Fr [] [55] r7 r16 := by rw [e16]; exact Fr_sA (by decide)
    have s16 : SRm r7 r16 (n :: (S1 ++ S2)) := SRm_row n0 List.mem_cons_self (by unfold nda; decide) e16
    have F616 : Fr [] [55, 59] r6 r16 := Fr_trans (Fr_mono F7 (by decide) (by decide)) (Fr_mono F16 (by decide) (by decide))
    have e55 : ar r16 55 n.toNatClampNeg = ar r6 55 (ar r 54 n.toNatClampNeg).toNatClampNeg := by rw [e16, ar_sA, if_pos rfl, pk_us, F7.2.1 55 (by decide), F7.2.1 54 (by decide), (tabs N6').2 54 (by decide)]
    have g16 : fi r16 28 = fi r6 28 := F616.1 28 (by decide)
    have le36 := s6.2.1.1
    rw [g28] at le36
    refine ⟨fun z => absurd z (by decide), fun _ => hc r16 ⟨⟨rh6, ta6, N6, SIm_row si7 (k := 55) (by unfold nda; decide) e16⟩, SRm_trans q27 sN (SRm_trans q2710 s6 (SRm_trans q276 s7 s16 (fun x h => h) (fun x h => h)) in2 (fun x h => h)) in1 (fun x h => h), WSm_trans q31 (WSm_trans q31 ws031 (WSm_Fr F10 (by decide) (by decide))) (WSm_trans q3110 ws6 (WSm_Fr F616 (by decide) (by decide))), ?_, by rw [e55]; exact (vt_eq g16).mpr vt6, _, _, _, ?_, FLm_Fr (FLm_trans fl31 (FLm_pre F10 (by decide) fl2)) F616 (by decide)⟩ (fun i hi => ?_) F2⟩
    · rw [F616.1 29 (by decide)]
      simp
      omega
    · rw [e55, g16, VM_Fr F616 (by decide) (by decide), mW_Fr F616 (by decide) (by decide)]
      refine ⟨fun ρ h => s3.2.2.2 ρ (by rw [← V10]; exact s6.2.2.2 ρ h), Or.inr ⟨VM_zloc si6.2.1, zo2 le03 le36, vt6, kinds, fun z => absurd z (no 0 (by decide)), fun z => absurd z (no 1 (by decide)), fun z => absurd z (no 2 (by decide)), fun _ => ⟨_, _, _, _, _, _, _, _, _, mW r31 (fi r 31), _, _, _, _, _, _, zt1, VM_zloc si3.2.1, fun _ => gl, zt2, fun x cl => ?_, Iff.rfl, ?_, rfl⟩, fun z => absurd z (no 4 (by decide)), fun z => absurd z (no 5 (by decide))⟩⟩
      · rw [mW_split (r1 := r31) q31 wg.1 (by rw [← f10 31]; exact ws6.1) (fun i hi => ?_)]
        have k := ws6.2 i (by rw [f10]; exact hi)
        rw [a10 75 (by decide), a10 76 (by decide)] at k
        exact k
      · exact Iff.rfl
    · rw [F616.2.1 60 (by decide)]; exact pl6 i hi
  · obtain ⟨t, c', V', W, k, am, pp, zt, emp, ⟨b1, b2⟩, b3', b4⟩ := no6
    rw [x50, V10, g28, x2, le] at zt
    rw [g28] at b1
    refine ⟨t, c', V', fun x cl => mW r31 (fi r 31) x cl ∨ W x cl, _, _, _, ⟨fun ρ h => absurd h (emp ρ), Or.inr ⟨fun _ _ _ h => absurd h (emp _), zo2 le03 b1, ⟨b3', b4⟩, kinds, fun z => absurd z (no 0 (by decide)), fun z => absurd z (no 1 (by decide)), fun z => absurd z (no 2 (by decide)), fun _ => ⟨_, _, _, _, _, _, _, _, _, mW r31 (fi r 31), _, _, _, _, _, _, zt1, VM_zloc si3.2.1, fun _ => gl, zt, fun x cl => Iff.rfl, Iff.rfl, Iff.rfl, rfl⟩, fun z => absurd z (no 4 (by decide)), fun z => absurd z (no 5 (by decide))⟩⟩, emp, ⟨zo2 le03 b1, by simp; omega⟩, b3', b4⟩
/-- every tree -/
theorem typm {KX : S_ → Prop} (tab : TAB l rI) (e36 : ar rI 36 ((0 : Int32)).toNatClampNeg = 2) : ∀ d, TYPr ad l rI KX d := by
  intro d
  induction d with
  | zero => intro r n m S L Γ v tr; exact tr.elim
  | succ d ih =>
    intro r n m S L Γ v tr nd hx p st rd hv hp hc hB F
    obtain ⟨nk, h⟩ := tr
    rcases h with ⟨em, eS, hk⟩ | ⟨hk, m1, S1, em, eS, e51, tr1⟩ | ⟨hk, m1, m2, S1, S2, em, eS, e51, e52, tr1, tr2⟩
    · subst em
      subst eS
      cases F with
      | zero => trivial
      | succ F =>
        obtain ⟨⟨rh, ta, N, si⟩, _⟩ := id p
        refine L9w_unf (n := n) hv.1 si.2.2.2.1 hp (vsm_leaf tab p nk hk rd (fun r' po e60 => ⟨fun z => absurd z (by decide), fun _ => hc r' po (fun i _ => by rw [e60]) F⟩) (fun r' f32' no => ⟨fun z => absurd z (by decide), fun _ => L9w_bad (hB r' f32' no) f32' F⟩))
    · subst em
      subst eS
      exact typm_lam tab e36 ih nk hk e51 tr1 nd hx p st rd hv hp hc hB F
    · subst em
      subst eS
      rcases hk with hk | hk
      · exact typm_app tab e36 ih nk hk e51 e52 tr1 tr2 nd hx p st rd hv hp hc hB F
      · exact typm_let tab ih nk hk e51 e52 tr1 tr2 nd hx p st rd hv hp hc hB F
end ZMTYP3
