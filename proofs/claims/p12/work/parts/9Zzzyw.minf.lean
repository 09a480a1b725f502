/-! The reference's infer: what it answers. -/
section ZMINF
variable {ad l : Nat → Nat} {a : L_} {rI r r' r1 : S_} {rh ta : Int32 → Int32} {N : Int32}
theorem zlen {a1 a2 : Int32 → Prop} {g : Gr} (w : zGW a1 a2 g) {ρ ρ' : Int32 → Ut} (v : zVal g ρ) (v' : zVal g ρ') : ∀ (n : Nat) (x : Int32), zNx g x → (ρ x).length < n → (∀ u, zRc g x u → ¬ 0 ≤ gH g u → (ρ u).length = (ρ' u).length) → (ρ x).length = (ρ' x).length := by
  intro n
  induction n with
  | zero => intro x _ h; omega
  | succ n ih =>
    intro x hx hl hu
    have rn := w.1 x hx
    by_cases e : 0 ≤ gH g (gR g x)
    · have e1 := (v.2 x hx).2 e
      have e2 := (v'.2 x hx).2 e
      have l := congrArg List.length e1
      rw [Jn_len] at l
      have p := w.2 _ rn
      have part : ∀ y, (y = -1 ∨ zNx g y) → (ρ y).length < n → (¬ y = -1 → ∀ u, zRc g y u → zRc g x u) → (ρ y).length = (ρ' y).length := by
        intro y hy hl2 hc
        by_cases q : y = -1
        · rw [q, v.1, v'.1]
        · exact ih y (hy.resolve_left q) hl2 (fun u h => hu u (hc q u h))
      have sub : ∀ y, zRc g x (gR g y) → ∀ u, zRc g y u → zRc g x u := fun y h u hc => hc (fun u => zRc g x u) h (fun z hz sz => ⟨fun q => zRc_1 sz hz q, fun q => zRc_2 sz hz q⟩)
      rw [e1, e2, Jn_len, Jn_len, part _ p.1 (by omega) (fun q => sub _ (zRc_1 zRc_0 rn q)), part _ p.2.1 (by omega) (fun q => sub _ (zRc_2 zRc_0 rn q))]
    · have h0 := hu _ zRc_0 e
      rw [(v.2 x hx).1, (v'.2 x hx).1]
      exact h0
theorem ws_ringb2 {r0 : S_} {KX : S_ → Prop} (hK : ∀ r, Fr [] [87] r0 r → KX r) : ∀ (n : Nat) (r : S_) (v : Int32), Fr [] [87] r0 r → wM_needNoRing_L2 a KX n r v := by
  intro n
  induction n with
  | zero => intro r v _; trivial
  | succ n ih =>
    intro r v F
    rw [wM_needNoRing_L2]
    exact ⟨fun _ => hK r F, fun _ _ r3 e3 => ih _ _ (by rw [e3]; exact Fr_trans F (Fr_sA (by decide)))⟩
theorem ws_ringb (hb : ¬ fi r 32 = 0) {K : S_ → Prop} (hK : ∀ r', Fr [32] [87] r r' → ¬ fi r' 32 = 0 → K r') : wM_needNoRing a K r := by
  unfold wM_needNoRing
  intro n1
  refine ws_ringb2 (fun r2 F2 n2 => ?_) n1 r 0 (Fr_refl r)
  have b2 : ¬ fi r2 32 = 0 := by rw [F2.1 32 (by decide)]; exact hb
  cases n2 with
  | zero => trivial
  | succ n2 =>
    rw [wM_needNoRing_L27]
    refine ⟨fun z => absurd z (by decide), fun _ => ⟨fun _ => ?_, fun z => absurd z b2⟩⟩
    unfold wM_needNoRing_J155 wM_needNoRing_J167 wM_needNoRing_J172
    refine ⟨fun _ _ r4 e4 => hK r4 ?_ ?_, fun z => absurd z b2⟩
    · rw [e4]
      exact Fr_trans (Fr_mono F2 (by decide) (by decide)) (Fr_sF (by decide))
    · rw [e4, fi_sF, if_pos rfl]
      decide
/-- what a failing infer leaves told -/
def KMk (rI r' : S_) : Prop := fi r' 39 = fi rI 39 ∧ fi r' 38 = fi rI 38 ∧ ar r' 81 = ar rI 81 ∧ ar r' 82 = ar rI 82 ∧ ar r' 35 = ar rI 35
theorem KMk_Fr (F : Fr FFl AAl rI r') : KMk rI r' := ⟨F.1 39 (by decide), F.1 38 (by decide), F.2.1 81 (by decide), F.2.1 82 (by decide), F.2.1 35 (by decide)⟩
theorem nsuc {x : Int32} : ¬ x = x + 1 := by grind
/-- the reference's infer: what it answers -/
def ANr (a : L_) (rI : S_) (e z : Int32) (r' : S_) : Prop := (∀ k, k < 20 → fi r' k = fi rI k) ∧ ((z = -2 ∧ NOTr rI e ∧ KMk rI r') ∨ (∃ rk, (z = -4 ∨ z = -5) ∧ FINr a rI e z rk ∧ KMk rI r') ∨ ∃ rk, FINr a rI e 0 rk ∧ (fi r' 39 = fi rk 35 ∧ MWn rI rk r' (ar rk 55 ((0 : Int32)).toNatClampNeg) ∧ ar rk 35 = ar rI 35) ∧ ∀ ρ, VM rk ρ → (∀ x, zRc (mG rk) (ar rk 55 ((0 : Int32)).toNatClampNeg) x → ¬ 0 ≤ ar rk 65 x.toNatClampNeg → (ρ x).length = 2) → z.toInt = capM ((ρ (ar rk 55 ((0 : Int32)).toNatClampNeg)).length / 2))
theorem nF20 {k : Nat} (h : k < 20) : k ∉ FFl := fun z => by
  simp [FFl] at z
  omega
theorem ws_mtyp {r17 : S_} {d m : Nat} {S : List Int32} (hI : INV l rI) (tab : TAB l rI) (e36 : ar rI 36 ((0 : Int32)).toNatClampNeg = 2) (F0 : Fr FFl AAl rI r17) (f28 : fi r17 28 = 0) (f29 : fi r17 29 = 0) (f31 : fi r17 31 = 0) (f27 : fi r17 27 = 0) (f32 : fi r17 32 = 0) (tr : TrR r17 d 0 m S) (nd : S.Nodup) (m24 : m ≤ 24) (st : ∀ x, x ∈ S → ar r17 59 x.toNatClampNeg = 0) (e51 : ar r17 51 ((0 : Int32)).toNatClampNeg = -1) (xe : ∀ x, x ∈ S → XEn r17 x) (hM : ML (ad, l)) {K : S_ → Prop} (hK : ∀ r' r2, r2 = sA r17 60 (upd (ar r17 60) ((0 : Int32)).toNatClampNeg 0) → POm (ad, l) rI r2 r' S 0 [] d m → K r') (hB : ∀ r' r2, r2 = sA r17 60 (upd (ar r17 60) ((0 : Int32)).toNatClampNeg 0) → ¬ fi r' 32 = 0 → NOm rI r2 0 [] d m → K r') : wM_typeAll (ad, l) K r17 := by
  unfold wM_typeAll
  intro _ r2 e2 n11
  have F2 : Fr [] [60] r17 r2 := by rw [e2]; exact Fr_sA (by decide)
  have f2 : ∀ k, fi r2 k = fi r17 k := fun k => F2.1 k List.not_mem_nil
  have nf : ∀ S, NFr r17 r2 S := fun S => NFr_of F2 (by decide) (by unfold nda; decide) S
  have nov : ∀ x, ¬ vt r2 x := fun x h => by have := h.2; rw [f2, f28] at this; exact nl0 h.1 this
  have F02 : Fr FFl AAl rI r2 := Fr_trans F0 (Fr_mono F2 (by decide) (by decide))
  obtain ⟨m0, c0⟩ := MI_zero (r := r2) (a := (ad, l)) hM (by rw [F02.1 21 (by decide)]; have := hI.2.1.1.1; rw [this]; exact ⟨hI.1.2.2.2.1.1.1.1, hI.1.2.2.2.1.1.1.2.1⟩) (by rw [f2]; exact f28)
  have si : SIm (ad, l) rI r2 (fun x => x) (fun x => x) 0 := ⟨F02, m0, c0, by rw [f2]; exact f32, ⟨fun x h => absurd h (nov x), by rw [f2, f29]; decide, by rw [f2, f29]; decide⟩, fun x h => absurd h (nov x), ⟨by rw [f2, f31]; exact Int32.le_refl _, fun i hi => by rw [f2, f31] at hi; exact absurd hi (Nat.not_lt_zero _)⟩, by rw [f2, f27]; exact Int32.le_refl _⟩
  have pr : PRm (ad, l) rI r2 [] 0 [] m := by
    refine ⟨⟨_, _, _, si⟩, ?_, rfl, ?_⟩
    · show ar r2 51 ((0 : Int32)).toNatClampNeg = -1
      rw [F2.2.1 51 (by decide)]
      exact e51
    · rw [f2, f29]
      have : (0 : Int32).toInt = 0 := rfl
      omega
  refine typm tab e36 d r2 0 m S [] [] 1 (TrR_eq (tabs (nf S)).1 (tabs (nf S)).2 d _ _ _ tr) nd (fun x h => XEn_eq (nf S) (xe x h)) pr (fun x h => by rw [F2.2.1 59 (by decide)]; exact st x h) (fun x ⟨_, _, h, _⟩ => absurd h List.not_mem_nil) (by decide) (by rw [e2, ar_sA, if_pos rfl]; exact pk_us ..) (fun r' po _ F => ?_) (fun r' f no => hB r' r2 e2 f no) n11
  cases F with
  | zero => trivial
  | succ F =>
    rw [wM_typeAll_L9]
    exact ⟨fun _ => hK r' r2 e2 po, fun z => absurd (by decide) z⟩
theorem ws_minfer {e : Int32} (hI : INV l rI) (tab : TAB l rI) (e36 : ar rI 36 ((0 : Int32)).toNatClampNeg = 2) {K : Int32 → S_ → Prop} (h1 : ¬ (0 ≤ e ∧ e < fi rI 25) → ∀ r', (∀ k, k < 20 → fi r' k = fi rI k) → KMk rI r' → K (-1) r') (h3 : 0 ≤ e → e < fi rI 25 → ¬ ar rI 49 e.toNatClampNeg ≤ 24 → ∀ r', (∀ k, k < 20 → fi r' k = fi rI k) → KMk rI r' → K (-3) r') (hK : 0 ≤ e → e < fi rI 25 → ar rI 49 e.toNatClampNeg ≤ 24 → ∀ z r', ANr (ad, l) rI e z r' → K z r') : wM_infer (ad, l) K rI e := by
  have hM : ML (ad, l) := hI.2.2.1
  unfold wM_infer wM_isExpression
  intro r1 e1
  have F1 : Fr FFl AAl rI r1 := by rw [e1]; exact Fr_sF (by decide)
  have g1 : ∀ k, ¬ k = 20 → fi r1 k = fi rI k := fun k hk => by rw [e1, fi_sF, if_neg hk]
  have b1 : ∀ k, ar r1 k = ar rI k := fun k => by rw [e1]; rfl
  have bad : ¬ (0 ≤ e ∧ e < fi rI 25) → K (-1) r1 := fun q => h1 q r1 (fun k hk => g1 k (by omega)) (KMk_Fr F1)
  rw [g1 25 (by decide), b1]
  refine ⟨fun z _ _ => ⟨fun q => absurd rfl q, fun _ => bad (fun q => absurd z (Int32.not_lt.mpr q.1))⟩, fun z => ⟨fun z2 _ _ => ⟨fun q => absurd rfl q, fun _ => bad (fun q => absurd z2 (Int32.not_le.mpr q.2))⟩, fun z2 _ _ => ⟨fun _ _ => ⟨fun sz => ?_, fun sz => h3 (Int32.not_lt.mp z) (Int32.not_le.mp z2) sz r1 (fun k hk => g1 k (by omega)) (KMk_Fr F1)⟩, fun q => absurd q (by decide)⟩⟩⟩
  have e0 := Int32.not_lt.mp z
  have e25 := Int32.not_le.mp z2
  intro r6 e6 r7 e7 r8 e8 r9 e9 _ r10 e10 _ r12 e12 _ r14 e14 r16 e16
  have F16 : Fr FFl AAl rI r16 := by
    rw [e16, e14, e12, e10, e9, e8, e7, e6]
    exact Fr_trans F1 (Fr_trans (Fr_sF (by decide)) (Fr_trans (Fr_sF (by decide)) (Fr_trans (Fr_sF (by decide)) (Fr_trans (Fr_sF (by decide)) (Fr_trans (Fr_sF (by decide)) (Fr_trans (Fr_sF (by decide)) (Fr_trans (Fr_sF (by decide)) (Fr_sF (by decide)))))))))
  have x28 : fi r16 28 = 0 := by rw [e16, e14, e12, e10, e9, e8, e7, e6]; rfl
  have x29 : fi r16 29 = 0 := by rw [e16, e14, e12, e10, e9, e8, e7, e6]; rfl
  have x31 : fi r16 31 = 0 := by rw [e16, e14, e12, e10, e9, e8, e7, e6]; rfl
  have x27 : fi r16 27 = 0 := by rw [e16, e14, e12, e10, e9, e8, e7, e6]; rfl
  have x32 : fi r16 32 = 0 := by rw [e16, e14, e12, e10, e9, e8, e7, e6]; rfl
  have x33 : fi r16 33 = 0 := by rw [e16, e14, e12, e10, e9, e8, e7, e6]; rfl
  have x34 : fi r16 34 = 0 := by rw [e16, e14, e12, e10, e9, e8, e7, e6]; rfl
  have x35 : fi r16 35 = 0 := by rw [e16, e14, e12, e10, e9, e8, e7, e6]; rfl
  have et16 : ETr r16 := ETr_eq (ETr_of hI) (F16.1 1 (by decide)) (F16.1 25 (by decide)) (F16.2.1 42 (by decide)) (F16.2.1 45 (by decide)) (F16.2.1 46 (by decide)) (F16.2.1 47 (by decide)) (F16.2.1 48 (by decide)) (F16.2.1 49 (by decide))
  have sz24 : (ar r16 49 e.toNatClampNeg).toInt ≤ 24 := by rw [F16.2.1 49 (by decide)]; rw [il] at sz; simpa using sz
  refine ws_mspread hM et16 e0 (by rw [F16.1 25 (by decide)]; exact e25) sz24 (fun r17 d m S F17 tr nd m24 st e51 xe ex => ?_)
  have sp : SPD r16 r17 := ⟨F17, d, m, S, tr, nd, m24, st, e51⟩
  have F017 : Fr FFl AAl rI r17 := Fr_trans F16 (Fr_mono F17 (by decide) (by decide))
  have f17 : ∀ k, ¬ k = 26 → fi r17 k = fi r16 k := fun k hk => F17.1 k (by simpa using hk)
  refine wq_M_typeAll (K := fun r' => Fr FFl AAl rI r') (K2 := fun r' => (∃ r2, r2 = sA r17 60 (upd (ar r17 60) ((0 : Int32)).toNatClampNeg 0) ∧ POm (ad, l) rI r2 r' S 0 [] d m) ∨ (¬ fi r' 32 = 0 ∧ ∃ r2, r2 = sA r17 60 (upd (ar r17 60) ((0 : Int32)).toNatClampNeg 0) ∧ NOm rI r2 0 [] d m)) (fun r18 F18 h18 => ?_) (typeAll_ok hI F16 x28 x29 x31 x27 x32 sp (fun r' h => by obtain ⟨⟨_, _, _, q, _⟩, _⟩ := h; exact q.1) (fun r' h => h.2.1)) (ws_mtyp hI tab e36 F017 ((f17 28 (by decide)).trans x28) ((f17 29 (by decide)).trans x29) ((f17 31 (by decide)).trans x31) ((f17 27 (by decide)).trans x27) ((f17 32 (by decide)).trans x32) tr nd m24 st e51 xe hM (fun r' r2 h po => Or.inl ⟨r2, h, po⟩) (fun r' r2 h f no => Or.inr ⟨f, r2, h, no⟩))
  have fin := hK e0 e25 sz
  have r2f : ∀ r2 : S_, r2 = sA r17 60 (upd (ar r17 60) ((0 : Int32)).toNatClampNeg 0) → (∀ k, fi r2 k = fi r17 k) ∧ ar r2 50 ((0 : Int32)).toNatClampNeg = e ∧ (0 ≤ fi r2 28 ∧ zLoc (fi r2 28) (VM r2) ∧ ∃ ρ, VM r2 ρ) := fun r2 e2 => by
    have F2 : Fr [] [60] r17 r2 := by rw [e2]; exact Fr_sA (by decide)
    have f2 : ∀ k, fi r2 k = fi r17 k := fun k => F2.1 k List.not_mem_nil
    have z28 : fi r2 28 = 0 := by rw [f2, f17 28 (by decide), x28]
    refine ⟨f2, by rw [F2.2.1 50 (by decide)]; exact ex, by rw [z28]; exact Int32.le_refl _, fun ρ ρ' h v => ⟨by rw [← h (-1) (by rw [z28]; decide)]; exact v.1, fun x x0 x1 => by rw [z28] at x1; exact absurd x1 (Int32.not_lt.mpr x0)⟩, fun _ => [], rfl, fun x x0 x1 => by rw [z28] at x1; exact absurd x1 (Int32.not_lt.mpr x0)⟩
  rcases h18 with ⟨r2, e2, po⟩ | ⟨f18, r2, e2, no⟩
  · obtain ⟨f2, ex2, V0⟩ := r2f r2 e2
    have g2 : ∀ k, ¬ k = 26 → fi r2 k = fi r16 k := fun k hk => (f2 k).trans (f17 k hk)
    refine ws_mtail tab ((g2 33 (by decide)).trans x33) ((g2 34 (by decide)).trans x34) ((g2 35 (by decide)).trans x35) ((g2 31 (by decide)).trans x31) V0 ex2 m24 (by rw [g2 29 (by decide), x29]; rfl) po (fun r' F no => fin (-2) r' ⟨fun k hk => by rw [F.1 k (by simp; omega), F18.1 k (nF20 hk)], Or.inl ⟨rfl, no, KMk_Fr (Fr_trans F18 (Fr_mono F (by decide) (by decide)))⟩⟩) (fun z r' nz h => fin z r' ⟨fun k hk => ?_, Or.inr (Or.inl ⟨r', ?_, h, ?_⟩)⟩) (fun r' h mk ls => ?_)
    · obtain ⟨_, _, _, _, _, _, _, _, _, _, _, _, _, _, ⟨F, _⟩, _⟩ := h
      exact F.1 k (nF20 hk)
    · obtain ⟨_, _, _, _, _, _, _, _, _, _, _, _, _, _, _, _, _, _, hz, _⟩ := h
      rcases hz with hz | hz | hz
      · exact Or.inl hz.1
      · exact Or.inr hz.1
      · exact absurd hz.1 nz
    · obtain ⟨_, _, _, _, _, _, _, _, _, _, _, _, _, _, ⟨F, _⟩, _⟩ := h
      exact KMk_Fr F
    · have h' := h
      obtain ⟨_, _, _, rh, ta, N, t, W, k, am, p, _, _, ⟨ρs, vs⟩, ⟨FI, w, cg⟩, ⟨vt0, e55⟩, _, ⟨⟨f40, X, dj⟩, cv⟩, hz, _, n8⟩ := h
      have Fk : ∀ k, k < 20 → fi r' k = fi rI k := fun k hk => FI.1 k (nF20 hk)
      have zs := (VM_val w cg).mpr vs
      obtain ⟨ρ, zρ, aρ⟩ := zfree (mG_GW w) w.2.2.1.1 zs (fun _ => Atm 0)
      have vρ := (VM_val w cg).mp zρ
      rw [e55] at ls mk
      have k2 := tab.1.1.2.1.1
      have noam : ¬ (am ∨ ∃ v c, zVR (mG r') v ∧ mNd r' W v c ∧ ¬ zRc (mG r') t v) := by
        rcases hz with q | q | q
        · exact absurd q.1 (by decide)
        · exact absurd q.1 (by decide)
        · exact q.2.2
      have two : ∀ x, zRc (mG r') t x → ¬ 0 ≤ ar r' 65 x.toNatClampNeg → (ρ x).length = 2 := fun x hx h0 => by
        have k := m_rcv w vt0 hx
        rw [aρ x ⟨(m_rt w k.1).mpr k.2, h0⟩]
        rfl
      refine ws_mkeep (rI := rI) hM tab.1.2.1 k2.1 k2.2 (by rw [FI.2.1 41 (by decide)]; exact tab.1.2.2) (by rw [FI.1 23 (by decide)]; exact tab.1.1.1) (fun x hx q => nsuc (((mk x (m_rcv w vt0 hx).1).mpr hx).symm.trans q)) f40 (fun i hi => ⟨(X i hi).1, Classical.byContradiction (fun nr => by
        obtain ⟨c, hc⟩ := (X i hi).2.1
        exact noam (Or.inr ⟨_, c, (X i hi).1, ((X i hi).2.2 c).mp hc, nr⟩))⟩) dj (fun i c hi hc => n8 _ c (((X i hi).2.2 c).mp hc)) w cg e55 vt0 ls.1 ls.2.1 ls.2.2 vρ two (fun r36 f39 fk sz36 mw _ => fin _ r36 ⟨fun k hk => (fk k hk).trans (Fk k hk), Or.inr (Or.inr ⟨r', h', ⟨f39, by rw [e55]; exact mw, FI.2.1 35 (by decide)⟩, fun σ vσ tσ => ?_⟩)⟩)
      rw [e55] at tσ ⊢
      rw [sz36, zlen (mG_GW w) zρ ((VM_val w cg).mpr vσ) _ t vt0 (Nat.lt_succ_self _) (fun u hu h0 => by rw [two u hu h0, tσ u hu h0])]
  · obtain ⟨f2, ex2, V0⟩ := r2f r2 e2
    refine ws_ringb f18 (fun r19 F19 b19 => ⟨fun z => absurd z b19, fun _ => fin (-2) r19 ⟨fun k hk => by rw [F19.1 k (by simp; omega), F18.1 k (nF20 hk)], Or.inl ⟨rfl, ?_, KMk_Fr (Fr_trans F18 (Fr_mono F19 (by decide) (by decide)))⟩⟩⟩)
    obtain ⟨t, c', V', W, k, am, p, zt, emp, _⟩ := no
    rw [ex2] at zt
    exact ⟨d, _, VM r2, t, c', V', W, k, am, p, V0, zt, emp⟩
end ZMINF
