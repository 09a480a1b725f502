/-! The reference's typing: before and behind a node; leaves. -/
section ZMLEAF
variable {ad l : Nat → Nat} {a : L_} {rI r r' r1 r2 : S_} {rh ta : Int32 → Int32} {N : Int32}
def TBE (rI : S_) : Prop := (ar rI 45 = ar rI 12 ∧ ar rI 46 = ar rI 13 ∧ ar rI 47 = ar rI 14 ∧ ar rI 48 = ar rI 15) ∧ ∀ c : Int32, 0 ≤ c → c < 8 → 0 ≤ ar rI 42 c.toNatClampNeg → c < fi rI 2 ∧ ar rI 42 c.toNatClampNeg = ar rI 8 c.toNatClampNeg ∧ ¬ ar rI 5 (ar rI 8 c.toNatClampNeg).toNatClampNeg &&& 1 = 0
def TAB (l : Nat → Nat) (rI : S_) : Prop := TBI rI ∧ TBE rI ∧ TYM l rI
theorem TYM_Fr {F A : List Nat} (h : TYM l r) (f : Fr F A r r') (h1 : 0 ∉ F ∧ 1 ∉ F ∧ 21 ∉ F) (h2 : 0 ∉ A ∧ 1 ∉ A ∧ 2 ∉ A ∧ 3 ∉ A ∧ 4 ∉ A ∧ 5 ∉ A ∧ 36 ∉ A ∧ 37 ∉ A ∧ 38 ∉ A ∧ 39 ∉ A) : TYM l r' := by
  obtain ⟨t1, t2, t3, t4, t5, t6⟩ := h
  obtain ⟨i0, i1, i21⟩ := h1
  obtain ⟨j0, j1, j2, j3, j4, j5, j36, j37, j38, j39⟩ := h2
  refine ⟨?_, TYz_eq t2 (f.1 1 i1) (fun k hk => ?_), ?_, ?_, ?_, ?_⟩
  · unfold TT
    rw [f.1 0 i0, f.1 1 i1, f.2.1 0 j0, f.2.1 1 j1, f.2.1 2 j2, f.2.1 3 j3, f.2.1 4 j4, f.2.1 5 j5]
    exact t1
  · have : k = 0 ∨ k = 1 ∨ k = 2 ∨ k = 3 ∨ k = 4 := by omega
    rcases this with e | e | e | e | e <;> subst e
    · exact f.2.1 0 j0
    · exact f.2.1 1 j1
    · exact f.2.1 2 j2
    · exact f.2.1 3 j3
    · exact f.2.1 4 j4
  · rw [f.2.1 37 j37, f.2.1 38 j38, f.2.1 39 j39, f.2.1 1 j1, f.2.1 2 j2, f.2.1 3 j3]; exact t3
  · rw [f.1 1 i1, f.1 21 i21, f.2.1 1 j1]; exact t4
  · rw [f.2.1 36 j36, f.2.1 0 j0]; exact t5
  · unfold UVr
    rw [f.1 1 i1, f.2.1 1 j1]; exact t6
def PRm (a : L_) (rI r : S_) (L : List (Int32 × Nat)) (n : Int32) (Γ : List En) (m : Nat) : Prop := (∃ rh ta N, SIm a rI r rh ta N) ∧ CH r n L ∧ EM rI r L Γ ∧ (fi r 29).toInt + 5 * (m : Int) ≤ 1000
def FLm (r r' : S_) (k am : Prop) (p : Int) : Prop := (¬ fi r' 33 = 0 ↔ ¬ fi r 33 = 0 ∨ k) ∧ (¬ fi r' 34 = 0 ↔ ¬ fi r 34 = 0 ∨ am) ∧ fi r' 35 = fi r 35 + Int32.ofInt p
def WSm (r r' : S_) : Prop := fi r 31 ≤ fi r' 31 ∧ ∀ i, i < (fi r 31).toNatClampNeg → ar r' 75 i = ar r 75 i ∧ ar r' 76 i = ar r 76 i
def POm (a : L_) (rI r r' : S_) (S : List Int32) (n : Int32) (Γ : List En) (d m : Nat) : Prop := (∃ rh ta N, SIm a rI r' rh ta N) ∧ SRm r r' S ∧ WSm r r' ∧ (fi r' 29).toInt ≤ (fi r 29).toInt + 5 * (m : Int) ∧ vt r' (ar r' 55 n.toNatClampNeg) ∧ ∃ k am p, zTY (ctb rI) d (ar r 50 n.toNatClampNeg) Γ (fi r 28) (VM r) (ar r' 55 n.toNatClampNeg) (fi r' 28) (VM r') (mW r' (fi r 31)) k am p ∧ FLm r r' k am p
def NOm (rI r : S_) (n : Int32) (Γ : List En) (d m : Nat) : Prop := ∃ (t c' : Int32) (V' : (Int32 → Ut) → Prop) (W : Int32 → Nat → Prop) (k am : Prop) (p : Int), zTY (ctb rI) d (ar r 50 n.toNatClampNeg) Γ (fi r 28) (VM r) t c' V' W k am p ∧ (∀ ρ, ¬ V' ρ) ∧ (fi r 28 ≤ c' ∧ c'.toInt ≤ 40000 + 2 * (m : Int)) ∧ 0 ≤ t ∧ t < c'
theorem kds {rI : S_} (te : TBE rI) (qF : Fr FFl AAl rI r) {n : Int32} : tK (ctb rI) (ar r 50 n.toNatClampNeg) = kd r n ∧ tA (ctb rI) (ar r 50 n.toNatClampNeg) = ar r 46 (ar r 50 n.toNatClampNeg).toNatClampNeg ∧ tB (ctb rI) (ar r 50 n.toNatClampNeg) = ar r 47 (ar r 50 n.toNatClampNeg).toNatClampNeg ∧ tC (ctb rI) (ar r 50 n.toNatClampNeg) = ar r 48 (ar r 50 n.toNatClampNeg).toNatClampNeg := by
  refine ⟨?_, ?_, ?_, ?_⟩
  · show ar rI 12 (ar r 50 n.toNatClampNeg).toNatClampNeg = _
    unfold kd
    rw [qF.2.1 45 (by decide), te.1.1]
  · show ar rI 13 (ar r 50 n.toNatClampNeg).toNatClampNeg = _
    rw [qF.2.1 46 (by decide), te.1.2.1]
  · show ar rI 14 (ar r 50 n.toNatClampNeg).toNatClampNeg = _
    rw [qF.2.1 47 (by decide), te.1.2.2.1]
  · show ar rI 15 (ar r 50 n.toNatClampNeg).toNatClampNeg = _
    rw [qF.2.1 48 (by decide), te.1.2.2.2]
theorem ws_vis72 {r0 : S_} {k0 t c : Int32} (ec : ar r0 42 c.toNatClampNeg = t) (e37 : ar r0 37 = ar r0 1) (h0 : 0 ≤ k0) (h1 : k0 ≤ t) (hm : ¬ ar r0 88 k0.toNatClampNeg = 0) (hh : ar r0 1 k0.toNatClampNeg = -1) (uq : ∀ k : Int32, 0 ≤ k → k ≤ t → ar r0 1 k.toNatClampNeg = -1 → k = k0) (t60 : t.toInt < 60) {KX : S_ → Prop} (hK : vp_in (fi r0 31) (ln a 75) → KX (aw r0 (ar r0 74 k0.toNatClampNeg) (1 <<< (c &&& 31)))) : ∀ (n : Nat) (r : S_) (v5 : Int32), (v5.toInt ≤ k0.toInt → r = r0) → (k0.toInt < v5.toInt → r = aw r0 (ar r0 74 k0.toNatClampNeg) (1 <<< (c &&& 31)) ∧ vp_in (fi r0 31) (ln a 75)) → 0 ≤ v5 → v5.toInt ≤ t.toInt + 1 → wM_visit_L72 a KX n r c v5 := by
  intro n
  induction n with
  | zero => intro r v5 _ _ _ _; trivial
  | succ n ih =>
    intro r v5 g0 g1 v0 vl
    have F : Fr [31] [75, 76] r0 r := by
      by_cases q : v5.toInt ≤ k0.toInt
      · rw [g0 q]; exact Fr_refl _
      · rw [(g1 (by omega)).1]
        unfold aw
        exact Fr_trans (Fr_sA (by decide)) (Fr_trans (Fr_sA (by decide)) (Fr_sF (by decide)))
    have h0i := h0
    have h1i := h1
    rw [il] at h0i h1i
    simp at h0i
    rw [wM_visit_L72, F.2.1 42 (by decide), ec, F.2.1 88 (by decide), F.2.1 37 (by decide), e37, F.2.1 74 (by decide)]
    refine fun _ => ⟨fun g => ?_, fun g _ => ?_⟩
    · rw [it] at g
      have k := g1 (by omega)
      rw [k.1]
      exact hK k.2
    have g' := Int32.not_lt.mp g
    rw [il] at g'
    have iv : (v5 + 1).toInt = v5.toInt + 1 := i_inc (y := 60) (by rw [it]; simp; omega)
    have v10 : 0 ≤ v5 + 1 := by rw [il, iv]; rw [il] at v0; simp at v0 ⊢; omega
    have skip : ¬ v5 = k0 → wM_visit_L72 a KX n r c (v5 + 1) := fun ne => by
      rw [ie] at ne
      exact ih r (v5 + 1) (fun q => g0 (by omega)) (fun q => g1 (by omega)) v10 (by omega)
    unfold wM_visit_J120
    refine ⟨fun z => skip (fun e => hm (by rw [← e]; exact z)), fun z _ => ⟨fun z2 => skip (fun e => z2 (by rw [e]; exact hh)), fun z2 _ => ?_⟩⟩
    have e : v5 = k0 := uq v5 v0 (by rw [il]; omega) z2
    have er := g0 (by rw [e]; exact Int.le_refl _)
    unfold wM_addWant
    intro vp ra ea vp2 rb eb rc ec2
    refine ih rc (v5 + 1) (fun q => ?_) (fun _ => ⟨?_, ?_⟩) v10 (by omega)
    · rw [iv, e] at q; omega
    · rw [ec2, eb, ea, e, er]
      rfl
    · rw [← er]; exact vp
theorem k0_ex {t : Int32} (tt : TT l r) (sp : SP r r1 t) (t1 : t < fi r 1) (t60 : t.toInt < 60) : ∀ (n : Nat) (k : Int32), 0 ≤ k → k ≤ t → ¬ ar r1 88 k.toNatClampNeg = 0 → k.toInt < n → ¬ ar r 5 k.toNatClampNeg &&& 1 = 0 → ∃ k0 : Int32, 0 ≤ k0 ∧ k0 ≤ t ∧ ¬ ar r1 88 k0.toNatClampNeg = 0 ∧ ar r 1 k0.toNatClampNeg = -1 := by
  obtain ⟨G1, G2, G3, G4, G5, _⟩ := sp
  intro n
  induction n with
  | zero => intro k k0 _ _ h; rw [il] at k0; simp at k0; omega
  | succ n ih =>
    intro k k0 k1 mk hl hb
    have kl : k < fi r 1 := by rw [il] at k1; rw [it] at t1 ⊢; omega
    have q := tt.2.2.2 k k0 kl
    have c := G4 k k0 (by rw [il] at k1; rw [it]; simp; omega) mk (by rw [il] at k0; simp at k0; omega)
    have part : ∀ x : Int32, -1 ≤ x → x < k → ¬ x = -1 → (0 ≤ x → ¬ ar r1 88 x.toNatClampNeg = 0) → ¬ ar r 5 x.toNatClampNeg &&& 1 = 0 → ∃ k0 : Int32, 0 ≤ k0 ∧ k0 ≤ t ∧ ¬ ar r1 88 k0.toNatClampNeg = 0 ∧ ar r 1 k0.toNatClampNeg = -1 := fun x x0 xk xn xm xb => by
      have x00 := (m1c x0).resolve_left xn
      have xk' := xk
      rw [it] at xk'
      exact ih x x00 (by rw [il] at k1 ⊢; omega) (xm x00) (by omega) xb
    rcases q.2.2.2.2.2.2.2 hb with e | ⟨e1, e2⟩ | ⟨e1, e2⟩
    · exact ⟨k, k0, k1, mk, e⟩
    · exact part _ q.2.1.1 q.2.1.2 e1 c.1 e2
    · exact part _ q.2.2.1.1 q.2.2.1.2 e1 c.2 e2
theorem vsm_leaf {K : Int32 → S_ → Prop} {n : Int32} {L : List (Int32 × Nat)} {Γ : List En} {d : Nat} (tab : TAB l rI) (p : PRm (ad, l) rI r L n Γ 1) (nk : nodeOK r n) (hk : kd r n = 0 ∨ (kd r n = 4 ∧ (0 ≤ ar r 46 (ar r 50 n.toNatClampNeg).toNatClampNeg ∧ ar r 46 (ar r 50 n.toNatClampNeg).toNatClampNeg < 8) ∧ 0 ≤ ar r 42 (ar r 46 (ar r 50 n.toNatClampNeg).toNatClampNeg).toNatClampNeg ∧ ar r 42 (ar r 46 (ar r 50 n.toNatClampNeg).toNatClampNeg).toNatClampNeg < fi r 1) ∨ (kd r n = 5 ∧ 0 ≤ ar r 46 (ar r 50 n.toNatClampNeg).toNatClampNeg ∧ ar r 46 (ar r 50 n.toNatClampNeg).toNatClampNeg < fi r 1)) (rd : ∀ x, RD r L x → x ∉ [n]) (hK : ∀ r', POm (ad, l) rI r r' [n] n Γ (d + 1) 1 → ar r' 60 = ar r 60 → K (-1) r') (hB : ∀ r', ¬ fi r' 32 = 0 → NOm rI r n Γ (d + 1) 1 → K (-1) r') : wM_visit (ad, l) K r n := by
  obtain ⟨⟨rh, ta, N, si⟩, ch, em, b29⟩ := p
  obtain ⟨tbI, te, tym⟩ := tab
  have n0 := nk.1.1
  have qF := si.1
  have w := si.2.1
  have q27 := si.2.2.2.2.2.2.2
  have c0 := w.2.2.1.1
  have c4 := w.2.2.1.2
  obtain ⟨t1, t2, t3, t4⟩ := kds (n := n) te qF
  have b29' : (fi r 29).toInt + 5 ≤ 1000 := by simpa using b29
  have kinds : tK (ctb rI) (ar r 50 n.toNatClampNeg) = 0 ∨ tK (ctb rI) (ar r 50 n.toNatClampNeg) = 1 ∨ tK (ctb rI) (ar r 50 n.toNatClampNeg) = 2 ∨ tK (ctb rI) (ar r 50 n.toNatClampNeg) = 3 ∨ tK (ctb rI) (ar r 50 n.toNatClampNeg) = 4 ∨ tK (ctb rI) (ar r 50 n.toNatClampNeg) = 5 := by
    rw [t1]
    rcases hk with h | h | h
    · exact Or.inl h
    · exact Or.inr (Or.inr (Or.inr (Or.inr (Or.inl h.1))))
    · exact Or.inr (Or.inr (Or.inr (Or.inr (Or.inr h.1))))
  unfold wM_visit wM_kindOf
  intro _ _ _ _ r4 e4
  have s4 : SRm r r4 [n] := SRm_row n0 (List.mem_singleton.mpr rfl) (by unfold nda; decide) e4
  have si4 := SIm_row si (k := 59) (by unfold nda; decide) e4
  have F4 : Fr [] [59] r r4 := by rw [e4]; exact Fr_sA (by decide)
  have f4 : ∀ k, fi r4 k = fi r k := fun k => F4.1 k List.not_mem_nil
  have a4 : ∀ k, ¬ k = 59 → ar r4 k = ar r k := fun k hk => F4.2.1 k (by simpa using hk)
  have ch4 : CH r4 n L := CH_NFr s4.1 ch
  have em4 : EM rI r4 L Γ := EM_SRm q27 s4 ch rd em
  have V4 : VM r4 = VM r := VM_Fr F4 (by decide) (by decide)
  have m4 : ∀ p, mW r4 p = mW r p := fun p => mW_Fr F4 (by decide) (by decide)
  -- the row behind: typeOf[n] = z
  have row : ∀ (r6 r8 : S_) (z : Int32), (∃ rh ta N, SIm (ad, l) rI r6 rh ta N) → SRm r4 r6 [n] → WSm r4 r6 → (fi r6 29).toInt ≤ (fi r 29).toInt + 5 → vt r6 z → ar r6 60 = ar r4 60 → r8 = sA r6 55 (upd (ar r6 55) n.toNatClampNeg z) → (∃ k am p, zTY (ctb rI) (d + 1) (ar r 50 n.toNatClampNeg) Γ (fi r 28) (VM r) z (fi r6 28) (VM r6) (mW r6 (fi r 31)) k am p ∧ FLm r r6 k am p) → K (-1) r8 := by
    intro r6 r8 z ⟨rh6, ta6, N6, si6⟩ s6 ws b6 vz e60 e8 ⟨k, am, p, zt, fl⟩
    have F8 : Fr [] [55] r6 r8 := by rw [e8]; exact Fr_sA (by decide)
    have s8 : SRm r6 r8 [n] := SRm_row n0 (List.mem_singleton.mpr rfl) (by unfold nda; decide) e8
    have e55 : ar r8 55 n.toNatClampNeg = z := by rw [e8, ar_sA, if_pos rfl, pk_us]
    have g27 : 0 ≤ fi r4 27 := by rw [f4]; exact q27
    have g28 : fi r8 28 = fi r6 28 := F8.1 28 (by decide)
    refine hK r8 ⟨⟨rh6, ta6, N6, SIm_row si6 (k := 55) (by unfold nda; decide) e8⟩, SRm_trans q27 s4 (SRm_trans g27 s6 s8 (fun x h => h) (fun x h => h)) (fun x h => h) (fun x h => h), ⟨?_, fun i hi => ?_⟩, ?_, by rw [e55]; exact (vt_eq g28).mpr vz, k, am, p, ?_, ?_⟩ ?_
    · rw [F8.1 31 (by decide), ← f4 31]; exact ws.1
    · rw [F8.2.1 75 (by decide), F8.2.1 76 (by decide), ← a4 75 (by decide), ← a4 76 (by decide)]
      exact ws.2 i (by rw [f4]; exact hi)
    · rw [F8.1 29 (by decide)]; simpa using b6
    · rw [e55, g28, VM_Fr F8 (by decide) (by decide), mW_Fr F8 (by decide) (by decide)]
      exact zt
    · unfold FLm
      rw [F8.1 33 (by decide), F8.1 34 (by decide), F8.1 35 (by decide)]
      exact fl
    · rw [F8.2.1 60 (by decide), e60, a4 60 (by decide)]
  have fl0 : ∀ r6 : S_, fi r6 33 = fi r4 33 → fi r6 34 = fi r4 34 → ∀ p : Int, fi r6 35 = fi r4 35 + Int32.ofInt p → FLm r r6 False False p := fun r6 e1 e2 p e3 => by
    refine ⟨by rw [e1, f4]; exact ⟨Or.inl, fun h => h.resolve_right id⟩, by rw [e2, f4]; exact ⟨Or.inl, fun h => h.resolve_right id⟩, by rw [e3, f4]⟩
  have loc : ∀ {r6 : S_} {rh6 ta6 : Int32 → Int32} {N6 : Int32}, SIm (ad, l) rI r6 rh6 ta6 N6 → zLoc (fi r6 28) (VM r6) := fun si => VM_zloc si.2.1
  refine ⟨fun k0 => ⟨fun k4 => ⟨fun k5 => ?_, fun k5 _ _ => ?_⟩, fun k4 _ _ z56 e56 _ => ?_⟩, fun k0 => ?_⟩
  · -- no leaf
    rcases hk with h | h | h
    · exact absurd h k0
    · exact absurd h.1 k4
    · exact absurd h.1 k5
  · -- CONSTANT
    have kn : kd r n = 5 := k5
    have hk5 : 0 ≤ ar r 46 (ar r 50 n.toNatClampNeg).toNatClampNeg ∧ ar r 46 (ar r 50 n.toNatClampNeg).toNatClampNeg < fi r 1 := by
      rcases hk with h | h | h
      · rw [kn] at h; exact absurd h (by decide)
      · have := h.1; rw [kn] at this; exact absurd this (by decide)
      · exact h.2
    have ty4 : TYM l r4 := TYM_Fr (TYM_Fr tym qF (by decide) (by decide)) F4 (by decide) (by decide)
    rw [a4 50 (by decide), a4 46 (by decide)]
    refine ws_mstat si4 ty4 hk5.1 (by rw [f4]; exact hk5.2) (fun z r6 rh6 ⟨si6, os6, F6⟩ mono vz _ st _ r8 e8 => ?_)
    have s6 : SRm r4 r6 [n] := ⟨NFr_of F6 (by decide) (by unfold nda; decide) _, os6, ⟨by rw [F6.1 27 (by decide)]; exact Int32.le_refl _, fun i _ => ⟨by rw [F6.2.1 62 (by decide)], by rw [F6.2.1 63 (by decide)]⟩⟩, mono⟩
    refine row r6 r8 z ⟨rh6, ta, N, si6⟩ s6 ⟨by rw [F6.1 31 (by decide)]; exact Int32.le_refl _, fun i _ => ⟨by rw [F6.2.1 75 (by decide)], by rw [F6.2.1 76 (by decide)]⟩⟩ (by rw [F6.1 29 (by decide), f4]; omega) vz (F6.2.1 60 (by decide)) e8 ⟨False, False, 0, ?_, fl0 r6 (F6.1 33 (by decide)) (F6.1 34 (by decide)) 0 (by rw [F6.1 35 (by decide)]; simp)⟩
    have st' := st False 0 (fun h => h.elim)
    rw [V4, f4] at st'
    have ce : cev r4 = cev rI := by unfold cev; rw [a4 1 (by decide), a4 2 (by decide), a4 3 (by decide), qF.2.1 1 (by decide), qF.2.1 2 (by decide), qF.2.1 3 (by decide)]
    rw [ce] at st'
    refine ⟨fun ρ v => by rw [← V4]; exact mono ρ v, Or.inr ⟨loc si6, by rw [← f4 28]; exact os6.1, vz, kinds, fun z => ?_, fun z => ?_, fun z => ?_, fun z => ?_, fun z => ?_, fun _ => ⟨0, ?_, fun x cl h => ?_, id, id, rfl⟩⟩⟩
    · rw [t1, kn] at z; exact absurd z (by decide)
    · rw [t1, kn] at z; exact absurd z (by decide)
    · rw [t1, kn] at z; exact absurd z (by decide)
    · rw [t1, kn] at z; exact absurd z (by decide)
    · rw [t1, kn] at z; exact absurd z (by decide)
    · rw [t2]; exact st'
    · exact mW_nil (by rw [F6.1 31 (by decide), f4]) h
  · -- METHOD
    have kn : kd r n = 4 := k4
    have hk4 : (0 ≤ ar r 46 (ar r 50 n.toNatClampNeg).toNatClampNeg ∧ ar r 46 (ar r 50 n.toNatClampNeg).toNatClampNeg < 8) ∧ 0 ≤ ar r 42 (ar r 46 (ar r 50 n.toNatClampNeg).toNatClampNeg).toNatClampNeg ∧ ar r 42 (ar r 46 (ar r 50 n.toNatClampNeg).toNatClampNeg).toNatClampNeg < fi r 1 := by
      rcases hk with h | h | h
      · rw [kn] at h; exact absurd h (by decide)
      · exact h.2
      · have := h.1; rw [kn] at this; exact absurd this (by decide)
    rw [a4 50 (by decide), a4 46 (by decide)] at e56
    obtain ⟨c, ec⟩ : ∃ c, c = ar r 46 (ar r 50 n.toNatClampNeg).toNatClampNeg := ⟨_, rfl⟩
    rw [← ec] at hk4 e56
    subst e56
    obtain ⟨m, em'⟩ : ∃ m, m = ar r 42 z56.toNatClampNeg := ⟨_, rfl⟩
    rw [← em'] at hk4
    rw [a4 42 (by decide), ← em']
    have ty4 : TYM l r4 := TYM_Fr (TYM_Fr tym qF (by decide) (by decide)) F4 (by decide) (by decide)
    have tez := te.2 z56 hk4.1.1 hk4.1.2 (by rw [← qF.2.1 42 (by decide), ← em']; exact hk4.2.1)
    have m8 : m = ar rI 8 z56.toNatClampNeg := by rw [em', qF.2.1 42 (by decide)]; exact tez.2.1
    have m60 : m.toInt < 60 := by
      have := ty4.2.1.1.2
      rw [f4, il] at this
      have h2 := hk4.2.2
      rw [it] at h2
      simp at this
      omega
    refine ws_mstat si4 ty4 hk4.2.1 (by rw [f4]; exact hk4.2.2) (fun z r6 rh6 ⟨si6, os6, F6⟩ mono vz ⟨vk, rm, sp, e88⟩ st _ r61 e61 n71 => ?_)
    have a41 : ar r4 1 = ar rI 1 := (a4 1 (by decide)).trans (qF.2.1 1 (by decide))
    have a45 : ar r4 5 = ar rI 5 := (a4 5 (by decide)).trans (qF.2.1 5 (by decide))
    obtain ⟨k0', h0, h1, h2, h3⟩ := k0_ex ty4.1 sp (by rw [f4]; exact hk4.2.2) m60 (m.toInt.toNat + 1) m hk4.2.1 (Int32.le_refl _) sp.2.2.1 (by omega) (by rw [a45, m8]; exact tez.2.2)
    rw [e88] at h2
    have F61 : Fr [] [55] r6 r61 := by rw [e61]; exact Fr_sA (by decide)
    have F461 : Fr [28] [55, 64, 65, 66, 67, 68, 70, 71, 74, 88] r4 r61 := Fr_trans (Fr_mono F6 (by decide) (by decide)) (Fr_mono F61 (by decide) (by decide))
    have lem : ∀ k : Int32, 0 ≤ k → k ≤ m → k < fi r4 1 := fun k _ hk => by rw [f4]; rw [il] at hk; have := hk4.2.2; rw [it] at this ⊢; omega
    have a61_1 : ar r61 1 = ar r4 1 := F461.2.1 1 (by decide)
    refine ws_vis72 (r0 := r61) (k0 := k0') (t := m) (by rw [F461.2.1 42 (by decide), a4 42 (by decide), em']) (by rw [F461.2.1 37 (by decide), a61_1]; exact ty4.2.2.1.1) h0 h1 (by rw [F61.2.1 88 (by decide)]; exact h2) (by rw [a61_1]; exact h3) (fun k kk0 kk1 kh => ?_) m60 (fun vp => ?_) n71 r61 0 (fun _ => rfl) (fun q => ?_) (Int32.le_refl _) (by have := hk4.2.1; rw [il] at this; simp at this ⊢; omega)
    · rw [a61_1] at kh
      exact ty4.2.2.2.2.2 k k0' kk0 (lem k kk0 kk1) h0 (lem _ h0 h1) (by rw [kh]; decide) (by rw [kh, h3])
    · intro r70 e70
      have e31 : fi r61 31 = fi r 31 := (F461.1 31 (by decide)).trans (f4 31)
      have q31 := si.2.2.2.2.2.2.1.1
      have q31' : 0 ≤ fi r61 31 := by rw [e31]; exact q31
      obtain ⟨i1, i2, i3, i4⟩ := i40s q31' vp (ml (n := 20000) w.1 (by decide) (by decide) rfl) (by decide)
      rw [e31] at i1 i2 i3
      have a74 : ar r61 74 = ar r6 74 := F61.2.1 74 (by decide)
      have F70 : Fr [31, 35] [75, 76] r61 r70 := by
        rw [e70]
        unfold aw
        exact Fr_trans (Fr_sA (by decide)) (Fr_trans (Fr_sA (by decide)) (Fr_trans (Fr_sF (by decide)) (Fr_sF (by decide))))
      have F670 : Fr [31, 35] [55, 75, 76] r6 r70 := Fr_trans (Fr_mono F61 (by decide) (by decide)) (Fr_mono F70 (by decide) (by decide))
      have f70 : fi r70 31 = fi r 31 + 1 := by rw [e70]; show fi r61 31 + 1 = _; rw [e31]
      have f35 : fi r70 35 = fi r4 35 + 1 := by
        rw [e70]
        show fi r61 35 + 1 = _
        rw [F461.1 35 (by decide)]
      have a75 : ∀ i, ar r70 75 i = if i = (fi r 31).toNatClampNeg then ar r6 74 (k0').toNatClampNeg else ar r4 75 i := fun i => by
        rw [e70]
        show upd (ar r61 75) (fi r61 31).toNatClampNeg (ar r61 74 (k0').toNatClampNeg) i = _
        rw [updN, e31, a74, F461.2.1 75 (by decide)]
      have a76 : ∀ i, ar r70 76 i = if i = (fi r 31).toNatClampNeg then 1 <<< (z56 &&& 31) else ar r4 76 i := fun i => by
        rw [e70]
        show upd (ar r61 76) (fi r61 31).toNatClampNeg (1 <<< (z56 &&& 31)) i = _
        rw [updN, e31, F461.2.1 76 (by decide)]
      have vw : vt r6 (ar r6 74 (k0').toNatClampNeg) := vk k0' h0 h1 h2
      have cl8 := d_lt hk4.1.1 hk4.1.2
      have g28 : fi r70 28 = fi r6 28 := F670.1 28 (by decide)
      have v70 : ∀ x, vt r70 x ↔ vt r6 x := fun x => vt_eq g28
      have V70 : VM r70 = VM r6 := VM_Fr F670 (by decide) (by decide)
      have e55 : ar r70 55 n.toNatClampNeg = z := by rw [F70.2.1 55 (by decide), e61, ar_sA, if_pos rfl, pk_us]
      have s70 : SRm r4 r70 [n] := by
        have s6 : SRm r4 r6 [n] := ⟨NFr_of F6 (by decide) (by unfold nda; decide) _, os6, ⟨by rw [F6.1 27 (by decide)]; exact Int32.le_refl _, fun i _ => ⟨by rw [F6.2.1 62 (by decide)], by rw [F6.2.1 63 (by decide)]⟩⟩, mono⟩
        have s61 : SRm r6 r61 [n] := SRm_row n0 (List.mem_singleton.mpr rfl) (by unfold nda; decide) e61
        have g27 : 0 ≤ fi r4 27 := by rw [f4]; exact q27
        exact SRm_trans g27 s6 (SRm_trans (by rw [F6.1 27 (by decide)]; exact g27) s61 (SRm_Fr (NFr_of F70 (by decide) (by unfold nda; decide) _) F70 (by decide) (by decide) (by decide)) (fun x h => h) (fun x h => h)) (fun x h => h) (fun x h => h)
      obtain ⟨qF6, w6, cg6, f32_6, qm6, z6, q31_6, q27_6⟩ := si6
      have ccl : z56.toNatClampNeg < (fi rI 2).toNatClampNeg := by
        have b1 := i_nat hk4.1.1
        have b2 := i_nat tbI.1.2.1.1.1
        have b3 := tez.1
        rw [it] at b3
        omega
      have gb1 : ∀ cl, gb (1 <<< (z56 &&& 31)) cl = true ↔ cl = z56.toNatClampNeg := fun cl => by
        constructor
        · intro h
          rw [gb_one hk4.1.1 hk4.1.2 (gb_lt h)] at h
          simpa using h
        · intro h
          rw [h, gb_one hk4.1.1 hk4.1.2 (by omega)]
          simp
      have si70 : SIm (ad, l) rI r70 rh6 ta N := by
        refine ⟨Fr_trans qF6 (Fr_mono F670 (by decide) (by decide)), MI_Fr w6 F670 (by decide) (by decide), CGr_eq cg6 g28 (F670.2.1 65 (by decide)) (F670.2.1 66 (by decide)) (F670.2.1 67 (by decide)), by rw [F670.1 32 (by decide)]; exact f32_6, ⟨fun x vx => ?_, by rw [F670.1 29 (by decide)]; exact qm6.2.1, by rw [F670.1 29 (by decide)]; exact qm6.2.2⟩, fun x vx => ?_, ⟨by rw [f70]; exact i3, fun i hi => ?_⟩, by rw [F670.1 27 (by decide)]; exact q27_6⟩
        · rw [F670.1 29 (by decide), F670.2.1 68 (by decide)]; exact qm6.1 x ((v70 x).mp vx)
        · rw [F670.2.1 70 (by decide), F670.2.1 71 (by decide)]; exact z6 x ((v70 x).mp vx)
        · rw [f70, i2] at hi
          rw [a75, a76]
          by_cases q : i = (fi r 31).toNatClampNeg
          · rw [if_pos q, if_pos q]
            exact ⟨(v70 _).mpr vw, ⟨_, (gb1 _).mpr rfl⟩, fun cl h => by rw [(gb1 cl).mp h]; exact ccl⟩
          · rw [if_neg q, if_neg q]
            have k := q31_6.2 i (by rw [F6.1 31 (by decide), f4]; omega)
            rw [F6.2.1 75 (by decide), F6.2.1 76 (by decide)] at k
            exact ⟨(v70 _).mpr k.1, k.2⟩
      have st' := st True (ar r6 74 (k0').toNatClampNeg) (fun _ => ⟨k0', h0, h1, h2, h3, rfl⟩)
      rw [V4, f4] at st'
      have ce : cev r4 = cev rI := by unfold cev; rw [a4 1 (by decide), a4 2 (by decide), a4 3 (by decide), qF.2.1 1 (by decide), qF.2.1 2 (by decide), qF.2.1 3 (by decide)]
      rw [ce] at st'
      have nr := i_nat q31
      refine hK r70 ⟨⟨rh6, ta, N, si70⟩, SRm_trans q27 s4 s70 (fun x h => h) (fun x h => h), ⟨by rw [f70, il, i1]; omega, fun i hi => ?_⟩, ?_, by rw [e55]; exact (v70 z).mpr vz, False, False, 1, ?_, ?_⟩ ?_
      · rw [a75, a76, if_neg (by omega), if_neg (by omega), a4 75 (by decide), a4 76 (by decide)]
        exact ⟨rfl, rfl⟩
      · rw [F670.1 29 (by decide), F6.1 29 (by decide), f4]; simp; omega
      · rw [e55, g28, V70]
        refine ⟨fun ρ v => by rw [← V4]; exact mono ρ v, Or.inr ⟨VM_zloc w6, by rw [← f4 28]; exact os6.1, vz, kinds, fun z => ?_, fun z => ?_, fun z => ?_, fun z => ?_, fun _ => ⟨ar r6 74 (k0').toNatClampNeg, ?_, fun x cl => ?_, id, id, rfl⟩, fun z => ?_⟩⟩
        · rw [t1, kn] at z; exact absurd z (by decide)
        · rw [t1, kn] at z; exact absurd z (by decide)
        · rw [t1, kn] at z; exact absurd z (by decide)
        · rw [t1, kn] at z; exact absurd z (by decide)
        · have tm : tM (ctb rI) (tA (ctb rI) (ar r 50 n.toNatClampNeg)) = m := by rw [t2, ← ec]; exact m8.symm
          rw [tm]
          exact st'
        · rw [t2, ← ec]
          unfold mW
          rw [f70, i2]
          constructor
          · rintro ⟨i, j1, j2, j3, j4⟩
            have ei : i = (fi r 31).toNatClampNeg := by omega
            rw [a75, if_pos ei] at j3
            rw [a76, if_pos ei] at j4
            exact ⟨j3.symm, (gb1 cl).mp j4⟩
          · rintro ⟨e1, e2⟩
            exact ⟨(fi r 31).toNatClampNeg, Nat.le_refl _, by omega, by rw [a75, if_pos rfl, e1], by rw [a76, if_pos rfl]; exact (gb1 cl).mpr e2⟩
        · rw [t1, kn] at z; exact absurd z (by decide)
      · exact fl0 r70 ((F670.1 33 (by decide)).trans (F6.1 33 (by decide))) ((F670.1 34 (by decide)).trans (F6.1 34 (by decide))) 1 f35
      · rw [F670.2.1 60 (by decide), F6.2.1 60 (by decide), a4 60 (by decide)]
    · exfalso
      rw [il] at h0
      simp at h0 q
      omega
  · -- NAME
    have kn : kd r n = 0 := k0
    unfold wM_typeName wM_binder
    intro _ _ _ n16
    have nmx : ar r4 46 (ar r4 50 n.toNatClampNeg).toNatClampNeg = tA (ctb rI) (ar r 50 n.toNatClampNeg) := by rw [t2, a4 46 (by decide), a4 50 (by decide)]
    have no : ∀ k, ¬ k = 0 → ¬ tK (ctb rI) (ar r 50 n.toNatClampNeg) = k := fun k hk z => hk (by rw [← z, t1, kn])
    refine ws_bind _ L Γ n16 n _ ch4 rfl em4 (fun hl => ⟨fun z => absurd z (by decide), fun _ _ r10 e10 => hB r10 (by rw [e10, fi_sF, if_pos rfl]; decide) ?_⟩) (fun b L2 _ nb cb hlam hlet _ _ => ⟨fun _ => ?_, fun z => absurd nb.1.1 z⟩)
    · have c0i : 0 ≤ (fi r 28).toInt := by have := c0; rw [il] at this; simpa using this
      have i28 : (fi r 28 + 1).toInt = (fi r 28).toInt + 1 := i_add (by simp; omega) (by simp; omega)
      refine ⟨fi r 28, fi r 28 + 1, fun _ => False, fun _ _ => False, False, False, 0, ⟨fun ρ h => h.elim, Or.inr ⟨fun _ _ _ h => h, by rw [il, i28]; omega, ⟨c0, by rw [it, i28]; omega⟩, kinds, fun _ => ⟨fun _ ρ h => h, fun x bb te' K' p' Γ' q => ?_⟩, fun z => absurd z (no 1 (by decide)), fun z => absurd z (no 2 (by decide)), fun z => absurd z (no 3 (by decide)), fun z => absurd z (no 4 (by decide)), fun z => absurd z (no 5 (by decide))⟩⟩, fun ρ h => h, ⟨by rw [il, i28]; omega, by rw [i28]; simp; omega⟩, c0, by rw [it, i28]; omega⟩
      rw [← nmx, hl] at q
      exact absurd q (by simp)
    · unfold wM_kindOf wM_typeName_J46
      refine fun _ _ => ⟨fun kb => ?_, fun kb _ _ r8 e8 => ?_⟩
      · -- of a LET
        obtain ⟨Γ', s, e, hl, ⟨l1, l2, l3, l4, l5⟩, em'⟩ := hlet kb
        have hv2 := EM_vt L2 Γ' b cb em'
        refine ws_mcopy si4 cb hv2 l2 l3.1 l3.2 l4.1 l4.2.1 l5 (by rw [f4]; omega) (fun z r6 rh6 ⟨si6, os6, F6, f29⟩ ws6 f35 zc mono vz _ r8 e8 => ?_)
        have s6 : SRm r4 r6 [n] := ⟨NFr_of F6 (by decide) (by unfold nda; decide) _, os6, ⟨by rw [F6.1 27 (by decide)]; exact Int32.le_refl _, fun i _ => ⟨by rw [F6.2.1 62 (by decide)], by rw [F6.2.1 63 (by decide)]⟩⟩, mono⟩
        refine row r6 r8 z ⟨rh6, ta, N, si6⟩ s6 ws6 (by rw [f29, f4]; omega) vz (F6.2.1 60 (by decide)) e8 ⟨False, False, ((sB (ar r4 63) s.toNatClampNeg (e.toNatClampNeg - s.toNatClampNeg) : Nat) : Int), ?_, fl0 r6 (F6.1 33 (by decide)) (F6.1 34 (by decide)) _ f35⟩
        have lam : zLams Γ' = GC r4 L2 := funext (fun x => propext (EM_lams L2 Γ' b cb em' x))
        rw [V4, f4, f4, ← lam] at zc
        refine ⟨fun ρ v => by rw [← V4]; exact mono ρ v, Or.inr ⟨loc si6, by rw [← f4 28]; exact os6.1, vz, kinds, fun _ => ⟨fun q => ?_, fun x bb te' K' p' Γ2 q => ?_⟩, fun z => absurd z (no 1 (by decide)), fun z => absurd z (no 2 (by decide)), fun z => absurd z (no 3 (by decide)), fun z => absurd z (no 4 (by decide)), fun z => absurd z (no 5 (by decide))⟩⟩
        · rw [← nmx, hl] at q; exact absurd q (by simp)
        · rw [← nmx, hl] at q
          have q' := Option.some.inj q
          have q1 : letE r4 b s e = (x, bb, te', K', p') := congrArg Prod.fst q'
          have q2 : Γ' = Γ2 := congrArg Prod.snd q'
          unfold letE at q1
          injection q1 with a1 a2
          injection a2 with a2 a3
          injection a3 with a3 a4'
          injection a4' with a4' a5
          rw [← a2, ← a3, ← a4', ← a5, ← q2]
          exact ⟨fun z => absurd z (by decide), fun _ => ⟨zc, id, id, rfl⟩⟩
      · -- of a LAMBDA
        obtain ⟨Γ', hl, vb, em'⟩ := hlam kb
        refine row r4 r8 (ar r4 56 b.toNatClampNeg) ⟨rh, ta, N, si4⟩ (SRm_Fr (F := []) (A := []) (NFr_refl r4 _) (Fr_refl _) (by decide) (by decide) (by decide)) ⟨Int32.le_refl _, fun _ _ => ⟨rfl, rfl⟩⟩ (by rw [f4]; omega) vb rfl e8 ⟨False, False, 0, ?_, fl0 r4 rfl rfl 0 (by simp)⟩
        rw [V4, f4 28]
        refine ⟨fun ρ v => v, Or.inr ⟨VM_zloc w, Int32.le_refl _, (vt_eq (f4 28)).mp vb, kinds, fun _ => ⟨fun q => ?_, fun x bb te' K' p' Γ2 q => ?_⟩, fun z => absurd z (no 1 (by decide)), fun z => absurd z (no 2 (by decide)), fun z => absurd z (no 3 (by decide)), fun z => absurd z (no 4 (by decide)), fun z => absurd z (no 5 (by decide))⟩⟩
        · rw [← nmx, hl] at q; exact absurd q (by simp)
        · rw [← nmx, hl] at q
          have q' := Option.some.inj q
          have q1 : lamE r4 b = (x, bb, te', K', p') := congrArg Prod.fst q'
          unfold lamE at q1
          injection q1 with a1 a2
          injection a2 with a2 a3
          injection a3 with a3 a4'
          rw [← a2, ← a3]
          exact ⟨fun _ => ⟨rfl, fun ρ v => v, fun x cl h => mW_nil (f4 31) h, id, id, rfl⟩, fun z => absurd z (by decide)⟩
end ZMLEAF
