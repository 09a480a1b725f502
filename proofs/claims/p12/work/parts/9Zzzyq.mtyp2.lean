/-! The reference's typing: APPLY and LET, the first half; APPLY. -/
section ZMTYP2
variable {ad l : Nat → Nat} {a : L_} {rI r r' r1 r2 r3 : S_} {rh ta : Int32 → Int32} {N : Int32}
def HALFm (a : L_) (rI r r3 : S_) (n : Int32) (S1 : List Int32) (Γ : List En) (d m1 : Nat) (v : Int32) : Prop := (∃ rh ta N, SIm a rI r3 rh ta N) ∧ SRm r r3 (n :: S1) ∧ WSm r r3 ∧ (fi r3 29).toInt ≤ (fi r 29).toInt + 5 * (m1 : Int) ∧ vt r3 (ar r3 55 (ar r 53 n.toNatClampNeg).toNatClampNeg) ∧ (ar r3 59 n.toNatClampNeg = 1 ∧ ar r3 61 n.toNatClampNeg = fi r 31) ∧ (∀ i, i < v.toNatClampNeg → ar r3 60 i = ar r 60 i) ∧ ∃ k am p, zTY (ctb rI) d (ar r 50 (ar r 53 n.toNatClampNeg).toNatClampNeg) Γ (fi r 28) (VM r) (ar r3 55 (ar r 53 n.toNatClampNeg).toNatClampNeg) (fi r3 28) (VM r3) (mW r3 (fi r 31)) k am p ∧ FLm r r3 k am p
theorem typm_half {KX : S_ → Prop} {d : Nat} (ih : TYPr ad l rI KX d) {n : Int32} {m1 m2 : Nat} {S1 S2 : List Int32} {L : List (Int32 × Nat)} {Γ : List En} {v : Int32} (nk : nodeOK r n) (hk : kd r n = 2 ∨ kd r n = 3) (e51 : ar r 51 (ar r 53 n.toNatClampNeg).toNatClampNeg = n) (e52 : ar r 52 (ar r 53 n.toNatClampNeg).toNatClampNeg = 0) (tr1 : TrR r d (ar r 53 n.toNatClampNeg) m1 S1) (nd : (n :: (S1 ++ S2)).Nodup) (hx : ∀ x, x ∈ n :: (S1 ++ S2) → XEn r x) (p : PRm (ad, l) rI r L n Γ (m1 + m2 + 1)) (st : ∀ x, x ∈ n :: (S1 ++ S2) → ar r 59 x.toNatClampNeg = 0) (rd : ∀ x, RD r L x → x ∉ n :: (S1 ++ S2)) (hv : 1 ≤ v.toInt ∧ v.toInt ≤ 64) (hp : ar r 60 (v - 1).toNatClampNeg = n) (h3 : ∀ r3, HALFm (ad, l) rI r r3 n S1 Γ d m1 v → ∀ F, wM_typeAll_L9 (ad, l) KX F r3 v) (hB : ∀ r', ¬ fi r' 32 = 0 → (∃ (t c' : Int32) (V' : (Int32 → Ut) → Prop) (W : Int32 → Nat → Prop) (k am : Prop) (p : Int), zTY (ctb rI) d (ar r 50 (ar r 53 n.toNatClampNeg).toNatClampNeg) Γ (fi r 28) (VM r) t c' V' W k am p ∧ (∀ ρ, ¬ V' ρ) ∧ (fi r 28 ≤ c' ∧ c'.toInt ≤ 40000 + 2 * (m1 : Int)) ∧ 0 ≤ t ∧ t < c') → KX r') (F : Nat) : wM_typeAll_L9 (ad, l) KX F r v := by
  cases F with
  | zero => trivial
  | succ F =>
  obtain ⟨⟨rh, ta, N, si⟩, ch, em, b29⟩ := p
  obtain ⟨m1p, sS, ns⟩ := TrR_pos d _ _ _ tr1
  have n0 := nk.1.1
  have w := si.2.1
  have hM := w.1
  have q27 := si.2.2.2.2.2.2.2
  have q31 := si.2.2.2.2.2.2.1.1
  obtain ⟨v0, i1, i2, i3⟩ := idx64 hv.1 hv.2
  have hS : n ∉ S1 := fun h => (List.nodup_cons.mp nd).1 (List.mem_append.mpr (Or.inl h))
  have inS : ∀ x, x ∈ S1 → x ∈ n :: (S1 ++ S2) := fun x h => List.mem_cons_of_mem _ (List.mem_append.mpr (Or.inl h))
  have rd0 : ∀ x, RD r L x → x ∉ [n] := fun x hx h => rd x hx (by rw [List.mem_singleton.mp h]; exact List.mem_cons_self)
  have rd1 : ∀ x, RD r L x → x ∉ S1 := fun x hx h => rd x hx (inS x h)
  have hs0 := st n List.mem_cons_self
  have k0 : ¬ ar r 45 (ar r 50 n.toNatClampNeg).toNatClampNeg = 0 := by have := hk; unfold kd at this; rcases this with e | e <;> rw [e] <;> decide
  have k1 : ¬ ar r 45 (ar r 50 n.toNatClampNeg).toNatClampNeg = 1 := by have := hk; unfold kd at this; rcases this with e | e <;> rw [e] <;> decide
  have k4 : ¬ ar r 45 (ar r 50 n.toNatClampNeg).toNatClampNeg = 4 := by have := hk; unfold kd at this; rcases this with e | e <;> rw [e] <;> decide
  have k5 : ¬ ar r 45 (ar r 50 n.toNatClampNeg).toNatClampNeg = 5 := by have := hk; unfold kd at this; rcases this with e | e <;> rw [e] <;> decide
  refine L9w_unf (n := n) hv.1 si.2.2.2.1 hp ?_
  unfold wM_visit wM_kindOf
  intro _ _ _ _ r4 e4
  refine ⟨fun _ => ⟨fun _ => ⟨fun _ => ⟨fun _ => ?_, fun z => absurd z k1⟩, fun z => absurd z k5⟩, fun z => absurd z k4⟩, fun z => absurd z k0⟩
  have s4 : SRm r r4 [n] := SRm_row n0 (List.mem_singleton.mpr rfl) (by unfold nda; decide) e4
  have si4 := SIm_row si (k := 59) (by unfold nda; decide) e4
  have F4 : Fr [] [59] r r4 := by rw [e4]; exact Fr_sA (by decide)
  unfold wM_visit_J194
  refine ⟨fun _ => ⟨fun z => absurd hs0 z, fun _ _ r33 e33 _ => ?_⟩, fun z => absurd z k1⟩
  have F33 : Fr [] [61] r4 r33 := by rw [e33]; exact Fr_sA (by decide)
  have s33 : SRm r4 r33 [n] := SRm_row n0 (List.mem_singleton.mpr rfl) (by unfold nda; decide) e33
  have e53 : ar r33 53 n.toNatClampNeg = ar r 53 n.toNatClampNeg := by rw [F33.2.1 53 (by decide), F4.2.1 53 (by decide)]
  rw [e53]
  refine ⟨fun _ vp60 r10 e10 => ?_, fun z => absurd ns.1.1 z⟩
  have v64 := pile64 hM vp60
  obtain ⟨s10, F10⟩ := SRm_60 (S := [n]) e10
  have F010 : Fr [] [59, 60, 61] r r10 := Fr_trans (Fr_mono F4 (by decide) (by decide)) (Fr_trans (Fr_mono F33 (by decide) (by decide)) (Fr_mono F10 (by decide) (by decide)))
  have g27 : 0 ≤ fi r4 27 := by rw [F4.1 27 (by decide)]; exact q27
  have g27' : 0 ≤ fi r33 27 := by rw [F33.1 27 (by decide)]; exact g27
  have sN : SRm r r10 [n] := SRm_trans q27 s4 (SRm_trans g27 s33 s10 (fun x h => h) (fun x h => h)) (fun x h => h) (fun x h => h)
  have si10 : SIm (ad, l) rI r10 rh ta N := SIm_Fr (SIm_row si4 (k := 61) (by unfold nda; decide) e33) F10 (by decide) (by decide) (by decide) (by decide)
  have V10 : VM r10 = VM r := VM_Fr F010 (by decide) (by decide)
  have f10 : ∀ k, fi r10 k = fi r k := fun k => F010.1 k List.not_mem_nil
  have e59 : ar r10 59 n.toNatClampNeg = 1 := by rw [F10.2.1 59 (by decide), F33.2.1 59 (by decide), e4, ar_sA, if_pos rfl, pk_us, hs0]; rfl
  have e61 : ar r10 61 n.toNatClampNeg = fi r 31 := by rw [F10.2.1 61 (by decide), e33, ar_sA, if_pos rfl, pk_us, F4.1 31 (by decide)]
  have e60 : ar r10 60 v.toNatClampNeg = ar r 53 n.toNatClampNeg := by rw [e10, ar_sA, if_pos rfl, pk_us]
  have e60' : ∀ i, ¬ i = v.toNatClampNeg → ar r10 60 i = ar r 60 i := fun i hi => by rw [e10, ar_sA, if_pos rfl, pk_un hi, F33.2.1 60 (by decide), F4.2.1 60 (by decide)]
  have kd2 : ¬ kd r n = 1 := k1
  have ch10 : CH r10 (ar r 53 n.toNatClampNeg) ((n, 2) :: L) := ⟨by rw [(tabs sN.1).2 51 (by decide)]; exact e51, (nodeOK_eq sN.1).mpr nk, Or.inr (Or.inr ⟨rfl, by rw [kd_eq sN.1]; exact kd2, fun q => by have := q.2; rw [(tabs sN.1).2 52 (by decide), e52] at this; exact absurd this (by decide)⟩), CH_NFr sN.1 ch⟩
  have em10 : EM rI r10 ((n, 2) :: L) Γ := ⟨fun z => absurd z (by decide), fun z => absurd z (by decide), fun _ => EM_SRm q27 sN ch rd0 em⟩
  have pk : PRm (ad, l) rI r10 ((n, 2) :: L) (ar r 53 n.toNatClampNeg) Γ m1 := ⟨⟨_, ta, N, si10⟩, ch10, em10, by rw [f10]; simp at b29; omega⟩
  have x50 : ar r10 50 = ar r 50 := (tabs sN.1).2 50 (by decide)
  have nd1 : S1.Nodup := (List.nodup_append.mp (List.nodup_cons.mp nd).2).1
  refine ih r10 (ar r 53 n.toNatClampNeg) m1 S1 ((n, 2) :: L) Γ (v + 1) (TrR_eq (tabs sN.1).1 (tabs sN.1).2 d _ _ _ tr1) nd1 (fun x h => XEn_eq sN.1 (hx x (inS x h))) pk (fun x h => ?_) (RD_kid sN.1 rd1 hS (fun z => absurd z (by decide))) ⟨by omega, by omega⟩ (by rw [vv1]; exact e60) (fun r3 po pl F2 => ?_) (fun r3 f3 no3 => hB r3 f3 ?_) F
  · have xn : x ∉ [n] := fun q => hS (by rw [← List.mem_singleton.mp q]; exact h)
    rw [sN.1.2 59 (by unfold nda; decide) x (TrR_all d _ _ _ tr1 x h) xn]
    exact st x (inS x h)
  · rw [vv2]
    obtain ⟨si3, s3, ws3, b3, vt3, k, am, pp, zt, fl⟩ := po
    rw [x50, V10, f10, f10] at zt
    rw [f10] at b3
    refine h3 r3 ⟨si3, SRm_trans q27 sN s3 (fun x h => by rw [List.mem_singleton.mp h]; exact List.mem_cons_self) (fun x h => List.mem_cons_of_mem _ h), WSm_trans q31 (WSm_Fr F010 (by decide) (by decide)) ws3, b3, vt3, ⟨?_, ?_⟩, fun i hi => by rw [pl i (by omega), e60' i (by omega)], k, am, pp, zt, FLm_pre F010 (by decide) fl⟩ F2
    · rw [s3.1.2 59 (by unfold nda; decide) n n0 hS]; exact e59
    · rw [s3.1.2 61 (by unfold nda; decide) n n0 hS]; exact e61
  · obtain ⟨t, c', V', W, k, am, pp, zt, emp, ⟨b1, b2⟩, b3, b4⟩ := no3
    rw [x50, V10, f10] at zt
    rw [f10] at b1
    exact ⟨t, c', V', W, k, am, pp, zt, emp, ⟨b1, b2⟩, b3, b4⟩
theorem typm_app {KX : S_ → Prop} {d : Nat} (tab : TAB l rI) (e36 : ar rI 36 ((0 : Int32)).toNatClampNeg = 2) (ih : TYPr ad l rI KX d) {n : Int32} {m1 m2 : Nat} {S1 S2 : List Int32} {L : List (Int32 × Nat)} {Γ : List En} {v : Int32} (nk : nodeOK r n) (hk : kd r n = 2) (e51 : ar r 51 (ar r 53 n.toNatClampNeg).toNatClampNeg = n ∧ ar r 51 (ar r 54 n.toNatClampNeg).toNatClampNeg = n) (e52 : ar r 52 (ar r 53 n.toNatClampNeg).toNatClampNeg = 0 ∧ ar r 52 (ar r 54 n.toNatClampNeg).toNatClampNeg = 1) (tr1 : TrR r d (ar r 53 n.toNatClampNeg) m1 S1) (tr2 : TrR r d (ar r 54 n.toNatClampNeg) m2 S2) (nd : (n :: (S1 ++ S2)).Nodup) (hx : ∀ x, x ∈ n :: (S1 ++ S2) → XEn r x) (p : PRm (ad, l) rI r L n Γ (m1 + m2 + 1)) (st : ∀ x, x ∈ n :: (S1 ++ S2) → ar r 59 x.toNatClampNeg = 0) (rd : ∀ x, RD r L x → x ∉ n :: (S1 ++ S2)) (hv : 1 ≤ v.toInt ∧ v.toInt ≤ 64) (hp : ar r 60 (v - 1).toNatClampNeg = n) (hc : ∀ r', POm (ad, l) rI r r' (n :: (S1 ++ S2)) n Γ (d + 1) (m1 + m2 + 1) → (∀ i, i < v.toNatClampNeg → ar r' 60 i = ar r 60 i) → ∀ F, wM_typeAll_L9 (ad, l) KX F r' (v + -1)) (hB : ∀ r', ¬ fi r' 32 = 0 → NOm rI r n Γ (d + 1) (m1 + m2 + 1) → KX r') (F : Nat) : wM_typeAll_L9 (ad, l) KX F r v := by
  have p0 := p
  obtain ⟨⟨rh, ta, N, si⟩, ch, em, b29⟩ := p
  have tab0 := tab
  obtain ⟨tbI, te, tym⟩ := tab
  obtain ⟨m1p, sS1, ns1⟩ := TrR_pos d _ _ _ tr1
  obtain ⟨m2p, sS2, ns2⟩ := TrR_pos d _ _ _ tr2
  obtain ⟨d', rfl⟩ : ∃ d', d = d' + 1 := by
    cases d with
    | zero => exact tr1.elim
    | succ d' => exact ⟨d', rfl⟩
  have n0 := nk.1.1
  have qF := si.1
  have w := si.2.1
  have hM := w.1
  have q27 := si.2.2.2.2.2.2.2
  have q31 := si.2.2.2.2.2.2.1.1
  have c0 := w.2.2.1.1
  have c0i : 0 ≤ (fi r 28).toInt := by have := c0; rw [il] at this; simpa using this
  obtain ⟨t1, t2, t3, t4⟩ := kds (n := n) te qF
  obtain ⟨v0, i1, i2, i3⟩ := idx64 hv.1 hv.2
  have m200 : (m1 : Int) + m2 ≤ 200 := by have := si.2.2.2.2.1.2.1; simp at b29; omega
  have kinds : tK (ctb rI) (ar r 50 n.toNatClampNeg) = 0 ∨ tK (ctb rI) (ar r 50 n.toNatClampNeg) = 1 ∨ tK (ctb rI) (ar r 50 n.toNatClampNeg) = 2 ∨ tK (ctb rI) (ar r 50 n.toNatClampNeg) = 3 ∨ tK (ctb rI) (ar r 50 n.toNatClampNeg) = 4 ∨ tK (ctb rI) (ar r 50 n.toNatClampNeg) = 5 := Or.inr (Or.inr (Or.inl (by rw [t1, hk])))
  have no : ∀ k, ¬ k = 2 → ¬ tK (ctb rI) (ar r 50 n.toNatClampNeg) = k := fun k hk' z => hk' (by rw [← z, t1, hk])
  have x1 : ar r 50 (ar r 53 n.toNatClampNeg).toNatClampNeg = tA (ctb rI) (ar r 50 n.toNatClampNeg) := by rw [t2]; exact ((hx n List.mem_cons_self).2.1 hk).1
  have x2 : ar r 50 (ar r 54 n.toNatClampNeg).toNatClampNeg = tB (ctb rI) (ar r 50 n.toNatClampNeg) := by rw [t3]; exact ((hx n List.mem_cons_self).2.1 hk).2
  have nS : n ∉ S1 ++ S2 := (List.nodup_cons.mp nd).1
  have hS1 : n ∉ S1 := fun h => nS (List.mem_append.mpr (Or.inl h))
  have hS2 : n ∉ S2 := fun h => nS (List.mem_append.mpr (Or.inr h))
  have ndd := List.nodup_append.mp (List.nodup_cons.mp nd).2
  have in1 : ∀ x, x ∈ n :: S1 → x ∈ n :: (S1 ++ S2) := fun x h => by
    rcases List.mem_cons.mp h with e | e
    · rw [e]; exact List.mem_cons_self
    · exact List.mem_cons_of_mem _ (List.mem_append.mpr (Or.inl e))
  have in2 : ∀ x, x ∈ S2 → x ∈ n :: (S1 ++ S2) := fun x h => List.mem_cons_of_mem _ (List.mem_append.mpr (Or.inr h))
  have p21 : (-1 : Int32) < fi r 21 ∧ (0 : Int32) < fi r 21 := by
    have := w.2.1.1
    clear hc hB ih em ch tr1 tr2 rd st hx
    grind
  have two : ∀ c' : Int32, 0 ≤ c'.toInt → c'.toInt ≤ 60000 → (c' + 1).toInt = c'.toInt + 1 ∧ (c' + 2).toInt = c'.toInt + 2 := fun c' h1 h2 => ⟨i_add (by simp; omega) (by simp; omega), i_add (by simp; omega) (by simp; omega)⟩
  refine typm_half ih nk (Or.inl hk) e51.1 e52.1 tr1 nd hx p0 st rd hv hp (fun r3 half F => ?_) (fun r' f32' ⟨t, c', V', W, k, am, pp, zt, emp, ⟨b1, b2⟩, b3, b4⟩ => hB r' f32' ?_) F
  rotate_left
  · rw [x1] at zt
    have b1i := b1
    rw [il] at b1i
    obtain ⟨j1, j2⟩ := two c' (by omega) (by omega)
    refine ⟨c', c' + 2, fun _ => False, fun x cl => W x cl ∨ False, k ∨ False, am ∨ False, pp + 0, ⟨fun ρ h => h.elim, Or.inr ⟨fun _ _ _ h => h, by rw [il, j2]; omega, ⟨zo2 c0 b1, by rw [it, j2]; omega⟩, kinds, fun z => absurd z (no 0 (by decide)), fun z => absurd z (no 1 (by decide)), fun _ => ⟨t, c', V', W, k, am, pp, t, c', fun _ => False, fun _ _ => False, False, False, 0, c' + 1, zt, zTY_gar emp (fun ρ h => h.elim), ⟨Int32.le_refl _, by rw [il, j1]; omega, fun e => ?_⟩, fun _ _ _ h => absurd h (emp _), fun _ _ _ h => h, ⟨b1, Int32.le_refl _, ⟨b3, b4⟩, b3, b4⟩, fun ρ => ⟨fun h => h.elim, fun h => h.1⟩, fun x cl => Iff.rfl, Iff.rfl, Iff.rfl, rfl⟩, fun z => absurd z (no 3 (by decide)), fun z => absurd z (no 4 (by decide)), fun z => absurd z (no 5 (by decide))⟩⟩, fun ρ h => h, ⟨by rw [il, j2]; omega, by rw [j2]; simp; omega⟩, zo2 c0 b1, by rw [it, j2]; omega⟩
    rw [ie, j1] at e
    omega
  cases F with
  | zero => trivial
  | succ F =>
  obtain ⟨⟨rh3, ta3, N3, si3⟩, s3, ws3, b3, vt3, ⟨h59, _⟩, pl3, k1, am1, pp1, zt1, fl1⟩ := half
  rw [x1] at zt1
  have q273 := zo2 q27 s3.2.2.1.1
  have q313 := zo2 q31 ws3.1
  refine L9w_unf (n := n) hv.1 si3.2.2.2.1 (by rw [pl3 _ i1]; exact hp) ?_
  have k2' : ar r3 45 (ar r3 50 n.toNatClampNeg).toNatClampNeg = 2 := by have := kd_eq s3.1 (n := n); unfold kd at this; rw [this]; exact hk
  unfold wM_visit wM_kindOf
  rw [k2', h59]
  intro _ _ _ _ r4 e4
  refine ⟨fun _ => ⟨fun _ => ⟨fun _ => ⟨fun _ => ?_, fun z => absurd z (by decide)⟩, fun z => absurd z (by decide)⟩, fun z => absurd z (by decide)⟩, fun z => absurd z (by decide)⟩
  unfold wM_visit_J194 wM_visit_J265
  refine ⟨fun _ => ⟨fun _ => ⟨fun z => absurd rfl z, fun _ => ⟨fun _ _ => ?_, fun z => absurd z (by decide)⟩⟩, fun z => absurd z (by decide)⟩, fun z => absurd z (by decide)⟩
  have F4 : Fr [] [59] r3 r4 := by rw [e4]; exact Fr_sA (by decide)
  have s4 : SRm r3 r4 (n :: S1) := SRm_row n0 List.mem_cons_self (by unfold nda; decide) e4
  have si4 := SIm_row si3 (k := 59) (by unfold nda; decide) e4
  have e54 : ar r4 54 n.toNatClampNeg = ar r 54 n.toNatClampNeg := by rw [F4.2.1 54 (by decide), (tabs s3.1).2 54 (by decide)]
  rw [e54]
  refine ⟨fun _ vp60 r10 e10 => ?_, fun z => absurd ns2.1.1 z⟩
  have v64 := pile64 hM vp60
  obtain ⟨s10, F10⟩ := SRm_60 (S := n :: S1) e10
  have F310 : Fr [] [59, 60] r3 r10 := Fr_trans (Fr_mono F4 (by decide) (by decide)) (Fr_mono F10 (by decide) (by decide))
  have g27 : 0 ≤ fi r4 27 := by rw [F4.1 27 (by decide)]; exact q273
  have s310 : SRm r3 r10 (n :: S1) := SRm_trans q273 s4 s10 (fun x h => h) (fun x h => h)
  have sN : SRm r r10 (n :: S1) := SRm_trans q27 s3 s310 (fun x h => h) (fun x h => h)
  have si10 : SIm (ad, l) rI r10 rh3 ta3 N3 := SIm_Fr si4 F10 (by decide) (by decide) (by decide) (by decide)
  have V10 : VM r10 = VM r3 := VM_Fr F310 (by decide) (by decide)
  have f10 : ∀ k, fi r10 k = fi r3 k := fun k => F310.1 k List.not_mem_nil
  have e59 : ar r10 59 n.toNatClampNeg = 2 := by rw [F10.2.1 59 (by decide), e4, ar_sA, if_pos rfl, pk_us]; rfl
  have e60 : ar r10 60 v.toNatClampNeg = ar r 54 n.toNatClampNeg := by rw [e10, ar_sA, if_pos rfl, pk_us]
  have e60' : ∀ i, i < v.toNatClampNeg → ar r10 60 i = ar r 60 i := fun i hi => by rw [e10, ar_sA, if_pos rfl, pk_un (by omega), F4.2.1 60 (by decide)]; exact pl3 i hi
  have rdN : ∀ x, RD r L x → x ∉ n :: S1 := fun x h q => rd x h (in1 x q)
  have rd2 : ∀ x, RD r L x → x ∉ S2 := fun x h q => rd x h (in2 x q)
  have ch10 : CH r10 (ar r 54 n.toNatClampNeg) ((n, 2) :: L) := ⟨by rw [(tabs sN.1).2 51 (by decide)]; exact e51.2, (nodeOK_eq sN.1).mpr nk, Or.inr (Or.inr ⟨rfl, by rw [kd_eq sN.1, hk]; decide, fun q => by have := q.1; rw [kd_eq sN.1, hk] at this; exact absurd this (by decide)⟩), CH_NFr sN.1 ch⟩
  have em10 : EM rI r10 ((n, 2) :: L) Γ := ⟨fun z => absurd z (by decide), fun z => absurd z (by decide), fun _ => EM_SRm q27 sN ch rdN em⟩
  have pk : PRm (ad, l) rI r10 ((n, 2) :: L) (ar r 54 n.toNatClampNeg) Γ m2 := ⟨⟨_, ta3, N3, si10⟩, ch10, em10, by rw [f10]; simp at b29; omega⟩
  have x50 : ar r10 50 = ar r 50 := (tabs sN.1).2 50 (by decide)
  have dis : ∀ x, x ∈ S2 → x ∉ n :: S1 := fun x h q => by
    rcases List.mem_cons.mp q with e | e
    · rw [e] at h; exact hS2 h
    · exact ndd.2.2 x e x h rfl
  refine ih r10 (ar r 54 n.toNatClampNeg) m2 S2 ((n, 2) :: L) Γ (v + 1) (TrR_eq (tabs sN.1).1 (tabs sN.1).2 (d' + 1) _ _ _ tr2) ndd.2.1 (fun x h => XEn_eq sN.1 (hx x (in2 x h))) pk (fun x h => ?_) (RD_kid sN.1 rd2 hS2 (fun z => absurd z (by decide))) ⟨by omega, by omega⟩ (by rw [vv1]; exact e60) (fun r6 po pl F2 => ?_) (fun r6 f6 no6 => hB r6 f6 ?_) F
  · rw [sN.1.2 59 (by unfold nda; decide) x (TrR_all (d' + 1) _ _ _ tr2 x h) (dis x h)]
    exact st x (in2 x h)
  · rw [vv2]
    cases F2 with
    | zero => trivial
    | succ F2 =>
    obtain ⟨⟨rh6, ta6, N6, si6⟩, s6, ws6, b6, vt6, k2, am2, pp2, zt2, fl2⟩ := po
    rw [x50, V10, f10, f10, x2] at zt2
    rw [f10] at b6
    have N6' : NFr r r6 (n :: (S1 ++ S2)) := NFr_trans sN.1 s6.1 in1 in2
    have pl6 : ∀ i, i < v.toNatClampNeg → ar r6 60 i = ar r 60 i := fun i hi => by rw [pl i (by omega), e60' i hi]
    have h59' : ar r6 59 n.toNatClampNeg = 2 := by rw [s6.1.2 59 (by unfold nda; decide) n n0 hS2]; exact e59
    have q2710 : 0 ≤ fi r10 27 := by rw [f10]; exact q273
    have q276 := zo2 q2710 s6.2.2.1.1
    have q3110 : 0 ≤ fi r10 31 := by rw [f10]; exact q313
    have vx1 : vt r6 (ar r6 55 (ar r 53 n.toNatClampNeg).toNatClampNeg) ∧ ar r6 55 (ar r 53 n.toNatClampNeg).toNatClampNeg = ar r3 55 (ar r 53 n.toNatClampNeg).toNatClampNeg := by
      have e : ar r6 55 (ar r 53 n.toNatClampNeg).toNatClampNeg = ar r3 55 (ar r 53 n.toNatClampNeg).toNatClampNeg := by
        rw [s6.1.2 55 (by unfold nda; decide) _ ns1.1.1 (fun q => ndd.2.2 _ sS1 _ q rfl), F310.2.1 55 (by decide)]
      rw [e]
      exact ⟨OS_vt s6.2.1 ((vt_eq (f10 28)).mpr vt3), rfl⟩
    refine L9w_unf (n := n) hv.1 si6.2.2.2.1 (by rw [pl6 _ i1]; exact hp) ?_
    have k2'' : ar r6 45 (ar r6 50 n.toNatClampNeg).toNatClampNeg = 2 := by have := kd_eq N6' (n := n); unfold kd at this; rw [this]; exact hk
    unfold wM_visit wM_kindOf
    rw [k2'', h59']
    intro _ _ _ _ r7 e7
    refine ⟨fun _ => ⟨fun _ => ⟨fun _ => ⟨fun _ => ?_, fun z => absurd z (by decide)⟩, fun z => absurd z (by decide)⟩, fun z => absurd z (by decide)⟩, fun z => absurd z (by decide)⟩
    unfold wM_visit_J194 wM_fresh wM_arrow
    refine ⟨fun _ => ⟨fun _ => ⟨fun _ => ⟨fun z => absurd rfl z, fun _ => ?_⟩, fun z => absurd z (by decide)⟩, fun z => absurd z (by decide)⟩, fun z => absurd z (by decide)⟩
    have F7 : Fr [] [59] r6 r7 := by rw [e7]; exact Fr_sA (by decide)
    have s7 : SRm r6 r7 (n :: (S1 ++ S2)) := SRm_row n0 List.mem_cons_self (by unfold nda; decide) e7
    have si7 := SIm_row si6 (k := 59) (by unfold nda; decide) e7
    have f7 : ∀ k, fi r7 k = fi r6 k := fun k => F7.1 k List.not_mem_nil
    have p6 : (-1 : Int32) < fi r6 21 ∧ (0 : Int32) < fi r6 21 := by rw [N6'.1.1 21 (by decide)]; exact p21
    refine ws_mnew' hM (fun r18 _ tl7 hN7 => ?_)
    intro _ r20 e20 _ _ _ _ _
    obtain ⟨si8, os8, vT8, e28, s8⟩ := SIm_nt si7 hN7 tl7 ⟨by decide, by rw [f7]; exact p6.1⟩ (Or.inl rfl) (Or.inl rfl) (fun _ => ⟨rfl, rfl⟩) (fun z => absurd z (by decide))
    have vm8 : ∀ ρ, VM r18 ρ ↔ VM r7 ρ := fun ρ => by
      rw [NT_VM si7.2.1.2.2.1.1 tl7 hN7]
      exact ⟨fun h => h.1, fun h => ⟨h, fun z => absurd z (by decide)⟩⟩
    have nF8 := hN7.2.1
    rw [f7] at vT8 e28 tl7 e20
    have F20 : Fr [] [55] r18 r20 := by rw [e20]; exact Fr_sA (by decide)
    have s20 : SRm r18 r20 (n :: (S1 ++ S2)) := SRm_row n0 List.mem_cons_self (by unfold nda; decide) e20
    have si20 := SIm_row si8 (k := 55) (by unfold nda; decide) e20
    have F620 : Fr [28] [55, 59, 64, 65, 66, 67, 68, 70, 71] r6 r20 := Fr_trans (Fr_mono F7 (by decide) (by decide)) (Fr_trans (Fr_mono nF8 (by decide) (by decide)) (Fr_mono F20 (by decide) (by decide)))
    have y53 : ar r20 53 n.toNatClampNeg = ar r 53 n.toNatClampNeg := by rw [F620.2.1 53 (by decide), (tabs N6').2 53 (by decide)]
    have y54 : ar r20 54 n.toNatClampNeg = ar r 54 n.toNatClampNeg := by rw [F620.2.1 54 (by decide), (tabs N6').2 54 (by decide)]
    have a55 : ∀ x : Int32, 0 ≤ x → ar r20 55 x.toNatClampNeg = if x = n then fi r6 28 else ar r6 55 x.toNatClampNeg := fun x x0 => by
      rw [e20, ar_sA, if_pos rfl, updI _ _ n0 x0, nF8.2.1 55 (by decide), F7.2.1 55 (by decide)]
    have y1 : ar r20 55 (ar r20 53 n.toNatClampNeg).toNatClampNeg = ar r3 55 (ar r 53 n.toNatClampNeg).toNatClampNeg := by rw [y53, a55 _ ns1.1.1, if_neg (fun e => hS1 (by rw [← e]; exact sS1)), vx1.2]
    have y2 : ar r20 55 (ar r20 54 n.toNatClampNeg).toNatClampNeg = ar r6 55 (ar r 54 n.toNatClampNeg).toNatClampNeg := by rw [y54, a55 _ ns2.1.1, if_neg (fun e => hS2 (by rw [← e]; exact sS2))]
    have y3 : ar r20 55 n.toNatClampNeg = fi r6 28 := by rw [a55 n n0, if_pos rfl]
    rw [y1, y2, y3]
    have g20 : fi r20 28 = fi r18 28 := F20.1 28 (by decide)
    refine ws_mnew' hM (fun r27 _ tl20 hN20 => ?_)
    have e36' : ar r20 36 ((0 : Int32)).toNatClampNeg = 2 := by rw [si20.1.2.1 36 (by decide)]; exact e36
    have u6 : ∀ x, vt r6 x → vt r20 x := fun x h => (vt_eq g20).mpr (OS_vt os8 ((vt_eq (f7 28)).mpr h))
    have vT20 : vt r20 (fi r6 28) := (vt_eq g20).mpr vT8
    obtain ⟨si27, os27, vT27, e28', s27⟩ := SIm_nt si20 hN20 tl20 ⟨by decide, by rw [F620.1 21 (by decide)]; exact p6.2⟩ (Or.inr (u6 _ vt6)) (Or.inr vT20) (fun z => absurd z (by decide)) (fun _ => by rw [e36']; exact ⟨⟨fun _ => by decide, fun _ => vt6.1⟩, fun _ => by decide, fun _ => vT20.1⟩)
    have nF27 := hN20.2.1
    have vm27 : ∀ ρ, VM r27 ρ ↔ VM r6 ρ ∧ ρ (fi r20 28) = Jn 0 (ρ (ar r6 55 (ar r 54 n.toNatClampNeg).toNatClampNeg)) (ρ (fi r6 28)) := fun ρ => by
      rw [NT_VM si20.2.1.2.2.1.1 tl20 hN20, VM_Fr F20 (by decide) (by decide), vm8 ρ, VM_Fr F7 (by decide) (by decide)]
      exact ⟨fun h => ⟨h.1, h.2 (by decide)⟩, fun h => ⟨h.1, fun _ => h.2⟩⟩
    have i20 : (fi r20 28).toInt = (fi r6 28).toInt + 1 := by rw [g20, e28]
    have i27 : (fi r27 28).toInt = (fi r6 28).toInt + 2 := by rw [e28', i20]; omega
    have vx27 : vt r27 (ar r3 55 (ar r 53 n.toNatClampNeg).toNatClampNeg) := OS_vt os27 (u6 _ (by rw [← vx1.2]; exact vx1.1))
    obtain ⟨_, w27, cg27, f32_27, qm27, z27, q31_27, q27_27⟩ := si27
    have le36 := s6.2.1.1
    rw [f10] at le36
    have le03 := s3.2.1.1
    -- what typing is, whichever way unification ends
    have zty : ∀ V' : (Int32 → Ut) → Prop, (∀ ρ, V' ρ ↔ VM r6 ρ ∧ ρ (fi r20 28) = Jn 0 (ρ (ar r6 55 (ar r 54 n.toNatClampNeg).toNatClampNeg)) (ρ (fi r6 28)) ∧ ρ (ar r3 55 (ar r 53 n.toNatClampNeg).toNatClampNeg) = ρ (fi r20 28)) → zLoc (fi r27 28) V' → ∀ W : Int32 → Nat → Prop, (∀ x cl, W x cl ↔ mW r3 (fi r 31) x cl ∨ mW r6 (fi r3 31) x cl) → zTY (ctb rI) (d' + 1 + 1) (ar r 50 n.toNatClampNeg) Γ (fi r 28) (VM r) (fi r6 28) (fi r27 28) V' W (k1 ∨ k2) (am1 ∨ am2) (pp1 + pp2) := by
      intro V' hV hl W hW
      refine ⟨fun ρ h => s3.2.2.2 ρ (by rw [← V10]; exact s6.2.2.2 ρ ((hV ρ).mp h).1), Or.inr ⟨hl, ?_, ⟨si6.2.1.2.2.1.1, by rw [it, i27]; omega⟩, kinds, fun z => absurd z (no 0 (by decide)), fun z => absurd z (no 1 (by decide)), fun _ => ⟨ar r3 55 (ar r 53 n.toNatClampNeg).toNatClampNeg, fi r3 28, VM r3, mW r3 (fi r 31), k1, am1, pp1, ar r6 55 (ar r 54 n.toNatClampNeg).toNatClampNeg, fi r6 28, VM r6, mW r6 (fi r3 31), k2, am2, pp2, fi r20 28, zt1, zt2, ⟨Int32.le_refl _, by rw [il, i20]; omega, fun e => ?_⟩, VM_zloc si3.2.1, VM_zloc si6.2.1, ⟨le03, le36, vt3, vt6⟩, hV, hW, Iff.rfl, Iff.rfl, rfl⟩, fun z => absurd z (no 3 (by decide)), fun z => absurd z (no 4 (by decide)), fun z => absurd z (no 5 (by decide))⟩⟩
      · rw [il] at le36 le03 ⊢
        rw [i27]
        omega
      · rw [ie, i20] at e
        omega
    have F627 : Fr [28] [55, 59, 64, 65, 66, 67, 68, 70, 71] r6 r27 := Fr_trans F620 (Fr_mono nF27 (by decide) (by decide))
    refine ws_munify w27 f32_27 cg27 vx27.1 vx27.2 vT27.1 vT27.2 (fun r28 up use => ?_)
    obtain ⟨rh8, ta8, N8, w28, U2, _, U4, U5⟩ := up
    refine ⟨fun z => absurd z (by decide), fun _ => ?_⟩
    by_cases f28 : fi r28 32 = 0
    · have V28 : ∀ ρ, VM r28 ρ ↔ VM r6 ρ ∧ ρ (fi r20 28) = Jn 0 (ρ (ar r6 55 (ar r 54 n.toNatClampNeg).toNatClampNeg)) (ρ (fi r6 28)) ∧ ρ (ar r3 55 (ar r 53 n.toNatClampNeg).toNatClampNeg) = ρ (fi r20 28) := fun ρ => by
        rw [(use ρ).1 f28, vm27 ρ, and_assoc]
      have g28 : fi r28 28 = fi r27 28 := U2.1 28 (by decide)
      have v28 : ∀ x, vt r28 x ↔ vt r27 x := fun x => vt_eq g28
      have os28 : OS r27 r28 := ⟨by rw [g28]; exact Int32.le_refl _, fun x vx => ⟨U4 x vx.1 (by rw [g28]; exact vx.2), by rw [U2.2.1 65 (by decide)], by rw [U2.2.1 66 (by decide)], by rw [U2.2.1 67 (by decide)]⟩⟩
      have s28 : SRm r27 r28 (n :: (S1 ++ S2)) := ⟨NFr_of U2 (by decide) (by unfold nda; decide) _, os28, ⟨by rw [U2.1 27 (by decide)]; exact Int32.le_refl _, fun i _ => ⟨by rw [U2.2.1 62 (by decide)], by rw [U2.2.1 63 (by decide)]⟩⟩, fun ρ h => ((use ρ).1 f28).mp h |>.1⟩
      have F628 : Fr [28, 32] [55, 59, 64, 65, 66, 67, 68, 70, 71, 72] r6 r28 := Fr_trans (Fr_mono F627 (by decide) (by decide)) (Fr_mono U2 (by decide) (by decide))
      have si28 : SIm (ad, l) rI r28 rh8 ta8 N8 := by
        refine ⟨Fr_trans si6.1 (Fr_mono F628 (by decide) (by decide)), w28, U5 f28, f28, ⟨fun x vx => ?_, by rw [U2.1 29 (by decide)]; exact qm27.2.1, by rw [U2.1 29 (by decide)]; exact qm27.2.2⟩, fun x vx => ?_, ⟨by rw [U2.1 31 (by decide)]; exact q31_27.1, fun i hi => ?_⟩, by rw [U2.1 27 (by decide)]; exact q27_27⟩
        · rw [U2.1 29 (by decide), U2.2.1 68 (by decide)]; exact qm27.1 x ((v28 x).mp vx)
        · rw [U2.2.1 70 (by decide), U2.2.1 71 (by decide)]; exact z27 x ((v28 x).mp vx)
        · rw [U2.1 31 (by decide)] at hi
          rw [U2.2.1 75 (by decide), U2.2.1 76 (by decide)]
          exact ⟨(v28 _).mpr (q31_27.2 i hi).1, (q31_27.2 i hi).2⟩
      have e55 : ar r28 55 n.toNatClampNeg = fi r6 28 := by rw [U2.2.1 55 (by decide), nF27.2.1 55 (by decide)]; exact y3
      have g27' : 0 ≤ fi r7 27 := by rw [f7]; exact q276
      have g27'' : 0 ≤ fi r18 27 := by rw [nF8.1 27 (by decide)]; exact g27'
      have g2720 : 0 ≤ fi r20 27 := by rw [F20.1 27 (by decide)]; exact g27''
      have g2727 : 0 ≤ fi r27 27 := q27_27
      have s628 : SRm r6 r28 (n :: (S1 ++ S2)) := SRm_trans q276 s7 (SRm_trans g27' s8 (SRm_trans g27'' s20 (SRm_trans g2720 s27 s28 (fun x h => absurd h List.not_mem_nil) (fun x h => h)) (fun x h => h) (fun x h => h)) (fun x h => absurd h List.not_mem_nil) (fun x h => h)) (fun x h => h) (fun x h => h)
      have ws10 : WSm r r10 := WSm_trans q31 ws3 (WSm_Fr F310 (by decide) (by decide))
      have ws628 : WSm r6 r28 := WSm_Fr F628 (by decide) (by decide)
      refine hc r28 ⟨⟨rh8, ta8, N8, si28⟩, SRm_trans q27 sN (SRm_trans q2710 s6 s628 in2 (fun x h => h)) in1 (fun x h => h), WSm_trans q31 ws10 (WSm_trans q3110 ws6 ws628), ?_, by rw [e55]; exact (v28 _).mpr (OS_vt os27 vT20), k1 ∨ k2, am1 ∨ am2, pp1 + pp2, ?_, ?_⟩ (fun i hi => ?_) F2
      · rw [F628.1 29 (by decide)]
        simp
        omega
      · rw [e55, g28]
        refine zty (VM r28) V28 (by rw [← g28]; exact VM_zloc w28) _ (fun x cl => ?_)
        rw [mW_Fr F628 (by decide) (by decide), mW_split (r1 := r3) q31 ws3.1 (by rw [← f10 31]; exact ws6.1) (fun i hi => ?_)]
        have k := ws6.2 i (by rw [f10]; exact hi)
        rw [F310.2.1 75 (by decide), F310.2.1 76 (by decide)] at k
        exact k
      · exact FLm_Fr (FLm_trans fl1 (FLm_pre F310 (by decide) fl2)) F628 (by decide)
      · rw [F628.2.1 60 (by decide)]; exact pl6 i hi
    · refine L9w_bad (hB r28 f28 ⟨fi r6 28, fi r27 28, fun ρ => VM r6 ρ ∧ ρ (fi r20 28) = Jn 0 (ρ (ar r6 55 (ar r 54 n.toNatClampNeg).toNatClampNeg)) (ρ (fi r6 28)) ∧ ρ (ar r3 55 (ar r 53 n.toNatClampNeg).toNatClampNeg) = ρ (fi r20 28), _, _, _, _, zty _ (fun ρ => Iff.rfl) (fun ρ ρ' _ h => ?_) _ (fun x cl => Iff.rfl), fun ρ h => ?_, ⟨?_, ?_⟩, si6.2.1.2.2.1.1, by rw [it, i27]; omega⟩) f28 F2
      · exact absurd ⟨(vm27 ρ).mpr ⟨h.1, h.2.1⟩, h.2.2⟩ ((use ρ).2 f28)
      · exact (use ρ).2 f28 ⟨(vm27 ρ).mpr ⟨h.1, h.2.1⟩, h.2.2⟩
      · rw [il] at le36 le03 ⊢
        rw [i27]
        omega
      · have := w27.2.2.1.2
        omega
  · obtain ⟨t, c', V', W, k, am, pp, zt, emp, ⟨b1, b2⟩, b3', b4⟩ := no6
    rw [x50, V10, f10, x2] at zt
    rw [f10] at b1
    have b1i := b1
    have le03 := s3.2.1.1
    rw [il] at b1i le03
    obtain ⟨j1, j2⟩ := two c' (by omega) (by omega)
    refine ⟨c', c' + 2, fun _ => False, fun x cl => mW r3 (fi r 31) x cl ∨ W x cl, k1 ∨ k, am1 ∨ am, pp1 + pp, ⟨fun ρ h => h.elim, Or.inr ⟨fun _ _ _ h => h, by rw [il, j2]; omega, ⟨by rw [il]; simp; omega, by rw [it, j2]; omega⟩, kinds, fun z => absurd z (no 0 (by decide)), fun z => absurd z (no 1 (by decide)), fun _ => ⟨_, _, _, _, _, _, _, t, c', V', W, k, am, pp, c' + 1, zt1, zt, ⟨Int32.le_refl _, by rw [il, j1]; omega, fun e => ?_⟩, VM_zloc si3.2.1, fun _ _ _ h => absurd h (emp _), ⟨s3.2.1.1, b1, vt3, b3', b4⟩, fun ρ => ⟨fun h => h.elim, fun h => emp ρ h.1⟩, fun x cl => Iff.rfl, Iff.rfl, Iff.rfl, rfl⟩, fun z => absurd z (no 3 (by decide)), fun z => absurd z (no 4 (by decide)), fun z => absurd z (no 5 (by decide))⟩⟩, fun ρ h => h, ⟨by rw [il, j2]; omega, by rw [j2]; simp; omega⟩, by rw [il]; simp; omega, by rw [it, j2]; omega⟩
    rw [ie, j1] at e
    omega
end ZMTYP2
