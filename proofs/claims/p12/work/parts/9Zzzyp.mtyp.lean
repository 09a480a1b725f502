/-! The reference's typing: LAMBDA. -/
section ZMTYP
variable {ad l : Nat → Nat} {a : L_} {rI r r' r1 r2 r3 : S_} {rh ta : Int32 → Int32} {N : Int32}
def XEn (r : S_) (k : Int32) : Prop := (kd r k = 1 → ar r 50 (ar r 53 k.toNatClampNeg).toNatClampNeg = ar r 47 (ar r 50 k.toNatClampNeg).toNatClampNeg) ∧ (kd r k = 2 → ar r 50 (ar r 53 k.toNatClampNeg).toNatClampNeg = ar r 46 (ar r 50 k.toNatClampNeg).toNatClampNeg ∧ ar r 50 (ar r 54 k.toNatClampNeg).toNatClampNeg = ar r 47 (ar r 50 k.toNatClampNeg).toNatClampNeg) ∧ (kd r k = 3 → ar r 50 (ar r 53 k.toNatClampNeg).toNatClampNeg = ar r 47 (ar r 50 k.toNatClampNeg).toNatClampNeg ∧ ar r 50 (ar r 54 k.toNatClampNeg).toNatClampNeg = ar r 48 (ar r 50 k.toNatClampNeg).toNatClampNeg)
theorem XEn_eq {S : List Int32} (h : NFr r r1 S) {k : Int32} (x : XEn r k) : XEn r1 k := by
  unfold XEn kd at x ⊢
  rw [h.1.2.1 45 (by decide), h.1.2.1 46 (by decide), h.1.2.1 47 (by decide), h.1.2.1 48 (by decide), h.1.2.1 50 (by decide), h.1.2.1 53 (by decide), h.1.2.1 54 (by decide)]
  exact x
def TYPr (ad l : Nat → Nat) (rI : S_) (KX : S_ → Prop) (d : Nat) : Prop := ∀ (r : S_) (n : Int32) (m : Nat) (S : List Int32) (L : List (Int32 × Nat)) (Γ : List En) (v : Int32), TrR r d n m S → S.Nodup → (∀ x, x ∈ S → XEn r x) → PRm (ad, l) rI r L n Γ m → (∀ x, x ∈ S → ar r 59 x.toNatClampNeg = 0) → (∀ x, RD r L x → x ∉ S) → (1 ≤ v.toInt ∧ v.toInt ≤ 64) → ar r 60 (v - 1).toNatClampNeg = n → (∀ r', POm (ad, l) rI r r' S n Γ d m → (∀ i, i < v.toNatClampNeg → ar r' 60 i = ar r 60 i) → ∀ F, wM_typeAll_L9 (ad, l) KX F r' (v + -1)) → (∀ r', ¬ fi r' 32 = 0 → NOm rI r n Γ d m → KX r') → ∀ F, wM_typeAll_L9 (ad, l) KX F r v
theorem L9w_unf {KX : S_ → Prop} {v n : Int32} {F : Nat} (hv : 1 ≤ v.toInt) (f32 : fi r 32 = 0) (hp : ar r 60 (v - 1).toNatClampNeg = n) (h : wM_visit a (fun z6 r7 => ((0 ≤ z6) → vp_in v (ln a 60) → ∀ r10 : S_, r10 = sA r7 60 (upd (ar r7 60) v.toNatClampNeg z6) → wM_typeAll_L9 a KX F r10 (v + 1)) ∧ ((¬ 0 ≤ z6) → wM_typeAll_L9 a KX F r7 (v + (-1)))) r n) : wM_typeAll_L9 a KX (F + 1) r v := by
  rw [wM_typeAll_L9]
  refine ⟨fun z => ?_, fun _ => ⟨fun z => absurd f32 z, fun _ _ => ?_⟩⟩
  · rw [il] at z
    simp at z
    omega
  · rw [hp]
    exact h
theorem L9w_bad {KX : S_ → Prop} {v : Int32} (h : KX r) (hb : ¬ fi r 32 = 0) : ∀ F, wM_typeAll_L9 a KX F r v := by
  intro F
  cases F with
  | zero => trivial
  | succ F =>
    rw [wM_typeAll_L9]
    exact ⟨fun _ => h, fun _ => ⟨fun _ => h, fun z => absurd z hb⟩⟩
theorem FLm_trans {k1 k2 am1 am2 : Prop} {p1 p2 : Int} (h : FLm r r1 k1 am1 p1) (h2 : FLm r1 r2 k2 am2 p2) : FLm r r2 (k1 ∨ k2) (am1 ∨ am2) (p1 + p2) := by
  refine ⟨?_, ?_, ?_⟩
  · rw [h2.1, h.1, or_assoc]
  · rw [h2.2.1, h.2.1, or_assoc]
  · rw [h2.2.2, h.2.2, ofIadd]
    clear h h2
    grind
theorem FLm_Fr {F A : List Nat} {k am : Prop} {p : Int} (h : FLm r r1 k am p) (f : Fr F A r1 r2) (h1 : 33 ∉ F ∧ 34 ∉ F ∧ 35 ∉ F) : FLm r r2 k am p := by
  unfold FLm
  rw [f.1 33 h1.1, f.1 34 h1.2.1, f.1 35 h1.2.2]
  exact h
theorem FLm_pre {F A : List Nat} {k am : Prop} {p : Int} (f : Fr F A r r1) (h1 : 33 ∉ F ∧ 34 ∉ F ∧ 35 ∉ F) (h : FLm r1 r2 k am p) : FLm r r2 k am p := by
  unfold FLm at h ⊢
  rw [f.1 33 h1.1, f.1 34 h1.2.1, f.1 35 h1.2.2] at h
  exact h
theorem SIm_nt {h x y : Int32} (si : SIm a rI r rh ta N) (hN : NT r r' h x y) (t4 : (fi r 28).toInt < 40000) (h1 : -1 ≤ h ∧ h < fi r 21) (hx : x = -1 ∨ vt r x) (hy : y = -1 ∨ vt r y) (hn : h < 0 → x = -1 ∧ y = -1) (hp : 0 ≤ h → (0 ≤ x ↔ 0 < ar r 36 h.toNatClampNeg) ∧ (0 ≤ y ↔ 1 < ar r 36 h.toNatClampNeg)) : SIm a rI r' (fun x => if x < fi r 28 then rh x else x) ta N ∧ OS r r' ∧ vt r' (fi r 28) ∧ (fi r' 28).toInt = (fi r 28).toInt + 1 ∧ SRm r r' [] := by
  obtain ⟨qF, w, cg, f32, ⟨qm, qm0, qm1⟩, z0, ⟨q31, q75⟩, q27⟩ := si
  have hN' := hN
  obtain ⟨n28, nF, nold, n64, n65, n66, n67, n68, n70, n71⟩ := hN
  have c0 := w.2.2.1.1
  have i28 : (fi r 28 + 1).toInt = (fi r 28).toInt + 1 := i_inc (y := 40000) (by rw [it]; simp; omega)
  have up : fi r 28 < fi r' 28 := by rw [n28, it, i28]; omega
  have lst : ∀ x : Int32, fi r 28 ≤ x → x < fi r' 28 → x = fi r 28 := fun x a1 a2 => by
    rw [il] at a1
    rw [it, n28, i28] at a2
    apply Int32.toInt_inj.mp
    omega
  have old : ∀ x, vt r x → ar r' 64 x.toNatClampNeg = ar r 64 x.toNatClampNeg ∧ ar r' 65 x.toNatClampNeg = ar r 65 x.toNatClampNeg ∧ ar r' 66 x.toNatClampNeg = ar r 66 x.toNatClampNeg ∧ ar r' 67 x.toNatClampNeg = ar r 67 x.toNatClampNeg := fun x vx => ⟨nold x vx.1 vx.2 64, nold x vx.1 vx.2 65, nold x vx.1 vx.2 66, nold x vx.1 vx.2 67⟩
  have os : OS r r' := ⟨zo4 up, fun x vx => ⟨Or.inl (old x vx).1, (old x vx).2⟩⟩
  have pr : ∀ u : Int32, (u = -1 ∨ vt r u) → -1 ≤ u ∧ u < fi r' 28 := fun u hu => by
    rcases hu with e | e
    · rw [e]
      refine ⟨by decide, ?_⟩
      clear nold old z0 q75 qm lst
      grind
    · have e1 := e.1
      have e2 := e.2
      clear nold old z0 q75 qm lst
      grind
  obtain ⟨w', cg'⟩ := MI_more w (zo4 up) (by rw [n28, i28]; omega) (nF.1 21 (by decide)) (nF.2.1 36 (by decide)) old (fun u u1 u2 => by
    rw [lst u u1 u2, n64, n65, n66, n67]
    exact ⟨rfl, h1, pr x hx, pr y hy, hn, hp⟩)
  have cs : ∀ x, vt r' x → vt r x ∨ x = fi r 28 := fun x vx => by
    by_cases q : x < fi r 28
    · exact Or.inl ⟨vx.1, q⟩
    · exact Or.inr (lst x (Int32.not_lt.mp q) vx.2)
  refine ⟨⟨Fr_trans qF (Fr_mono nF (by decide) (by decide)), w', cg' cg, by rw [nF.1 32 (by decide)]; exact f32, ⟨fun x vx => ?_, by rw [nF.1 29 (by decide)]; exact qm0, by rw [nF.1 29 (by decide)]; exact qm1⟩, fun x vx => ?_, ⟨by rw [nF.1 31 (by decide)]; exact q31, fun i hi => ?_⟩, by rw [nF.1 27 (by decide)]; exact q27⟩, os, ⟨c0, up⟩, by rw [n28, i28], NFr_of nF (by decide) (by unfold nda; decide) _, os, ⟨by rw [nF.1 27 (by decide)]; exact Int32.le_refl _, fun i _ => ⟨by rw [nF.2.1 62 (by decide)], by rw [nF.2.1 63 (by decide)]⟩⟩, fun ρ v => ((NT_VM c0 t4 hN').mp v).1⟩
  · rw [nF.1 29 (by decide)]
    rcases cs x vx with q | q
    · rw [nold x q.1 q.2 68]; exact qm x q
    · rw [q, n68]; exact qm0
  · rcases cs x vx with q | q
    · rw [nold x q.1 q.2 70, nold x q.1 q.2 71]; exact z0 x q
    · rw [q, n70, n71]; exact ⟨rfl, rfl⟩
  · rw [nF.1 31 (by decide)] at hi
    rw [nF.2.1 75 (by decide), nF.2.1 76 (by decide)]
    have k := q75 i hi
    exact ⟨OS_vt os k.1, k.2⟩
theorem idx64 {v : Int32} (h : 1 ≤ v.toInt) (h2 : v.toInt ≤ 64) : 0 ≤ v ∧ (v - 1).toNatClampNeg < v.toNatClampNeg ∧ (v + 1).toInt = v.toInt + 1 ∧ (v + 1).toNatClampNeg = v.toNatClampNeg + 1 := idx h (by omega)
theorem pile64 {v : Int32} (hM : ML a) (vp : vp_in v (ln a 60)) : v.toInt < 64 := by
  have := (vpl vp).2
  rw [ml (n := 64) hM (by decide) (by decide) rfl] at this
  exact this
theorem SRm_60 {v z : Int32} {S : List Int32} (e : r' = sA r 60 (upd (ar r 60) v.toNatClampNeg z)) : SRm r r' S ∧ Fr [] [60] r r' := by
  have F : Fr [] [60] r r' := by rw [e]; exact Fr_sA (by decide)
  exact ⟨SRm_Fr (NFr_of F (by decide) (by unfold nda; decide) S) F (by decide) (by decide) (by decide), F⟩
theorem WSm_Fr {F A : List Nat} (f : Fr F A r r') (h1 : 31 ∉ F) (h2 : 75 ∉ A ∧ 76 ∉ A) : WSm r r' := ⟨by rw [f.1 31 h1]; exact Int32.le_refl _, fun _ _ => ⟨by rw [f.2.1 75 h2.1], by rw [f.2.1 76 h2.2]⟩⟩
theorem WSm_trans (q0 : 0 ≤ fi r 31) (h : WSm r r1) (h2 : WSm r1 r2) : WSm r r2 := ⟨zo2 h.1 h2.1, fun i hi => by
  have l : i < (fi r1 31).toNatClampNeg := by
    have a1 := i_nat q0
    have a2 := i_nat (zo2 q0 h.1)
    have a3 := h.1
    rw [il] at a3
    omega
  have k1 := h.2 i hi
  have k2 := h2.2 i l
  exact ⟨k2.1.trans k1.1, k2.2.trans k1.2⟩⟩
theorem typm_lam {KX : S_ → Prop} {d : Nat} (tab : TAB l rI) (e36 : ar rI 36 ((0 : Int32)).toNatClampNeg = 2) (ih : TYPr ad l rI KX d) {n : Int32} {m1 : Nat} {S1 : List Int32} {L : List (Int32 × Nat)} {Γ : List En} {v : Int32} (nk : nodeOK r n) (hk : kd r n = 1) (e51 : ar r 51 (ar r 53 n.toNatClampNeg).toNatClampNeg = n) (tr : TrR r d (ar r 53 n.toNatClampNeg) m1 S1) (nd : (n :: S1).Nodup) (hx : ∀ x, x ∈ n :: S1 → XEn r x) (p : PRm (ad, l) rI r L n Γ (m1 + 1)) (st : ∀ x, x ∈ n :: S1 → ar r 59 x.toNatClampNeg = 0) (rd : ∀ x, RD r L x → x ∉ n :: S1) (hv : 1 ≤ v.toInt ∧ v.toInt ≤ 64) (hp : ar r 60 (v - 1).toNatClampNeg = n) (hc : ∀ r', POm (ad, l) rI r r' (n :: S1) n Γ (d + 1) (m1 + 1) → (∀ i, i < v.toNatClampNeg → ar r' 60 i = ar r 60 i) → ∀ F, wM_typeAll_L9 (ad, l) KX F r' (v + -1)) (hB : ∀ r', ¬ fi r' 32 = 0 → NOm rI r n Γ (d + 1) (m1 + 1) → KX r') (F : Nat) : wM_typeAll_L9 (ad, l) KX F r v := by
  cases F with
  | zero => trivial
  | succ F =>
  obtain ⟨⟨rh, ta, N, si⟩, ch, em, b29⟩ := p
  obtain ⟨tbI, te, tym⟩ := tab
  obtain ⟨m1p, sS, ns⟩ := TrR_pos d _ _ _ tr
  have n0 := nk.1.1
  have qF := si.1
  have w := si.2.1
  have hM := w.1
  have q27 := si.2.2.2.2.2.2.2
  have q31 := si.2.2.2.2.2.2.1.1
  have c0 := w.2.2.1.1
  obtain ⟨t1, t2, t3, t4⟩ := kds (n := n) te qF
  obtain ⟨v0, i1, i2, i3⟩ := idx64 hv.1 hv.2
  have hS : n ∉ S1 := (List.nodup_cons.mp nd).1
  have rd0 : ∀ x, RD r L x → x ∉ [n] := fun x hx h => rd x hx (by rw [List.mem_singleton.mp h]; exact List.mem_cons_self)
  have rd1 : ∀ x, RD r L x → x ∉ S1 := fun x hx h => rd x hx (List.mem_cons_of_mem _ h)
  have hs0 := st n List.mem_cons_self
  have p21 : (-1 : Int32) < fi r 21 ∧ (0 : Int32) < fi r 21 := by
    have := w.2.1.1
    clear hc hB ih em ch tr rd rd0 rd1 st hx
    grind
  have kinds : tK (ctb rI) (ar r 50 n.toNatClampNeg) = 0 ∨ tK (ctb rI) (ar r 50 n.toNatClampNeg) = 1 ∨ tK (ctb rI) (ar r 50 n.toNatClampNeg) = 2 ∨ tK (ctb rI) (ar r 50 n.toNatClampNeg) = 3 ∨ tK (ctb rI) (ar r 50 n.toNatClampNeg) = 4 ∨ tK (ctb rI) (ar r 50 n.toNatClampNeg) = 5 := Or.inr (Or.inl (by rw [t1, hk]))
  have no : ∀ k, ¬ k = 1 → ¬ tK (ctb rI) (ar r 50 n.toNatClampNeg) = k := fun k hk' z => hk' (by rw [← z, t1, hk])
  refine L9w_unf (n := n) hv.1 si.2.2.2.1 hp ?_
  unfold wM_visit wM_kindOf
  have k1 : ar r 45 (ar r 50 n.toNatClampNeg).toNatClampNeg = 1 := hk
  rw [k1]
  intro _ _ _ _ r4 e4
  refine ⟨fun _ => ⟨fun _ => ⟨fun _ => ⟨fun z => absurd rfl z, fun _ => ⟨fun z => absurd hs0 z, fun _ => ?_⟩⟩, fun z => absurd z (by decide)⟩, fun z => absurd z (by decide)⟩, fun z => absurd z (by decide)⟩
  have s4 : SRm r r4 [n] := SRm_row n0 (List.mem_singleton.mpr rfl) (by unfold nda; decide) e4
  have si4 := SIm_row si (k := 59) (by unfold nda; decide) e4
  have F4 : Fr [] [59] r r4 := by rw [e4]; exact Fr_sA (by decide)
  have f4 : ∀ k, fi r4 k = fi r k := fun k => F4.1 k List.not_mem_nil
  have a4 : ∀ k, ¬ k = 59 → ar r4 k = ar r k := fun k hk => F4.2.1 k (by simpa using hk)
  unfold wM_fresh
  refine ws_mnew' hM (fun r44 _ tl hN => ?_)
  intro _ r46 e46 _
  obtain ⟨si5, os5, vT, e28, s5⟩ := SIm_nt si4 hN tl ⟨by decide, by rw [f4]; exact p21.1⟩ (Or.inl rfl) (Or.inl rfl) (fun _ => ⟨rfl, rfl⟩) (fun z => absurd z (by decide))
  have vm5 : ∀ ρ, VM r44 ρ ↔ VM r4 ρ := fun ρ => by
    rw [NT_VM si4.2.1.2.2.1.1 tl hN]
    exact ⟨fun h => h.1, fun h => ⟨h, fun z => absurd z (by decide)⟩⟩
  have nF5 := hN.2.1
  rw [f4] at vT e28 tl
  rw [f4] at e46
  have F46 : Fr [] [56] r44 r46 := by rw [e46]; exact Fr_sA (by decide)
  have s46 : SRm r44 r46 [n] := SRm_row n0 (List.mem_singleton.mpr rfl) (by unfold nda; decide) e46
  have e53 : ar r46 53 n.toNatClampNeg = ar r 53 n.toNatClampNeg := by rw [F46.2.1 53 (by decide), nF5.2.1 53 (by decide), a4 53 (by decide)]
  rw [e53]
  refine ⟨fun _ vp60 r10 e10 => ?_, fun z => absurd ns.1.1 z⟩
  have v64 := pile64 hM vp60
  obtain ⟨s10, F10⟩ := SRm_60 (S := [n]) e10
  have F010 : Fr [28] [56, 59, 60, 64, 65, 66, 67, 68, 70, 71] r r10 := Fr_trans (Fr_mono F4 (by decide) (by decide)) (Fr_trans (Fr_mono nF5 (by decide) (by decide)) (Fr_trans (Fr_mono F46 (by decide) (by decide)) (Fr_mono F10 (by decide) (by decide))))
  have g27 : 0 ≤ fi r4 27 := by rw [f4]; exact q27
  have g27' : 0 ≤ fi r44 27 := by rw [nF5.1 27 (by decide)]; exact g27
  have g27'' : 0 ≤ fi r46 27 := by rw [F46.1 27 (by decide)]; exact g27'
  have sN : SRm r r10 [n] := SRm_trans q27 s4 (SRm_trans g27 s5 (SRm_trans g27' s46 s10 (fun x h => h) (fun x h => h)) (fun x h => absurd h List.not_mem_nil) (fun x h => h)) (fun x h => h) (fun x h => h)
  have si10 : SIm (ad, l) rI r10 (fun x => if x < fi r4 28 then rh x else x) ta N := SIm_Fr (SIm_row si5 (k := 56) (by unfold nda; decide) e46) F10 (by decide) (by decide) (by decide) (by decide)
  have V10 : VM r10 = VM r := by
    rw [VM_Fr F10 (by decide) (by decide), VM_Fr F46 (by decide) (by decide), show VM r44 = VM r4 from funext (fun ρ => propext (vm5 ρ)), VM_Fr F4 (by decide) (by decide)]
  have g28 : fi r10 28 = fi r44 28 := (F10.1 28 (by decide)).trans (F46.1 28 (by decide))
  have e56 : ar r10 56 n.toNatClampNeg = fi r 28 := by rw [F10.2.1 56 (by decide), e46, ar_sA, if_pos rfl, pk_us]
  have e59 : ar r10 59 n.toNatClampNeg = 1 := by rw [F10.2.1 59 (by decide), F46.2.1 59 (by decide), nF5.2.1 59 (by decide), e4, ar_sA, if_pos rfl, pk_us, hs0]; rfl
  have vT10 : vt r10 (fi r 28) := (vt_eq g28).mpr vT
  have e60 : ar r10 60 v.toNatClampNeg = ar r 53 n.toNatClampNeg := by rw [e10, ar_sA, if_pos rfl, pk_us]
  have e60' : ∀ i, ¬ i = v.toNatClampNeg → ar r10 60 i = ar r 60 i := fun i hi => by
    rw [e10, ar_sA, if_pos rfl, pk_un hi, F46.2.1 60 (by decide), nF5.2.1 60 (by decide), a4 60 (by decide)]
  have ch10 : CH r10 (ar r 53 n.toNatClampNeg) ((n, 0) :: L) := ⟨by rw [(tabs sN.1).2 51 (by decide)]; exact e51, (nodeOK_eq sN.1).mpr nk, Or.inl ⟨rfl, by rw [kd_eq sN.1]; exact hk⟩, CH_NFr sN.1 ch⟩
  have em10 : EM rI r10 ((n, 0) :: L) (lamE r10 n :: Γ) := ⟨fun _ => ⟨Γ, rfl, by rw [e56]; exact vT10, EM_SRm q27 sN ch rd0 em⟩, fun z => absurd z (by decide), fun z => absurd z (by decide)⟩
  have pk : PRm (ad, l) rI r10 ((n, 0) :: L) (ar r 53 n.toNatClampNeg) (lamE r10 n :: Γ) m1 := ⟨⟨_, ta, N, si10⟩, ch10, em10, by rw [F010.1 29 (by decide)]; simp at b29; omega⟩
  have le : lamE r10 n = (tA (ctb rI) (ar r 50 n.toNatClampNeg), false, fi r 28, fun _ _ => False, 0) := by
    unfold lamE nmE
    rw [e56, (tabs sN.1).2 46 (by decide), (tabs sN.1).2 50 (by decide), t2]
  have xk : ar r10 50 (ar r 53 n.toNatClampNeg).toNatClampNeg = tB (ctb rI) (ar r 50 n.toNatClampNeg) := by rw [(tabs sN.1).2 50 (by decide), t3]; exact (hx n List.mem_cons_self).1 hk
  have c0i : 0 ≤ (fi r 28).toInt := by have := c0; rw [il] at this; simpa using this
  have g28i : (fi r10 28).toInt = (fi r 28).toInt + 1 := by rw [g28, e28]
  refine ih r10 (ar r 53 n.toNatClampNeg) m1 S1 ((n, 0) :: L) (lamE r10 n :: Γ) (v + 1) (TrR_eq (tabs sN.1).1 (tabs sN.1).2 d _ _ _ tr) (List.nodup_cons.mp nd).2 (fun x h => XEn_eq sN.1 (hx x (List.mem_cons_of_mem _ h))) pk (fun x h => ?_) (RD_kid sN.1 rd1 hS (fun z => absurd z (by decide))) ⟨by omega, by omega⟩ (by rw [vv1]; exact e60) (fun r3 po pl F2 => ?_) (fun r3 f3 no3 => hB r3 f3 ?_) F
  · have xn : x ∉ [n] := fun q => hS (by rw [← List.mem_singleton.mp q]; exact h)
    rw [sN.1.2 59 (by unfold nda; decide) x (TrR_all d _ _ _ tr x h) xn]
    exact st x (List.mem_cons_of_mem _ h)
  · rw [vv2]
    cases F2 with
    | zero => trivial
    | succ F2 =>
    obtain ⟨⟨rh3, ta3, N3, si3⟩, s3, ws3, b3, vt3, k, am, pp, zt, fl⟩ := po
    have N3' : NFr r r3 (n :: S1) := NFr_trans sN.1 s3.1 (fun x h => by rw [List.mem_singleton.mp h]; exact List.mem_cons_self) (fun x h => List.mem_cons_of_mem _ h)
    have pl3 : ∀ i, i < v.toNatClampNeg → ar r3 60 i = ar r 60 i := fun i hi => by rw [pl i (by omega), e60' i (by omega)]
    have h56 : ar r3 56 n.toNatClampNeg = fi r 28 := by rw [s3.1.2 56 (by unfold nda; decide) n n0 hS]; exact e56
    have h59 : ar r3 59 n.toNatClampNeg = 1 := by rw [s3.1.2 59 (by unfold nda; decide) n n0 hS]; exact e59
    have h53 : ar r3 53 = ar r 53 := (tabs N3').2 53 (by decide)
    have vf3 : vt r3 (fi r 28) := OS_vt s3.2.1 vT10
    have p21' : (0 : Int32) < fi r3 21 := by rw [N3'.1.1 21 (by decide)]; exact p21.2
    refine L9w_unf (n := n) hv.1 si3.2.2.2.1 (by rw [pl3 _ i1]; exact hp) ?_
    unfold wM_visit wM_kindOf
    have k1' : ar r3 45 (ar r3 50 n.toNatClampNeg).toNatClampNeg = 1 := by have := kd_eq N3' (n := n); unfold kd at this; rw [this]; exact k1
    rw [k1']
    intro _ _ _ _ r5 e5
    refine ⟨fun _ => ⟨fun _ => ⟨fun _ => ⟨fun z => absurd rfl z, fun _ => ⟨fun _ => ?_, fun z => absurd z (by rw [h59]; decide)⟩⟩, fun z => absurd z (by decide)⟩, fun z => absurd z (by decide)⟩, fun z => absurd z (by decide)⟩
    have F5 : Fr [] [59] r3 r5 := by rw [e5]; exact Fr_sA (by decide)
    have s5' : SRm r3 r5 (n :: S1) := SRm_row n0 List.mem_cons_self (by unfold nda; decide) e5
    have si5' := SIm_row si3 (k := 59) (by unfold nda; decide) e5
    have f5 : ∀ k, fi r5 k = fi r3 k := fun k => F5.1 k List.not_mem_nil
    have a5 : ∀ k, ¬ k = 59 → ar r5 k = ar r3 k := fun k hk => F5.2.1 k (by simpa using hk)
    unfold wM_visit_J194 wM_arrow
    refine ⟨fun z => absurd rfl z, fun _ _ _ _ => ?_⟩
    have x56 : ar r5 56 n.toNatClampNeg = fi r 28 := by rw [a5 56 (by decide)]; exact h56
    have x55 : ar r5 55 (ar r5 53 n.toNatClampNeg).toNatClampNeg = ar r3 55 (ar r 53 n.toNatClampNeg).toNatClampNeg := by rw [a5 53 (by decide), h53, a5 55 (by decide)]
    rw [x56, x55]
    refine ws_mnew' hM (fun r39 _ tl3 hN3 => ?_)
    intro _ r41 e41
    have e36' : ar r5 36 ((0 : Int32)).toNatClampNeg = 2 := by rw [a5 36 (by decide), si3.1.2.1 36 (by decide)]; exact e36
    obtain ⟨si6, os6, vT6, e28', s6⟩ := SIm_nt si5' hN3 tl3 ⟨by decide, by rw [f5]; exact p21'⟩ (Or.inr ((vt_eq (f5 28)).mpr vf3)) (Or.inr ((vt_eq (f5 28)).mpr vt3)) (fun z => absurd z (by decide)) (fun _ => by rw [e36']; exact ⟨⟨fun _ => by decide, fun _ => vf3.1⟩, fun _ => by decide, fun _ => vt3.1⟩)
    have vm6 := fun ρ => NT_VM (ρ := ρ) si5'.2.1.2.2.1.1 tl3 hN3
    have nF6 := hN3.2.1
    rw [f5] at vT6 e28' tl3 e41
    have F41 : Fr [] [55] r39 r41 := by rw [e41]; exact Fr_sA (by decide)
    have s41 : SRm r39 r41 (n :: S1) := SRm_row n0 List.mem_cons_self (by unfold nda; decide) e41
    refine ⟨fun z => absurd z (by decide), fun _ => hc r41 ?_ (fun i hi => ?_) F2⟩
    · have e55 : ar r41 55 n.toNatClampNeg = fi r3 28 := by rw [e41, ar_sA, if_pos rfl, pk_us]
      have g41 : fi r41 28 = fi r39 28 := F41.1 28 (by decide)
      have q273 : 0 ≤ fi r10 27 := by rw [F010.1 27 (by decide)]; exact q27
      have q273' := zo2 q273 s3.2.2.1.1
      have F341 : Fr [28] [55, 59, 64, 65, 66, 67, 68, 70, 71] r3 r41 := Fr_trans (Fr_mono F5 (by decide) (by decide)) (Fr_trans (Fr_mono nF6 (by decide) (by decide)) (Fr_mono F41 (by decide) (by decide)))
      have q310 : 0 ≤ fi r10 31 := by rw [F010.1 31 (by decide)]; exact q31
      have V41 : ∀ ρ, VM r41 ρ ↔ VM r3 ρ ∧ ρ (fi r3 28) = Jn 0 (ρ (fi r 28)) (ρ (ar r3 55 (ar r 53 n.toNatClampNeg).toNatClampNeg)) := fun ρ => by
        rw [VM_Fr F41 (by decide) (by decide), vm6 ρ, VM_Fr F5 (by decide) (by decide), f5]
        exact ⟨fun h => ⟨h.1, h.2 (by decide)⟩, fun h => ⟨h.1, fun _ => h.2⟩⟩
      refine ⟨⟨_, ta3, N3, SIm_row si6 (k := 55) (by unfold nda; decide) e41⟩, SRm_trans q27 sN (SRm_trans q273 s3 (SRm_trans q273' s5' (SRm_trans (by rw [f5]; exact q273') s6 s41 (fun x h => absurd h List.not_mem_nil) (fun x h => h)) (fun x h => h) (fun x h => h)) (fun x h => List.mem_cons_of_mem _ h) (fun x h => h)) (fun x h => by rw [List.mem_singleton.mp h]; exact List.mem_cons_self) (fun x h => h), WSm_trans q31 (WSm_Fr F010 (by decide) (by decide)) (WSm_trans q310 ws3 (WSm_Fr F341 (by decide) (by decide))), ?_, by rw [e55]; exact (vt_eq g41).mpr vT6, k, am, pp, ?_, FLm_Fr (FLm_pre F010 (by decide) fl) F341 (by decide)⟩
      · rw [F341.1 29 (by decide)]
        rw [F010.1 29 (by decide)] at b3
        simp
        omega
      · rw [e55]
        rw [xk, V10, le] at zt
        rw [F010.1 31 (by decide)] at zt
        have mw : mW r41 (fi r 31) = mW r3 (fi r 31) := mW_Fr F341 (by decide) (by decide)
        rw [mw]
        refine ⟨fun ρ h => by rw [← V10]; exact s3.2.2.2 ρ ((V41 ρ).mp h).1, Or.inr ⟨?_, ?_, ?_, kinds, fun z => absurd z (no 0 (by decide)), fun _ => ⟨fi r 28, fi r10 28, ar r3 55 (ar r 53 n.toNatClampNeg).toNatClampNeg, fi r3 28, VM r3, ⟨Int32.le_refl _, by rw [it, g28i]; omega⟩, zt, ⟨Int32.le_refl _, by rw [it, g41, e28']; omega, c0⟩, VM_zloc si3.2.1, ⟨s3.2.1.1, vt3⟩, V41⟩, fun z => absurd z (no 2 (by decide)), fun z => absurd z (no 3 (by decide)), fun z => absurd z (no 4 (by decide)), fun z => absurd z (no 5 (by decide))⟩⟩
        · rw [g41, VM_Fr F41 (by decide) (by decide)]; exact VM_zloc si6.2.1
        · have b1 := s3.2.1.1
          rw [il] at b1 ⊢
          rw [g41, e28']
          omega
        · exact (vt_eq g41).mpr vT6
    · rw [F41.2.1 60 (by decide), nF6.2.1 60 (by decide), a5 60 (by decide), pl3 i hi]
  · obtain ⟨t, c', V', W, k, am, pp, zt, emp, ⟨b1, b2⟩, b3, b4⟩ := no3
    rw [xk, V10, le] at zt
    have ci : (c' + 1).toInt = c'.toInt + 1 := by
      have : 0 ≤ c'.toInt := by rw [il] at b1; omega
      have m24 : (m1 : Int) ≤ 200 := by
        have := si.2.2.2.2.1.2.1
        simp at b29
        omega
      exact i_add (by simp; omega) (by simp; omega)
    have cl0 : fi r 28 ≤ c' := by rw [il] at b1 ⊢; omega
    have c'0 : 0 ≤ c' := zo2 c0 cl0
    refine ⟨c', c' + 1, fun _ => False, W, k, am, pp, ⟨fun ρ h => h.elim, Or.inr ⟨fun _ _ _ h => h, ?_, ⟨c'0, by rw [it, ci]; omega⟩, kinds, fun z => absurd z (no 0 (by decide)), fun _ => ⟨fi r 28, fi r10 28, t, c', V', ⟨Int32.le_refl _, by rw [it, g28i]; omega⟩, zt, ⟨Int32.le_refl _, by rw [it, ci]; omega, c0⟩, fun _ _ _ h => absurd h (emp _), ⟨b1, b3, b4⟩, fun ρ => ⟨fun h => h.elim, fun h => emp ρ h.1⟩⟩, fun z => absurd z (no 2 (by decide)), fun z => absurd z (no 3 (by decide)), fun z => absurd z (no 4 (by decide)), fun z => absurd z (no 5 (by decide))⟩⟩, fun ρ h => h, ⟨?_, ?_⟩, c'0, by rw [it, ci]; omega⟩
    · rw [il] at cl0 ⊢; omega
    · rw [il] at cl0 ⊢; omega
    · rw [ci]; simp; omega
end ZMTYP
