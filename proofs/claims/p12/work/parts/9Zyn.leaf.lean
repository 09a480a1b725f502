/-! The reference's typing: leaves. -/
section LEAF
variable {a : L_} {r : S_} {rh ta : Int32 → Int32} {N : Int32}
theorem QI_mk {rI r' : S_} {F A : List Nat} {rh' ta' : Int32 → Int32} {N' : Int32} (q : QI a rI r rh ta N) (h : Fr F A r r') (hF : ∀ k, k ∈ F → k ∈ FFl) (hA : ∀ k, k ∈ A → k ∈ AAl) (h1 : 27 ∉ F) (h2 : 62 ∉ A) (w : MI a r' rh' ta' N') (t : (fi r' 28).toInt ≤ 20000) (h31 : (0 ≤ fi r' 31 ∧ (fi r' 31).toInt ≤ 20000) ∧ ∀ i, i < (fi r' 31).toNatClampNeg → vt r' (ar r' 75 i)) (up : ∀ x, vt r x → vt r' x) (mk : MKr r' ∧ 0 ≤ (fi r' 29).toInt ∧ (fi r' 29).toInt ≤ 1000) (nd : ND r') : QI a rI r' rh' ta' N' := by
  obtain ⟨qF, _, _, _, q27, _, _⟩ := q
  refine ⟨Fr_trans qF (Fr_mono h hF hA), w, t, h31, ⟨by rw [h.1 27 h1]; exact q27.1, fun i hi => ?_⟩, mk, nd⟩
  rw [h.1 27 h1] at hi
  rw [h.2.1 62 h2]
  exact up _ (q27.2 i hi)
theorem qt1 : qt 1 = 9 := by decide
theorem vis_L72 {r0 : S_} {c t : Int32} (hM : ML a) (c0 : 0 ≤ c) (c8 : c < 8) (ec : ar r0 42 c.toNatClampNeg = t) (t0 : 0 ≤ t) (t60 : t.toInt < 60) (hv : ∀ k : Int32, 0 ≤ k → k ≤ t → ¬ ar r0 88 k.toNatClampNeg = 0 → vt r0 (ar r0 74 k.toNatClampNeg)) (hc : cnt (fun i => decide (¬ ar r0 88 i = 0)) 60 ≤ 16) (w0 : 0 ≤ fi r0 31) (w1 : (fi r0 31).toInt + 16 ≤ 20000) (wv : ∀ i, i < (fi r0 31).toNatClampNeg → vt r0 (ar r0 75 i)) {KX : S_ → Prop} (hK : ∀ r, Fr [31] [75, 76] r0 r → (fi r0 31 ≤ fi r 31 ∧ (fi r 31).toInt ≤ (fi r0 31).toInt + 16) → (∀ i, i < (fi r 31).toNatClampNeg → vt r0 (ar r 75 i)) → KX r) : ∀ (n : Nat) (r : S_) (v5 : Int32), Fr [31] [75, 76] r0 r → (fi r0 31 ≤ fi r 31 ∧ (fi r 31).toInt ≤ (fi r0 31).toInt + cnt (fun i => decide (¬ ar r0 88 i = 0)) v5.toNatClampNeg) → (∀ i, i < (fi r 31).toNatClampNeg → vt r0 (ar r 75 i)) → 0 ≤ v5 → v5.toInt ≤ t.toInt + 1 → t.toInt + 1 - v5.toInt < n → qM_visit_L72 a KX n r c v5 := by
  have mono : ∀ m n, m ≤ n → cnt (fun i => decide (¬ ar r0 88 i = 0)) m ≤ cnt (fun i => decide (¬ ar r0 88 i = 0)) n := fun m n h => by
    induction n with
    | zero => rw [Nat.le_zero.mp h]; exact Nat.le_refl _
    | succ n ih =>
      by_cases e : m = n + 1
      · rw [e]; exact Nat.le_refl _
      · have k := ih (by omega)
        rw [cnt]
        omega
  have w0' := w0
  rw [il] at w0'
  simp at w0'
  intro n
  induction n with
  | zero =>
    intro r v5 _ _ _ _ h1 h
    omega
  | succ n ih =>
    intro r v5 F hw wv' v0 h1 h
    have e0 := i_nat v0
    have c5 : cnt (fun i => decide (¬ ar r0 88 i = 0)) v5.toNatClampNeg ≤ 16 := Nat.le_trans (mono _ 60 (by omega)) hc
    have hw1 := hw.1
    have hw2 := hw.2
    rw [il] at hw1
    have aE : ∀ k, ¬ k = 75 → ¬ k = 76 → ar r k = ar r0 k := fun k k1 k2 => F.2.1 k (by simp [k1, k2])
    have r31 : 0 ≤ fi r 31 := by rw [il]; simp; omega
    rw [qM_visit_L72, aE 42 (by decide) (by decide), aE 88 (by decide) (by decide), aE 37 (by decide) (by decide), aE 74 (by decide) (by decide), ec]
    refine ⟨vi2 c0 c8 (by rw [ml (n := 8) hM (by decide) (by decide) rfl]; decide), fun _ => hK r F ⟨hw.1, by omega⟩ wv', fun g => ?_⟩
    have g' := Int32.not_lt.mp g
    have g2 := g'
    rw [il] at g2
    have v60 : v5 < 60 := by rw [it]; simp; omega
    obtain ⟨p1, p2, p3⟩ := inc_le v0 v60
    have sv : (v5 + 1).toNatClampNeg = v5.toNatClampNeg + 1 := by
      have e2 := i_nat p1
      omega
    have c6 : cnt (fun i => decide (¬ ar r0 88 i = 0)) (v5 + 1).toNatClampNeg ≤ 16 := Nat.le_trans (mono _ 60 (by omega)) hc
    have m5 := mono v5.toNatClampNeg (v5 + 1).toNatClampNeg (by omega)
    have i60 : ∀ k, 36 ≤ k → k < 89 → ln0 k = 60 → vp_in v5 (ln a k) := fun k k1 k2 k3 => vi2 v0 v60 (by rw [ml hM k1 k2 k3]; decide)
    have nx : qM_visit_L72 a KX n r c (v5 + 1) := ih r _ F ⟨hw.1, by omega⟩ wv' p1 (by omega) (by omega)
    unfold qM_visit_J120
    refine ⟨i60 88 (by decide) (by decide) rfl, fun _ => nx, fun gm => ⟨i60 37 (by decide) (by decide) rfl, fun _ => nx, fun _ => ⟨i60 74 (by decide) (by decide) rfl, addWant_ok hM r31 (by have cm : cnt (fun i => decide (¬ ar r0 88 i = 0)) (v5 + 1).toNatClampNeg = cnt (fun i => decide (¬ ar r0 88 i = 0)) v5.toNatClampNeg + 1 := (by rw [sv, cnt, if_pos (by simpa using gm)]); omega) ?_⟩⟩⟩
    have n1 : (fi r 31 + 1).toInt = (fi r 31).toInt + 1 := i_add (by simp; omega) (by simp; omega)
    have n0 : 0 ≤ fi r 31 + 1 := by rw [il, n1]; simp; omega
    have nn : (fi r 31 + 1).toNatClampNeg = (fi r 31).toNatClampNeg + 1 := by
      have e1 := i_nat r31
      have e2 := i_nat n0
      omega
    have cm : cnt (fun i => decide (¬ ar r0 88 i = 0)) (v5 + 1).toNatClampNeg = cnt (fun i => decide (¬ ar r0 88 i = 0)) v5.toNatClampNeg + 1 := by
      rw [sv, cnt, if_pos (by simpa using gm)]
    refine ih (aw r (ar r0 74 v5.toNatClampNeg) (1 <<< (c &&& 31))) _ ?_ ⟨?_, ?_⟩ (fun i hi => ?_) p1 (by omega) (by omega)
    · unfold aw
      exact Fr_trans F (Fr_trans (Fr_sA (by decide)) (Fr_trans (Fr_sA (by decide)) (Fr_sF (by decide))))
    · show fi r0 31 ≤ fi r 31 + 1
      rw [il, n1]; omega
    · show (fi r 31 + 1).toInt ≤ _
      rw [n1, cm]; omega
    · have hi' : i < (fi r 31 + 1).toNatClampNeg := hi
      show vt r0 (upd (ar r 75) (fi r 31).toNatClampNeg (ar r0 74 v5.toNatClampNeg) i)
      rw [nn] at hi'
      by_cases e : i = (fi r 31).toNatClampNeg
      · rw [e, pk_us]; exact hv v5 v0 g' gm
      · rw [pk_un e]; exact wv' i (by omega)
theorem vis_leaf {l ad : Nat → Nat} {rI : S_} {L : List (Int32 × Nat)} {n : Int32} {E : Nat} {l0 : List Int32} (hI : INV l rI) (p : PR (ad, l) rI r L n E 1 l0) (nk : nodeOK r n) (hk : kd r n = 0 ∨ (kd r n = 4 ∧ (0 ≤ ar r 46 (ar r 50 n.toNatClampNeg).toNatClampNeg ∧ ar r 46 (ar r 50 n.toNatClampNeg).toNatClampNeg < 8) ∧ 0 ≤ ar r 42 (ar r 46 (ar r 50 n.toNatClampNeg).toNatClampNeg).toNatClampNeg ∧ ar r 42 (ar r 46 (ar r 50 n.toNatClampNeg).toNatClampNeg).toNatClampNeg < fi r 1) ∨ (kd r n = 5 ∧ 0 ≤ ar r 46 (ar r 50 n.toNatClampNeg).toNatClampNeg ∧ ar r 46 (ar r 50 n.toNatClampNeg).toNatClampNeg < fi r 1)) {K : Int32 → S_ → Prop} (hK : ∀ r', PO (ad, l) rI r r' [n] (GC r L) E 1 (ar r' 55 n.toNatClampNeg) → ar r' 60 = ar r 60 → K (-1) r') (hB : ∀ r', Bad (ad, l) rI r' → K (-1) r') : qM_visit (ad, l) K r n := by
  obtain ⟨rh, ta, N, q, cg⟩ := p.qi
  have hE := PR_E p
  have w := q.2.1
  have hM : ML (ad, l) := w.1
  have b28 := p.b28
  have b31 := p.b31
  have b27 := p.b27
  have b29 := p.b29
  have e16 := p.e16
  have n0 := nk.1.1
  unfold qM_visit
  refine kindOf_ok hM nk ⟨nd25 hM nk (by decide) (by decide) rfl, nd25 hM nk (by decide) (by decide) rfl, fun r4 e4 => ?_⟩
  have F4 : Fr [] [59] r r4 := by rw [e4]; exact Fr_sA (by decide)
  have N4 : NFr r r4 [n] := by rw [e4]; exact NFr_sA (by decide) n0 (List.mem_singleton.mpr rfl)
  have a4 : ∀ k, ¬ k = 59 → ar r4 k = ar r k := fun k hk => F4.2.1 k (by simpa using hk)
  have f4 : ∀ k, fi r4 k = fi r k := fun k => F4.1 k List.not_mem_nil
  have q4 : QI (ad, l) rI r4 rh ta N := QI_Fr q F4 (by decide) (by decide) (by decide) (by decide)
  have cg4 : CGr r4 rh := CGr_eq cg (f4 28) (a4 65 (by decide)) (a4 66 (by decide)) (a4 67 (by decide))
  have g4 : SG4 r r4 := SG4_Fr F4 (by decide) (by decide)
  have v4 : ∀ x, vt r4 x ↔ vt r x := fun x => vt_eq (f4 28)
  have nk4 : nodeOK r4 n := by unfold nodeOK; rw [a4 50 (by decide)]; exact nk
  have i55 : vp_in n (ln (ad, l) 55) := nd25 hM nk (by decide) (by decide) rfl
  have GCe : ∀ L2, GC r4 L2 = GC r L2 := fun L2 => by unfold GC; rw [a4 56 (by decide)]
  -- one step, then the node's type is kept
  have fin : ∀ (F A : List Nat) (r6 r8 : S_) (z : Int32) (R : List Int32) (c : Nat), Fr F A r4 r6 → (∀ k, k ∈ F → k ∈ FFl ∧ k ∈ FTl ∧ ¬ k = 27 ∧ ¬ k = 32) → (∀ k, k ∈ A → k ∈ AAl ∧ k ∈ ATl ∧ ¬ nda k ∧ ¬ k = 60 ∧ ¬ k = 62) → STP (ad, l) r4 r6 (GC r4 L) R z → R.length ≤ E → (fi r6 28).toInt ≤ (fi r 28).toInt + c → c ≤ 1510 → ((fi r 31 ≤ fi r6 31 ∧ (fi r6 31).toInt ≤ (fi r 31).toInt + 1510) ∧ ∀ i, i < (fi r6 31).toNatClampNeg → vt r6 (ar r6 75 i)) → (MKr r6 ∧ (fi r 29).toInt ≤ (fi r6 29).toInt ∧ (fi r6 29).toInt ≤ (fi r 29).toInt + 2) → ND r6 → r8 = sA r6 55 (upd (ar r6 55) n.toNatClampNeg z) → PO (ad, l) rI r r8 [n] (GC r L) E 1 (ar r8 55 n.toNatClampNeg) ∧ ar r8 60 = ar r 60 := by
    intro F A r6 r8 z R c F6 hF hA st hR h28 hc h31 hmk hnd e8
    obtain ⟨⟨rh', ta', N', w', cg'⟩, ts, tv, hD⟩ := st
    have q29 := q.2.2.2.2.2.1
    have q31 := q.2.2.2.1.1
    have q6 : QI (ad, l) rI r6 rh' ta' N' := QI_mk q4 F6 (fun k hk => (hF k hk).1) (fun k hk => (hA k hk).1) (fun z => (hF 27 z).2.2.1 rfl) (fun z => (hA 62 z).2.2.2.2 rfl) w' (by omega) ⟨⟨Int32.le_trans q31.1 h31.1.1, by have := h31.1.2; omega⟩, h31.2⟩ (fun x hx => vt_up ts hx) ⟨hmk.1, by omega, by omega⟩ hnd
    have f32' : fi r6 32 = 0 := by rw [F6.1 32 (fun z => (hF 32 z).2.2.2 rfl), f4]; exact p.f32
    have F8 : Fr [] [55] r6 r8 := by rw [e8]; exact Fr_sA (by decide)
    have f8 : ∀ k, fi r8 k = fi r6 k := fun k => F8.1 k List.not_mem_nil
    have a8 : ∀ k, ¬ k = 55 → ar r8 k = ar r6 k := fun k hk => F8.2.1 k (by simpa using hk)
    have t8 : ar r8 55 n.toNatClampNeg = z := by rw [e8, ar_sA, if_pos rfl, pk_us]
    have g8 : SG4 r6 r8 := SG4_Fr F8 (by decide) (by decide)
    have N8 : NFr r6 r8 [n] := by rw [e8]; exact NFr_sA (by decide) n0 (List.mem_singleton.mpr rfl)
    have N6 : NFr r4 r6 [n] := NFr_of F6 (fun k hk => (hF k hk).2.1) (fun k hk => ⟨(hA k hk).2.1, (hA k hk).2.2.1⟩) [n]
    rw [t8]
    have e27 : fi r8 27 = fi r 27 := by rw [f8, F6.1 27 (fun z => (hF 27 z).2.2.1 rfl), f4]
    refine ⟨⟨⟨rh', ta', N', QI_Fr q6 F8 (by decide) (by decide) (by decide) (by decide), CGr_eq (cg' f32') (f8 28) (a8 65 (by decide)) (a8 66 (by decide)) (a8 67 (by decide))⟩, by rw [f8]; exact f32', NFr_trans N4 (NFr_trans N6 N8 (fun x hx => hx) (fun x hx => hx)) (fun x hx => hx) (fun x hx => hx), ⟨R, ?_, TS_pre g4 (TS_post (by rw [← GCe]; exact ts) g8), fun D hD1 hD2 hD3 => hD D (fun x hx => (v4 x).mpr (hD1 x hx)) (Cld_eq (f4 28) (a4 64 (by decide)) (a4 66 (by decide)) (a4 67 (by decide)) hD2) (fun x hx => hD3 x (by rw [← GCe]; exact hx))⟩, (vt_eq (f8 28)).mpr tv, ?_, ⟨?_, ?_⟩, ⟨?_, ?_⟩, ?_⟩, ?_⟩
    · rw [qt1]
      omega
    · rw [f8]; simp; omega
    · rw [f8]; exact h31.1.1
    · rw [f8]
      have := h31.1.2
      simp
      omega
    · rw [e27]; exact Int32.le_refl _
    · rw [e27]; simp
    · rw [f8]; simp; omega
    · rw [a8 60 (by decide), F6.2.1 60 (fun z => (hA 60 z).2.2.2.1 rfl), a4 60 (by decide)]
  have c4 : CH r4 n L := CH_congr (a4 45 (by decide)) (a4 50 (by decide)) (a4 51 (by decide)) (a4 52 (by decide)) L n p.ch
  rcases hk with hk | ⟨hk, ⟨h1, h2⟩, h3, h4⟩ | ⟨hk, h1, h2⟩
  · refine ⟨fun z => absurd hk z, fun _ => ?_⟩
    unfold qM_typeName
    refine binder_ok hM nk4 c4 ⟨fun z => absurd z (by decide), fun _ => ⟨zb1, fun r10 e10 => ?_⟩⟩ (fun b t L1 L2 eL ht nb cb => ⟨fun _ => ?_, fun z => absurd nb.1.1 z⟩)
    · refine hB r10 ⟨⟨rh, ta, N, ?_⟩, ?_, ?_⟩
      · rw [e10]
        exact MI_Fr q4.2.1 (Fr_sF (F := [32]) (A := []) (by decide)) (by decide) (by decide)
      · rw [e10]
        exact Fr_trans q4.1 (Fr_sF (by decide))
      · rw [e10]
        show ¬ (1 : Int32) = 0
        decide
    · have i55 : vp_in n (ln (ad, l) 55) := nd25 hM nk (by decide) (by decide) rfl
      have ek : kd r4 b = kd r b := by unfold kd; rw [a4 45 (by decide), a4 50 (by decide)]
      have cxb := p.cx
      rw [eL] at cxb
      have cxb := CX_app L1 cxb
      refine kindOf_ok hM nb ⟨fun g => ?_, fun g => ⟨nd25 hM nb (by decide) (by decide) rfl, ?_⟩⟩
      · have t1 : t = 1 := by
          rcases ht with ⟨_, k⟩ | ⟨k, _⟩
          · exact absurd k g
          · exact k
        obtain ⟨⟨l1, l1'⟩, l2, ⟨l3, l4, l5, l6⟩, U, u1, u2⟩ := cxb.2.1 t1
        have s4 : TS r r4 (GC r (L1 ++ (b, t) :: L2)) [] := TS_refl w.2.2.1.1 (f4 28) (fun x _ => by rw [a4 64 (by decide), a4 66 (by decide), a4 67 (by decide)]; exact ⟨rfl, rfl, rfl⟩)
        have u4 := LU_TS u2 s4 (fun x hx => Or.inl hx)
        rw [← eL] at u4
        have e53 := a4 53 (by decide)
        have e55 := a4 55 (by decide)
        refine copyOf_ok (Gc := GC r L) (U := U) (L := L2) q4 cg4 (by rw [f4]; exact p.f32) nb cb (fun q hq => ?_) (fun x hx => ?_) (by rw [e53]; exact l1) (by rw [e53]; exact l1') (by rw [e53, e55]; exact (v4 _).mpr l2) (by rw [e53, e55, GCe]; exact u4) (by omega) (by rw [a4 57 (by decide)]; exact l3) (by rw [a4 58 (by decide)]; exact l4) (by rw [a4 58 (by decide)]; exact l5) (by rw [a4 57 (by decide), a4 58 (by decide), f4]; exact l6) (by rw [f4]; simp at b31; omega) (by rw [f4]; simp at b28; omega) (by rw [f4]; simp at b29; omega) (fun z r6 cp => ?_)
        · rw [a4 56 (by decide)]
          exact (v4 _).mpr (CX_vt _ p.cx q (by rw [eL]; exact List.mem_append.mpr (Or.inr (List.mem_cons_of_mem _ hq))))
        · rw [GCe] at hx
          obtain ⟨q, q1, q2⟩ := hx
          exact ⟨q, by rw [eL]; exact List.mem_append.mpr (Or.inr (List.mem_cons_of_mem _ q1)), q2⟩
        · obtain ⟨c1, ⟨R, cr, c2⟩, c3, c5, c6, c7⟩ := cp
          unfold qM_typeName_J46
          refine ⟨i55, fun r8 e8 => ?_⟩
          rw [f4] at c3 c5 c6
          have k := fin _ _ r6 r8 z R U.length c1 (by decide) (by unfold nda; decide) (by rw [GCe]; exact c2) (by omega) c3 (by omega) c5 ⟨c6.1, by omega, by omega⟩ c7 e8
          exact hK r8 k.1 k.2
      · have t0 : t = 0 := by
          rcases ht with ⟨k, _⟩ | ⟨_, k⟩
          · exact k
          · have g' : kd r4 b = 1 := g
            rw [k] at g'
            exact absurd g' (by decide)
        have bm : (b, 0) ∈ L := by rw [eL, t0]; exact List.mem_append.mpr (Or.inr List.mem_cons_self)
        have vb : vt r (ar r 56 b.toNatClampNeg) := CX_vt _ p.cx b bm
        unfold qM_typeName_J46
        refine ⟨i55, fun r8 e8 => ?_⟩
        rw [a4 56 (by decide)] at e8
        have k := fin [] [] r4 r8 (ar r 56 b.toNatClampNeg) [] 0 (Fr_refl r4) (fun k hk => absurd hk List.not_mem_nil) (fun k hk => absurd hk List.not_mem_nil) ⟨⟨rh, ta, N, q4.2.1, fun _ => cg4⟩, TS_refl q4.2.1.2.2.1.1 rfl (fun _ _ => ⟨rfl, rfl, rfl⟩), (v4 _).mpr vb, fun D _ _ hD => Or.inl (hD _ ⟨b, bm, by rw [a4 56 (by decide)]⟩)⟩ (Nat.zero_le _) (by rw [f4]; simp) (by omega) ⟨⟨by rw [f4]; exact Int32.le_refl _, by rw [f4]; omega⟩, q4.2.2.2.1.2⟩ ⟨q4.2.2.2.2.2.1.1, by rw [f4]; omega, by rw [f4]; omega⟩ q4.2.2.2.2.2.2 e8
        exact hK r8 k.1 k.2
  · have h4' : ¬ kd r n = 0 := by rw [hk]; decide
    have c120 : vp_in (ar r 50 n.toNatClampNeg) (ln (ad, l) 46) := vi2 nk.2.1 nk.2.2 (by rw [ml (n := 120) hM (by decide) (by decide) rfl]; decide)
    refine ⟨fun _ => ⟨fun z => absurd hk z, fun _ => ?_⟩, fun z => absurd z h4'⟩
    rw [a4 50 (by decide), a4 46 (by decide)]
    refine ⟨nd25 hM nk (by decide) (by decide) rfl, c120, fun z56 e56 => ?_⟩
    rw [← e56] at h1 h2 h3 h4
    rw [a4 42 (by decide)]
    refine ⟨vi2 h1 h2 (by rw [ml (n := 8) hM (by decide) (by decide) rfl]; decide), copyStatic_ok hI q4 cg4 h3 (by rw [f4]; exact h4) (by rw [f4]; simp at b28; omega) (fun z r6 sp => ⟨i55, fun r61 e61 => ?_⟩)⟩
    obtain ⟨s1, s2, s3, s4, s5, s6, s7⟩ := sp
    obtain ⟨R, sr, s2⟩ := s2 (GC r4 L)
    have t60 : (ar r 42 z56.toNatClampNeg).toInt < 60 := by
      have ty := TYQ_of hI q4.1
      have k := ty.1.1.2.2.2
      rw [il, f4] at k
      rw [it] at h4
      simp at k
      omega
    have F61 : Fr [] [55] r6 r61 := by rw [e61]; exact Fr_sA (by decide)
    have a61 : ∀ k, ¬ k = 55 → ar r61 k = ar r6 k := fun k hk => F61.2.1 k (by simpa using hk)
    have f61 : ∀ k, fi r61 k = fi r6 k := fun k => F61.1 k List.not_mem_nil
    have v61 : ∀ x, vt r61 x ↔ vt r6 x := fun x => vt_eq (f61 28)
    have e6_31 : fi r6 31 = fi r 31 := (s1.1 31 (by decide)).trans (f4 31)
    have e6_75 : ar r6 75 = ar r 75 := (s1.2.1 75 (by decide)).trans (a4 75 (by decide))
    have wv6 : ∀ i, i < (fi r6 31).toNatClampNeg → vt r6 (ar r6 75 i) := fun i hi => by
      rw [e6_31] at hi
      rw [e6_75]
      exact vt_up s2.2.1 ((v4 _).mpr (q.2.2.2.1.2 i hi))
    refine ⟨((ar r 42 z56.toNatClampNeg).toInt + 1).toNat + 1, vis_L72 (r0 := r61) (t := ar r 42 z56.toNatClampNeg) hM h1 h2 (by rw [a61 42 (by decide), s1.2.1 42 (by decide), a4 42 (by decide)]) h3 t60 (fun k k0 k1 km => ?_) (by rw [a61 88 (by decide)]; exact s7) (by rw [f61, e6_31]; exact q.2.2.2.1.1.1) (by rw [f61, e6_31]; simp at b31; omega) (fun i hi => by rw [a61 75 (by decide)]; rw [f61] at hi; exact (v61 _).mpr (wv6 i hi)) (fun r69 F69 w69 h69 r70 e70 => ?_) _ r61 0 (Fr_refl _) ⟨Int32.le_refl _, Int.le_add_of_nonneg_right (Int.natCast_nonneg _)⟩ (fun i hi => by rw [a61 75 (by decide)]; rw [f61] at hi; exact (v61 _).mpr (wv6 i hi)) (Int32.le_refl _) ?_ ?_⟩
    · rw [a61 88 (by decide)] at km
      rw [a61 74 (by decide)]
      exact (v61 _).mpr (s6 k k0 k1 km)
    · -- the same state, the node's type kept last
      have e7 : ∃ r7 : S_, Fr [28, 31, 35] [64, 65, 66, 67, 68, 70, 71, 74, 75, 76, 88] r4 r7 ∧ SG4 r6 r7 ∧ r70 = sA r7 55 (upd (ar r7 55) n.toNatClampNeg z) ∧ (∀ k, ¬ k = 31 → ¬ k = 35 → fi r7 k = fi r6 k) ∧ (∀ k, ¬ k = 75 → ¬ k = 76 → ar r7 k = ar r6 k) ∧ fi r7 31 = fi r69 31 ∧ ar r7 75 = ar r69 75 := by
        have a70 : ∀ k, ¬ k = 55 → ¬ k = 75 → ¬ k = 76 → ar r70 k = ar r6 k := fun k k1 k2 k3 => by
          have e : ar r70 k = ar r69 k := by rw [e70]; rfl
          rw [e, F69.2.1 k (by simp [k2, k3]), a61 k k1]
        have a70' : ar r70 55 = upd (ar r6 55) n.toNatClampNeg z := by
          have e : ar r70 55 = ar r69 55 := by rw [e70]; rfl
          rw [e, F69.2.1 55 (by decide), e61]
          rfl
        have fr7 : ∀ k, ¬ k = 31 → ¬ k = 35 → fi (sA r70 55 (ar r6 55)) k = fi r6 k := fun k k1 k2 => by
          show fi r70 k = _
          have e : fi r70 k = fi r69 k := by rw [e70, fi_sF, if_neg k2]
          rw [e, F69.1 k (by simpa using k1), f61]
        have ar7 : ∀ k, ¬ k = 75 → ¬ k = 76 → ar (sA r70 55 (ar r6 55)) k = ar r6 k := fun k k1 k2 => by
          rw [ar_sA]
          split
          · rename_i e; rw [e]
          · rename_i e; exact a70 k e k1 k2
        have la7 : ∀ k, la (sA r70 55 (ar r6 55)) k = la r6 k := fun k => by
          show la r70 k = _
          have e : la r70 k = la r69 k := by rw [e70]; rfl
          rw [e, F69.2.2, F61.2.2]
        refine ⟨sA r70 55 (ar r6 55), Fr_trans (Fr_mono s1 (by decide) (by decide)) ⟨fun k hk => ?_, fun k hk => ?_, la7⟩, ⟨fr7 28 (by decide) (by decide), ar7 64 (by decide) (by decide), ar7 66 (by decide) (by decide), ar7 67 (by decide) (by decide)⟩, ?_, fr7, ar7, ?_, ?_⟩
        · exact fr7 k (fun z => hk (by rw [z]; decide)) (fun z => hk (by rw [z]; decide))
        · exact ar7 k (fun z => hk (by rw [z]; decide)) (fun z => hk (by rw [z]; decide))
        · have e : upd (ar (sA r70 55 (ar r6 55)) 55) n.toNatClampNeg z = ar r70 55 := by rw [ar_sA, if_pos rfl, a70']
          rw [e, sA_sA, sA_id]
        · show fi r70 31 = _
          rw [e70]; rfl
        · show ar r70 75 = _
          rw [e70]; rfl
      obtain ⟨r7, F7, g7, e7, fr7, ar7, f7_31, a7_75⟩ := e7
      obtain ⟨⟨rh', ta', N', w', cg'⟩, ts, tv, hD⟩ := s2
      have v7 : ∀ x, vt r7 x ↔ vt r6 x := fun x => vt_eq g7.1
      have w7 : MI (ad, l) r7 rh' ta' N' := by
        obtain ⟨m1, m2, m3, m4, m5, m6⟩ := w'
        refine ⟨m1, ?_, ?_, ?_, ?_, ?_⟩
        · rw [fr7 21 (by decide) (by decide)]; exact m2
        · rw [g7.1]; exact m3
        · rw [g7.1, fr7 21 (by decide) (by decide), ar7 36 (by decide) (by decide), g7.2.1, ar7 65 (by decide) (by decide), g7.2.2.1, g7.2.2.2]; exact m4
        · rw [g7.1, g7.2.1]; exact m5
        · rw [g7.1, g7.2.1]; exact m6
      have k := fin _ _ r7 r70 z R 16 F7 (by decide) (by unfold nda; decide) ⟨⟨rh', ta', N', w7, fun h0 => CGr_eq (cg' (by rw [← fr7 32 (by decide) (by decide)]; exact h0)) g7.1 (ar7 65 (by decide) (by decide)) g7.2.2.1 g7.2.2.2⟩, TS_post ts g7, (v7 z).mpr tv, hD⟩ (by omega) (by rw [g7.1, ← f4 28]; exact s3) (by omega) ⟨⟨by rw [f7_31, ← e6_31, ← f61]; exact w69.1, ?_⟩, fun i hi => ?_⟩ ⟨fun x hx => ?_, ?_, ?_⟩ (fun x hx => ?_) e7
      · exact hK r70 k.1 k.2
      · rw [f7_31]
        have := w69.2
        rw [f61, e6_31] at this
        omega
      · rw [f7_31] at hi
        rw [a7_75]
        exact (v7 _).mpr ((v61 _).mp (h69 i hi))
      · rw [ar7 68 (by decide) (by decide), fr7 29 (by decide) (by decide)]
        exact s4 x ((v7 x).mp hx)
      · rw [fr7 29 (by decide) (by decide), s1.1 29 (by decide), f4]
        exact Int.le_refl _
      · rw [fr7 29 (by decide) (by decide), s1.1 29 (by decide), f4]
        omega
      · rw [ar7 70 (by decide) (by decide), ar7 71 (by decide) (by decide)]
        exact s5 x ((v7 x).mp hx)
    · have k := h3
      rw [il] at k
      simp at k ⊢
      omega
    · have e : (0 : Int32).toInt = 0 := rfl
      have k := h3
      rw [il, e] at k
      rw [e]
      omega
  · have h5a : ¬ kd r n = 0 := by rw [hk]; decide
    have h5b : ¬ kd r n = 4 := by rw [hk]; decide
    have c120 : vp_in (ar r 50 n.toNatClampNeg) (ln (ad, l) 46) := vi2 nk.2.1 nk.2.2 (by rw [ml (n := 120) hM (by decide) (by decide) rfl]; decide)
    refine ⟨fun _ => ⟨fun _ => ⟨fun z => absurd hk z, fun _ => ?_⟩, fun z => absurd z h5b⟩, fun z => absurd z h5a⟩
    rw [a4 50 (by decide), a4 46 (by decide)]
    refine ⟨nd25 hM nk (by decide) (by decide) rfl, c120, copyStatic_ok hI q4 cg4 h1 (by rw [f4]; exact h2) (by rw [f4]; simp at b28; omega) (fun z r6 sp => ⟨i55, fun r8 e8 => ?_⟩)⟩
    obtain ⟨s1, s2, s3, s4, s5, s6, s7⟩ := sp
    obtain ⟨R, sr, s2⟩ := s2 (GC r4 L)
    rw [f4] at s3
    have k := fin _ _ r6 r8 z R 16 s1 (by decide) (by unfold nda; decide) s2 (by omega) s3 (by omega) ⟨⟨?_, ?_⟩, fun i hi => ?_⟩ ⟨s4, ?_, ?_⟩ s5 e8
    · exact hK r8 k.1 k.2
    · rw [s1.1 31 (by decide), f4]; exact Int32.le_refl _
    · rw [s1.1 31 (by decide), f4]; omega
    · rw [s1.1 31 (by decide), f4] at hi
      rw [s1.2.1 75 (by decide), a4 75 (by decide)]
      exact vt_up s2.2.1 ((v4 _).mpr (q.2.2.2.1.2 i hi))
    · rw [s1.1 29 (by decide), f4]; exact Int.le_refl _
    · rw [s1.1 29 (by decide), f4]; omega
end LEAF
