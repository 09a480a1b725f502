/-! Typing in the class: LET. -/
section ZLETD
variable {T : Tbz} {d : Nat} {e : Int32} {Γ : List En} {c t c' : Int32} {V V' : (Int32 → Ut) → Prop} {W : Int32 → Nat → Prop} {k am : Prop} {p : Int}
theorem zTY_k3 (h0 : tK T e = 3) (hV : ∀ ρ, V' ρ → V ρ) (hL : zLoc c' V') (hc : c ≤ c') (ht : 0 ≤ t ∧ t < c') (h : ∃ x1 c1 V1 W1 k1 am1 p1 K p0 W1' k1' am1' W2 k2 am2 p2, zTY T d (tB T e) Γ c V x1 c1 V1 W1 k1 am1 p1 ∧ zLoc c1 V1 ∧ ((∃ ρ, V1 ρ) → zLet T Γ c1 V1 x1 W1 k1 am1 K p0 W1' k1' am1') ∧ zTY T d (tC T e) ((tA T e, true, x1, K, p0) :: Γ) c1 V1 t c' V' W2 k2 am2 p2 ∧ (∀ x cl, W x cl ↔ W1' x cl ∨ W2 x cl) ∧ (k ↔ k1' ∨ k2) ∧ (am ↔ am1' ∨ am2) ∧ p = p1 + p2) : zTY T (d + 1) e Γ c V t c' V' W k am p := by
  rw [zTY]
  refine ⟨hV, Or.inr ⟨hL, hc, ht, Or.inr (Or.inr (Or.inr (Or.inl h0))), fun q => ?_, fun q => ?_, fun q => ?_, fun _ => h, fun q => ?_, fun q => ?_⟩⟩ <;> (rw [h0] at q; exact absurd q (by decide))
theorem let_num {E E' a b m qa : Nat} (h1 : 9 * (E' + 2) ≤ (E + 2) * qa) (h2 : 9 * a + qa * b ≤ 9 * m) : (E + 2) * a + (E' + 2) * b ≤ (E + 2) * m := by
  have g1 := Nat.mul_le_mul_right b h1
  have g2 := Nat.mul_le_mul_left (E + 2) h2
  rw [Nat.mul_add, Nat.mul_left_comm (E + 2) 9 a, Nat.mul_left_comm (E + 2) 9 m, ← Nat.mul_assoc (E + 2) qa b] at g2
  rw [Nat.mul_assoc 9 (E' + 2) b] at g1
  omega
theorem let_num2 {E P Q F qa qb qm : Nat} (h1 : 9 * (P + Q + 2) ≤ (E + 2) * qa) (h2 : 9 * (F + 2) ≤ (max E P + 2) * qb) (h3 : qa + qb ≤ qm) (h4 : qa * qb ≤ 9 * qm) (h5 : 9 ≤ qb) : 9 * (Q + F + 2) ≤ (E + 2) * qm := by
  by_cases h : P ≤ E
  · rw [Nat.max_eq_left h] at h2
    have g := Nat.mul_le_mul_left (E + 2) h3
    rw [Nat.mul_add] at g
    omega
  · rw [Nat.max_eq_right (by omega)] at h2
    have g1 := Nat.mul_le_mul_right qb h1
    have g2 := Nat.mul_le_mul_left (E + 2) h4
    rw [Nat.mul_left_comm (E + 2) 9 qm, ← Nat.mul_assoc (E + 2) qa qb] at g2
    rw [Nat.mul_assoc 9 _ qb] at g1
    have g3 := Nat.mul_le_mul_left Q h5
    have g4 : (P + Q + 2) * qb = (P + 2) * qb + Q * qb := by rw [← Nat.add_mul]; congr 1; omega
    omega
theorem let_num3 {E P Q qa : Nat} (h1 : 9 * (P + Q + 2) ≤ (E + 2) * qa) (h : 9 ≤ qa) : 9 * (max E P + 2) ≤ (E + 2) * qa := by
  have g := Nat.mul_le_mul_left (E + 2) h
  by_cases q : P ≤ E
  · rw [Nat.max_eq_left q]; omega
  · rw [Nat.max_eq_right (by omega)]; omega
theorem spl (P : Int32 → Prop) : ∀ L : List Int32, ∃ L1 L2 : List Int32, L1.length + L2.length = L.length ∧ ∀ x, x ∈ L → (¬ P x → x ∈ L1) ∧ (P x → x ∈ L2) := by
  intro L
  induction L with
  | nil => exact ⟨[], [], rfl, fun x hx => absurd hx List.not_mem_nil⟩
  | cons a L ih =>
    obtain ⟨L1, L2, h1, h2⟩ := ih
    by_cases q : P a
    · refine ⟨L1, a :: L2, by simp; omega, fun x hx => ?_⟩
      rcases List.mem_cons.mp hx with u | u
      · rw [u]; exact ⟨fun h => absurd q h, fun _ => List.mem_cons_self ..⟩
      · exact ⟨(h2 x u).1, fun h => List.mem_cons_of_mem _ ((h2 x u).2 h)⟩
    · refine ⟨a :: L1, L2, by simp; omega, fun x hx => ?_⟩
      rcases List.mem_cons.mp hx with u | u
      · rw [u]; exact ⟨fun _ => List.mem_cons_self .., fun h => absurd h q⟩
      · exact ⟨fun h => List.mem_cons_of_mem _ ((h2 x u).1 h), (h2 x u).2⟩
theorem LTS_det {r : S_} {rh : Int32 → Int32} {A : Int32 → Prop} {E : Nat} {Γ0 : List En} : ∀ Γ : List En, (∀ y, zLams Γ y → zLams Γ0 y) → LTS r rh A E Γ → LTS r rh (fun x => A x ∧ DET (cV r) Γ0 x) E Γ := by
  intro Γ
  induction Γ with
  | nil => exact fun _ => id
  | cons e Γ ih =>
    intro h q
    have h' : ∀ y, zLams Γ y → zLams Γ0 y := fun y hy => by
      obtain ⟨e3, y1, y2⟩ := hy
      exact h y ⟨e3, List.mem_cons_of_mem _ y1, y2⟩
    refine ⟨fun b => ?_, ih h' q.2⟩
    obtain ⟨u1, u2, u3⟩ := q.1 b
    exact ⟨u1, fun x x1 x2 => ⟨(u2 x x1 x2).1, (u2 x x1 x2).2, fun ρ ρ' g1 g2 g3 => (u2 x x1 x2).1 ρ ρ' g1 g2 (fun y hy => g3 y (h' y hy))⟩, u3⟩
theorem TYc_let (ih : HTc d) {ad l : Nat → Nat} {r : S_} {rh ta : Int32 → Int32} {N : Int32} {A : Int32 → Prop} {E ma mb : Nat} {K : Int32 → L_ → S_ → Prop} (w : TP0 l r (1 + (ma : Int) + mb)) (hI : GI (A0 l) r rh ta N) (tx : TBX r) (ma1 : 1 ≤ ma) (mb1 : 1 ≤ mb) (m2 : ma + mb + 1 ≤ 24) (pr : PRc r rh Γ A E (ma + mb + 1)) (hk : ar r 12 e.toNatClampNeg = 3) (hma : (ar r 16 (ar r 14 e.toNatClampNeg).toNatClampNeg).toInt = ma) (hmb : (ar r 16 (ar r 15 e.toNatClampNeg).toNatClampNeg).toInt = mb) (a1 : 0 ≤ ar r 14 e.toNatClampNeg) (a2 : ar r 14 e.toNatClampNeg < fi r 4) (b1 : 0 ≤ ar r 15 e.toNatClampNeg) (b2 : ar r 15 e.toNatClampNeg < fi r 4) (a3 : ma < d) (b3 : mb < d) (hK : ∀ z ad' l' r', PSc r rh Γ A E (ma + mb + 1) (d + 1) e z l' r' → K z (ad', l') r') : wY_typeOfLet (wY_typeOf d) K (ad, l) r (ar r 13 e.toNatClampNeg) (ar r 14 e.toNatClampNeg) (ar r 15 e.toNatClampNeg) := by
  unfold wY_typeOfLet
  obtain ⟨y, ay, ty, ar2, h13, h5, h60, h6⟩ := w
  have w : TP0 l r (1 + (ma : Int) + mb) := ⟨y, ay, ty, ar2, h13, h5, h60, h6⟩
  obtain ⟨⟨ρ0, v0⟩, eg, hA, hlm, lts, bk, rm, hE⟩ := pr
  have c0 := SG_c y.1
  have mtt := mt_two ma1 mb1 m2
  have qtt := qt_two ma1 mb1 m2
  have qa9 := (qt_rng ma1 (by omega)).1
  have qb9 := (qt_rng mb1 (by omega)).1
  have mtl := Nat.mul_le_mul_left (E + 2) mtt.1
  rw [Nat.mul_add] at mtl
  have w1 : TP0 l r ma := TP0_Tb w y ay ⟨fun _ _ => rfl, fun _ _ => rfl⟩ (by omega) (by omega) h60 (by omega)
  have pr1 : PRc r rh Γ (fun x => A x ∧ DET (cV r) Γ x) E ma := ⟨⟨ρ0, v0⟩, eg, LV_det hI ay hA, fun y hy => ⟨(hlm y hy).1, (hlm y hy).2, fun ρ ρ' g1 g2 g3 => by
    have b := (hlm y hy).1
    rw [← VC_rh hI g1.2 b.1 b.2, ← VC_rh hI g2.2 b.1 b.2]
    exact g3 y hy⟩, LTS_det Γ (fun _ h => h) lts, bk, by omega, hE⟩
  refine ih ad l r rh ta N (ar r 14 e.toNatClampNeg) Γ _ E ma _ hma w1 hI tx a1 a2 a3 (by omega) pr1 (fun x1 ad1 l1 r1 m1 q1 y1 x10 x11 ps1 _ => ?_)
  have yi1 := YI_R y y1
  have tb1 : Tb r r1 := Tb_Fr y1.2.2.1 (by decide) (by decide)
  have v13 := y1.2.2.2.2.2.2
  have v130 := y1.2.2.2.2.2.1
  have v6 := q1.2.2
  have v0' := yi1.1.2.2.1
  have v0i : 0 ≤ (fi r1 13).toInt := by rw [il] at v0'; simpa using v0'
  have eg1 : EG r1 Γ := EG_AR eg q1
  have inc6 : (fi r1 6 + 1).toInt = (fi r1 6).toInt + 1 := i_inc (y := 2000000000) (by rw [it]; simp; omega)
  obtain ⟨t1, c1, W1, k1, am1, p1, hz1, ⟨hl1, hc1, ht1⟩, hb1, hpo1⟩ := ps1
  -- what goes on behind settling
  have nx : ∀ (r2 : S_) (z2 : Int32), MO r1 l1 r2 → Fr [6, 9, 10, 12, 13, 14] [22, 24, 25, 26, 27, 28, 29, 30, 31] r1 r2 → fi r2 13 = fi r1 13 + 3 → fi r2 6 = fi r1 6 + 1 → fi r2 5 < 24 ∧ 0 ≤ fi r2 5 ∧ EG r2 Γ ∧ Tb r (en r2 (ar r 13 e.toNatClampNeg) x1 z2) ∧ TP0 l1 (en r2 (ar r 13 e.toNatClampNeg) x1 z2) mb := by
    intro r2 z2 mo2 fr e13 e6
    have e5 : fi r2 5 = fi r1 5 := fr.1 5 (by decide)
    have e11 : fi r2 11 = fi r1 11 := fr.1 11 (by decide)
    have tb2 : Tb r1 r2 := Tb_Fr fr (by decide) (by decide)
    have yi2 : YI l1 r2 := ⟨mo2.1, TA_mono yi1.2.1 e5 (fr.2.1 18 (by decide)) mo2.2.2.2 (FL_refl l1), ST_Tb yi1.2.2 tb2 (FL_refl l1)⟩
    have g13 : (fi r2 13).toInt = (fi r1 13).toInt + 3 := by
      rw [e13, i_add (by simp; omega) (by simp; omega)]
      simp
    have q5 : fi r2 5 < 24 := by rw [e5, q1.1, it]; simp; omega
    have inc5 := i_inc q5
    have x5 : fi r2 5 = fi r 5 := e5.trans q1.1
    have tb3 : Tb r (en r2 (ar r 13 e.toNatClampNeg) x1 z2) := Tb_trans tb1 (Tb_trans tb2 (Tb_Fr en_Fr (by decide) (by decide)))
    have f5 : fi (en r2 (ar r 13 e.toNatClampNeg) x1 z2) 5 = fi r2 5 + 1 := rfl
    have f13 : fi (en r2 (ar r 13 e.toNatClampNeg) x1 z2) 13 = fi r2 13 := rfl
    have f6 : fi (en r2 (ar r 13 e.toNatClampNeg) x1 z2) 6 = fi r2 6 := rfl
    refine ⟨q5, yi2.2.1.1, EG_AR eg1 (m := 1) ⟨e5, fun k k0 k1 i _ _ => by rw [fr.2.1 k (nm3 _ (by decide) k0 k1)], by rw [e6, inc6]; omega, by rw [e6, inc6]; omega⟩, tb3, TP0_Tb w (en_YI yi2 q5 x10 (by rw [e11]; exact x11)) mo2.2.1 tb3 (by rw [f13]; omega) (by rw [f5, inc5, x5]; omega) (by rw [f6, e6, inc6]; omega) (by rw [f6, e6, inc6]; omega)⟩
  by_cases hv1 : ∃ ρ, cV r1 ρ
  rotate_left
  · have nv1 : ∀ ρ, ¬ cV r1 ρ := fun ρ h => hv1 ⟨ρ, h⟩
    refine MO_settle yi1.1 m1.2.1 (by rw [it]; simp; omega) yi1.2.2.2.1 yi1.2.1 c0.1 m1.2.2.2 x10 x11 (fun z2 r2 mo2 s2 e13 e6 => ?_)
    obtain ⟨q5, p5, eg2, tb3, w3⟩ := nx r2 z2 mo2 s2.1 e13 e6
    refine ws_enter q5 ?_
    have t16 : ar (en r2 (ar r 13 e.toNatClampNeg) x1 z2) 16 = ar r 16 := tb3.2 16 (by omega)
    refine TYPm d ad1 l1 (en r2 (ar r 13 e.toNatClampNeg) x1 z2) (ar r 15 e.toNatClampNeg) _ (by rw [t16, hmb]; exact w3) b1 (by rw [tb3.1 4 (by omega)]; exact b2) (by rw [t16, hmb]; omega) (by rw [t16, il, hmb]; simp; omega) (fun z4 ad4 l4 r4 m4 q4 y4 z40 z41 _ => ?_)
    obtain ⟨a4, p4⟩ := AR_en p5 q5 q4
    refine ws_leave p4 ?_
    have sub : ∀ ρ, cV (lv r4) ρ → cV r1 ρ := fun ρ h => mo2.2.2.1 ρ ((MO_from m4).2.2.1 ρ h)
    have nv4 : ∀ ρ, ¬ cV (lv r4) ρ := fun ρ h => nv1 ρ (sub ρ h)
    obtain ⟨d', hd⟩ : ∃ d', d = d' + 1 := ⟨d - 1, by omega⟩
    have lo : zLoc c1 (cV (lv r4)) := fun ρ _ _ h => absurd h (nv4 ρ)
    refine hK z4 ad4 l4 (lv r4) ⟨t1, c1, fun _ _ => False, False, False, p1 + 0, zTY_k3 hk (fun ρ h => absurd h (nv4 ρ)) lo hc1 ht1 ⟨t1, c1, cV r1, W1, k1, am1, p1, fun _ _ => False, 0, fun _ _ => False, False, False, fun _ _ => False, False, False, 0, hz1, hl1, fun ⟨ρ, h⟩ => absurd h (nv1 ρ), ?_, fun _ _ => by simp, by simp, by simp, rfl⟩, ⟨lo, hc1, ht1⟩, by omega, fun ⟨ρ, h⟩ => absurd h (nv4 ρ)⟩
    rw [hd]
    exact zTY_gar nv1 sub
  · obtain ⟨et, ec, rh1, ta1, N1, g1, ⟨fl9, fl10, fl8⟩, bk1, ⟨A1, fm1, hx1, wok1, L1, hL1, nL1⟩, mk1⟩ := hpo1 hv1
    subst et
    subst ec
    obtain ⟨ρ1, v1⟩ := hv1
    obtain ⟨rk, ac⟩ := VC_acy g1 m1.2.1 v1.2
    have kt : KTz r1 := (TBX_Tb tx tb1).1
    have hl : ∀ y, zLams Γ y → 0 ≤ y ∧ y < fi r1 11 := fun y hy => ⟨(hlm y hy).1.1, zo3 (hlm y hy).1.2 hc1⟩
    have wA : ∀ x cl, aW r1 (fi r 11) x cl → W1 x cl := fun x cl h => ((wok1.2 x (zo2 c0.1 h.1) h.2.1 cl).mp h.2.2).resolve_left (fun q => irr (zo3 q.1 h.1))
    have w8 : ∀ x cl, aW r1 (fi r 11) x cl → cl < 8 := fun x cl h => (wok1.1 x cl (wA x cl h)).2.2.1
    refine ws_settle (a := (ad1, l1)) g1 m1.2.1 yi1.1.2.2 (by rw [it]; simp; omega) ac yi1.2.1 kt c0.1 m1.2.2.2 x10 x11 (fun x x0 x1' q => ?_) w8 (fun x cl u h hr => ?_) (fun z2 r2 g2 ay2 vb2 e13 e6 fs fr st2 stl => ?_)
    · have := (bk1 x x0 x1').1
      rw [q, inc6] at this
      omega
    · exact (fm1.2.2.2.1.2 u (LV_Rq fm1.2.2.2.1 (wok1.1 x cl (wA x cl h)).2.1 hr)).2.2.1
    have e11 : fi r2 11 = fi r1 11 := fr.1 11 (by decide)
    have e15 : fi r2 15 = fi r1 15 := fr.1 15 (by decide)
    have e21 : ar r2 21 = ar r1 21 := fr.2.1 21 (by decide)
    have e23 : ar r2 23 = ar r1 23 := fr.2.1 23 (by decide)
    have v12 : ∀ ρ, cV r1 ρ → cV r2 ρ := fun ρ h => ⟨by rw [e15]; exact h.1, VC_old g2 g1 (by rw [e11]; exact Int32.le_refl _) (fun _ _ _ => rfl) (fun x x0 x1 => ⟨by rw [e21], by rw [e23], fun q => (fs x x0 (by rw [← e11]; exact x1) (by rw [← e21]; exact q)).symm⟩) h.2⟩
    have v21 : ∀ ρ, cV r2 ρ → cV r1 ρ := fun ρ h => ⟨by rw [← e15]; exact h.1, VC_old g1 g2 (by rw [e11]; exact Int32.le_refl _) (fun _ _ _ => rfl) (fun x x0 x1 => ⟨by rw [e21], by rw [e23], fun q => fs x x0 x1 q⟩) h.2⟩
    have Veq : cV r2 = cV r1 := funext (fun ρ => propext ⟨v21 ρ, v12 ρ⟩)
    have mo2 : MO r1 l1 r2 := ⟨⟨⟨rh1, ta1, N1, g2⟩, yi1.1.2.1, vb2⟩, ay2, v21, by rw [e11]; exact Int32.le_refl _⟩
    obtain ⟨q5, p5, eg2, tb3, w3⟩ := nx r2 z2 mo2 fr e13 e6
    have fmS := LET_frm hI hA fm1 g1 m1.2.1 hl eg1 v1 hx1 g2 fs fr stl
    obtain ⟨Lp, Lq, nL, hLs⟩ := spl (DET (cV r1) Γ) L1
    have A1L : ∀ x, A1 x → (A x ∧ DET (cV r1) Γ x ∧ x < fi r 11) ∨ x ∈ L1 := fun x hx => by
      rcases hL1 x hx with q | q
      · exact Or.inl ⟨q.1, DET_sub fm1.2.2.2.2.1 q.2, (hA.2 x q.1).1.2⟩
      · exact Or.inr q
    have hEp : ∀ L : List Int32, L.Nodup → (∀ y, y ∈ L → A1 y ∧ ¬ DET (cV r1) Γ y) → L.length ≤ max E Lp.length := fun L n1 n2 => by
      have := nodup_le L Lp n1 (fun x hx => (hLs x ((A1L x (n2 x hx).1).resolve_left (fun q => (n2 x hx).2 q.2.1))).1 (n2 x hx).2)
      omega
    have lto := LET_lto (A := A) (r := r) fm1.2.2.2.1 g1 m1.2.1 hl eg1 v1 x10 x11 hx1 g2 fs fr stl hEp
    have nL1' : 9 * (Lp.length + Lq.length + 2) ≤ (E + 2) * qt ma := by rw [nL]; exact nL1
    have num3 := let_num3 nL1' qa9
    have num := let_num num3 mtt.2
    have z2n : ∃ n : Nat, z2.toInt = n := by
      obtain ⟨ll, _, h2, _⟩ := stl.2.2.2.2.2.2.2
      exact ⟨ll.length, h2⟩
    obtain ⟨nz, hnz⟩ := z2n
    have h62 : (fi r2 6).toInt = (fi r1 6).toInt + 1 := by rw [e6, inc6]
    have bk2 : BK r2 := fun x x0 x1' => by
      rw [e11] at x1'
      refine ⟨?_, fun cl h => ?_⟩
      · rcases st2 x x0 x1' with q | q
        · rw [q, e6]
          exact Int.le_refl _
        · rw [q, h62]
          have := (bk1 x x0 x1').1
          omega
      · by_cases q : ar r1 21 x.toNatClampNeg = -1 ∧ Rq r1 rh1 t1 x ∧ ¬ BdR r1 rh1 x ∧ ∃ cl, cNd r1 (aW r1 (fi r 11)) x cl
        · exact cNd8 kt w8 ((stl.2.2.2.1 x ⟨x0, x1', q.1⟩ q.2.1 q.2.2.1 q.2.2.2 cl (gb_lt h)).mp h).1
        · rw [stl.2.2.1 x x0 x1' q] at h
          exact (bk1 x x0 x1').2 cl h
    refine ws_enter q5 ?_
    have t16 : ar (en r2 (ar r 13 e.toNatClampNeg) t1 z2) 16 = ar r 16 := tb3.2 16 (by omega)
    have pr3 : PRc (en r2 (ar r 13 e.toNatClampNeg) t1 z2) rh1 ((ar r 13 e.toNatClampNeg, true, t1, LEK r2 rh1 t1, z2.toInt) :: Γ) (LEA A A1 r r1 Γ) (max E Lp.length) mb := by
      refine ⟨⟨ρ1, v12 ρ1 v1⟩, EG_en eg2 p5 q5 ⟨fun q => absurd q (by decide), fun q => ?_⟩ (fun _ => (Int32.ofInt_toInt z2).symm), fmS.2.2.2.1, fun y hy => ?_, ⟨fun _ => lto, LTS_en Γ (LTS_le (Nat.le_max_left _ _) Γ (LTS_frm hI g2 ay2 hA fmS Γ lts))⟩, bk2, ?_, Nat.le_trans hE (Nat.le_max_left _ _)⟩
      · rw [q, show (-1 : Int32).toInt = -1 from rfl] at hnz
        omega
      · obtain ⟨e3, h1, h2, h3⟩ := hy
        rcases List.mem_cons.mp h1 with q | q
        · subst q
          exact absurd (show true = false from h2) (by decide)
        · have kq := hlm y ⟨e3, q, h2, h3⟩
          exact ⟨⟨kq.1.1, zo3 kq.1.2 fmS.1⟩, (fmS.2.1 y kq.1.1 kq.1.2).1 kq.2⟩
      · show 9 * (fi r2 11).toInt + ((max E Lp.length + 2) * mt mb : Nat) ≤ 36882
        rw [e11]
        omega
    refine ih ad1 l1 (en r2 (ar r 13 e.toNatClampNeg) t1 z2) rh1 ta1 N1 (ar r 15 e.toNatClampNeg) _ _ (max E Lp.length) mb _ (by rw [t16]; exact hmb) w3 g2 (TBX_Tb tx tb3) b1 (by rw [tb3.1 4 (by omega)]; exact b2) b3 (by omega) pr3 (fun z4 ad4 l4 r4 m4 q4 y4 z40 z41 ps4 _ => ?_)
    obtain ⟨a4, p4⟩ := AR_en p5 q5 q4
    refine ws_leave p4 ?_
    obtain ⟨t4, c4, W4, k4, am4, p4', hz4, ⟨hl4, hc4, ht4⟩, hb4, hpo4⟩ := ps4
    rw [ctb_Tb tb3] at hz4
    have hz4' : zTY (ctb r) d (ar r 15 e.toNatClampNeg) ((ar r 13 e.toNatClampNeg, true, t1, LEK r2 rh1 t1, z2.toInt) :: Γ) (fi r1 11) (cV r1) t4 c4 (cV r4) W4 k4 am4 p4' := by
      rw [← Veq, ← e11]
      exact hz4
    have hc4' : fi r1 11 ≤ c4 := by rw [← e11]; exact hc4
    have hw : ∀ x cl, W1 x cl ↔ aW r1 (fi r 11) x cl ∨ (W1 x cl ∧ x < fi r 11) := fun x cl => by
      constructor
      · intro h
        by_cases q : x < fi r 11
        · exact Or.inr ⟨h, q⟩
        · have b := (wok1.1 x cl h).1
          exact Or.inl ⟨Int32.not_lt.mp q, b.2, (wok1.2 x b.1 b.2 cl).mpr (Or.inr h)⟩
      · rintro (h | h)
        · exact wA x cl h
        · exact h.1
    have hdt : ∀ x cl, W1 x cl → x < fi r 11 → DET (cV r1) Γ x := fun x cl h q => DET_sub fm1.2.2.2.2.1 ((wok1.1 x cl h).2.2.2 q).2
    have zs := LET_set (k := k1) (am := am1) fm1.2.2.2.1 g1 m1.2.1 kt hl eg1 v1 x10 x11 hx1 fs fr stl w8 hw (fun x cl h => (wok1.1 x cl h).1) hdt
    have zl : zLet (ctb r) Γ (fi r1 11) (cV r1) t1 W1 k1 am1 (LEK r2 rh1 t1) z2.toInt (fun x c => (W1 x c ∧ x < fi r 11) ∨ (zVR (cG r1) x ∧ cNd r1 (aW r1 (fi r 11)) x c ∧ zBd (cG r1) (zLams Γ) x)) (k1 ∨ zLK (kI r1) (kF r1 10) (kF r1 11) (cG r1) (aW r1 (fi r 11))) (am1 ∨ ∃ v c, zVR (cG r1) v ∧ cNd r1 (aW r1 (fi r 11)) v c ∧ ¬ zBd (cG r1) (zLams Γ) v ∧ ¬ zRc (cG r1) t1 v) := by
      rw [← ctb_Tb tb1]
      exact ⟨cG r1, rfl, funext (fun ρ => propext ⟨fun h => (VC_val g1).mpr h.2, fun h => ⟨v1.1, (VC_val g1).mp h⟩⟩), cG_GW g1 m1.2.1, VC_free g1 m1.2.1 v1.2, zs⟩
    have sub : ∀ ρ, cV r4 ρ → cV r1 ρ := fun ρ h => v21 ρ ((MO_from m4).2.2.1 ρ h)
    have hV : ∀ ρ, cV (lv r4) ρ → cV r ρ := fun ρ h => m1.2.2.1 ρ (sub ρ h)
    have lec : fi r 11 ≤ c4 := zo2 hc1 hc4'
    refine hK z4 ad4 l4 (lv r4) ⟨t4, c4, fun x cl => ((W1 x cl ∧ x < fi r 11) ∨ (zVR (cG r1) x ∧ cNd r1 (aW r1 (fi r 11)) x cl ∧ zBd (cG r1) (zLams Γ) x)) ∨ W4 x cl, (k1 ∨ zLK (kI r1) (kF r1 10) (kF r1 11) (cG r1) (aW r1 (fi r 11))) ∨ k4, (am1 ∨ ∃ v c, zVR (cG r1) v ∧ cNd r1 (aW r1 (fi r 11)) v c ∧ ¬ zBd (cG r1) (zLams Γ) v ∧ ¬ zRc (cG r1) t1 v) ∨ am4, p1 + p4', zTY_k3 hk hV hl4 lec ht4 ⟨t1, fi r1 11, cV r1, W1, k1, am1, p1, LEK r2 rh1 t1, z2.toInt, _, _, _, W4, k4, am4, p4', hz1, hl1, fun _ => zl, hz4', fun _ _ => Iff.rfl, Iff.rfl, Iff.rfl, rfl⟩, ⟨hl4, lec, ht4⟩, by omega, fun hv4 => ?_⟩
    obtain ⟨et, ec, rh4, ta4, N4, g4, ⟨gl9, gl10, gl8⟩, bk4, ⟨A4, fm4, hx4, wok4, L4, hL4, nL4⟩, mk4⟩ := hpo4 hv4
    have fm4' : FRM r2 rh1 (LEA A A1 r r1 Γ) r4 rh4 A4 := fm4
    have fmA := FRM_trans hI fmS fm4'
    have vqq : ∀ v, zVR (cG r1) v ↔ vr r1 v := fun v => cG_vr g1
    have bdd : ∀ v, zBd (cG r1) (zLams Γ) v ↔ BdR r1 rh1 v := fun v => cG_bd g1 hl eg1
    have rcc : ∀ v, zRc (cG r1) t1 v ↔ Rq r1 rh1 t1 v := fun v => cG_rc g1 x10 x11
    have oldA : ∀ x, x < fi r 11 → LEA A A1 r r1 Γ x → A x := fun x h q => by
      rcases q with q | q
      · exact q.1
      · exact (fm1.2.2.2.2.2 x q.1).elim (fun u => u.1) (fun u => absurd (zo3 h u) irr)
    have bnd : ∀ x, vr r1 x → BdR r1 rh1 x → LEA A A1 r r1 Γ x ∧ rh1 x = x := fun x h1 h2 => by
      obtain ⟨yy, u1, u2⟩ := (EG_Bd eg1).mp h2
      have kq := hlm yy u1
      have b := pr1.2.2.2.1 yy u1
      have aa : A1 x := LV_Rq fm1.2.2.2.1 ((fm1.2.1 yy kq.1.1 kq.1.2).1 b.2) u2
      refine ⟨Or.inr ⟨aa, fun ρ ρ' h3 h4 h5 => VC_inj g1 m1.2.1 h3.2 h4.2 (hl yy u1).1 (hl yy u1).2 (h5 yy u1) u2⟩, (g1.2.2.2.2.1.2 x h1.1 h1.2.1).2.2.2.1 (by rw [h1.2.2]; decide)⟩
    have f24 : fi r1 11 ≤ fi r4 11 := by rw [← e11]; exact fm4'.1
    refine ⟨et, ec, rh4, ta4, N4, g4, ⟨⟨?_, ?_, ?_⟩, bk4, ⟨A4, fmA, hx4, ⟨fun x cl hx => ?_, fun x x0 x1' cl => ?_⟩, ?_⟩, ?_⟩⟩
    · have q : ¬ fi r4 9 = 0 ↔ ¬ fi r2 9 = 0 ∨ k4 := gl9
      show ¬ fi r4 9 = 0 ↔ _
      rw [q, stl.2.2.2.2.2.1, fl9, or_assoc, or_assoc, or_assoc]
    · have q : ¬ fi r4 10 = 0 ↔ ¬ fi r2 10 = 0 ∨ am4 := gl10
      show ¬ fi r4 10 = 0 ↔ _
      have ex : (∃ v c, vr r1 v ∧ cNd r1 (aW r1 (fi r 11)) v c ∧ ¬ BdR r1 rh1 v ∧ ¬ Rq r1 rh1 t1 v) ↔ ∃ v c, zVR (cG r1) v ∧ cNd r1 (aW r1 (fi r 11)) v c ∧ ¬ zBd (cG r1) (zLams Γ) v ∧ ¬ zRc (cG r1) t1 v := by
        constructor
        · rintro ⟨v, cl, u1, u2, u3, u4⟩
          exact ⟨v, cl, (vqq v).mpr u1, u2, fun z => u3 ((bdd v).mp z), fun z => u4 ((rcc v).mp z)⟩
        · rintro ⟨v, cl, u1, u2, u3, u4⟩
          exact ⟨v, cl, (vqq v).mp u1, u2, fun z => u3 ((bdd v).mpr z), fun z => u4 ((rcc v).mpr z)⟩
      rw [q, stl.2.2.2.2.2.2.1, fl10, ex, or_assoc, or_assoc, or_assoc]
    · have q : fi r4 8 = fi r2 8 + Int32.ofInt p4' := gl8
      show fi r4 8 = _
      rw [q, show fi r2 8 = fi r1 8 from fr.1 8 (by decide), fl8, Int32.ofInt_add, Int32.add_assoc]
    · rcases hx with (hx | hx) | hx
      · have q := wok1.1 x cl hx.1
        have dd := hdt x cl hx.1 hx.2
        refine ⟨⟨q.1.1, zo3 q.1.2 f24⟩, (fm4'.2.1 x q.1.1 (by rw [e11]; exact q.1.2)).1 (Or.inr ⟨q.2.1, fun ρ ρ' h3 h4 h5 => ?_⟩), q.2.2.1, fun u => (q.2.2.2 u).1⟩
        rw [← VC_rh g1 h3.2 q.1.1 q.1.2, ← VC_rh g1 h4.2 q.1.1 q.1.2]
        exact dd ρ ρ' h3 h4 h5
      · have v := (vqq x).mp hx.1
        have b := bnd x v ((bdd x).mp hx.2.2)
        refine ⟨⟨v.1, zo3 v.2.1 f24⟩, (fm4'.2.1 x v.1 (by rw [e11]; exact v.2.1)).1 (by rw [b.2]; exact b.1), cNd8 kt w8 hx.2.1, fun u => oldA x u b.1⟩
      · have q := wok4.1 x cl hx
        exact ⟨q.1, q.2.1, q.2.2.1, fun u => oldA x u (q.2.2.2 (show x < fi r2 11 by rw [e11]; exact zo3 u hc1))⟩
    · have x1'' : x < fi r4 11 := x1'
      show gb (ar r4 24 x.toNatClampNeg) cl = true ↔ _
      have q4 : gb (ar r4 24 x.toNatClampNeg) cl = true ↔ (x < fi r2 11 ∧ gb (ar r2 24 x.toNatClampNeg) cl = true) ∨ W4 x cl := wok4.2 x x0 x1'' cl
      rw [q4]
      constructor
      · rintro (⟨u1, u2⟩ | u)
        · rw [e11] at u1
          rcases (stl.2.2.2.2.1 x x0 u1 cl).mp u2 with ⟨u3, u4⟩ | ⟨u3, u4, u5⟩
          · rcases (wok1.2 x x0 u1 cl).mp u4 with u | u
            · exact Or.inl u
            · exact Or.inr (Or.inl (Or.inl ⟨u, u3⟩))
          · exact Or.inr (Or.inl (Or.inr ⟨(vqq x).mpr ⟨x0, u1, u3⟩, u5, (bdd x).mpr u4⟩))
        · exact Or.inr (Or.inr u)
      · rintro (u | (u | u) | u)
        · have u1 : x < fi r1 11 := zo3 u.1 hc1
          exact Or.inl ⟨by rw [e11]; exact u1, (stl.2.2.2.2.1 x x0 u1 cl).mpr (Or.inl ⟨u.1, (wok1.2 x x0 u1 cl).mpr (Or.inl u)⟩)⟩
        · have u1 : x < fi r1 11 := zo3 u.2 hc1
          exact Or.inl ⟨by rw [e11]; exact u1, (stl.2.2.2.2.1 x x0 u1 cl).mpr (Or.inl ⟨u.2, (wok1.2 x x0 u1 cl).mpr (Or.inr u.1)⟩)⟩
        · have v := (vqq x).mp u.1
          exact Or.inl ⟨by rw [e11]; exact v.2.1, (stl.2.2.2.2.1 x x0 v.2.1 cl).mpr (Or.inr ⟨v.2.2, (bdd x).mp u.2.2, u.2.1⟩)⟩
        · exact Or.inr u
    · refine ⟨Lq ++ L4, fun x hx => ?_, ?_⟩
      · rcases hL4 x hx with q | q
        · rcases q with q | q
          · exact Or.inl q.1
          · rcases A1L x q.1 with u | u
            · exact Or.inl u.1
            · exact Or.inr (List.mem_append_left _ ((hLs x u).2 q.2))
        · exact Or.inr (List.mem_append_right _ q)
      · rw [List.length_append]
        exact let_num2 nL1' nL4 qtt.1 qtt.2 qb9
    · have mk4' : 9 * ((fi r4 11).toInt - (fi r2 11).toInt + 2) ≤ ((max E Lp.length + 2) * mt mb : Nat) := mk4
      rw [e11] at mk4'
      show 9 * ((fi r4 11).toInt - (fi r 11).toInt + 2) ≤ _
      omega
end ZLETD
