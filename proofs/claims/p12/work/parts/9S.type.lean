/-! Typing in the class: methods, lambdas, applications, lets. -/
section TYPE2
theorem typeOfMethod_D {l : Nat → Nat} {r : S_} {c : Int32} (w : ST l r) (c1 : 0 ≤ c) (c2 : c < fi r 2) (m1 : 0 ≤ ar r 8 c.toNatClampNeg) (m2 : ar r 8 c.toNatClampNeg < fi r 1) (m3 : ¬ ar r 5 (ar r 8 c.toNatClampNeg).toNatClampNeg &&& 1 = 0) (hS : SG l r) (hA : TA (A0 l) r) : D2 (fun K a r k s => qY_typeOfMethod K a r k s c) l r (fun z l' r' => YR l r 0 l' r' ∧ 0 ≤ z ∧ z < fi r' 11) := by
  obtain ⟨z, l', r', k, s, ⟨q1, q2, q3, q4, q5⟩, cc, cs, h⟩ := freshCopy_D w.1 m1 m2 hS hA
  have f0 := q5 m3
  have f1 := q2 0 (by decide) (by decide)
  have f2 : 0 ≤ ar r' 20 ((0 : Int32)).toNatClampNeg := by
    have := f1.1
    clear q1 q2 q5 h w hS hA
    grind
  obtain ⟨b1, b2, b3, b4, b5, b6, b7⟩ := q1
  have l20 : l' 20 = 8 := (b5.1 20 (by omega)).trans w.1.2.1.2.2.2.2.2.2
  obtain ⟨⟨rh, ta, N, hI⟩, hp, hv⟩ := b1
  have hL : l' 24 = l' 21 := hI.1.2.2.1
  have hcl : (fi r' 11).toInt ≤ l' 21 := hI.2.2.1
  have v24 : vp_in (ar r' 20 ((0 : Int32)).toNatClampNeg) (l' 24) := vi2 f2 f1.2 (by rw [hL]; exact hcl)
  have v8 : vp_in c (l 8) := vi2 c1 c2 (by
    have e8 : l 8 = 8 := w.2.1.2.2.2.2.1
    have := w.2.1.2.1
    rw [il] at this
    rw [e8]
    simpa using this)
  refine ⟨z, l', sF (sA r' 24 (upd (ar r' 24) (ar r' 20 ((0 : Int32)).toNatClampNeg).toNatClampNeg ((ar r' 24 (ar r' 20 ((0 : Int32)).toNatClampNeg).toNatClampNeg) ||| (1 <<< (c &&& 31))))) 8 ((fi r' 8) + 1), k, s, ⟨⟨⟨⟨rh, ta, N, hI⟩, hp, hv⟩, b2, Fr_trans b3 (Fr_trans (Fr_sA (by decide)) (Fr_sF (by decide))), b4, b5, b6, b7⟩, q3, q4⟩, cc, cs, fun ad K hK => ?_⟩
  show qY_typeOfMethod K (ad, l) r k s c
  unfold qY_typeOfMethod qK_methodOf
  have v20 : vp_in 0 (l' 20) := vi (by decide) (by show (0 : Int32).toInt < l' 20; rw [l20]; decide)
  refine ⟨v8, k, s, 0, 0, rfl, rfl, h ad _ (fun ad' f _ => ⟨v20, fun z => absurd f2 (by rw [z]; decide), fun _ => ⟨v20, v24, v24, fun r12 e12 => ?_⟩⟩)⟩
  unfold qY_typeOfMethod_J43
  intro r13 e13
  subst e12
  subst e13
  exact hK ad' f
theorem enter_D {l : Nat → Nat} {r : S_} {x t w : Int32} (hA : TA (A0 l) r) (t1 : 0 ≤ t) (t2 : t < fi r 11) : ∃ r', (TA (A0 l) r' ∧ Fr [5] [17, 18, 19] r r') ∧ ∀ (ad : Nat → Nat) (K : S_ → Prop), K r' → qY_enter (ad, l) K r x t w := by
  have hA' : 0 ≤ fi r 5 ∧ fi r 5 ≤ 24 ∧ l 17 = 24 ∧ l 18 = 24 ∧ l 19 = 24 ∧ ∀ i, 0 ≤ i → i < fi r 5 → 0 ≤ ar r 18 i.toNatClampNeg ∧ ar r 18 i.toNatClampNeg < fi r 11 := hA
  obtain ⟨a1, a2, a3, a4, a5, a6⟩ := hA'
  by_cases h : 24 ≤ fi r 5
  · refine ⟨r, ⟨hA, Fr_refl r⟩, fun ad K hk => ?_⟩
    unfold qY_enter
    exact ⟨fun _ => hk, fun z => absurd h z⟩
  · have h2 : fi r 5 < 24 := Int32.not_le.mp h
    have v24 : ∀ k, l k = 24 → vp_in (fi r 5) (l k) := fun k hk => vi2 a1 h2 (by rw [hk]; decide)
    refine ⟨sF (sA (sA (sA r 17 (upd (ar r 17) (fi r 5).toNatClampNeg x)) 18 (upd (ar r 18) (fi r 5).toNatClampNeg t)) 19 (upd (ar r 19) (fi r 5).toNatClampNeg w)) 5 (fi r 5 + 1), ⟨⟨?_, ?_, a3, a4, a5, fun i i1 i2 => ?_⟩, Fr_trans (Fr_sA (by decide)) (Fr_trans (Fr_sA (by decide)) (Fr_trans (Fr_sA (by decide)) (Fr_sF (by decide))))⟩, fun ad K hk => ?_⟩
    · show 0 ≤ fi r 5 + 1
      clear hA a6; grind
    · show fi r 5 + 1 ≤ 24
      clear hA a6; grind
    · show 0 ≤ upd (ar r 18) (fi r 5).toNatClampNeg t i.toNatClampNeg ∧ upd (ar r 18) (fi r 5).toNatClampNeg t i.toNatClampNeg < fi r 11
      have i3 : i < fi r 5 + 1 := i2
      rw [updI _ _ a1 i1]
      split
      · exact ⟨t1, t2⟩
      · exact a6 i i1 (by clear hA a6; grind)
    · unfold qY_enter
      refine ⟨fun z => absurd z h, fun _ => ⟨v24 17 a3, fun r3 e3 => ?_⟩⟩
      subst e3
      refine ⟨v24 18 a4, fun r5 e5 => ?_⟩
      subst e5
      refine ⟨v24 19 a5, fun r7 e7 r8 e8 => ?_⟩
      subst e7
      subst e8
      exact hk
theorem leave_D {l : Nat → Nat} {r : S_} (hA : TA (A0 l) r) : ∃ r', (TA (A0 l) r' ∧ Fr [5] [] r r') ∧ ∀ (ad : Nat → Nat) (K : S_ → Prop), K r' → qY_leave (ad, l) K r := by
  have hA' : 0 ≤ fi r 5 ∧ fi r 5 ≤ 24 ∧ l 17 = 24 ∧ l 18 = 24 ∧ l 19 = 24 ∧ ∀ i, 0 ≤ i → i < fi r 5 → 0 ≤ ar r 18 i.toNatClampNeg ∧ ar r 18 i.toNatClampNeg < fi r 11 := hA
  obtain ⟨a1, a2, a3, a4, a5, a6⟩ := hA'
  by_cases h : fi r 5 ≤ 0
  · refine ⟨r, ⟨hA, Fr_refl r⟩, fun ad K hk => ?_⟩
    unfold qY_leave
    exact ⟨fun _ => hk, fun z => absurd h z⟩
  · refine ⟨sF r 5 (fi r 5 - 1), ⟨⟨?_, ?_, a3, a4, a5, fun i i1 i2 => ?_⟩, Fr_sF (by decide)⟩, fun ad K hk => ?_⟩
    · show 0 ≤ fi r 5 - 1
      clear hA a6; grind
    · show fi r 5 - 1 ≤ 24
      clear hA a6; grind
    · have i3 : i < fi r 5 - 1 := i2
      exact a6 i i1 (by clear hA a6; grind)
    · unfold qY_leave
      refine ⟨fun z => absurd z h, fun _ r2 e2 => ?_⟩
      subst e2
      exact hk
theorem settle_D {l : Nat → Nat} {r : S_} {p0 p1 : Int32} (w : YI l r) (hb : fi r 13 < 1999999990) (x1 : 0 ≤ p0) (x2 : p0 ≤ fi r 11) (y1 : 0 ≤ p1) (y2 : p1 < fi r 11) : ∃ z r', YR l r 3 l r' ∧ fi r' 11 = fi r 11 ∧ Sm r r' ∧ ∀ (ad : Nat → Nat) (K : Int32 → S_ → Prop), K z r' → qY_settle (ad, l) K r p0 p1 := by
  obtain ⟨⟨⟨rh, ta, N, hI⟩, hp, hv⟩, hA, hT⟩ := w
  have hd : Det (fun ad (K0 : Int32 × S_ → Prop) => qY_settle (ad, l) (fun z r => K0 (z, r)) r p0 p1) := det_qY_settle (fun z r => fun ad K h => ⟨(z, r), h, fun _ _ h => h⟩)
  obtain ⟨z, r', ⟨g1, g2, g3, g4⟩, h4⟩ := D1 (P := fun z r' => GI (A0 l) r' rh ta N ∧ VB r' ∧ Sm r r' ∧ fi r' 13 = fi r 13 + 3) hd (settle_ok hI hv hb hT.2.1 hA x1 x2 y1 y2 (fun z r' k1 k2 k3 k4 => ⟨k1, k2, k3, k4⟩))
  have e11 : fi r' 11 = fi r 11 := g3.1.1 11 (by decide)
  have v0 := hv.1
  have e13 : (fi r' 13).toInt = (fi r 13).toInt + 3 := by
    rw [g4]
    rw [il] at v0
    rw [it] at hb
    simp at v0 hb
    rw [i_add (by simp; omega) (by simp; omega)]
    simp
  exact ⟨z, r', ⟨⟨⟨rh, ta, N, g1⟩, hp, g2⟩, TA_mono hA (g3.1.1 5 (by decide)) (g3.1.2.1 18 (by decide)) (by rw [e11]; exact Int32.le_refl _) (FL_refl l), Fr_mono g3.1 (by decide) (by decide), by rw [e11]; exact Int32.le_refl _, FG_refl l, by omega, by omega⟩, e11, g3, fun ad K hk => h4 ad K hk⟩
theorem unify_D {l : Nat → Nat} {r : S_} {x y : Int32} (hS : SG l r) (hA : TA (A0 l) r) (x1 : 0 ≤ x) (x2 : x < fi r 11) (y1 : 0 ≤ y) (y2 : y < fi r 11) : ∃ r', YR l r 0 l r' ∧ fi r' 11 = fi r 11 ∧ ∀ (ad : Nat → Nat) (K : S_ → Prop), K r' → qG_unify (ad, l) K r x y := by
  obtain ⟨⟨rh, ta, N, hI⟩, hp, hv⟩ := hS
  have hd : Det (fun ad (K0 : S_ → Prop) => qG_unify (ad, l) (fun r => K0 r) r x y) := det_qG_unify (fun r => fun ad K h => ⟨r, h, fun _ _ h => h⟩)
  obtain ⟨r', ⟨⟨rh2, ta2, N2, g1⟩, g2⟩, h4⟩ := D1r (P := fun r' => (∃ rh ta N, GI (A0 l) r' rh ta N) ∧ Fr [14, 15] [21, 22, 31] r r') hd (unify_ok hI x1 x2 y1 y2 (fun r' rh2 ta2 N2 k1 k2 => ⟨⟨rh2, ta2, N2, k1⟩, k2⟩))
  have e11 : fi r' 11 = fi r 11 := g2.1 11 (by decide)
  have e13 : fi r' 13 = fi r 13 := g2.1 13 (by decide)
  have e28 : ar r' 28 = ar r 28 := g2.2.1 28 (by decide)
  refine ⟨r', ⟨⟨⟨rh2, ta2, N2, g1⟩, hp, ?_⟩, TA_mono hA (g2.1 5 (by decide)) (g2.2.1 18 (by decide)) (by rw [e11]; exact Int32.le_refl _) (FL_refl l), Fr_mono g2 (by decide) (by decide), by rw [e11]; exact Int32.le_refl _, FG_refl l, by rw [e13]; omega, by rw [e13]; omega⟩, e11, fun ad K hk => h4 ad K hk⟩
  unfold VB
  rw [e13, e28]
  exact hv
/-- the typing of parts -/
def HT (T : (Int32 → L_ → S_ → Prop) → L_ → S_ → Nat → Nat → Int32 → Prop) (d : Nat) : Prop := ∀ (l : Nat → Nat) (r : S_) (e : Int32), YI l r → 0 ≤ e → e < fi r 4 → (ar r 16 e.toNatClampNeg).toInt < d → ar r 16 e.toNatClampNeg ≤ 24 → (fi r 13).toInt + 4 * (ar r 16 e.toNatClampNeg).toInt ≤ 1999990000 → D2 (fun K a r k s => T K a r k s e) l r (fun z l' r' => YR l r (4 * (ar r 16 e.toNatClampNeg).toInt) l' r' ∧ 0 ≤ z ∧ z < fi r' 11)
theorem YR_Fr5 {l : Nat → Nat} {r r' : S_} {A : List Nat} (hS : SG l r) (hA : TA (A0 l) r') (hF : Fr [5] A r r') (h2 : ∀ k ∈ A, k ∈ [17, 18, 19]) : YR l r 0 l r' := by
  have e11 : fi r' 11 = fi r 11 := hF.1 11 (by decide)
  have e13 : fi r' 13 = fi r 13 := hF.1 13 (by decide)
  have m : ∀ k, k ∉ [17, 18, 19] → ar r' k = ar r k := fun k hk => hF.2.1 k (fun z => hk (h2 k z))
  obtain ⟨⟨rh, ta, N, hI⟩, hp, hv⟩ := hS
  refine ⟨⟨⟨rh, ta, N, ?_⟩, hp, ?_⟩, hA, ⟨fun k hk => hF.1 k (by simp at hk ⊢; omega), fun k hk => m k (by simp at hk ⊢; omega), hF.2.2⟩, by rw [e11]; exact Int32.le_refl _, FG_refl l, by rw [e13]; omega, by rw [e13]; omega⟩
  · unfold GI
    rw [e11, m 21 (by decide), m 22 (by decide), m 23 (by decide)]
    exact hI
  · unfold VB
    rw [e13, m 28 (by decide)]
    exact hv
theorem zlt {z x y : Int32} (h : z < x) (h2 : x ≤ y) : z < y := by grind
theorem typeOfLambda_D {T : (Int32 → L_ → S_ → Prop) → L_ → S_ → Nat → Nat → Int32 → Prop} {d : Nat} (hT : HT T d) {l : Nat → Nat} {r : S_} {x b : Int32} (w : YI l r) (b1 : 0 ≤ b) (b2 : b < fi r 4) (b3 : (ar r 16 b.toNatClampNeg).toInt < d) (b4 : ar r 16 b.toNatClampNeg ≤ 24) (hb : (fi r 13).toInt + 4 * (ar r 16 b.toNatClampNeg).toInt ≤ 1999990000) : D2 (fun K a r k s => qY_typeOfLambda T K a r k s x b) l r (fun z l' r' => YR l r (4 * (ar r 16 b.toNatClampNeg).toInt) l' r' ∧ 0 ≤ z ∧ z < fi r' 11) := by
  obtain ⟨z1, l1, r1, k1, s1, ⟨p1, p2, p3⟩, c1, d1, h1⟩ := newNode_Y (p0 := -1) (p1 := -1) (p2 := -1) w.1 w.2.1 (by decide) (by decide) (by decide) (Or.inr rfl) (by decide) (Or.inr rfl)
  have w1 := YI_R w p1
  obtain ⟨r2, ⟨q1, q2⟩, h2⟩ := enter_D (x := x) (w := -1) w1.2.1 p2 p3
  have p4 := YR_Fr5 w1.1 q1 q2 (by decide)
  have y2 := YR_trans p1 p4
  have w2 := YI_R w y2
  have tb2 : Tb r r2 := Tb_Fr y2.2.2.1 (by decide) (by decide)
  have e4 : fi r2 4 = fi r 4 := tb2.1 4 (by omega)
  have e16 : ar r2 16 = ar r 16 := tb2.2 16 (by omega)
  obtain ⟨z3, l3, r3, k3, s3, ⟨p5, p6, p7⟩, c3, d3, h3⟩ := hT l1 r2 b w2 b1 (by rw [e4]; exact b2) (by rw [e16]; exact b3) (by rw [e16]; exact b4) (by rw [e16]; have := y2.2.2.2.2.2.2; omega)
  rw [e16] at p5
  have y3 := YR_trans y2 p5
  have w3 := YI_R w y3
  obtain ⟨r4, ⟨q3, q4⟩, h4⟩ := leave_D w3.2.1
  have p8 := YR_Fr5 w3.1 q3 q4 (by decide)
  have y4 := YR_trans y3 p8
  have w4 := YI_R w y4
  have e11 : fi r4 11 = fi r3 11 := q4.1 11 (by decide)
  have g1 : z1 < fi r4 11 := by rw [e11]; exact zlt p3 (Int32.le_trans p4.2.2.2.1 p5.2.2.2.1)
  obtain ⟨z5, l5, r5, k5, s5, ⟨p9, p10, p11⟩, c5, d5, h5⟩ := newNode_Y (p0 := 0) (p1 := z1) (p2 := z3) w4.1 w4.2.1 (by decide) (by decide) (by clear h1 h2 h3 h4 w w1 w2 w3 w4 p1 p4 p5 p8 y2 y3 y4 q1 q2 q3 q4; grind) (Or.inl g1) (by clear h1 h2 h3 h4 w w1 w2 w3 w4 p1 p4 p5 p8 y2 y3 y4 q1 q2 q3 q4; grind) (Or.inl (by rw [e11]; exact p7))
  have y5 := YR_trans y4 p9
  refine ⟨z5, l5, r5, k1 + (k3 + k5), s1 + (s3 + s5), ⟨YR_le y5 (by omega), p10, p11⟩, by omega, by omega, fun ad K hK => ?_⟩
  show qY_typeOfLambda T K (ad, l) r _ _ x b
  unfold qY_typeOfLambda
  refine ⟨k1, s1, k3 + k5, s3 + s5, rfl, rfl, h1 ad _ (fun ad1 f1 _ => ?_)⟩
  refine h2 ad1 _ ⟨k3, s3, k5, s5, rfl, rfl, h3 ad1 _ (fun ad3 f3 _ => ?_)⟩
  refine h4 ad3 _ ⟨k5, s5, 0, 0, rfl, rfl, h5 ad3 _ (fun ad5 f5 _ => ?_)⟩
  exact hK ad5 (fx_trans f1 (fx_trans f3 f5))
theorem typeOfApply_D {T : (Int32 → L_ → S_ → Prop) → L_ → S_ → Nat → Nat → Int32 → Prop} {d : Nat} (hT : HT T d) {l : Nat → Nat} {r : S_} {x b : Int32} (w : YI l r) (a1 : 0 ≤ x) (a2 : x < fi r 4) (a3 : (ar r 16 x.toNatClampNeg).toInt < d) (a4 : ar r 16 x.toNatClampNeg ≤ 24) (b1 : 0 ≤ b) (b2 : b < fi r 4) (b3 : (ar r 16 b.toNatClampNeg).toInt < d) (b4 : ar r 16 b.toNatClampNeg ≤ 24) (hb : (fi r 13).toInt + 4 * (ar r 16 x.toNatClampNeg).toInt + 4 * (ar r 16 b.toNatClampNeg).toInt ≤ 1999990000) (hb0 : 0 ≤ (ar r 16 b.toNatClampNeg).toInt) : D2 (fun K a r k s => qY_typeOfApply T K a r k s x b) l r (fun z l' r' => YR l r (4 * (ar r 16 x.toNatClampNeg).toInt + 4 * (ar r 16 b.toNatClampNeg).toInt) l' r' ∧ 0 ≤ z ∧ z < fi r' 11) := by
  obtain ⟨z1, l1, r1, k1, s1, ⟨p1, p2, p3⟩, c1, d1, h1⟩ := hT l r x w a1 a2 a3 a4 (by omega)
  have w1 := YI_R w p1
  have tb1 : Tb r r1 := Tb_Fr p1.2.2.1 (by decide) (by decide)
  have e4 : fi r1 4 = fi r 4 := tb1.1 4 (by omega)
  have e16 : ar r1 16 = ar r 16 := tb1.2 16 (by omega)
  obtain ⟨z2, l2, r2, k2, s2, ⟨p4, p5, p6⟩, c2, d2, h2⟩ := hT l1 r1 b w1 b1 (by rw [e4]; exact b2) (by rw [e16]; exact b3) (by rw [e16]; exact b4) (by rw [e16]; have := p1.2.2.2.2.2.2; omega)
  rw [e16] at p4
  have y2 := YR_trans p1 p4
  have w2 := YI_R w y2
  obtain ⟨z3, l3, r3, k3, s3, ⟨p7, p8, p9⟩, c3, d3, h3⟩ := newNode_Y (p0 := -1) (p1 := -1) (p2 := -1) w2.1 w2.2.1 (by decide) (by decide) (by decide) (Or.inr rfl) (by decide) (Or.inr rfl)
  have y3 := YR_trans y2 p7
  have w3 := YI_R w y3
  obtain ⟨z4, l4, r4, k4, s4, ⟨p10, p11, p12⟩, c4, d4, h4⟩ := newNode_Y (p0 := 0) (p1 := z2) (p2 := z3) w3.1 w3.2.1 (by decide) (by decide) (by clear h1 h2 h3 w w1 w2 w3 p1 p4 p7 y2 y3 hT; grind) (Or.inl (zlt p6 p7.2.2.2.1)) (by clear h1 h2 h3 w w1 w2 w3 p1 p4 p7 y2 y3 hT; grind) (Or.inl p9)
  have y4 := YR_trans y3 p10
  have w4 := YI_R w y4
  obtain ⟨r5, p13, e11, h5⟩ := unify_D (x := z1) (y := z4) w4.1 w4.2.1 p2 (zlt p3 (Int32.le_trans p4.2.2.2.1 (Int32.le_trans p7.2.2.2.1 p10.2.2.2.1))) p11 p12
  have y5 := YR_trans y4 p13
  refine ⟨z3, l4, r5, k1 + (k2 + (k3 + k4)), s1 + (s2 + (s3 + s4)), ⟨YR_le y5 (by omega), p8, by rw [e11]; exact zlt p9 p10.2.2.2.1⟩, by omega, by omega, fun ad K hK => ?_⟩
  show qY_typeOfApply T K (ad, l) r _ _ x b
  unfold qY_typeOfApply
  refine ⟨k1, s1, k2 + (k3 + k4), s2 + (s3 + s4), rfl, rfl, h1 ad _ (fun ad1 f1 _ => ?_)⟩
  refine ⟨k2, s2, k3 + k4, s3 + s4, rfl, rfl, h2 ad1 _ (fun ad2 f2 _ => ?_)⟩
  refine ⟨k3, s3, k4, s4, rfl, rfl, h3 ad2 _ (fun ad3 f3 _ => ?_)⟩
  refine ⟨k4, s4, 0, 0, rfl, rfl, h4 ad3 _ (fun ad4 f4 _ => ?_)⟩
  exact h5 ad4 _ (hK ad4 (fx_trans f1 (fx_trans f2 (fx_trans f3 f4))))
theorem typeOfLet_D {T : (Int32 → L_ → S_ → Prop) → L_ → S_ → Nat → Nat → Int32 → Prop} {d : Nat} (hT : HT T d) {l : Nat → Nat} {r : S_} {x b c : Int32} (w : YI l r) (a1 : 0 ≤ b) (a2 : b < fi r 4) (a3 : (ar r 16 b.toNatClampNeg).toInt < d) (a4 : ar r 16 b.toNatClampNeg ≤ 24) (b1 : 0 ≤ c) (b2 : c < fi r 4) (b3 : (ar r 16 c.toNatClampNeg).toInt < d) (b4 : ar r 16 c.toNatClampNeg ≤ 24) (hb : (fi r 13).toInt + 4 * (ar r 16 b.toNatClampNeg).toInt + 4 * (ar r 16 c.toNatClampNeg).toInt + 4 ≤ 1999990000) (hb0 : 0 ≤ (ar r 16 c.toNatClampNeg).toInt) : D2 (fun K a r k s => qY_typeOfLet T K a r k s x b c) l r (fun z l' r' => YR l r (4 * (ar r 16 b.toNatClampNeg).toInt + 4 * (ar r 16 c.toNatClampNeg).toInt + 3) l' r' ∧ 0 ≤ z ∧ z < fi r' 11) := by
  have c0 : 0 ≤ fi r 11 := by
    obtain ⟨⟨⟨rh, ta, N, hI⟩, -⟩, -⟩ := w
    exact hI.2.1
  obtain ⟨z1, l1, r1, k1, s1, ⟨p1, p2, p3⟩, c1, d1, h1⟩ := hT l r b w a1 a2 a3 a4 (by omega)
  have w1 := YI_R w p1
  obtain ⟨z2, r2, p4, e11, -, h2⟩ := settle_D (p0 := fi r 11) (p1 := z1) w1 (by rw [it]; have := p1.2.2.2.2.2.2; simp; omega) c0 p1.2.2.2.1 p2 p3
  have y2 := YR_trans p1 p4
  have w2 := YI_R w y2
  obtain ⟨r3, ⟨q1, q2⟩, h3⟩ := enter_D (x := x) (t := z1) (w := z2) w2.2.1 p2 (by rw [e11]; exact p3)
  have p5 := YR_Fr5 w2.1 q1 q2 (by decide)
  have y3 := YR_trans y2 p5
  have w3 := YI_R w y3
  have tb3 : Tb r r3 := Tb_Fr y3.2.2.1 (by decide) (by decide)
  have e4 : fi r3 4 = fi r 4 := tb3.1 4 (by omega)
  have e16 : ar r3 16 = ar r 16 := tb3.2 16 (by omega)
  obtain ⟨z4, l4, r4, k4, s4, ⟨p6, p7, p8⟩, c4, d4, h4⟩ := hT l1 r3 c w3 b1 (by rw [e4]; exact b2) (by rw [e16]; exact b3) (by rw [e16]; exact b4) (by rw [e16]; have := y3.2.2.2.2.2.2; omega)
  rw [e16] at p6
  have y4 := YR_trans y3 p6
  have w4 := YI_R w y4
  obtain ⟨r5, ⟨q3, q4⟩, h5⟩ := leave_D w4.2.1
  have p9 := YR_Fr5 w4.1 q3 q4 (by decide)
  have y5 := YR_trans y4 p9
  have f11 : fi r5 11 = fi r4 11 := q4.1 11 (by decide)
  refine ⟨z4, l4, r5, k1 + k4, s1 + s4, ⟨YR_le y5 (by omega), p7, by rw [f11]; exact p8⟩, by omega, by omega, fun ad K hK => ?_⟩
  show qY_typeOfLet T K (ad, l) r _ _ x b c
  unfold qY_typeOfLet
  refine ⟨k1, s1, k4, s4, rfl, rfl, h1 ad _ (fun ad1 f1 _ => ?_)⟩
  refine h2 ad1 _ (h3 ad1 _ ⟨k4, s4, 0, 0, rfl, rfl, h4 ad1 _ (fun ad4 f4 _ => ?_)⟩)
  exact h5 ad4 _ (hK ad4 (fx_trans f1 f4))
theorem typeOf_D : ∀ d : Nat, HT (qY_typeOf d) d := by
  intro d
  induction d with
  | zero =>
    intro l r e w e1 e2 e3 e4 hb
    have := (w.2.2.2.2.2.2 e e1 e2).1.1
    rw [il] at this
    simp at this
    omega
  | succ d ih =>
    intro l r e w e1 e2 e3 e4 hb
    obtain ⟨⟨n1, n2⟩, k1, k2, k3, k4, k5⟩ := w.2.2.2.2.2.2 e e1 e2
    obtain ⟨l12, l13, l14, l15, l16⟩ := w.2.2.2.2.2.1
    have f4 := w.2.2.2.2.1.2
    have e120 : e.toInt < 120 := by
      rw [it] at e2
      rw [il] at f4
      simp at f4
      omega
    have v12 : vp_in e (l 12) := vi e1 (by rw [l12]; omega)
    have v13 : vp_in e (l 13) := vi e1 (by rw [l13]; omega)
    have v14 : vp_in e (l 14) := vi e1 (by rw [l14]; omega)
    have v15 : vp_in e (l 15) := vi e1 (by rw [l15]; omega)
    have nd : ∀ x, 0 ≤ x → x < e → 1 ≤ (ar r 16 x.toNatClampNeg).toInt := fun x x1 x2 => by
      have := (w.2.2.2.2.2.2 x x1 (ltt x2 e2)).1.1
      rw [il] at this
      simpa using this
    have e4' : (ar r 16 e.toNatClampNeg).toInt ≤ 24 := by rw [il] at e4; simpa using e4
    have n1' : 1 ≤ (ar r 16 e.toNatClampNeg).toInt := by rw [il] at n1; simpa using n1
    have le24 : ∀ x : Int32, (ar r 16 x.toNatClampNeg).toInt ≤ 24 → ar r 16 x.toNatClampNeg ≤ 24 := fun x hx => by rw [il]; simpa using hx
    show D2 (fun K a r k s => qY_typeOf (d + 1) K a r k s e) l r _
    simp only [qY_typeOf]
    unfold qY_typeOf_B
    by_cases h1 : ar r 12 e.toNatClampNeg = 1
    · obtain ⟨⟨b1, b2⟩, b3⟩ := k1 h1
      have b3' := b3 e4
      have := nd _ b1 b2
      obtain ⟨z, l', r', k, s, ⟨p1, p2, p3⟩, cc, cs, h⟩ := typeOfLambda_D (x := ar r 13 e.toNatClampNeg) ih w b1 (ltt b2 e2) (by omega) (le24 _ (by omega)) (by omega)
      refine ⟨z, l', r', k, s, ⟨YR_le p1 (by omega), p2, p3⟩, cc, cs, fun ad K hK => ⟨v13, v14, v12, fun _ => ⟨k, s, 0, 0, rfl, rfl, h ad _ (fun ad' f _ => hK ad' f)⟩, fun z => ?_, fun z => ?_, fun z => ?_, fun z => ?_, fun z => ?_⟩⟩
      all_goals (rw [h1] at z; exact absurd z (by decide))
    by_cases h2 : ar r 12 e.toNatClampNeg = 2
    · obtain ⟨⟨a1, a2⟩, ⟨b1, b2⟩, b3⟩ := k2 h2
      have b3' := b3 e4
      have m1 := nd _ a1 a2
      have m2 := nd _ b1 b2
      obtain ⟨z, l', r', k, s, ⟨p1, p2, p3⟩, cc, cs, h⟩ := typeOfApply_D ih w a1 (ltt a2 e2) (by omega) (le24 _ (by omega)) b1 (ltt b2 e2) (by omega) (le24 _ (by omega)) (by omega) (by omega)
      refine ⟨z, l', r', k, s, ⟨YR_le p1 (by omega), p2, p3⟩, cc, cs, fun ad K hK => ⟨v13, v14, v12, fun z => ?_, fun _ => ⟨k, s, 0, 0, rfl, rfl, h ad _ (fun ad' f _ => hK ad' f)⟩, fun z => ?_, fun z => ?_, fun z => ?_, fun z => ?_⟩⟩
      all_goals (rw [h2] at z; exact absurd z (by decide))
    by_cases h3 : ar r 12 e.toNatClampNeg = 3
    · obtain ⟨⟨a1, a2⟩, ⟨b1, b2⟩, b3⟩ := k3 h3
      have b3' := b3 e4
      have m1 := nd _ a1 a2
      have m2 := nd _ b1 b2
      obtain ⟨z, l', r', k, s, ⟨p1, p2, p3⟩, cc, cs, h⟩ := typeOfLet_D (x := ar r 13 e.toNatClampNeg) ih w a1 (ltt a2 e2) (by omega) (le24 _ (by omega)) b1 (ltt b2 e2) (by omega) (le24 _ (by omega)) (by omega) (by omega)
      refine ⟨z, l', r', k, s, ⟨YR_le p1 (by omega), p2, p3⟩, cc, cs, fun ad K hK => ⟨v13, v14, v12, fun z => ?_, fun z => ?_, fun _ => ⟨v15, k, s, 0, 0, rfl, rfl, h ad _ (fun ad' f _ => hK ad' f)⟩, fun z => ?_, fun z => ?_, fun z => ?_⟩⟩
      all_goals (rw [h3] at z; exact absurd z (by decide))
    by_cases h4 : ar r 12 e.toNatClampNeg = 4
    · obtain ⟨⟨a1, a2⟩, ⟨b1, b2⟩, b3⟩ := k4 h4
      obtain ⟨z, l', r', k, s, ⟨p1, p2, p3⟩, cc, cs, h⟩ := typeOfMethod_D w.2.2 a1 a2 b1 b2 b3 w.1 w.2.1
      refine ⟨z, l', r', k, s, ⟨YR_le p1 (by omega), p2, p3⟩, cc, cs, fun ad K hK => ⟨v13, v14, v12, fun z => ?_, fun z => ?_, fun z => ?_, fun _ => ⟨k, s, 0, 0, rfl, rfl, h ad _ (fun ad' f _ => hK ad' f)⟩, fun z => ?_, fun z => ?_⟩⟩
      all_goals (rw [h4] at z; exact absurd z (by decide))
    by_cases h5 : ar r 12 e.toNatClampNeg = 5
    · obtain ⟨a1, a2⟩ := k5 h5
      obtain ⟨z, l', r', k, s, ⟨p1, -, p2, p3, -⟩, cc, cs, h⟩ := freshCopy_D w.2.2.1 a1 a2 w.1 w.2.1
      refine ⟨z, l', r', k, s, ⟨YR_le p1 (by omega), p2, p3⟩, cc, cs, fun ad K hK => ⟨v13, v14, v12, fun z => ?_, fun z => ?_, fun z => ?_, fun z => ?_, fun _ => ⟨k, s, 0, 0, rfl, rfl, h ad _ (fun ad' f _ => hK ad' f)⟩, fun z => ?_⟩⟩
      all_goals (rw [h5] at z; exact absurd z (by decide))
    · obtain ⟨z, l', r', k, s, ⟨p1, p2, p3⟩, cc, cs, h⟩ := typeOfName_D (x := ar r 13 e.toNatClampNeg) w.1 w.2.1 (by rw [it]; simp; omega)
      exact ⟨z, l', r', k, s, ⟨YR_le p1 (by omega), p2, p3⟩, cc, cs, fun ad K hK => ⟨v13, v14, v12, fun z => absurd z h1, fun z => absurd z h2, fun z => absurd z h3, fun z => absurd z h4, fun z => absurd z h5, fun _ => ⟨k, s, 0, 0, rfl, rfl, h ad _ (fun ad' f _ => hK ad' f)⟩⟩⟩
end TYPE2
