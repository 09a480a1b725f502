/-! Typing an expression in the class: safe, and what it makes. -/
section TYPE
def ET (l : Nat → Nat) (r : S_) : Prop := (0 ≤ fi r 4 ∧ fi r 4 ≤ 120) ∧ (l 12 = 120 ∧ l 13 = 120 ∧ l 14 = 120 ∧ l 15 = 120 ∧ l 16 = 120) ∧ ∀ e, 0 ≤ e → e < fi r 4 → (1 ≤ ar r 16 e.toNatClampNeg ∧ ar r 16 e.toNatClampNeg ≤ 25) ∧ (ar r 12 e.toNatClampNeg = 1 → (0 ≤ ar r 14 e.toNatClampNeg ∧ ar r 14 e.toNatClampNeg < e) ∧ (ar r 16 e.toNatClampNeg ≤ 24 → (ar r 16 e.toNatClampNeg).toInt = 1 + (ar r 16 (ar r 14 e.toNatClampNeg).toNatClampNeg).toInt)) ∧ (ar r 12 e.toNatClampNeg = 2 → (0 ≤ ar r 13 e.toNatClampNeg ∧ ar r 13 e.toNatClampNeg < e) ∧ (0 ≤ ar r 14 e.toNatClampNeg ∧ ar r 14 e.toNatClampNeg < e) ∧ (ar r 16 e.toNatClampNeg ≤ 24 → (ar r 16 e.toNatClampNeg).toInt = 1 + (ar r 16 (ar r 13 e.toNatClampNeg).toNatClampNeg).toInt + (ar r 16 (ar r 14 e.toNatClampNeg).toNatClampNeg).toInt)) ∧ (ar r 12 e.toNatClampNeg = 3 → (0 ≤ ar r 14 e.toNatClampNeg ∧ ar r 14 e.toNatClampNeg < e) ∧ (0 ≤ ar r 15 e.toNatClampNeg ∧ ar r 15 e.toNatClampNeg < e) ∧ (ar r 16 e.toNatClampNeg ≤ 24 → (ar r 16 e.toNatClampNeg).toInt = 1 + (ar r 16 (ar r 14 e.toNatClampNeg).toNatClampNeg).toInt + (ar r 16 (ar r 15 e.toNatClampNeg).toNatClampNeg).toInt)) ∧ (ar r 12 e.toNatClampNeg = 4 → (0 ≤ ar r 13 e.toNatClampNeg ∧ ar r 13 e.toNatClampNeg < fi r 2) ∧ (0 ≤ ar r 8 (ar r 13 e.toNatClampNeg).toNatClampNeg ∧ ar r 8 (ar r 13 e.toNatClampNeg).toNatClampNeg < fi r 1) ∧ ¬ ar r 5 (ar r 8 (ar r 13 e.toNatClampNeg).toNatClampNeg).toNatClampNeg &&& 1 = 0) ∧ (ar r 12 e.toNatClampNeg = 5 → 0 ≤ ar r 13 e.toNatClampNeg ∧ ar r 13 e.toNatClampNeg < fi r 1)
def ST (l : Nat → Nat) (r : S_) : Prop := TT l r ∧ KT (A0 l) r ∧ ET l r
theorem ST_Tb {l l' : Nat → Nat} {r r' : S_} (w : ST l r) (h : Tb r r') (hl : FL l l') : ST l' r' := by
  obtain ⟨w1, w2, w3⟩ := w
  refine ⟨TT_Tb w1 h hl, ?_, ?_⟩
  · have e : KT (A0 l') r' = (0 ≤ fi r' 2 ∧ fi r' 2 ≤ 8 ∧ l' 6 = 8 ∧ l' 7 = 8 ∧ l' 8 = 8 ∧ l' 9 = 64 ∧ l' 10 = 64 ∧ l' 11 = 64) := rfl
    rw [e, h.1 2 (by omega), hl 6 (by omega), hl 7 (by omega), hl 8 (by omega), hl 9 (by omega), hl 10 (by omega), hl 11 (by omega)]
    exact w2
  · unfold ET
    rw [h.1 4 (by omega), h.1 2 (by omega), h.1 1 (by omega), h.2 5 (by omega), h.2 8 (by omega), h.2 12 (by omega), h.2 13 (by omega), h.2 14 (by omega), h.2 15 (by omega), h.2 16 (by omega), hl 12 (by omega), hl 13 (by omega), hl 14 (by omega), hl 15 (by omega), hl 16 (by omega)]
    exact w3
abbrev Fy (r r' : S_) : Prop := Fr [5, 6, 7, 8, 9, 10, 11, 12, 13, 14, 15] [17, 18, 19, 20, 21, 22, 23, 24, 25, 26, 27, 28, 29, 30, 31] r r'
def YI (l : Nat → Nat) (r : S_) : Prop := SG l r ∧ TA (A0 l) r ∧ ST l r
def YR (l : Nat → Nat) (r : S_) (m : Int) (l' : Nat → Nat) (r' : S_) : Prop := SG l' r' ∧ TA (A0 l') r' ∧ Fy r r' ∧ fi r 11 ≤ fi r' 11 ∧ FG l l' ∧ (fi r 13).toInt ≤ (fi r' 13).toInt ∧ (fi r' 13).toInt ≤ (fi r 13).toInt + m
theorem YR_trans {l l1 l2 : Nat → Nat} {r r1 r2 : S_} {m m1 : Int} (h : YR l r m l1 r1) (h2 : YR l1 r1 m1 l2 r2) : YR l r (m + m1) l2 r2 := by
  obtain ⟨a1, a2, a3, a4, a5, a6, a7⟩ := h
  obtain ⟨b1, b2, b3, b4, b5, b6, b7⟩ := h2
  exact ⟨b1, b2, Fr_trans a3 b3, Int32.le_trans a4 b4, FG_trans a5 b5, by omega, by omega⟩
theorem YI_R {l l1 : Nat → Nat} {r r1 : S_} {m : Int} (w : YI l r) (h : YR l r m l1 r1) : YI l1 r1 := ⟨h.1, h.2.1, ST_Tb w.2.2 (Tb_Fr h.2.2.1 (by decide) (by decide)) h.2.2.2.2.1.1⟩
theorem YR_le {l l1 : Nat → Nat} {r r1 : S_} {m m1 : Int} (h : YR l r m l1 r1) (hm : m ≤ m1) : YR l r m1 l1 r1 := by
  obtain ⟨a1, a2, a3, a4, a5, a6, a7⟩ := h
  exact ⟨a1, a2, a3, a4, a5, a6, by omega⟩
theorem TA_mono {l l' : Nat → Nat} {r r' : S_} (w : TA (A0 l) r) (h5 : fi r' 5 = fi r 5) (h18 : ar r' 18 = ar r 18) (hc : fi r 11 ≤ fi r' 11) (hl : FL l l') : TA (A0 l') r' := by
  have w' : 0 ≤ fi r 5 ∧ fi r 5 ≤ 24 ∧ l 17 = 24 ∧ l 18 = 24 ∧ l 19 = 24 ∧ ∀ i, 0 ≤ i → i < fi r 5 → 0 ≤ ar r 18 i.toNatClampNeg ∧ ar r 18 i.toNatClampNeg < fi r 11 := w
  show 0 ≤ fi r' 5 ∧ fi r' 5 ≤ 24 ∧ l' 17 = 24 ∧ l' 18 = 24 ∧ l' 19 = 24 ∧ ∀ i, 0 ≤ i → i < fi r' 5 → 0 ≤ ar r' 18 i.toNatClampNeg ∧ ar r' 18 i.toNatClampNeg < fi r' 11
  rw [h5, h18, hl 17 (by omega), hl 18 (by omega), hl 19 (by omega)]
  obtain ⟨w1, w2, w3, w4, w5, w6⟩ := w'
  refine ⟨w1, w2, w3, w4, w5, fun i i1 i2 => ?_⟩
  have := w6 i i1 i2
  exact ⟨this.1, by clear w w6; grind⟩
theorem newNode_Y {l : Nat → Nat} {r : S_} {p0 p1 p2 : Int32} (hS : SG l r) (hA : TA (A0 l) r) (a1 : -1 ≤ p0) (a2 : p0 < 8) (b1 : -1 ≤ p1) (b2 : p1 < fi r 11 ∨ p1 = -1) (c1 : -1 ≤ p2) (c2 : p2 < fi r 11 ∨ p2 = -1) : D2 (fun K a r k s => qG_newNode K a r k s p0 p1 p2) l r (fun z l' r' => YR l r 0 l' r' ∧ 0 ≤ z ∧ z < fi r' 11) := by
  obtain ⟨⟨rh, ta, N, hI⟩, hp, hv⟩ := hS
  obtain ⟨z, l', r', k, s, ⟨rh', n1, n2, n3, n4, n5, n6, n7, n8, n9, n10, n11⟩, cc, cs, h⟩ := newNode_D hI hp hv a1 a2 b1 b2 c1 c2
  have e13 : fi r' 13 = fi r 13 := n5.1 13 (by decide)
  exact ⟨z, l', r', k, s, ⟨⟨⟨⟨rh', ta, N, n1⟩, n3, n4⟩, TA_mono hA (n5.1 5 (by decide)) (n5.2.1 18 (by decide)) n7 n10, Fr_mono n5 (by decide) (by decide), n7, ⟨n10, n11⟩, by rw [e13]; omega, by rw [e13]; omega⟩, n8, n9⟩, cc, cs, h⟩
theorem fill_ok {l : Nat → Nat} {r : S_} (h : l 20 = 8) {K : S_ → Prop} (hK : ∀ g, (∀ v : Int32, 0 ≤ v → v < 8 → g v.toNatClampNeg = -1) → K (sA r 20 g)) : qJ_fill (A0 l) 20 K r (-1) := by
  have key : ∀ (n : Nat) (g : Nat → Int32) (v : Int32), 0 ≤ v → v ≤ 8 → (∀ w : Int32, 0 ≤ w → w < v → g w.toNatClampNeg = -1) → (8 : Int) - v.toInt < n → qJ_fill_L5 (A0 l) 20 (fun r => K r) n (sA r 20 g) (-1) v 8 := by
    intro n
    induction n with
    | zero =>
      intro g v h1 h2 h3 h4
      rw [il] at h2
      simp at h2
      omega
    | succ n ih =>
      intro g v h1 h2 h3 h4
      rw [qJ_fill_L5]
      refine ⟨fun z => hK g (fun w w1 w2 => h3 w w1 (by clear h3 ih hK; grind)), fun z => ?_⟩
      have hlt : v < 8 := Int32.not_le.mp z
      have hi := i_inc hlt
      refine ⟨vi2 h1 hlt (by show (8 : Int32).toInt ≤ l 20; rw [h]; decide), fun r3 e3 => ?_⟩
      have e4 : r3 = sA r 20 (upd g v.toNatClampNeg (-1)) := by rw [e3]; exact sA_sA _ _ _ _
      rw [e4]
      refine ih _ (v + 1) (by clear h3 ih hK; grind) (by clear h3 ih hK; grind) (fun w w1 w2 => ?_) (by omega)
      rw [updI g _ h1 w1]
      split
      · rfl
      · exact h3 w w1 (by clear h3 ih hK; grind)
  unfold qJ_fill
  refine ⟨9, ?_⟩
  have e1 : Int32.ofNat (ln (A0 l) 20) = 8 := by
    show Int32.ofNat (l 20) = 8
    rw [h]
    rfl
  rw [e1]
  have := key 9 (ar r 20) 0 (by decide) (by decide) (fun w w1 w2 => (nl0 w1 w2).elim) (by simp)
  rw [sA_id] at this
  exact this
theorem freshCopy_D {l : Nat → Nat} {r : S_} {t : Int32} (w : TT l r) (t1 : 0 ≤ t) (t2 : t < fi r 1) (hS : SG l r) (hA : TA (A0 l) r) : D2 (fun K a r k s => qY_freshCopy K a r k s t) l r (fun z l' r' => YR l r 0 l' r' ∧ FRS r' ∧ 0 ≤ z ∧ z < fi r' 11 ∧ (¬ ar r 5 t.toNatClampNeg &&& 1 = 0 → ¬ ar r' 20 ((0 : Int32)).toNatClampNeg = -1)) := by
  have hd : Det (fun ad (K0 : S_ → Prop) => qJ_fill (ad, l) 20 (fun r => K0 r) r (-1)) := det_qJ_fill (fun r => fun ad K h => ⟨r, h, fun _ _ h => h⟩)
  obtain ⟨r1, ⟨g, e1, hg⟩, h1⟩ := D1r (P := fun r1 => ∃ g, r1 = sA r 20 g ∧ ∀ v : Int32, 0 ≤ v → v < 8 → g v.toNatClampNeg = -1) hd (fill_ok w.2.1.2.2.2.2.2.2 (fun g hg => ⟨g, rfl, hg⟩))
  subst e1
  have c0 : 0 ≤ fi r 11 := by
    obtain ⟨⟨rh, ta, N, hI⟩, -⟩ := hS
    exact hI.2.1
  have f1 : FRS (sA r 20 g) := fun v v1 v2 => by
    show -1 ≤ g v.toNatClampNeg ∧ g v.toNatClampNeg < fi r 11
    rw [hg v v1 v2]
    exact ⟨by decide, by clear hS w hA h1 hg hd; grind⟩
  have b16 := (w.2.2.2 t t1 t2).2.2.2.1.2
  rw [il] at b16
  obtain ⟨z, l', r', k, s, ⟨q1, q2, q3, q4⟩, cc, cs, h⟩ := writeOut_D 18 l (sA r 20 g) t w t1 t2 (by show (ar r 4 t.toNatClampNeg).toInt < 18; simp at b16; omega) hS f1
  have e13 : fi r' 13 = fi r 13 := q1.2.2.1.1 13 (by decide)
  refine ⟨z, l', r', k, s, ⟨⟨q1.1, TA_mono hA (q1.2.2.1.1 5 (by decide)) (q1.2.2.1.2.1 18 (by decide)) q1.2.2.2.1 q1.2.2.2.2.1.1, Fr_trans (Fr_sA (by decide)) (Fr_mono q1.2.2.1 (by decide) (by decide)), q1.2.2.2.1, q1.2.2.2.2.1, by rw [e13]; omega, by rw [e13]; omega⟩, q1.2.1, q2, q3, q4⟩, cc, cs, fun ad K hK => ?_⟩
  show qY_freshCopy K (ad, l) r k s t
  unfold qY_freshCopy
  exact h1 ad _ ⟨k, s, 0, 0, rfl, rfl, h ad _ (fun ad' f _ => hK ad' f)⟩
theorem name_L {l : Nat → Nat} {r : S_} {x : Int32} (hA : TA (A0 l) r) : ∀ (m : Nat) (v : Int32), v.toInt + 1 = m → -1 ≤ v → v < fi r 5 → (∃ j, 0 ≤ j ∧ j < fi r 5 ∧ ∀ (ad : Nat → Nat) (KA : L_ → S_ → Nat → Nat → Int32 → Prop) (KB : L_ → S_ → Nat → Nat → Prop) (kc ks : Nat), KA (ad, l) r kc ks j → qY_typeOfName_L7 KA KB (m + 1) (ad, l) r kc ks x v) ∨ (∀ (ad : Nat → Nat) (KA : L_ → S_ → Nat → Nat → Int32 → Prop) (KB : L_ → S_ → Nat → Nat → Prop) (kc ks : Nat), KB (ad, l) r kc ks → qY_typeOfName_L7 KA KB (m + 1) (ad, l) r kc ks x v) := by
  intro m
  induction m with
  | zero =>
    intro v h1 h2 h3
    right
    intro ad KA KB kc ks hk
    rw [qY_typeOfName_L7]
    have : v < 0 := by rw [it]; simp; omega
    exact ⟨fun _ => hk, fun z => absurd this z⟩
  | succ m ih =>
    intro v h1 h2 h3
    have p0 : 0 ≤ v := by rw [il]; simp; omega
    have n0 : ¬ v < 0 := fun z => nl0 p0 z
    have hd : (v + -1).toInt = v.toInt - 1 := by
      have := ir v
      rw [i_add (by simp; omega) (by simp; omega)]
      simp
      omega
    have v17 : vp_in v (l 17) := vi2 p0 h3 (by
      have e17 : l 17 = 24 := hA.2.2.1
      have e5 := hA.2.1
      rw [il] at e5
      rw [e17]
      simpa using e5)
    by_cases e : ar r 17 v.toNatClampNeg = x
    · left
      refine ⟨v, p0, h3, fun ad KA KB kc ks hk => ?_⟩
      rw [qY_typeOfName_L7]
      exact ⟨fun z => absurd z n0, fun _ => ⟨v17, fun _ => hk, fun z => absurd e z⟩⟩
    · rcases ih (v + -1) (by omega) (by rw [il, hd]; simp; omega) (by rw [it, hd]; rw [it] at h3; omega) with ⟨j, j1, j2, j3⟩ | j3
      · left
        refine ⟨j, j1, j2, fun ad KA KB kc ks hk => ?_⟩
        rw [qY_typeOfName_L7]
        exact ⟨fun z => absurd z n0, fun _ => ⟨v17, fun z => absurd z e, fun _ => j3 ad KA KB kc ks hk⟩⟩
      · right
        intro ad KA KB kc ks hk
        rw [qY_typeOfName_L7]
        exact ⟨fun z => absurd z n0, fun _ => ⟨v17, fun z => absurd z e, fun _ => j3 ad KA KB kc ks hk⟩⟩
theorem typeOfName_D {l : Nat → Nat} {r : S_} {x : Int32} (hS : SG l r) (hA : TA (A0 l) r) (hb : fi r 13 < 2000000000) : D2 (fun K a r k s => qY_typeOfName K a r k s x) l r (fun z l' r' => YR l r 1 l' r' ∧ 0 ≤ z ∧ z < fi r' 11) := by
  have c5 := i_nat hA.1
  have a5 := hA.1
  have l18 : l 18 = 24 := hA.2.2.2.1
  have l19 : l 19 = 24 := hA.2.2.2.2.1
  have a24 := hA.2.1
  have hd : (fi r 5 - 1).toInt = (fi r 5).toInt - 1 := by
    rw [il] at a5
    have := ir (fi r 5)
    rw [i_sub (by simp at a5 ⊢; omega) (by simp at a5 ⊢; omega)]
    simp
  have v24 : ∀ j k, 0 ≤ j → j < fi r 5 → l k = 24 → vp_in j (l k) := fun j k j1 j2 hk => vi2 j1 j2 (by rw [hk]; rw [il] at a24; simpa using a24)
  rcases name_L (x := x) hA (fi r 5).toNatClampNeg (fi r 5 - 1) (by omega) (by rw [il, hd]; simp; omega) (by rw [it, hd]; omega) with ⟨j, j1, j2, j3⟩ | j3
  · have b := hA.2.2.2.2.2 j j1 j2
    by_cases hw : ar r 19 j.toNatClampNeg = -1
    · refine ⟨ar r 18 j.toNatClampNeg, l, r, 0, 0, ⟨⟨hS, hA, Fr_refl r, Int32.le_refl _, FG_refl l, by omega, by omega⟩, b.1, b.2⟩, by omega, by omega, fun ad K hK => ?_⟩
      show qY_typeOfName K (ad, l) r 0 0 x
      unfold qY_typeOfName
      refine ⟨_, j3 ad _ _ 0 0 ⟨v24 j 19 j1 j2 l19, fun z => absurd hw z, fun _ => ⟨v24 j 18 j1 j2 l18, hK ad (fx_refl _)⟩⟩⟩
    · obtain ⟨⟨rh, ta, N, hI⟩, hp, hv⟩ := hS
      obtain ⟨z, l', r', k, s, ⟨⟨t1, t2, t3, t4, t5, t6, t7, t8⟩, t9⟩, dc, ds, h8⟩ := copyOf_D (r := sF r 8 ((fi r 8) + (ar r 19 j.toNatClampNeg))) hI hp hv hb b.1 b.2
      have v0 := hv.1
      have e13 : (fi r' 13).toInt = (fi r 13).toInt + 1 := by
        have t9' : fi r' 13 = fi r 13 + 1 := t9
        rw [t9']
        exact i_inc hb
      refine ⟨z, l', r', k, s, ⟨⟨⟨t1, t2, t3⟩, TA_mono hA (t4.1 5 (by decide)) (t4.2.1 18 (by decide)) t5 t8.1, Fr_trans (Fr_sF (by decide)) (Fr_mono t4 (by decide) (by decide)), t5, t8, by omega, by omega⟩, t6, t7⟩, dc, ds, fun ad K hK => ?_⟩
      show qY_typeOfName K (ad, l) r k s x
      unfold qY_typeOfName
      refine ⟨_, j3 ad _ _ k s ⟨v24 j 19 j1 j2 l19, fun _ => ⟨v24 j 19 j1 j2 l19, fun r7 e7 => ⟨v24 j 18 j1 j2 l18, k, s, 0, 0, rfl, rfl, ?_⟩⟩, fun z => absurd z hw⟩⟩
      subst e7
      exact h8 ad _ (fun ad' f _ => hK ad' f)
  · obtain ⟨z, l', r', k, s, ⟨q1, q2, q3⟩, dc, ds, h8⟩ := newNode_Y (r := sF r 15 1) (p0 := -1) (p1 := -1) (p2 := -1) hS hA (by decide) (by decide) (by decide) (Or.inr rfl) (by decide) (Or.inr rfl)
    obtain ⟨b1, b2, b3, b4, b5, b6, b7⟩ := q1
    refine ⟨z, l', r', k, s, ⟨⟨b1, b2, Fr_trans (Fr_sF (by decide)) b3, b4, b5, b6, by have b7' : (fi r' 13).toInt ≤ (fi r 13).toInt + 0 := b7; omega⟩, q2, q3⟩, dc, ds, fun ad K hK => ?_⟩
    show qY_typeOfName K (ad, l) r k s x
    unfold qY_typeOfName
    refine ⟨_, j3 ad _ _ k s ⟨zb1, fun r19 e19 => ⟨k, s, 0, 0, rfl, rfl, ?_⟩⟩⟩
    subst e19
    exact h8 ad _ (fun ad' f _ => hK ad' f)
end TYPE
