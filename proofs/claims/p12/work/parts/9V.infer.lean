/-! The class's infer: it comes to an end, and what it makes. -/
section INFER
theorem tell_D {l : Nat → Nat} {r : S_} {rh ta rk : Int32 → Int32} {N : Int32} (hI : GI (A0 l) r rh ta N) (hac : ACY (fi r 11) (ar r 21) (ar r 22) (ar r 23) rh rk) (hp : PL l) (hv : VB r) (hb : fi r 13 < 2000000000) (hT : TL l) (h7 : 0 ≤ fi r 7) (h7b : fi r 7 < fi r 11) : ∃ (l' : Nat → Nat) (r' : S_) (k s : Nat), (TD l' r' ∧ VB r' ∧ GL (A0 l') ∧ PL l' ∧ FT l l' ∧ Ftl r r' ∧ fi r' 13 = fi r 13 + 1) ∧ k + pC l' ≤ pC l ∧ s + pS l' ≤ pS l ∧ ∀ (ad : Nat → Nat) (K : L_ → S_ → Prop), (∀ ad', fx (ad, l) (ad', l') → K (ad', l') r') → qY_tell K (ad, l) r k s := by
  have w0 := PW_start (acy := True) (rk := rk) hI hv hb (fun _ => hac)
  obtain ⟨r2, ⟨q1, q2, q3⟩, q4⟩ := walk_D w0 h7 h7b
  have e11 : fi r2 11 = fi r 11 := q2.1 11 (by decide) (by decide)
  have e13 : fi r2 13 = fi r 13 + 1 := q2.1 13 (by decide) (by decide)
  have g1 : GI (A0 l) r2 rh ta N := q1.1
  have ol := ordL q1
  have oc := i_nat ol.1
  have l4 : l 21 ≤ 4096 := g1.1.2.2.2.2.2.2.2.2.2.2.2
  have hcl : (fi r2 11).toInt ≤ l 21 := g1.2.2.1
  obtain ⟨l3, r3, k3, s3, ⟨t1, t2, t3, t4, t5, t6⟩, c1, c2, h3⟩ := restart_D (r := r2) (p0 := fi r2 12) (p1 := fi r2 8) hT ol.1 (by omega)
  have f11 : fi r3 11 = fi r2 11 := t6.1 11 (by decide)
  have f12 : fi r3 12 = fi r2 12 := t6.1 12 (by decide)
  have f13 : fi r3 13 = fi r2 13 := t6.1 13 (by decide)
  have f21 : ar r3 21 = ar r2 21 := t6.2 21 (by decide)
  have f22 : ar r3 22 = ar r2 22 := t6.2 22 (by decide)
  have f23 : ar r3 23 = ar r2 23 := t6.2 23 (by decide)
  have f28 : ar r3 28 = ar r2 28 := t6.2 28 (by decide)
  have f30 : ar r3 30 = ar r2 30 := t6.2 30 (by decide)
  have g3 : GI (A0 l3) r3 rh ta N := by
    have := GI_len g1 t3
    unfold GI at this ⊢
    rw [f11, f21, f22, f23]
    exact this
  have li : LI l3 r3 rh ta N (fi r2 12) (fun k => ar r2 30 k.toNatClampNeg) 0 := by
    refine ⟨g3, ?_, ⟨f12, ol.1, by rw [il, f11]; exact ol.2, t2⟩, fun k k1 k2 => ?_, fun j j1 j2 => (nl0 j1 j2).elim, ⟨⟨t1, ⟨by rw [t4]; decide, by rw [t4]; simp⟩, fun j j1 j2 => ?_⟩, by rw [t5]; decide, by rw [t5, t4]; decide⟩, t4⟩
    · unfold VB
      rw [f13, f28]
      exact q1.2.1
    · have b := ord_in q1 k1 k2
      have d := (q1.2.2.2.2.2.1 trivial).2.2.2 k k1 k2
      rw [f30, f11, f21, f22, f23]
      exact ⟨rfl, ⟨b.1, b.2.1⟩, b.2.2.1, d.1, d.2⟩
    · rw [t4] at j2
      exact (nl0 j1 j2).elim
  obtain ⟨r', ⟨u1, u2, u3, u4⟩, u5⟩ := tell_L (fi r2 12).toNatClampNeg l3 r3 rh ta N 0 li (by decide) ol.1 (by simp; omega)
  have hL3 : GL (A0 l3) := g3.1
  have hp3 : PL l3 := by
    unfold PL
    rw [t3 21 (by omega)]
    exact hp
  refine ⟨l3, r', k3, s3, ⟨u1, u2, hL3, hp3, t3, ?_, u4.trans (f13.trans e13)⟩, c1, c2, fun ad K hK => ?_⟩
  · refine Ftl_trans ?_ (Ftl_trans (Ftl_td t6) u3)
    exact Ftl_Fr (Fr_trans (Fr_trans (Fr_sF (F := [12, 13, 14]) (A := [22, 28, 29, 30, 31]) (k := 13) (v := fi r 13 + 1) (by decide)) (Fr_sF (by decide))) (Fr_w q2)) (by decide) (by decide)
  · unfold qY_tell
    exact startWalk_ok (q4 ad _ ⟨k3, s3, 0, 0, rfl, rfl, h3 ad _ (fun ad' f _ => ⟨_, u5 ad' K 0 0 (hK ad' f)⟩)⟩)
/-- the class between calls -/
def CR (l : Nat → Nat) (r : S_) : Prop := GL (A0 l) ∧ PL l ∧ VB r ∧ ST l r ∧ TD l r ∧ l 17 = 24 ∧ l 18 = 24 ∧ l 19 = 24
theorem GI_0 {l : Nat → Nat} {r : S_} (hL : GL (A0 l)) (h : fi r 11 = 0) : GI (A0 l) r id id 0 := by
  have hx : ∀ x : Int32, 0 ≤ x → x < fi r 11 → False := fun x x1 x2 => by rw [h] at x2; exact nl0 x1 x2
  refine ⟨hL, by rw [h]; decide, by rw [h]; simp, fun x x1 x2 => (hx x x1 x2).elim, ⟨by rw [h]; decide, fun x x1 x2 => (hx x x1 x2).elim⟩, ?_⟩
  unfold nmv
  rw [h]
  have : ((0 : Int32)).toNatClampNeg = 0 := rfl
  rw [this]
  rfl
theorem run_D {l : Nat → Nat} {r : S_} {e : Int32} (w : CR l r) (e1 : 0 ≤ e) (e2 : e < fi r 4) (e4 : ar r 16 e.toNatClampNeg ≤ 24) (hb : (fi r 13).toInt ≤ 1999980000) : D2 (fun K a r k s => qY_run K a r k s e) l r (fun z l' r' => SG l' r' ∧ Fy r r' ∧ FG l l' ∧ (fi r' 13).toInt ≤ (fi r 13).toInt + 100 ∧ (z = 0 → (0 ≤ fi r' 7 ∧ fi r' 7 < fi r' 11) ∧ ∃ rh ta N rk, GI (A0 l') r' rh ta N ∧ ACY (fi r' 11) (ar r' 21) (ar r' 22) (ar r' 23) rh rk)) := by
  obtain ⟨hL, hp, hv, hS, hTD, h17, h18, h19⟩ := w
  obtain ⟨r6, er6⟩ : ∃ r6, r6 = sF (sF (sF (sF (sF (sF r 11 0) 15 0) 5 0) 8 0) 9 0) 10 0 := ⟨_, rfl⟩
  have f6 : Fy r r6 := by
    rw [er6]
    exact Fr_trans (Fr_sF (by decide)) (Fr_trans (Fr_sF (by decide)) (Fr_trans (Fr_sF (by decide)) (Fr_trans (Fr_sF (by decide)) (Fr_trans (Fr_sF (by decide)) (Fr_sF (by decide))))))
  have z11 : fi r6 11 = 0 := by rw [er6]; rfl
  have z5 : fi r6 5 = 0 := by rw [er6]; rfl
  have z13 : fi r6 13 = fi r 13 := by rw [er6]; rfl
  have z28 : ar r6 28 = ar r 28 := by rw [er6]; rfl
  have tb6 : Tb r r6 := Tb_Fr f6 (by decide) (by decide)
  have y6 : YI l r6 := by
    refine ⟨⟨⟨id, id, 0, GI_0 hL z11⟩, hp, ?_⟩, ?_, ST_Tb hS tb6 (FL_refl l)⟩
    · unfold VB
      rw [z13, z28]
      exact hv
    · show 0 ≤ fi r6 5 ∧ fi r6 5 ≤ 24 ∧ l 17 = 24 ∧ l 18 = 24 ∧ l 19 = 24 ∧ ∀ i, 0 ≤ i → i < fi r6 5 → 0 ≤ ar r6 18 i.toNatClampNeg ∧ ar r6 18 i.toNatClampNeg < fi r6 11
      rw [z5]
      exact ⟨by decide, by decide, h17, h18, h19, fun i i1 i2 => (nl0 i1 i2).elim⟩
  have e16 : ar r6 16 = ar r 16 := tb6.2 16 (by omega)
  have e4' : (ar r 16 e.toNatClampNeg).toInt ≤ 24 := by rw [il] at e4; simpa using e4
  obtain ⟨z1, l1, r1, k1, s1, ⟨p1, p2, p3⟩, c1, d1, h1⟩ := typeOf_D 26 l r6 e y6 e1 (by rw [tb6.1 4 (by omega)]; exact e2) (by rw [e16]; omega) (by rw [e16]; exact e4) (by rw [e16, z13]; omega)
  rw [e16] at p1
  have w1 := YI_R y6 p1
  obtain ⟨r2, er2⟩ : ∃ r2, r2 = sF r1 7 z1 := ⟨_, rfl⟩
  have f2 : Fr [7] [] r1 r2 := by rw [er2]; exact Fr_sF (by decide)
  have w2 : YI l1 r2 := by rw [er2]; exact w1
  have z2_11 : fi r2 11 = fi r1 11 := f2.1 11 (by decide)
  have z2_7 : fi r2 7 = z1 := by rw [er2]; rfl
  have z2_13 : fi r2 13 = fi r1 13 := f2.1 13 (by decide)
  have v1 := p1.2.2.2.2.2.2
  rw [z13] at v1
  have c0 : 0 ≤ fi r2 11 := by
    obtain ⟨⟨⟨rh, ta, N, hI⟩, -⟩, -⟩ := w2
    exact hI.2.1
  obtain ⟨z3, r3, q1, q2, qS, h3⟩ := settle_D (p0 := 0) (p1 := z1) w2 (by rw [it, z2_13]; simp; omega) (by decide) c0 p2 (by rw [z2_11]; exact p3)
  have w3 := YI_R w2 q1
  have f3 : Fy r r3 := Fr_trans f6 (Fr_trans p1.2.2.1 (Fr_trans (Fr_mono f2 (by decide) (by decide)) q1.2.2.1))
  have v3 : (fi r3 13).toInt ≤ (fi r 13).toInt + 99 := by
    have := q1.2.2.2.2.2.2
    rw [z2_13] at this
    omega
  have fg : FG l l1 := p1.2.2.2.2.1
  have z7 : fi r3 7 = z1 := (qS.1.1 7 (by decide)).trans z2_7
  have tail : ∀ (ad : Nat → Nat) (K : Int32 → L_ → S_ → Prop), (∀ ad', fx (ad, l) (ad', l1) → ((¬ (fi r3 15) = 0) → K (-2) (ad', l1) r3) ∧ (((fi r3 15) = 0) → qG_isCircular (ad', l1) (fun z19 r20 => zb z19 → ((z19 = 0) → (((fi r20 9) = 0) → (((fi r20 10) = 0) → K 0 (ad', l1) r20) ∧ ((¬ (fi r20 10) = 0) → K (-5) (ad', l1) r20)) ∧ ((¬ (fi r20 9) = 0) → K (-4) (ad', l1) r20)) ∧ ((¬ z19 = 0) → K (-2) (ad', l1) r20)) r3)) → qY_run K (ad, l) r k1 s1 e := by
    intro ad K hk
    unfold qY_run qG_clear
    intro ra ea
    refine ⟨zb0, fun rb eb rc ec rd ed => ⟨zb0, fun re ee => ⟨zb0, fun rf ef => ⟨k1, s1, 0, 0, rfl, rfl, ?_⟩⟩⟩⟩
    have e6 : rf = r6 := by rw [ef, ee, ed, ec, eb, ea, er6]
    rw [e6]
    refine h1 ad _ (fun ad1 f1 _ r15 e15 => ?_)
    have e7 : r15 = r2 := by rw [e15, er2]
    rw [e7, z2_7]
    exact h3 ad1 _ (hk ad1 f1)
  by_cases hc : fi r3 15 = 0
  · obtain ⟨⟨⟨rh, ta, N, hI⟩, hp3, hv3⟩, -, -⟩ := w3
    have hd : Det (fun ad (K0 : Int32 × S_ → Prop) => qG_isCircular (ad, l1) (fun z r => K0 (z, r)) r3) := det_qG_isCircular (fun z r _ => fun ad K h => ⟨(z, r), h, fun _ _ h => h⟩)
    obtain ⟨z4, r4, ⟨g1, g2, g3, g4, g5, g6⟩, h4⟩ := D1 (P := fun z r' => GI (A0 l1) r' rh ta N ∧ VB r' ∧ Fr [12, 13, 14] [22, 28, 29, 30, 31] r3 r' ∧ fi r' 13 = fi r3 13 + 1 ∧ (z = 0 → ∃ rk, ACY (fi r' 11) (ar r' 21) (ar r' 22) (ar r' 23) rh rk) ∧ zb z) hd (isCircular_ok hI hv3 (by rw [it]; simp; omega) (fun z r' k1 k2 k3 k4 k5 k6 k7 => ⟨k1, k2, k3, k5, k6, k7⟩))
    have h4' : ∀ (ad : Nat → Nat) (K : Int32 → S_ → Prop), K z4 r4 → qG_isCircular (ad, l1) K r3 := fun ad K hk => h4 ad K hk
    have f4 : Fy r r4 := Fr_trans f3 (Fr_mono g3 (by decide) (by decide))
    have v4 : (fi r4 13).toInt ≤ (fi r 13).toInt + 100 := by
      rw [g4, i_inc (y := 2000000000) (by rw [it]; simp; omega)]
      omega
    have sg4 : SG l1 r4 := ⟨⟨rh, ta, N, g1⟩, hp3, g2⟩
    have a7 : fi r4 7 = z1 := (g3.1 7 (by decide)).trans z7
    have a11 : fi r4 11 = fi r1 11 := (g3.1 11 (by decide)).trans (q2.trans z2_11)
    by_cases hz : z4 = 0
    · by_cases h9 : fi r4 9 = 0
      · by_cases h10 : fi r4 10 = 0
        · refine ⟨0, l1, r4, k1, s1, ⟨sg4, f4, fg, v4, fun _ => ⟨⟨by rw [a7]; exact p2, by rw [a7, a11]; exact p3⟩, ?_⟩⟩, c1, d1, fun ad K hK => tail ad K (fun ad' f => ⟨fun z => absurd hc z, fun _ => h4' ad' _ (fun _ => ⟨fun _ => ⟨fun _ => ⟨fun _ => hK ad' f, fun z => absurd h10 z⟩, fun z => absurd h9 z⟩, fun z => absurd hz z⟩)⟩)⟩
          obtain ⟨rk, hrk⟩ := g5 hz
          exact ⟨rh, ta, N, rk, g1, hrk⟩
        · exact ⟨-5, l1, r4, k1, s1, ⟨sg4, f4, fg, v4, fun z => absurd z (by decide)⟩, c1, d1, fun ad K hK => tail ad K (fun ad' f => ⟨fun z => absurd hc z, fun _ => h4' ad' _ (fun _ => ⟨fun _ => ⟨fun _ => ⟨fun z => absurd z h10, fun _ => hK ad' f⟩, fun z => absurd h9 z⟩, fun z => absurd hz z⟩)⟩)⟩
      · exact ⟨-4, l1, r4, k1, s1, ⟨sg4, f4, fg, v4, fun z => absurd z (by decide)⟩, c1, d1, fun ad K hK => tail ad K (fun ad' f => ⟨fun z => absurd hc z, fun _ => h4' ad' _ (fun _ => ⟨fun _ => ⟨fun z => absurd z h9, fun _ => hK ad' f⟩, fun z => absurd hz z⟩)⟩)⟩
    · exact ⟨-2, l1, r4, k1, s1, ⟨sg4, f4, fg, v4, fun z => absurd z (by decide)⟩, c1, d1, fun ad K hK => tail ad K (fun ad' f => ⟨fun z => absurd hc z, fun _ => h4' ad' _ (fun _ => ⟨fun z => absurd z hz, fun _ => hK ad' f⟩)⟩)⟩
  · exact ⟨-2, l1, r3, k1, s1, ⟨w3.1, f3, fg, by omega, fun z => absurd z (by decide)⟩, c1, d1, fun ad K hK => tail ad K (fun ad' f => ⟨fun _ => hK ad' f, fun z => absurd z hc⟩)⟩
/-- the reference's side untouched -/
def Fm (r r' : S_) : Prop := (∀ k, 20 ≤ k → fi r' k = fi r k) ∧ ∀ k, 36 ≤ k → ar r' k = ar r k
theorem Fm_Fr {F A : List Nat} {r r' : S_} (w : Fr F A r r') (h1 : ∀ k ∈ F, k < 20) (h2 : ∀ k ∈ A, k < 36) : Fm r r' := ⟨fun k hk => w.1 k (fun z => by have := h1 k z; omega), fun k hk => w.2.1 k (fun z => by have := h2 k z; omega)⟩
theorem Fm_trans {r1 r2 r3 : S_} (h : Fm r1 r2) (h2 : Fm r2 r3) : Fm r1 r3 := ⟨fun k hk => (h2.1 k hk).trans (h.1 k hk), fun k hk => (h2.2 k hk).trans (h.2 k hk)⟩
theorem Tb_l {r r' : S_} (w : Ftl r r') : Tb r r' := ⟨fun k hk => w.1 k (by simp; omega), fun k hk => w.2 k (by simp; omega)⟩
theorem Fm_l {r r' : S_} (w : Ftl r r') : Fm r r' := ⟨fun k hk => w.1 k (by simp; omega), fun k hk => w.2 k (by simp; omega)⟩
theorem TD_F {l l' : Nat → Nat} {r r' : S_} (w : TD l r) (f : Fy r r') (g : FG l l') : TD l' r' := by
  have e16 : fi r' 16 = fi r 16 := f.1 16 (by decide)
  have e17 : fi r' 17 = fi r 17 := f.1 17 (by decide)
  have e33 : ar r' 33 = ar r 33 := f.2.1 33 (by decide)
  have e34 : ar r' 34 = ar r 34 := f.2.1 34 (by decide)
  have e0 : la r' 0 = la r 0 := f.2.2 0
  have es : ∀ x, sz r' x = sz r x := fun x => by unfold sz; rw [e0]
  obtain ⟨-, g32, g33, g34, g35, g89⟩ := g
  unfold TD TD0 TL at w ⊢
  rw [e16, e17, e33, e34, e0, g32, g33, g34, g35, g89]
  refine ⟨⟨w.1.1, w.1.2.1, fun j j1 j2 => ?_⟩, w.2⟩
  rw [es, es]
  exact w.1.2.2 j j1 j2
theorem infer_D {l : Nat → Nat} {r : S_} {e : Int32} (w : CR l r) (hb : (fi r 13).toInt ≤ 1999980000) : D2 (fun K a r k s => qI_infer K a r k s e) l r (fun _ l' r' => CR l' r' ∧ Tb r r' ∧ Fm r r' ∧ FL l l' ∧ (fi r' 13).toInt ≤ (fi r 13).toInt + 110) := by
  have w' := w
  obtain ⟨hL, hp, hv, hS, hTD, h17, h18, h19⟩ := w
  have hET := hS.2.2
  have stay : ∀ z, D2 (fun K a r k s => K z a r) l r (fun _ l' r' => CR l' r' ∧ Tb r r' ∧ Fm r r' ∧ FL l l' ∧ (fi r' 13).toInt ≤ (fi r 13).toInt + 110) := fun z => ⟨z, l, r, 0, 0, ⟨w', ⟨fun _ _ => rfl, fun _ _ => rfl⟩, ⟨fun _ _ => rfl, fun _ _ => rfl⟩, FL_refl l, by omega⟩, by omega, by omega, fun ad K hK => hK ad (fx_refl _)⟩
  by_cases e1 : e < 0
  · obtain ⟨z, l', r', k, s, p, c, d, h⟩ := stay (-1)
    refine ⟨z, l', r', k, s, p, c, d, fun ad K hK => ?_⟩
    show qI_infer K (ad, l) r k s e
    unfold qI_infer qE_has
    exact ⟨fun _ => ⟨zb0, fun _ => ⟨fun z => absurd rfl z, fun _ => h ad K hK⟩⟩, fun z => absurd e1 z⟩
  by_cases e2 : fi r 4 ≤ e
  · obtain ⟨z, l', r', k, s, p, c, d, h⟩ := stay (-1)
    refine ⟨z, l', r', k, s, p, c, d, fun ad K hK => ?_⟩
    show qI_infer K (ad, l) r k s e
    unfold qI_infer qE_has
    exact ⟨fun z => absurd z e1, fun _ => ⟨fun _ => ⟨zb0, fun _ => ⟨fun z => absurd rfl z, fun _ => h ad K hK⟩⟩, fun z => absurd e2 z⟩⟩
  have p1 : 0 ≤ e := by clear w' hS hTD hET stay hL; grind
  have p2 : e < fi r 4 := Int32.not_le.mp e2
  have v16 : vp_in e (l 16) := vi2 p1 p2 (by rw [hET.2.1.2.2.2.2]; have := hET.1.2; rw [il] at this; simpa using this)
  by_cases e4 : ar r 16 e.toNatClampNeg ≤ 24
  · obtain ⟨z1, l1, r1, k1, s1, ⟨g1, g2, g3, g4, g5⟩, c1, d1, h1⟩ := run_D w' p1 p2 e4 hb
    have tb1 : Tb r r1 := Tb_Fr g2 (by decide) (by decide)
    have fm1 : Fm r r1 := Fm_Fr g2 (by decide) (by decide)
    by_cases hz : z1 = 0
    · obtain ⟨⟨a1, a2⟩, rh, ta, N, rk, hI, hac⟩ := g5 hz
      have tl1 : TL l1 := by
        obtain ⟨-, q32, q33, q34, q35, q89⟩ := g3
        have := hTD.1.1
        unfold TL at this ⊢
        rw [q32, q33, q34, q35, q89]
        exact this
      obtain ⟨l2, r2, k2, s2, ⟨u1, u2, u3, u4, u5, u6, u7⟩, c2, d2, h2⟩ := tell_D hI hac g1.2.1 g1.2.2 (by rw [it]; simp; omega) tl1 a1 a2
      have fl2 : FL l l2 := fun k hk => (u5 k (by omega)).trans (g3.1 k hk)
      have tb2 : Tb r r2 := Tb_trans tb1 (Tb_l u6)
      have v0 := g1.2.2.1
      have e13 : (fi r2 13).toInt = (fi r1 13).toInt + 1 := by
        rw [u7]
        exact i_inc (y := 2000000000) (by rw [it]; simp; omega)
      obtain ⟨zn, hzn⟩ : ∃ zn, ∀ (ad : Nat → Nat) (K : Int32 → Prop), K zn → qD_nodes (ad, l2) r2 K := by
        have td := u1.1
        by_cases h16 : fi r2 16 = 0
        · exact ⟨0, fun ad K hk => ⟨fun z => absurd h16 z, fun _ => hk⟩⟩
        · have k1 := td.2.1.1
          have k2 := td.2.1.2
          have k3 : l2 89 = l2 32 := td.1.2.2.2.1
          have k4 : 0 ≤ fi r2 16 - 1 ∧ fi r2 16 - 1 < fi r2 16 := by clear w' hS hTD hET stay hL td u1; grind
          exact ⟨_, fun ad K hk => ⟨fun _ => ⟨vi2 k4.1 k4.2 (by show (fi r2 16).toInt ≤ l2 89; rw [k3]; exact k2), hk⟩, fun z => absurd z h16⟩⟩
      refine ⟨zn, l2, r2, k1 + k2, s1 + s2, ⟨⟨u3, u4, u2, ST_Tb hS tb2 fl2, u1, ?_, ?_, ?_⟩, tb2, Fm_trans fm1 (Fm_l u6), fl2, by omega⟩, by omega, by omega, fun ad K hK => ?_⟩
      · rw [fl2 17 (by omega)]; exact h17
      · rw [fl2 18 (by omega)]; exact h18
      · rw [fl2 19 (by omega)]; exact h19
      · show qI_infer K (ad, l) r _ _ e
        unfold qI_infer qE_has
        refine ⟨fun z => absurd z e1, fun _ => ⟨fun z => absurd z e2, fun _ => ⟨zb1, fun _ => ⟨fun _ => ?_, fun z => absurd z (by decide)⟩⟩⟩⟩
        unfold qE_nodesOf
        refine ⟨v16, fun _ => ⟨k1, s1, k2, s2, rfl, rfl, ?_⟩, fun z => absurd e4 z⟩
        refine h1 ad _ (fun ad1 f1 _ => ⟨fun _ => ⟨k2, s2, 0, 0, rfl, rfl, ?_⟩, fun z => absurd hz z⟩)
        refine h2 ad1 _ (fun ad2 f2 _ => ?_)
        exact hzn ad2 _ (hK ad2 (fx_trans f1 f2))
    · refine ⟨z1, l1, r1, k1, s1, ⟨⟨?_, g1.2.1, g1.2.2, ST_Tb hS tb1 g3.1, TD_F hTD g2 g3, ?_, ?_, ?_⟩, tb1, fm1, g3.1, by omega⟩, c1, d1, fun ad K hK => ?_⟩
      · obtain ⟨⟨rh, ta, N, hI⟩, -⟩ := g1
        exact hI.1
      · rw [g3.1 17 (by omega)]; exact h17
      · rw [g3.1 18 (by omega)]; exact h18
      · rw [g3.1 19 (by omega)]; exact h19
      · show qI_infer K (ad, l) r _ _ e
        unfold qI_infer qE_has
        refine ⟨fun z => absurd z e1, fun _ => ⟨fun z => absurd z e2, fun _ => ⟨zb1, fun _ => ⟨fun _ => ?_, fun z => absurd z (by decide)⟩⟩⟩⟩
        unfold qE_nodesOf
        refine ⟨v16, fun _ => ⟨k1, s1, 0, 0, rfl, rfl, ?_⟩, fun z => absurd e4 z⟩
        exact h1 ad _ (fun ad1 f1 _ => ⟨fun z => absurd z hz, fun _ => hK ad1 f1⟩)
  · obtain ⟨z, l', r', k, s, p, c, d, h⟩ := stay (-3)
    refine ⟨z, l', r', k, s, p, c, d, fun ad K hK => ?_⟩
    show qI_infer K (ad, l) r k s e
    unfold qI_infer qE_has
    refine ⟨fun z => absurd z e1, fun _ => ⟨fun z => absurd z e2, fun _ => ⟨zb1, fun _ => ⟨fun _ => ?_, fun z => absurd z (by decide)⟩⟩⟩⟩
    unfold qE_nodesOf
    exact ⟨v16, fun z => absurd z e4, fun _ => h ad K hK⟩
end INFER
