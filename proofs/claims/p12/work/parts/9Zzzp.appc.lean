/-! Typing in the class: APPLY. -/
section ZAPPC
variable {T : Tbz} {d : Nat} {e : Int32} {Γ : List En} {c t c' : Int32} {V V' : (Int32 → Ut) → Prop} {W : Int32 → Nat → Prop} {k am : Prop} {p : Int}
theorem zTY_k2 (h0 : tK T e = 2) (hV : ∀ ρ, V' ρ → V ρ) (hL : zLoc c' V') (hc : c ≤ c') (ht : 0 ≤ t ∧ t < c') (h : ∃ x1 c1 V1 W1 k1 am1 p1 x2 c2 V2 W2 k2 am2 p2 ar, zTY T d (tA T e) Γ c V x1 c1 V1 W1 k1 am1 p1 ∧ zTY T d (tB T e) Γ c1 V1 x2 c2 V2 W2 k2 am2 p2 ∧ (c2 ≤ t ∧ c2 ≤ ar ∧ ¬ t = ar) ∧ zLoc c1 V1 ∧ zLoc c2 V2 ∧ (c ≤ c1 ∧ c1 ≤ c2 ∧ (0 ≤ x1 ∧ x1 < c1) ∧ (0 ≤ x2 ∧ x2 < c2)) ∧ (∀ ρ, V' ρ ↔ V2 ρ ∧ ρ ar = Jn 0 (ρ x2) (ρ t) ∧ ρ x1 = ρ ar) ∧ (∀ x cl, W x cl ↔ W1 x cl ∨ W2 x cl) ∧ (k ↔ k1 ∨ k2) ∧ (am ↔ am1 ∨ am2) ∧ p = p1 + p2) : zTY T (d + 1) e Γ c V t c' V' W k am p := by
  rw [zTY]
  refine ⟨hV, Or.inr ⟨hL, hc, ht, Or.inr (Or.inr (Or.inl h0)), fun q => ?_, fun q => ?_, fun _ => h, fun q => ?_, fun q => ?_, fun q => ?_⟩⟩ <;> (rw [h0] at q; exact absurd q (by decide))
theorem PRc_next {l' : Nat → Nat} {r r' : S_} {rh rh' ta ta' : Int32 → Int32} {a : L_} {N N' : Int32} {A A' : Int32 → Prop} {E m m' : Nat} {mm : Int} (hI : GI a r rh ta N) (hI' : GI (A0 l') r' rh' ta' N') (ay' : AYc r') (pr : PRc r rh Γ A E m) (a5 : AR r mm r') (fm : FRM r rh A r' rh' A') (bk : BK r') (hv : ∃ ρ, cV r' ρ) (rm : 9 * (fi r' 11).toInt + ((E + 2) * mt m' : Nat) ≤ 36882) : PRc r' rh' Γ A' E m' := ⟨hv, EG_AR pr.2.1 a5, fm.2.2.2.1, fun y hy => ⟨⟨(pr.2.2.2.1 y hy).1.1, zo3 (pr.2.2.2.1 y hy).1.2 fm.1⟩, (fm.2.1 y (pr.2.2.2.1 y hy).1.1 (pr.2.2.2.1 y hy).1.2).1 (pr.2.2.2.1 y hy).2⟩, LTS_frm hI hI' ay' pr.2.2.1 fm Γ pr.2.2.2.2.1, bk, rm, pr.2.2.2.2.2.2.2⟩
theorem TYc_app (ih : HTc d) {ad l : Nat → Nat} {r : S_} {rh ta : Int32 → Int32} {N : Int32} {A : Int32 → Prop} {E ma mb : Nat} {K : Int32 → L_ → S_ → Prop} (w : TP0 l r (1 + (ma : Int) + mb)) (hI : GI (A0 l) r rh ta N) (tx : TBX r) (ma1 : 1 ≤ ma) (mb1 : 1 ≤ mb) (m2 : ma + mb + 1 ≤ 24) (pr : PRc r rh Γ A E (ma + mb + 1)) (hk : ar r 12 e.toNatClampNeg = 2) (hma : (ar r 16 (ar r 13 e.toNatClampNeg).toNatClampNeg).toInt = ma) (hmb : (ar r 16 (ar r 14 e.toNatClampNeg).toNatClampNeg).toInt = mb) (a1 : 0 ≤ ar r 13 e.toNatClampNeg) (a2 : ar r 13 e.toNatClampNeg < fi r 4) (b1 : 0 ≤ ar r 14 e.toNatClampNeg) (b2 : ar r 14 e.toNatClampNeg < fi r 4) (a3 : ma < d) (b3 : mb < d) (hK : ∀ z ad' l' r', PSc r rh Γ A E (ma + mb + 1) (d + 1) e z l' r' → K z (ad', l') r') : wY_typeOfApply (wY_typeOf d) K (ad, l) r (ar r 13 e.toNatClampNeg) (ar r 14 e.toNatClampNeg) := by
  unfold wY_typeOfApply
  obtain ⟨y, ay, ty, ar2, h13, h5, h60, h6⟩ := w
  have w : TP0 l r (1 + (ma : Int) + mb) := ⟨y, ay, ty, ar2, h13, h5, h60, h6⟩
  have pr0 := pr
  obtain ⟨⟨ρ0, v0⟩, eg, hA, hlm, lts, bk, rm, hE⟩ := pr
  have c0 := SG_c y.1
  have mtl := Nat.mul_le_mul_left (E + 2) (mt_two ma1 mb1 m2).1
  have qtl := Nat.mul_le_mul_left (E + 2) (qt_two ma1 mb1 m2).1
  rw [Nat.mul_add] at mtl qtl
  have w1 : TP0 l r ma := TP0_Tb w y ay ⟨fun _ _ => rfl, fun _ _ => rfl⟩ (by omega) (by omega) h60 (by omega)
  have pr1 : PRc r rh Γ A E ma := ⟨⟨ρ0, v0⟩, eg, hA, hlm, lts, bk, by omega, hE⟩
  refine ih ad l r rh ta N (ar r 13 e.toNatClampNeg) Γ A E ma _ hma w1 hI tx a1 a2 a3 (by omega) pr1 (fun x1 ad1 l1 r1 m1 q1 y1 x10 x11 ps1 _ => ?_)
  have tb1 : Tb r r1 := Tb_Fr y1.2.2.1 (by decide) (by decide)
  have t16 : ar r1 16 = ar r 16 := tb1.2 16 (by omega)
  have v13 := y1.2.2.2.2.2.2
  have v6 := q1.2.2
  have w2 : TP0 l1 r1 mb := TP0_Tb w (YI_R y y1) m1.2.1 tb1 (by omega) (by rw [q1.1]; omega) (by omega) (by omega)
  obtain ⟨t1, c1, W1, k1, am1, p1, hz1, ⟨hl1, hc1, ht1⟩, hb1, hpo1⟩ := ps1
  -- past all solutions
  have tail : ∀ (ad2 l2 : Nat → Nat) (r2 : S_) (x2 : Int32) (t2 c2 : Int32) (W2 : Int32 → Nat → Prop) (k2 am2 : Prop) (p2 : Int), MO r1 l2 r2 → ar r2 0 ((0 : Int32)).toNatClampNeg = 2 → 0 ≤ x2 → x2 < fi r2 11 → (∀ ρ, ¬ cV r2 ρ) → zTY (ctb r) d (ar r 14 e.toNatClampNeg) Γ c1 (cV r1) t2 c2 (cV r2) W2 k2 am2 p2 → c1 ≤ c2 → (0 ≤ t2 ∧ t2 < c2) → c2.toInt ≤ 4096 + 2 * ma + 2 * mb → wG_newNode (fun z15 a17 r16 => fx (ad2, l2) a17 → wG_newNode (fun z22 a24 r23 => fx a17 a24 → wG_unify a24 (fun r29 => K z15 a24 r29) r23 x1 z22) a17 r16 0 x2 z15) (ad2, l2) r2 (-1) (-1) (-1) := by
    intro ad2 l2 r2 x2 t2 c2 W2 k2 am2 p2 m2' ar0 x20 x21 nv hz2 hc2 ht2 hb2
    refine MO_new m2'.1 m2'.2.1 (by decide) (by decide) (by decide) (Or.inr rfl) (by decide) (Or.inr rfl) (fun z => absurd z (by decide)) (fun _ => ⟨rfl, rfl⟩) (fun z3 ad3 l3 r3 m3 f3 g3 z30 z31 _ => ?_)
    have ar3 : ar r3 0 ((0 : Int32)).toNatClampNeg = 2 := by rw [show ar r3 0 = ar r2 0 from f3.2.1 0 (by decide)]; exact ar0
    refine MO_new m3.1 m3.2.1 (by decide) (by decide) (m1le x20) (Or.inl (zo3 x21 m3.2.2.2)) (m1le z30) (Or.inl z31) (arr2 ar3 x20 z30) (fun q => absurd q (by decide)) (fun z4 ad4 l4 r4 m4 f4 g4 z40 z41 _ => ?_)
    refine MO_unify m4.1 m4.2.1 x10 (zo3 x11 (zo2 m2'.2.2.2 (zo2 m3.2.2.2 m4.2.2.2))) z40 z41 (fun r5 m5 f5 => ?_)
    have nv5 : ∀ ρ, ¬ cV r5 ρ := fun ρ h => nv ρ (m3.2.2.1 ρ (m4.2.2.1 ρ (m5.2.2.1 ρ h)))
    have i1 := i32_1 (x := c2) (by omega)
    have i2 := i32_1 (x := c2 + 1) (by rw [i1.1]; omega)
    have lo : zLoc (c2 + 1 + 1) (cV r5) := fun ρ _ _ h => absurd h (nv5 ρ)
    have cc2 : 0 ≤ c2 := zo2 ht2.1 (zo4 ht2.2)
    have lt2 : c2 < c2 + 1 + 1 := zo3 i1.2.1 i2.2.2
    refine hK z3 ad4 l4 r5 ⟨c2, c2 + 1 + 1, fun x cl => W1 x cl ∨ W2 x cl, k1 ∨ k2, am1 ∨ am2, p1 + p2, zTY_k2 hk (fun ρ h => absurd h (nv5 ρ)) lo (zo2 hc1 (zo2 hc2 (zo4 lt2))) ⟨cc2, lt2⟩ ⟨t1, c1, cV r1, W1, k1, am1, p1, t2, c2, cV r2, W2, k2, am2, p2, c2 + 1, hz1, hz2, ⟨Int32.le_refl _, i1.2.2, fun q => absurd (show c2 < c2 by rw [← q] at i1; exact i1.2.1) irr⟩, hl1, fun ρ _ _ h => absurd h (nv ρ), ⟨hc1, hc2, ht1, ht2⟩, fun ρ => ⟨fun h => absurd h (nv5 ρ), fun h => absurd h.1 (nv ρ)⟩, fun _ _ => Iff.rfl, Iff.rfl, Iff.rfl, rfl⟩, ⟨lo, zo2 hc1 (zo2 hc2 (zo4 lt2)), cc2, lt2⟩, by rw [i2.1, i1.1]; omega, fun ⟨ρ, h⟩ => absurd h (nv5 ρ)⟩
  have ar1 : ar r1 0 ((0 : Int32)).toNatClampNeg = 2 := w2.2.2.2.1
  have b2' : ar r 14 e.toNatClampNeg < fi r1 4 := by rw [tb1.1 4 (by omega)]; exact b2
  by_cases hv1 : ∃ ρ, cV r1 ρ
  · obtain ⟨et, ec, rh1, ta1, N1, g1, ⟨fl9, fl10, fl8⟩, bk1, ⟨A1, fm1, hx1, wok1, L1, hL1, nL1⟩, mk1⟩ := hpo1 hv1
    subst et
    subst ec
    have pr2 : PRc r1 rh1 Γ A1 E mb := PRc_next hI g1 m1.2.1 pr0 q1 fm1 bk1 hv1 (by omega)
    refine ih ad1 l1 r1 rh1 ta1 N1 (ar r 14 e.toNatClampNeg) Γ A1 E mb _ (by rw [t16]; exact hmb) w2 g1 (TBX_Tb tx tb1) b1 b2' b3 (by omega) pr2 (fun x2 ad2 l2 r2 m2' q2 y2 x20 x21 ps2 _ => ?_)
    obtain ⟨t2, c2, W2, k2, am2, p2, hz2, ⟨hl2, hc2, ht2⟩, hb2, hpo2⟩ := ps2
    rw [ctb_Tb tb1] at hz2
    have ar2' : ar r2 0 ((0 : Int32)).toNatClampNeg = 2 := by rw [show ar r2 0 = ar r1 0 from y2.2.2.1.2.1 0 (by decide)]; exact ar1
    by_cases hv2 : ∃ ρ, cV r2 ρ
    rotate_left
    · exact tail ad2 l2 r2 x2 t2 c2 W2 k2 am2 p2 m2' ar2' x20 x21 (fun ρ h => hv2 ⟨ρ, h⟩) hz2 hc2 ht2 (by omega)
    · obtain ⟨et, ec, rh2, ta2, N2, g2, ⟨gl9, gl10, gl8⟩, bk2, ⟨A2, fm2, hx2, wok2, L2, hL2, nL2⟩, mk2⟩ := hpo2 hv2
      subst et
      subst ec
      have lt2 : fi r2 11 < 4096 := by rw [it, show (4096 : Int32).toInt = 4096 from rfl]; omega
      have inc2 := i_inc lt2
      have c20 : 0 ≤ fi r2 11 := (SG_c m2'.1).1
      have im2 : A2 (rh2 t1) := (fm2.2.1 t1 x10 x11).1 hx1
      have h62 : 0 ≤ (fi r2 6).toInt := by have := q2.2.2.1; omega
      refine ws_nodeC (A := A2) m2'.1 g2 m2'.2.1 lt2 (by decide) (by decide) (by decide) (Or.inr rfl) (by decide) (Or.inr rfl) (fun z => absurd z (by decide)) (fun _ => ⟨rfl, rfl⟩) fm2.2.2.2.1 (Or.inl rfl) (Or.inl rfl) (fun ad3 l3 r3 rh3 g3 m3 f3 fg3 e311 rz3 n3 fm3 vc3 bk3 as3 _ => ?_)
      have i3 : (fi r3 11).toInt = (fi r2 11).toInt + 1 := by rw [e311]; exact inc2
      have lt3 : fi r3 11 < 4096 := by rw [it, show (4096 : Int32).toInt = 4096 from rfl]; omega
      have inc3 := i_inc lt3
      have r23 : fi r2 11 < fi r3 11 := by rw [it]; omega
      have ar3 : ar r3 0 ((0 : Int32)).toNatClampNeg = 2 := by rw [show ar r3 0 = ar r2 0 from f3.2.1 0 (by decide)]; exact ar2'
      refine ws_nodeC (A := fun x => A2 x ∨ x = fi r2 11) m3.1 g3 m3.2.1 lt3 (by decide) (by decide) (m1le x20) (Or.inl (ltt x21 r23)) (m1le c20) (Or.inl r23) (arr2 ar3 x20 c20) (fun q => absurd q (by decide)) fm3.2.2.2.1 (Or.inr (by rw [n3 _ x20 x21]; exact Or.inl hx2)) (Or.inr (Or.inr rz3)) (fun ad4 l4 r4 rh4 g4 m4 f4 fg4 e411 rz4 n4 fm4 vc4 bk4 as4 _ => ?_)
      have i4 : (fi r4 11).toInt = (fi r3 11).toInt + 1 := by rw [e411]; exact inc3
      have r34 : fi r3 11 < fi r4 11 := by rw [it]; omega
      have c30 : 0 ≤ fi r3 11 := zo2 c20 (zo4 r23)
      have x1r2 : t1 < fi r2 11 := zo3 x11 m2'.2.2.2
      have x1r3 : t1 < fi r3 11 := ltt x1r2 r23
      have im4 : A2 (rh4 t1) := by rw [n4 t1 x10 x1r3, n3 t1 x10 x1r2]; exact im2
      refine ws_unify (a := (ad4, l4)) g4 m4.2.1 x10 (ltt x1r3 r34) c30 r34 (fun r5 rh5 ta5 N5 g5 ay5 f5 u5 uf => ?_)
      have e511 : fi r5 11 = fi r4 11 := f5.1 11 (by decide)
      have v5 : ∀ ρ, cV r5 ρ ↔ cV r4 ρ ∧ ρ t1 = ρ (fi r3 11) := by
        intro ρ
        constructor
        · rintro ⟨h1, h2⟩
          have q := u5.1 h1
          have k := (q.2 ρ).mp h2
          exact ⟨⟨q.1, k.1⟩, k.2⟩
        · rintro ⟨⟨h1, h2⟩, h3⟩
          by_cases q : fi r5 15 = 0
          · exact ⟨q, ((u5.1 q).2 ρ).mpr ⟨h2, h3⟩⟩
          · rcases u5.2 q with k | k
            · exact absurd h1 k
            · exact absurd ⟨h2, h3⟩ (k ρ)
      have uA := uf (fun x => (A2 x ∨ x = fi r2 11) ∨ x = fi r3 11) fm4.2.2.2.1.1 (Or.inl (Or.inl im4)) (Or.inr rz4)
      have fm5 := FRM_uni g4 g5 fm4.2.2.2.1 f5 uA (fun ρ h => ((v5 ρ).mp h).1)
      have fmA := FRM_trans hI fm1 (FRM_trans g1 fm2 (FRM_trans g2 fm3 (FRM_trans g3 fm4 fm5)))
      have hS5 : SG l4 r5 := ⟨⟨rh5, ta5, N5, g5⟩, m4.1.2.1, by
        unfold VB
        rw [f5.1 13 (by decide), f5.2.1 28 (by decide)]
        exact m4.1.2.2⟩
      have hV : ∀ ρ, cV r5 ρ → cV r ρ := fmA.2.2.2.2.1
      have z3r5 : fi r2 11 < fi r5 11 := by rw [e511]; exact ltt r23 r34
      have le5 : fi r 11 ≤ fi r5 11 := fmA.1
      refine hK (fi r2 11) ad4 l4 r5 ⟨fi r2 11, fi r5 11, fun x cl => W1 x cl ∨ W2 x cl, k1 ∨ k2, am1 ∨ am2, p1 + p2, zTY_k2 hk hV (SG_loc hS5) le5 ⟨c20, z3r5⟩ ⟨t1, fi r1 11, cV r1, W1, k1, am1, p1, t2, fi r2 11, cV r2, W2, k2, am2, p2, fi r3 11, hz1, hz2, ⟨Int32.le_refl _, zo4 r23, fun q => irr (show fi r2 11 < fi r2 11 from by rw [← q] at r23; exact r23)⟩, hl1, hl2, ⟨hc1, hc2, ht1, ht2⟩, fun ρ => ?_, fun _ _ => Iff.rfl, Iff.rfl, Iff.rfl, rfl⟩, ⟨SG_loc hS5, le5, c20, z3r5⟩, by have := (SG_c hS5).2; omega, fun _ => ⟨rfl, rfl, rh5, ta5, N5, g5, ⟨⟨?_, ?_, ?_⟩, ?_, ⟨_, fmA, ?_, ⟨fun x cl hx => ?_, fun x x0 x1 cl => ?_⟩, ?_⟩, ?_⟩⟩⟩
      · rw [v5 ρ, vc4 ρ, vc3 ρ]
        constructor
        · rintro ⟨⟨⟨h1, _⟩, h2⟩, h3⟩
          exact ⟨h1, h2 (by decide), h3⟩
        · rintro ⟨h1, h2, h3⟩
          exact ⟨⟨⟨h1, fun q => absurd q (by decide)⟩, fun _ => h2⟩, h3⟩
      · rw [show fi r5 9 = fi r4 9 from f5.1 9 (by decide), show fi r4 9 = fi r3 9 from f4.1 9 (by decide), show fi r3 9 = fi r2 9 from f3.1 9 (by decide), gl9, fl9, or_assoc]
      · rw [show fi r5 10 = fi r4 10 from f5.1 10 (by decide), show fi r4 10 = fi r3 10 from f4.1 10 (by decide), show fi r3 10 = fi r2 10 from f3.1 10 (by decide), gl10, fl10, or_assoc]
      · rw [show fi r5 8 = fi r4 8 from f5.1 8 (by decide), show fi r4 8 = fi r3 8 from f4.1 8 (by decide), show fi r3 8 = fi r2 8 from f3.1 8 (by decide), gl8, fl8, Int32.ofInt_add, Int32.add_assoc]
      · have b4 : BK r4 := bk4 (bk3 bk2 h62) (by rw [show fi r3 6 = fi r2 6 from f3.1 6 (by decide)]; exact h62)
        intro x x0 x1
        rw [e511] at x1
        rw [show ar r5 27 = ar r4 27 from f5.2.1 27 (by decide), show ar r5 25 = ar r4 25 from f5.2.1 25 (by decide), show fi r5 6 = fi r4 6 from f5.1 6 (by decide)]
        exact b4 x x0 x1
      · refine (fm5.2.1 (fi r2 11) c20 (ltt r23 r34)).1 ?_
        rw [n4 _ c20 r23, rz3]
        exact Or.inl (Or.inr rfl)
      · rcases hx with hx | hx
        · have q := wok1.1 x cl hx
          have f25 := FRM_trans g1 fm2 (FRM_trans g2 fm3 (FRM_trans g3 fm4 fm5))
          exact ⟨⟨q.1.1, zo3 q.1.2 f25.1⟩, (f25.2.1 x q.1.1 q.1.2).1 q.2.1, q.2.2.1, q.2.2.2⟩
        · have q := wok2.1 x cl hx
          have f35 := FRM_trans g2 fm3 (FRM_trans g3 fm4 fm5)
          refine ⟨⟨q.1.1, zo3 q.1.2 f35.1⟩, (f35.2.1 x q.1.1 q.1.2).1 q.2.1, q.2.2.1, fun u => ?_⟩
          rcases fm1.2.2.2.2.2 x (q.2.2.2 (zo3 u hc1)) with v | v
          · exact v
          · exact absurd (zo3 u v) irr
      · rw [e511] at x1
        rw [show ar r5 24 = ar r4 24 from f5.2.1 24 (by decide), as4 x x0 x1 cl]
        constructor
        · rintro ⟨h1, h2⟩
          obtain ⟨h3, h4⟩ := (as3 x x0 h1 cl).mp h2
          rcases (wok2.2 x x0 h3 cl).mp h4 with ⟨u1, u2⟩ | u
          · rcases (wok1.2 x x0 u1 cl).mp u2 with u | u
            · exact Or.inl u
            · exact Or.inr (Or.inl u)
          · exact Or.inr (Or.inr u)
        · intro h
          have go : ∀ h1 : x < fi r2 11, gb (ar r2 24 x.toNatClampNeg) cl = true → x < fi r3 11 ∧ gb (ar r3 24 x.toNatClampNeg) cl = true := fun h1 h2 => ⟨ltt h1 r23, (as3 x x0 (ltt h1 r23) cl).mpr ⟨h1, h2⟩⟩
          rcases h with h | h | h
          · have u1 : x < fi r1 11 := zo3 h.1 hc1
            have u2 : x < fi r2 11 := zo3 u1 hc2
            exact go u2 ((wok2.2 x x0 u2 cl).mpr (Or.inl ⟨u1, (wok1.2 x x0 u1 cl).mpr (Or.inl h)⟩))
          · have u1 := (wok1.1 x cl h).1.2
            have u2 : x < fi r2 11 := zo3 u1 hc2
            exact go u2 ((wok2.2 x x0 u2 cl).mpr (Or.inl ⟨u1, (wok1.2 x x0 u1 cl).mpr (Or.inr h)⟩))
          · have u2 := (wok2.1 x cl h).1.2
            exact go u2 ((wok2.2 x x0 u2 cl).mpr (Or.inr h))
      · refine ⟨fi r2 11 :: fi r3 11 :: (L1 ++ L2), fun x hx => ?_, ?_⟩
        · rcases hx.1 with (hx | hx) | hx
          · rcases hL2 x hx with u | u
            · rcases hL1 x u with u | u
              · exact Or.inl u
              · exact Or.inr (List.mem_cons_of_mem _ (List.mem_cons_of_mem _ (List.mem_append_left _ u)))
            · exact Or.inr (List.mem_cons_of_mem _ (List.mem_cons_of_mem _ (List.mem_append_right _ u)))
          · exact Or.inr (by rw [hx]; exact List.mem_cons_self ..)
          · exact Or.inr (by rw [hx]; exact List.mem_cons_of_mem _ (List.mem_cons_self ..))
        · simp only [List.length_cons, List.length_append]
          omega
      · rw [e511]
        omega
  · have nv1 : ∀ ρ, ¬ cV r1 ρ := fun ρ h => hv1 ⟨ρ, h⟩
    refine TYPm d ad1 l1 r1 (ar r 14 e.toNatClampNeg) _ (by rw [t16, hmb]; exact w2) b1 b2' (by rw [t16, hmb]; omega) (by rw [t16, il, hmb]; simp; omega) (fun x2 ad2 l2 r2 m2' q2 y2 x20 x21 _ => ?_)
    have ar2' : ar r2 0 ((0 : Int32)).toNatClampNeg = 2 := by rw [show ar r2 0 = ar r1 0 from y2.2.2.1.2.1 0 (by decide)]; exact ar1
    obtain ⟨d', hd⟩ : ∃ d', d = d' + 1 := ⟨d - 1, by omega⟩
    refine tail ad2 l2 r2 x2 t1 c1 (fun _ _ => False) False False 0 m2' ar2' x20 x21 (fun ρ h => nv1 ρ (m2'.2.2.1 ρ h)) ?_ (Int32.le_refl _) ht1 (by omega)
    rw [hd]
    exact zTY_gar nv1 m2'.2.2.1
end ZAPPC
