/-! The class's typing only says more: every tree. -/
section ZTYPM2
def en (r : S_) (x t w : Int32) : S_ := sF (sA (sA (sA r 17 (upd (ar r 17) (fi r 5).toNatClampNeg x)) 18 (upd (ar r 18) (fi r 5).toNatClampNeg t)) 19 (upd (ar r 19) (fi r 5).toNatClampNeg w)) 5 (fi r 5 + 1)
def lv (r : S_) : S_ := sF r 5 (fi r 5 - 1)
theorem ws_enter {a : L_} {r : S_} {x t w : Int32} (h : fi r 5 < 24) {K : S_ → Prop} (hK : K (en r x t w)) : wY_enter a K r x t w := by
  unfold wY_enter
  refine ⟨fun z => absurd (zo3 h z) irr, fun _ _ r3 e3 _ r5 e5 _ r7 e7 r8 e8 => ?_⟩
  subst e3
  subst e5
  subst e7
  subst e8
  exact hK
theorem ws_leave {a : L_} {r : S_} (h : 0 < fi r 5) {K : S_ → Prop} (hK : K (lv r)) : wY_leave a K r := by
  unfold wY_leave
  refine ⟨fun z => absurd (zo3 h z) irr, fun _ r2 e2 => ?_⟩
  subst e2
  exact hK
theorem en_Fr {r : S_} {x t w : Int32} : Fr [5] [17, 18, 19] r (en r x t w) := Fr_trans (Fr_sA (by decide)) (Fr_trans (Fr_sA (by decide)) (Fr_trans (Fr_sA (by decide)) (Fr_sF (by decide))))
theorem lv_Fr {r : S_} : Fr [5] [17, 18, 19] r (lv r) := Fr_sF (by decide)
theorem en_TA {l : Nat → Nat} {r : S_} {x t w : Int32} (hA : TA (A0 l) r) (h2 : fi r 5 < 24) (t1 : 0 ≤ t) (t2 : t < fi r 11) : TA (A0 l) (en r x t w) := by
  have hA' : 0 ≤ fi r 5 ∧ fi r 5 ≤ 24 ∧ l 17 = 24 ∧ l 18 = 24 ∧ l 19 = 24 ∧ ∀ i, 0 ≤ i → i < fi r 5 → 0 ≤ ar r 18 i.toNatClampNeg ∧ ar r 18 i.toNatClampNeg < fi r 11 := hA
  obtain ⟨a1, a2, a3, a4, a5, a6⟩ := hA'
  refine ⟨?_, ?_, a3, a4, a5, fun i i1 i2 => ?_⟩
  · show 0 ≤ fi r 5 + 1
    clear hA a6; grind
  · show fi r 5 + 1 ≤ 24
    clear hA a6; grind
  · show 0 ≤ upd (ar r 18) (fi r 5).toNatClampNeg t i.toNatClampNeg ∧ upd (ar r 18) (fi r 5).toNatClampNeg t i.toNatClampNeg < fi r 11
    have i3 : i < fi r 5 + 1 := i2
    rw [updI _ _ a1 i1]
    split
    · exact ⟨t1, t2⟩
    · exact a6 i i1 (by clear hA a6; grind)
theorem lv_TA {l : Nat → Nat} {r : S_} (hA : TA (A0 l) r) (h : 0 < fi r 5) : TA (A0 l) (lv r) := by
  have hA' : 0 ≤ fi r 5 ∧ fi r 5 ≤ 24 ∧ l 17 = 24 ∧ l 18 = 24 ∧ l 19 = 24 ∧ ∀ i, 0 ≤ i → i < fi r 5 → 0 ≤ ar r 18 i.toNatClampNeg ∧ ar r 18 i.toNatClampNeg < fi r 11 := hA
  obtain ⟨a1, a2, a3, a4, a5, a6⟩ := hA'
  refine ⟨?_, ?_, a3, a4, a5, fun i i1 i2 => ?_⟩
  · show 0 ≤ fi r 5 - 1
    clear hA a6; grind
  · show fi r 5 - 1 ≤ 24
    clear hA a6; grind
  · have i3 : i < fi r 5 - 1 := i2
    exact a6 i i1 (by clear hA a6; grind)
/-- what is around, restored; settlings counted -/
def AR (r : S_) (m : Int) (r' : S_) : Prop := fi r' 5 = fi r 5 ∧ (∀ k, 17 ≤ k → k ≤ 19 → ∀ i : Int32, 0 ≤ i → i < fi r 5 → ar r' k i.toNatClampNeg = ar r k i.toNatClampNeg) ∧ (fi r 6).toInt ≤ (fi r' 6).toInt ∧ (fi r' 6).toInt ≤ (fi r 6).toInt + m
theorem AR_trans {r r1 r2 : S_} {m m2 : Int} (h : AR r m r1) (h2 : AR r1 m2 r2) : AR r (m + m2) r2 := by
  obtain ⟨a1, a2, a3, a4⟩ := h
  obtain ⟨b1, b2, b3, b4⟩ := h2
  exact ⟨b1.trans a1, fun k k0 k1 i i0 i1 => (b2 k k0 k1 i i0 (by rw [a1]; exact i1)).trans (a2 k k0 k1 i i0 i1), by omega, by omega⟩
theorem AR_le {r r1 : S_} {m m2 : Int} (h : AR r m r1) (hm : m ≤ m2) : AR r m2 r1 := ⟨h.1, h.2.1, h.2.2.1, by have := h.2.2.2; omega⟩
theorem AR_Fr {F A : List Nat} {r r' : S_} (f : Fr F A r r') (h5 : 5 ∉ F) (h6 : 6 ∉ F) (ha : ∀ k, 17 ≤ k → k ≤ 19 → k ∉ A) : AR r 0 r' := ⟨f.1 5 h5, fun k k0 k1 i _ _ => by rw [f.2.1 k (ha k k0 k1)], by rw [f.1 6 h6]; omega, by rw [f.1 6 h6]; omega⟩
theorem nm3 {k : Nat} (A : List Nat) (h : ∀ j ∈ A, j < 17 ∨ 19 < j) (h1 : 17 ≤ k) (h2 : k ≤ 19) : k ∉ A := fun z => by
  have := h k z
  omega
theorem AR_en {r r3 : S_} {x t w : Int32} {m : Int} (a0 : 0 ≤ fi r 5) (a1 : fi r 5 < 24) (h : AR (en r x t w) m r3) : AR r m (lv r3) ∧ 0 < fi r3 5 := by
  obtain ⟨b1, b2, b3, b4⟩ := h
  have e5 : fi r3 5 = fi r 5 + 1 := b1
  refine ⟨⟨?_, fun k k0 k1 i i0 i1 => ?_, b3, b4⟩, by rw [e5]; clear b1 b2; grind⟩
  · show fi r3 5 - 1 = fi r 5
    rw [e5]
    clear b1 b2; grind
  · have i2 : i < fi (en r x t w) 5 := by
      show i < fi r 5 + 1
      clear b1 b2; grind
    have q := b2 k k0 k1 i i0 i2
    have ne : ¬ i = fi r 5 := by clear b1 b2 q; grind
    show ar r3 k i.toNatClampNeg = ar r k i.toNatClampNeg
    rw [q]
    have k3 : k = 17 ∨ k = 18 ∨ k = 19 := by omega
    rcases k3 with e | e | e
    · subst e
      show upd (ar r 17) (fi r 5).toNatClampNeg x i.toNatClampNeg = _
      rw [updI _ _ a0 i0, if_neg ne]
    · subst e
      show upd (ar r 18) (fi r 5).toNatClampNeg t i.toNatClampNeg = _
      rw [updI _ _ a0 i0, if_neg ne]
    · subst e
      show upd (ar r 19) (fi r 5).toNatClampNeg w i.toNatClampNeg = _
      rw [updI _ _ a0 i0, if_neg ne]
theorem MO_en {l : Nat → Nat} {r r1 : S_} {x t w : Int32} (h : MO r l r1) : MO r l (en r1 x t w) := h
theorem MO_lv {l : Nat → Nat} {r r1 : S_} (h : MO r l r1) : MO r l (lv r1) := h
theorem MO_from {l : Nat → Nat} {r r1 : S_} {x t w : Int32} (h : MO (en r x t w) l r1) : MO r l r1 := h
theorem MO_froml {l : Nat → Nat} {r r1 : S_} (h : MO (lv r) l r1) : MO r l r1 := h
/-- what stands before typing -/
def TP0 (l : Nat → Nat) (r : S_) (m : Int) : Prop := YI l r ∧ AYc r ∧ TYz r ∧ ar r 0 ((0 : Int32)).toNatClampNeg = 2 ∧ (fi r 13).toInt + 4 * m ≤ 1899990000 ∧ (fi r 5).toInt + m ≤ 24 ∧ 0 ≤ (fi r 6).toInt ∧ (fi r 6).toInt + m ≤ 1900000000
theorem TP0_Tb {l l' : Nat → Nat} {r r' : S_} {m m' : Int} (h : TP0 l r m) (y : YI l' r') (ay : AYc r') (tb : Tb r r') (h1 : (fi r' 13).toInt + 4 * m' ≤ 1899990000) (h2 : (fi r' 5).toInt + m' ≤ 24) (h3 : 0 ≤ (fi r' 6).toInt) (h4 : (fi r' 6).toInt + m' ≤ 1900000000) : TP0 l' r' m' := ⟨y, ay, TYz_eq h.2.2.1 (tb.1 1 (by omega)) (fun k hk => tb.2 k (by omega)), by rw [tb.2 0 (by omega)]; exact h.2.2.2.1, h1, h2, h3, h4⟩
def HTm (d : Nat) : Prop := ∀ (ad l : Nat → Nat) (r : S_) (e : Int32) (K : Int32 → L_ → S_ → Prop), TP0 l r (ar r 16 e.toNatClampNeg).toInt → 0 ≤ e → e < fi r 4 → (ar r 16 e.toNatClampNeg).toInt < d → ar r 16 e.toNatClampNeg ≤ 24 → (∀ z ad' l' r', MO r l' r' → AR r (ar r 16 e.toNatClampNeg).toInt r' → YR l r (4 * (ar r 16 e.toNatClampNeg).toInt) l' r' → 0 ≤ z → z < fi r' 11 → K z (ad', l') r') → wY_typeOf d K (ad, l) r e
theorem en_YI {l : Nat → Nat} {r : S_} {x t w : Int32} (h : YI l r) (h2 : fi r 5 < 24) (t1 : 0 ≤ t) (t2 : t < fi r 11) : YI l (en r x t w) := ⟨h.1, en_TA h.2.1 h2 t1 t2, ST_Tb h.2.2 (Tb_Fr en_Fr (by decide) (by decide)) (FL_refl l)⟩
theorem lv_YI {l : Nat → Nat} {r : S_} (h : YI l r) (h2 : 0 < fi r 5) : YI l (lv r) := ⟨h.1, lv_TA h.2.1 h2, ST_Tb h.2.2 (Tb_Fr lv_Fr (by decide) (by decide)) (FL_refl l)⟩
theorem new_YI {l l' : Nat → Nat} {r r' : S_} (h : YI l r) (m : MO r l' r') (f : Fn r r') (g : FG l l') : YI l' r' := ⟨m.1, TA_mono h.2.1 (f.1 5 (by decide)) (f.2.1 18 (by decide)) m.2.2.2 g.1, ST_Tb h.2.2 (Tb_Fr f (by decide) (by decide)) g.1⟩
theorem new_AR {r r' : S_} (f : Fn r r') : AR r 0 r' := AR_Fr f (by decide) (by decide) (fun k h1 h2 => nm3 _ (by decide) h1 h2)
theorem arr2 {r : S_} (h : ar r 0 ((0 : Int32)).toNatClampNeg = 2) {p1 p2 : Int32} (h1 : 0 ≤ p1) (h2 : 0 ≤ p2) : (0 : Int32) ≤ 0 → (¬ p1 = -1 ↔ 0 < ar r 0 ((0 : Int32)).toNatClampNeg) ∧ (¬ p2 = -1 ↔ 1 < ar r 0 ((0 : Int32)).toNatClampNeg) := by
  intro _
  rw [h]
  exact ⟨⟨fun _ => by decide, fun _ e => by rw [e] at h1; exact absurd h1 (by decide)⟩, ⟨fun _ => by decide, fun _ e => by rw [e] at h2; exact absurd h2 (by decide)⟩⟩
theorem m1le {x : Int32} (h : 0 ≤ x) : -1 ≤ x := by grind
theorem TYm_lam {d : Nat} (ih : HTm d) {ad l : Nat → Nat} {r : S_} {x b : Int32} {K : Int32 → L_ → S_ → Prop} (w : TP0 l r (1 + (ar r 16 b.toNatClampNeg).toInt)) (n0 : 0 ≤ (ar r 16 b.toNatClampNeg).toInt) (b1 : 0 ≤ b) (b2 : b < fi r 4) (b3 : (ar r 16 b.toNatClampNeg).toInt < d) (b4 : ar r 16 b.toNatClampNeg ≤ 24) (hK : ∀ z ad' l' r', MO r l' r' → AR r (ar r 16 b.toNatClampNeg).toInt r' → K z (ad', l') r') : wY_typeOfLambda (wY_typeOf d) K (ad, l) r x b := by
  unfold wY_typeOfLambda
  obtain ⟨y, ay, ty, a2, h13, h5, h60, h6⟩ := w
  have w : TP0 l r (1 + (ar r 16 b.toNatClampNeg).toInt) := ⟨y, ay, ty, a2, h13, h5, h60, h6⟩
  have p5 := y.2.1.1
  have q5 : fi r 5 < 24 := by rw [it]; simp; omega
  have inc5 := i_inc q5
  refine MO_new y.1 ay (by decide) (by decide) (by decide) (Or.inr rfl) (by decide) (Or.inr rfl) (fun z => absurd z (by decide)) (fun _ => ⟨rfl, rfl⟩) (fun z1 ad1 l1 r1 m1 f1 g1 z10 z11 _ => ?_)
  have y1 := new_YI y m1 f1 g1
  have e5 : fi r1 5 = fi r 5 := f1.1 5 (by decide)
  have e13 : fi r1 13 = fi r 13 := f1.1 13 (by decide)
  have e6 : fi r1 6 = fi r 6 := f1.1 6 (by decide)
  have e16 : ar r1 16 = ar r 16 := f1.2.1 16 (by decide)
  refine ws_enter (by rw [e5]; exact q5) ?_
  have tb2 : Tb r (en r1 x z1 (-1)) := Tb_trans (Tb_Fr f1 (by decide) (by decide)) (Tb_Fr en_Fr (by decide) (by decide))
  have t16 : ar (en r1 x z1 (-1)) 16 = ar r 16 := tb2.2 16 (by omega)
  have f5 : fi (en r1 x z1 (-1)) 5 = fi r1 5 + 1 := rfl
  have f13 : fi (en r1 x z1 (-1)) 13 = fi r1 13 := rfl
  have f6 : fi (en r1 x z1 (-1)) 6 = fi r1 6 := rfl
  have w2 : TP0 l1 (en r1 x z1 (-1)) (ar (en r1 x z1 (-1)) 16 b.toNatClampNeg).toInt := TP0_Tb w (en_YI y1 (by rw [e5]; exact q5) z10 z11) m1.2.1 tb2 (by rw [t16, f13, e13]; omega) (by rw [t16, f5, e5, inc5]; omega) (by rw [f6, e6]; exact h60) (by rw [t16, f6, e6]; omega)
  refine ih ad1 l1 (en r1 x z1 (-1)) b _ w2 b1 (by rw [tb2.1 4 (by omega)]; exact b2) (by rw [t16]; exact b3) (by rw [t16]; exact b4) (fun z3 ad3 l3 r3 m3 a3 y3 z30 z31 _ => ?_)
  rw [t16] at a3 y3
  obtain ⟨a4, p3⟩ := AR_en (by rw [e5]; exact p5) (by rw [e5]; exact q5) a3
  refine ws_leave p3 ?_
  have y4 : YI l3 r3 := YI_R w2.1 y3
  have z1r : z1 < fi (lv r3) 11 := zo3 z11 m3.2.2.2
  have ar0 : ar (lv r3) 0 ((0 : Int32)).toNatClampNeg = 2 := by
    show ar r3 0 ((0 : Int32)).toNatClampNeg = 2
    have q : ar r3 0 = ar (en r1 x z1 (-1)) 0 := y3.2.2.1.2.1 0 (by decide)
    rw [q]
    exact w2.2.2.2.1
  refine MO_new (r := lv r3) m3.1 m3.2.1 (by decide) (by decide) (m1le z10) (Or.inl z1r) (m1le z30) (Or.inl z31) (arr2 ar0 z10 z30) (fun e => absurd e (by decide)) (fun z5 ad5 l5 r5 m5 f6 _ _ _ _ => ?_)
  refine hK z5 ad5 l5 r5 (MO_trans m1 (MO_trans (MO_from m3) (MO_froml m5))) ?_
  have q := AR_trans (new_AR f1) (AR_trans a4 (new_AR f6))
  exact AR_le q (by omega)
theorem TYm_app {d : Nat} (ih : HTm d) {ad l : Nat → Nat} {r : S_} {x b : Int32} {K : Int32 → L_ → S_ → Prop} (w : TP0 l r (1 + (ar r 16 x.toNatClampNeg).toInt + (ar r 16 b.toNatClampNeg).toInt)) (nx : 0 ≤ (ar r 16 x.toNatClampNeg).toInt) (n0 : 0 ≤ (ar r 16 b.toNatClampNeg).toInt) (a1 : 0 ≤ x) (a2 : x < fi r 4) (a3 : (ar r 16 x.toNatClampNeg).toInt < d) (a4 : ar r 16 x.toNatClampNeg ≤ 24) (b1 : 0 ≤ b) (b2 : b < fi r 4) (b3 : (ar r 16 b.toNatClampNeg).toInt < d) (b4 : ar r 16 b.toNatClampNeg ≤ 24) (hK : ∀ z ad' l' r', MO r l' r' → AR r ((ar r 16 x.toNatClampNeg).toInt + (ar r 16 b.toNatClampNeg).toInt) r' → K z (ad', l') r') : wY_typeOfApply (wY_typeOf d) K (ad, l) r x b := by
  unfold wY_typeOfApply
  obtain ⟨y, ay, ty, ar2, h13, h5, h60, h6⟩ := w
  have w : TP0 l r (1 + (ar r 16 x.toNatClampNeg).toInt + (ar r 16 b.toNatClampNeg).toInt) := ⟨y, ay, ty, ar2, h13, h5, h60, h6⟩
  have w1 : TP0 l r (ar r 16 x.toNatClampNeg).toInt := TP0_Tb w y ay ⟨fun _ _ => rfl, fun _ _ => rfl⟩ (by omega) (by omega) h60 (by omega)
  refine ih ad l r x _ w1 a1 a2 a3 a4 (fun z1 ad1 l1 r1 m1 q1 y1 z10 z11 _ => ?_)
  have tb1 : Tb r r1 := Tb_Fr y1.2.2.1 (by decide) (by decide)
  have t16 : ar r1 16 = ar r 16 := tb1.2 16 (by omega)
  have v13 := y1.2.2.2.2.2.2
  have v6 := q1.2.2
  have w2 : TP0 l1 r1 (ar r1 16 b.toNatClampNeg).toInt := TP0_Tb w (YI_R y y1) m1.2.1 tb1 (by rw [t16]; omega) (by rw [t16, q1.1]; omega) (by omega) (by rw [t16]; omega)
  refine ih ad1 l1 r1 b _ w2 b1 (by rw [tb1.1 4 (by omega)]; exact b2) (by rw [t16]; exact b3) (by rw [t16]; exact b4) (fun z2 ad2 l2 r2 m2 q2 y2 z20 z21 _ => ?_)
  rw [t16] at q2 y2
  refine MO_new m2.1 m2.2.1 (by decide) (by decide) (by decide) (Or.inr rfl) (by decide) (Or.inr rfl) (fun z => absurd z (by decide)) (fun _ => ⟨rfl, rfl⟩) (fun z3 ad3 l3 r3 m3 f3 g3 z30 z31 _ => ?_)
  have ar0 : ar r3 0 ((0 : Int32)).toNatClampNeg = 2 := by
    have e3 : ar r3 0 = ar r2 0 := f3.2.1 0 (by decide)
    have e2 : ar r2 0 = ar r1 0 := y2.2.2.1.2.1 0 (by decide)
    rw [e3, e2, tb1.2 0 (by omega)]
    exact ar2
  refine MO_new m3.1 m3.2.1 (by decide) (by decide) (m1le z20) (Or.inl (zo3 z21 m3.2.2.2)) (m1le z30) (Or.inl z31) (arr2 ar0 z20 z30) (fun e => absurd e (by decide)) (fun z4 ad4 l4 r4 m4 f4 g4 z40 z41 _ => ?_)
  refine MO_unify m4.1 m4.2.1 z10 (zo3 z11 (zo2 m2.2.2.2 (zo2 m3.2.2.2 m4.2.2.2))) z40 z41 (fun r5 m5 f5 => ?_)
  refine hK z3 ad4 l4 r5 (MO_trans m1 (MO_trans m2 (MO_trans m3 (MO_trans m4 m5)))) ?_
  exact AR_le (AR_trans q1 (AR_trans q2 (AR_trans (new_AR f3) (AR_trans (new_AR f4) (AR_Fr f5 (by decide) (by decide) (fun k h1 h2 => nm3 _ (by decide) h1 h2)))))) (by omega)
theorem TYm_let {d : Nat} (ih : HTm d) {ad l : Nat → Nat} {r : S_} {x b c : Int32} {K : Int32 → L_ → S_ → Prop} (w : TP0 l r (1 + (ar r 16 b.toNatClampNeg).toInt + (ar r 16 c.toNatClampNeg).toInt)) (nx : 0 ≤ (ar r 16 b.toNatClampNeg).toInt) (n0 : 0 ≤ (ar r 16 c.toNatClampNeg).toInt) (a1 : 0 ≤ b) (a2 : b < fi r 4) (a3 : (ar r 16 b.toNatClampNeg).toInt < d) (a4 : ar r 16 b.toNatClampNeg ≤ 24) (b1 : 0 ≤ c) (b2 : c < fi r 4) (b3 : (ar r 16 c.toNatClampNeg).toInt < d) (b4 : ar r 16 c.toNatClampNeg ≤ 24) (hK : ∀ z ad' l' r', MO r l' r' → AR r (1 + (ar r 16 b.toNatClampNeg).toInt + (ar r 16 c.toNatClampNeg).toInt) r' → K z (ad', l') r') : wY_typeOfLet (wY_typeOf d) K (ad, l) r x b c := by
  unfold wY_typeOfLet
  obtain ⟨y, ay, ty, ar2, h13, h5, h60, h6⟩ := w
  have w : TP0 l r (1 + (ar r 16 b.toNatClampNeg).toInt + (ar r 16 c.toNatClampNeg).toInt) := ⟨y, ay, ty, ar2, h13, h5, h60, h6⟩
  have c0 : 0 ≤ fi r 11 := by
    obtain ⟨⟨⟨rh, ta, N, hI⟩, -⟩, -⟩ := y
    exact hI.2.1
  have w1 : TP0 l r (ar r 16 b.toNatClampNeg).toInt := TP0_Tb w y ay ⟨fun _ _ => rfl, fun _ _ => rfl⟩ (by omega) (by omega) h60 (by omega)
  refine ih ad l r b _ w1 a1 a2 a3 a4 (fun z1 ad1 l1 r1 m1 q1 y1 z10 z11 _ => ?_)
  have yi1 := YI_R y y1
  have tb1 : Tb r r1 := Tb_Fr y1.2.2.1 (by decide) (by decide)
  have v13 := y1.2.2.2.2.2.2
  have v130 := y1.2.2.2.2.2.1
  have v6 := q1.2.2
  have p13 : fi r1 13 < 1999999990 := by rw [it]; simp; omega
  refine MO_settle yi1.1 m1.2.1 p13 yi1.2.2.2.1 yi1.2.1 c0 m1.2.2.2 z10 z11 (fun z2 r2 m2 s2 e13 e6 => ?_)
  have e5 : fi r2 5 = fi r1 5 := s2.1.1 5 (by decide)
  have e11 : fi r2 11 = fi r1 11 := s2.1.1 11 (by decide)
  have tb2 : Tb r1 r2 := Tb_Fr s2.1 (by decide) (by decide)
  have yi2 : YI l1 r2 := ⟨m2.1, TA_mono yi1.2.1 e5 (s2.1.2.1 18 (by decide)) m2.2.2.2 (FL_refl l1), ST_Tb yi1.2.2 tb2 (FL_refl l1)⟩
  have g6 : (fi r2 6).toInt = (fi r1 6).toInt + 1 := by
    rw [e6]
    exact i_inc (y := 2000000000) (by rw [it]; simp; omega)
  have v0 := yi1.1.2.2.1
  have g13 : (fi r2 13).toInt = (fi r1 13).toInt + 3 := by
    rw [e13]
    rw [il] at v0
    simp at v0
    rw [i_add (by simp; omega) (by simp; omega)]
    simp
  have p5 := yi2.2.1.1
  have q5 : fi r2 5 < 24 := by rw [e5, q1.1, it]; simp; omega
  have inc5 := i_inc q5
  have a2' : AR r1 1 r2 := ⟨e5, fun k k0 k1 i _ _ => by rw [s2.1.2.1 k (nm3 _ (by decide) k0 k1)], by omega, by omega⟩
  refine ws_enter q5 ?_
  have tb3 : Tb r (en r2 x z1 z2) := Tb_trans tb1 (Tb_trans tb2 (Tb_Fr en_Fr (by decide) (by decide)))
  have t16 : ar (en r2 x z1 z2) 16 = ar r 16 := tb3.2 16 (by omega)
  have f5 : fi (en r2 x z1 z2) 5 = fi r2 5 + 1 := rfl
  have f13 : fi (en r2 x z1 z2) 13 = fi r2 13 := rfl
  have f6 : fi (en r2 x z1 z2) 6 = fi r2 6 := rfl
  have x5 : fi r2 5 = fi r 5 := e5.trans q1.1
  have w3 : TP0 l1 (en r2 x z1 z2) (ar (en r2 x z1 z2) 16 c.toNatClampNeg).toInt := TP0_Tb w (en_YI yi2 q5 z10 (by rw [e11]; exact z11)) m2.2.1 tb3 (by rw [t16, f13]; omega) (by rw [t16, f5, inc5, x5]; omega) (by rw [f6]; omega) (by rw [t16, f6]; omega)
  refine ih ad1 l1 (en r2 x z1 z2) c _ w3 b1 (by rw [tb3.1 4 (by omega)]; exact b2) (by rw [t16]; exact b3) (by rw [t16]; exact b4) (fun z3 ad3 l3 r3 m3 a3 y3 z30 z31 _ => ?_)
  rw [t16] at a3
  obtain ⟨a4, p3⟩ := AR_en p5 q5 a3
  refine ws_leave p3 ?_
  refine hK z3 ad3 l3 (lv r3) (MO_trans m1 (MO_trans m2 (MO_lv (MO_from m3)))) ?_
  exact AR_le (AR_trans q1 (AR_trans a2' a4)) (by omega)
/-- a name's innermost binder -/
theorem ws_nameL {a : L_} {r : S_} {x : Int32} {KA : L_ → S_ → Int32 → Prop} {KB : L_ → S_ → Prop} (h1 : ∀ j : Int32, 0 ≤ j → j < fi r 5 → ar r 17 j.toNatClampNeg = x → (∀ i : Int32, j < i → i < fi r 5 → ¬ ar r 17 i.toNatClampNeg = x) → KA a r j) (h2 : (∀ j : Int32, 0 ≤ j → j < fi r 5 → ¬ ar r 17 j.toNatClampNeg = x) → KB a r) : ∀ (n : Nat) (v : Int32), -1 ≤ v → v < fi r 5 → (∀ i : Int32, v < i → i < fi r 5 → ¬ ar r 17 i.toNatClampNeg = x) → wY_typeOfName_L7 KA KB n a r x v := by
  intro n
  induction n with
  | zero => intro v _ _ _; trivial
  | succ n ih =>
    intro v v0 v1 v2
    rw [wY_typeOfName_L7]
    refine ⟨fun z => h2 (fun j j0 j1 => v2 j (by clear ih h1 h2 v2; grind) j1), fun z _ => ⟨fun e => h1 v (Int32.not_lt.mp z) v1 e v2, fun e => ih (v + -1) ?_ ?_ (fun i i0 i1 => ?_)⟩⟩
    · clear ih h1 h2 v2; grind
    · clear ih h1 h2 v2; grind
    · by_cases q : i = v
      · rw [q]; exact e
      · exact v2 i (by clear ih h1 h2 v2; grind) i1
theorem ws_name {K : Int32 → L_ → S_ → Prop} {a : L_} {r : S_} {x : Int32} (a0 : 0 ≤ fi r 5) (h1 : ∀ j : Int32, 0 ≤ j → j < fi r 5 → ar r 17 j.toNatClampNeg = x → (∀ i : Int32, j < i → i < fi r 5 → ¬ ar r 17 i.toNatClampNeg = x) → (ar r 19 j.toNatClampNeg = -1 → K (ar r 18 j.toNatClampNeg) a r) ∧ (¬ ar r 19 j.toNatClampNeg = -1 → wG_copyOf (fun z a' r' => fx a a' → K z a' r') a (sF r 8 (fi r 8 + ar r 19 j.toNatClampNeg)) (ar r 18 j.toNatClampNeg))) (h2 : (∀ j : Int32, 0 ≤ j → j < fi r 5 → ¬ ar r 17 j.toNatClampNeg = x) → wG_newNode (fun z a' r' => fx a a' → K z a' r') a (sF r 15 1) (-1) (-1) (-1)) : wY_typeOfName K a r x := by
  unfold wY_typeOfName
  intro n
  refine ws_nameL (fun j j0 j1 e i => ?_) (fun h => ?_) n _ (by clear h1 h2; grind) (by clear h1 h2; grind) (fun i i0 i1 => by clear h1 h2; grind)
  · have q := h1 j j0 j1 e i
    refine fun _ => ⟨fun e2 _ r7 e7 _ => ?_, fun e2 _ => q.1 e2⟩
    subst e7
    exact q.2 e2
  · intro _ r19 e19
    subst e19
    exact h2 h
theorem TYm_name {ad l : Nat → Nat} {r : S_} {x : Int32} {K : Int32 → L_ → S_ → Prop} {m : Int} (w : TP0 l r m) (m0 : 0 ≤ m) (hK : ∀ z ad' l' r', MO r l' r' → AR r 0 r' → K z (ad', l') r') : wY_typeOfName K (ad, l) r x := by
  obtain ⟨y, ay, ty, ar2, h13, h5, h60, h6⟩ := w
  have hA := y.2.1
  have b13 : fi r 13 < 2000000000 := by rw [it]; simp; omega
  refine ws_name hA.1 (fun j j0 j1 e _ => ⟨fun e2 => ?_, fun e2 => ?_⟩) (fun _ => ?_)
  · exact hK _ ad l r (MO_refl y.1 ay) (AR_Fr (F := []) (A := []) (Fr_refl r) (by decide) (by decide) (fun _ _ _ => by simp))
  · have b := hA.2.2.2.2.2 j j0 j1
    refine MO_copy (r := sF r 8 (fi r 8 + ar r 19 j.toNatClampNeg)) y.1 ay b13 b.1 b.2 (fun z ad' l' r' m f _ => ?_)
    refine hK z ad' l' r' m ?_
    have f' : AR (sF r 8 (fi r 8 + ar r 19 j.toNatClampNeg)) 0 r' := AR_Fr f (by decide) (by decide) (fun k h1 h2 => nm3 _ (by decide) h1 h2)
    exact f'
  · refine MO_new (r := sF r 15 1) y.1 ay (by decide) (by decide) (by decide) (Or.inr rfl) (by decide) (Or.inr rfl) (fun z => absurd z (by decide)) (fun _ => ⟨rfl, rfl⟩) (fun z ad' l' r' m f _ _ _ _ => ?_)
    have f' : AR (sF r 15 1) 0 r' := new_AR f
    refine hK z ad' l' r' ⟨m.1, m.2.1, fun ρ v => ?_, m.2.2.2⟩ f'
    have q := (m.2.2.1 ρ v).1
    exact absurd q (by show ¬ (1 : Int32) = 0; decide)
theorem TYm_meth {ad l : Nat → Nat} {r : S_} {c : Int32} {K : Int32 → L_ → S_ → Prop} {m : Int} (w : TP0 l r m) (m1 : 0 ≤ ar r 8 c.toNatClampNeg) (m2 : ar r 8 c.toNatClampNeg < fi r 1) (hK : ∀ z ad' l' r', MO r l' r' → AR r 0 r' → K z (ad', l') r') : wY_typeOfMethod K (ad, l) r c := by
  obtain ⟨y, ay, ty, ar2, h13, h5, h60, h6⟩ := w
  unfold wY_typeOfMethod wK_methodOf
  intro _
  have fwo : ∀ r', Fwo r r' → AR r 0 r' := fun r' f => AR_Fr f (by decide) (by decide) (fun k h1 h2 => nm3 _ (by decide) h1 h2)
  refine wg_freshCopy y.2.2.1.2.1.2.2.2.2.2.2 y.1 ay ty m1 m2 (fun z ad' l' r' mo _ f _ _ _ => ?_)
  intro _ _
  unfold wY_typeOfMethod_J43
  refine ⟨fun _ r11 e11 => ?_, fun _ _ _ _ r15 e15 r11 e11 => ?_⟩
  · subst e11
    exact hK z ad' l' _ mo (fwo r' f)
  · subst e15
    subst e11
    refine hK z ad' l' _ mo (AR_Fr (F := [8, 11, 15]) (A := [20, 21, 22, 23, 24, 25, 26, 27, 28, 29, 30, 31]) (Fr_trans (Fr_mono f (by decide) (by decide)) (Fr_trans (Fr_sA (by decide)) (Fr_sF (by decide)))) (by decide) (by decide) (fun k h1 h2 => nm3 _ (by decide) h1 h2))
theorem TYm_con {ad l : Nat → Nat} {r : S_} {t : Int32} {K : Int32 → L_ → S_ → Prop} {m : Int} (w : TP0 l r m) (m1 : 0 ≤ t) (m2 : t < fi r 1) (hK : ∀ z ad' l' r', MO r l' r' → AR r 0 r' → K z (ad', l') r') : wY_freshCopy K (ad, l) r t := by
  obtain ⟨y, ay, ty, ar2, h13, h5, h60, h6⟩ := w
  exact wg_freshCopy y.2.2.1.2.1.2.2.2.2.2.2 y.1 ay ty m1 m2 (fun z ad' l' r' mo _ f _ _ _ => hK z ad' l' r' mo (AR_Fr f (by decide) (by decide) (fun k h1 h2 => nm3 _ (by decide) h1 h2)))
theorem TYPm : ∀ d : Nat, HTm d := by
  intro d
  induction d with
  | zero => intro ad l r e K _ _ _ _ _ _; trivial
  | succ d ih =>
    intro ad l r e K w e1 e2 e3 e4 hK
    have hb : (fi r 13).toInt + 4 * (ar r 16 e.toNatClampNeg).toInt ≤ 1999990000 := by have := w.2.2.2.2.1; omega
    obtain ⟨z0, l0, r0, k, s, P, _, _, h⟩ := typeOf_D (d + 1) l r e w.1 e1 e2 e3 e4 hb
    have q := h ad (fun z a r' => z = z0 ∧ a.2 = l0 ∧ r' = r0) (fun _ _ => ⟨rfl, rfl, rfl⟩)
    refine wq_Y_typeOf (d + 1) (K := fun z a r' => z = z0 ∧ a.2 = l0 ∧ r' = r0) (K2 := fun z a r' => MO r a.2 r' ∧ AR r (ar r 16 e.toNatClampNeg).toInt r') (fun z a r' h1 h2 => ?_) _ _ _ _ _ q ?_
    · obtain ⟨ad', l'⟩ := a
      refine hK z ad' l' r' h2.1 h2.2 ?_ ?_ ?_
      · have q1 : l' = l0 := h1.2.1
        rw [h1.2.2, q1]
        exact P.1
      · rw [h1.1]; exact P.2.1
      · rw [h1.1, h1.2.2]; exact P.2.2
    obtain ⟨⟨n1, n2⟩, k1, k2, k3, k4, k5⟩ := w.1.2.2.2.2.2.2 e e1 e2
    have nd : ∀ x, 0 ≤ x → x < e → 1 ≤ (ar r 16 x.toNatClampNeg).toInt := fun x x1 x2 => by
      have := (w.1.2.2.2.2.2.2 x x1 (ltt x2 e2)).1.1
      rw [il] at this
      simpa using this
    have e4' : (ar r 16 e.toNatClampNeg).toInt ≤ 24 := by rw [il] at e4; simpa using e4
    have n1' : 1 ≤ (ar r 16 e.toNatClampNeg).toInt := by rw [il] at n1; simpa using n1
    have le24 : ∀ x : Int32, (ar r 16 x.toNatClampNeg).toInt ≤ 24 → ar r 16 x.toNatClampNeg ≤ 24 := fun x hx => by rw [il]; simpa using hx
    rw [wY_typeOf]
    unfold wY_typeOf_B
    refine fun _ _ _ => ⟨fun g => ?_, fun g => ?_, fun g _ => ?_, fun g => ?_, fun g => ?_, fun g => ?_⟩
    · obtain ⟨⟨b1, b2⟩, b3⟩ := k1 g
      have b3' := b3 e4
      have := nd _ b1 b2
      exact TYm_lam ih (by rw [← b3']; exact w) (by omega) b1 (ltt b2 e2) (by omega) (le24 _ (by omega)) (fun z ad' l' r' m a _ => ⟨m, AR_le a (by omega)⟩)
    · obtain ⟨⟨a1, a2⟩, ⟨b1, b2⟩, b3⟩ := k2 g
      have b3' := b3 e4
      have m1 := nd _ a1 a2
      have m2 := nd _ b1 b2
      exact TYm_app ih (by rw [← b3']; exact w) (by omega) (by omega) a1 (ltt a2 e2) (by omega) (le24 _ (by omega)) b1 (ltt b2 e2) (by omega) (le24 _ (by omega)) (fun z ad' l' r' m a _ => ⟨m, AR_le a (by omega)⟩)
    · obtain ⟨⟨a1, a2⟩, ⟨b1, b2⟩, b3⟩ := k3 g
      have b3' := b3 e4
      have m1 := nd _ a1 a2
      have m2 := nd _ b1 b2
      exact TYm_let ih (by rw [← b3']; exact w) (by omega) (by omega) a1 (ltt a2 e2) (by omega) (le24 _ (by omega)) b1 (ltt b2 e2) (by omega) (le24 _ (by omega)) (fun z ad' l' r' m a _ => ⟨m, AR_le a (by omega)⟩)
    · obtain ⟨⟨a1, a2⟩, ⟨b1, b2⟩, b3⟩ := k4 g
      exact TYm_meth w b1 b2 (fun z ad' l' r' m a _ => ⟨m, AR_le a (by omega)⟩)
    · obtain ⟨a1, a2⟩ := k5 g
      exact TYm_con w a1 a2 (fun z ad' l' r' m a _ => ⟨m, AR_le a (by omega)⟩)
    · exact TYm_name w (by omega) (fun z ad' l' r' m a _ => ⟨m, AR_le a (by omega)⟩)
end ZTYPM2
