/-! Typing in the class: LAMBDA. -/
section ZLAMC
theorem LTS_en {r : S_} {rh : Int32 → Int32} {A : Int32 → Prop} {E : Nat} {x t w : Int32} : ∀ Γ : List En, LTS r rh A E Γ → LTS (en r x t w) rh A E Γ := by
  intro Γ
  induction Γ with
  | nil => exact id
  | cons e Γ ih => exact fun h => ⟨h.1, ih h.2⟩
theorem LTS_lv {r : S_} {rh : Int32 → Int32} {A : Int32 → Prop} {E : Nat} : ∀ Γ : List En, LTS r rh A E Γ → LTS (lv r) rh A E Γ := by
  intro Γ
  induction Γ with
  | nil => exact id
  | cons e Γ ih => exact fun h => ⟨h.1, ih h.2⟩
theorem EG_AR {r r' : S_} {m : Int} {Γ : List En} (h : EG r Γ) (a : AR r m r') : EG r' Γ := by
  have l := h.2
  have ub := ir (fi r 5)
  refine ⟨EQ_ext Γ (fun k k0 k1 n hn => ?_) h.1, by rw [a.1]; exact l⟩
  have q := ofNs (n := n) (by omega)
  have := a.2.1 k k0 k1 (Int32.ofNat n) q.2.1 (by rw [it, q.1]; omega)
  rw [q.2.2] at this
  exact this
theorem EG_en {r : S_} {x t w : Int32} {b : Bool} {K : Int32 → Nat → Prop} {p : Int} {Γ : List En} (h : EG r Γ) (a0 : 0 ≤ fi r 5) (a1 : fi r 5 < 24) (hb : b = false ↔ w = -1) (hp : b = true → w = Int32.ofInt p) : EG (en r x t w) ((x, b, t, K, p) :: Γ) := by
  have l := h.2
  have n := i_nat a0
  have e : (fi r 5).toNatClampNeg = Γ.length := by omega
  refine ⟨⟨⟨?_, ?_, ?_, fun q => ?_⟩, EQ_ext Γ (fun k k0 k1 n hn => ?_) h.1⟩, ?_⟩
  · show upd (ar r 17) (fi r 5).toNatClampNeg x Γ.length = x
    rw [e, pk_us]
  · show upd (ar r 18) (fi r 5).toNatClampNeg t Γ.length = t
    rw [e, pk_us]
  · show b = false ↔ upd (ar r 19) (fi r 5).toNatClampNeg w Γ.length = -1
    rw [e, pk_us]
    exact hb
  · show upd (ar r 19) (fi r 5).toNatClampNeg w Γ.length = Int32.ofInt p
    rw [e, pk_us]
    exact hp q
  · have k3 : k = 17 ∨ k = 18 ∨ k = 19 := by omega
    rcases k3 with q | q | q
    · subst q
      show upd (ar r 17) (fi r 5).toNatClampNeg x n = _
      rw [e, pk_un (by omega)]
    · subst q
      show upd (ar r 18) (fi r 5).toNatClampNeg t n = _
      rw [e, pk_un (by omega)]
    · subst q
      show upd (ar r 19) (fi r 5).toNatClampNeg w n = _
      rw [e, pk_un (by omega)]
  · show (fi r 5 + 1).toInt = _
    rw [i_inc a1, l]
    simp
/-- a node more, with room -/
theorem ws_nodeC {ad l : Nat → Nat} {r : S_} {rh ta : Int32 → Int32} {N p0 p1 p2 : Int32} {A : Int32 → Prop} (hS : SG l r) (hI : GI (A0 l) r rh ta N) (ay : AYc r) (lt : fi r 11 < 4096) (a1 : -1 ≤ p0) (a2 : p0 < 8) (b1 : -1 ≤ p1) (b2 : p1 < fi r 11 ∨ p1 = -1) (c1 : -1 ≤ p2) (c2 : p2 < fi r 11 ∨ p2 = -1) (hp : 0 ≤ p0 → (¬ p1 = -1 ↔ 0 < ar r 0 p0.toNatClampNeg) ∧ (¬ p2 = -1 ↔ 1 < ar r 0 p0.toNatClampNeg)) (hm : p0 = -1 → p1 = -1 ∧ p2 = -1) (hA : LV r rh A) (hc1 : p1 = -1 ∨ A (rh p1)) (hc2 : p2 = -1 ∨ A (rh p2)) {K : Int32 → L_ → S_ → Prop} (hK : ∀ ad' l' r' rh', GI (A0 l') r' rh' ta N → MO r l' r' → Fn r r' → FG l l' → fi r' 11 = fi r 11 + 1 → rh' (fi r 11) = fi r 11 → (∀ x : Int32, 0 ≤ x → x < fi r 11 → rh' x = rh x) → FRM r rh A r' rh' (fun x => A x ∨ x = fi r 11) → (∀ ρ, cV r' ρ ↔ cV r ρ ∧ (0 ≤ p0 → ρ (fi r 11) = Jn p0 (ρ p1) (ρ p2))) → (BK r → 0 ≤ (fi r 6).toInt → BK r') → (∀ x : Int32, 0 ≤ x → x < fi r' 11 → ∀ c, gb (ar r' 24 x.toNatClampNeg) c = true ↔ x < fi r 11 ∧ gb (ar r 24 x.toNatClampNeg) c = true) → K (fi r 11) (ad', l') r') : wG_newNode K (ad, l) r p0 p1 p2 := by
  have c0 := hI.2.1
  refine ws_new hI hS.2.1 hS.2.2 a1 a2 b1 b2 c1 c2 (fun z a r' hn hnn => ?_)
  obtain ⟨ad', l'⟩ := a
  have x := EXm_new (EXm_refl hI hS.2.1 hS.2.2 ay) hI.2.1 (fun _ _ _ => rfl) hn hnn hp hm
  have mo := MO_ex hI x
  obtain ⟨rh', n1, n2, n3, n4, n5, n6, n7, n8, n9, n10, n11⟩ := hn
  rcases hnn with hq | hq
  rotate_left
  · exact absurd lt hq.1
  have hq' := hq
  obtain ⟨_, ez, e11, e15, v21, v22, v23, v24, v25, v26, v27⟩ := hq
  subst ez
  have inc := i_inc lt
  have nz : ¬ ar r' 21 (fi r 11).toNatClampNeg = -2 := by rw [v21]; intro e; rw [e] at a1; exact absurd a1 (by decide)
  have rz : rh' (fi r 11) = fi r 11 := (n1.2.2.2.2.1.2 _ n8 n9).2.2.2.1 nz
  have lst : ∀ x : Int32, x < fi r' 11 → ¬ x < fi r 11 → x = fi r 11 := fun x h1 h2 => by
    rw [it, e11, inc] at h1
    rw [it] at h2
    apply Int32.toInt_inj.mp
    omega
  refine hK ad' l' r' rh' n1 mo n5 ⟨n10, n11⟩ e11 rz n2 ?_ (fun ρ => ?_) (fun bk h6 y y0 y1 => ?_) (fun y y0 y1 c => ?_)
  · refine FRM_ext hI hA n7 n2 (fun x x0 x1 => ⟨⟨n6 x x0 x1 21 (by decide) (by decide), n6 x x0 x1 23 (by decide) (by decide), n6 x x0 x1 25 (by decide) (by decide), n6 x x0 x1 26 (by decide) (by decide)⟩, fun _ => n6 x x0 x1 22 (by decide) (by decide)⟩) mo.2.2.1 (fun x hx => ?_)
    subst hx
    rw [v22, v23, v25, v26]
    have go : ∀ q : Int32, -1 ≤ q → (q < fi r 11 ∨ q = -1) → (q = -1 ∨ A (rh q)) → ¬ q = -1 → A (rh' q) ∨ rh' q = fi r 11 := fun q q0 q1 q2 q3 => Or.inl (by
      rw [n2 q (pz0 q0 q3) (q1.resolve_right q3)]
      exact q2.resolve_left q3)
    exact ⟨⟨Int32.le_refl _, n9⟩, ⟨nz, by decide, rfl⟩, go p1 b1 b2 hc1, go p2 c1 c2 hc2⟩
  · have q := vcq hI n6 hq' a1 (ρ := ρ)
    constructor
    · rintro ⟨h1, h2⟩
      have k := q.mp h2
      exact ⟨⟨by rw [← e15]; exact h1, k.1⟩, k.2⟩
    · rintro ⟨⟨h1, h2⟩, h3⟩
      exact ⟨by rw [e15]; exact h1, q.mpr ⟨h2, h3⟩⟩
  · rw [show fi r' 6 = fi r 6 from n5.1 6 (by decide)]
    by_cases h : y < fi r 11
    · rw [n6 y y0 h 27 (by decide) (by decide), n6 y y0 h 25 (by decide) (by decide)]
      exact bk y y0 h
    · rw [lst y y1 h, v27, v25]
      exact ⟨h6, fun c q => by rw [gb_0] at q; exact absurd q (by decide)⟩
  · by_cases h : y < fi r 11
    · rw [n6 y y0 h 24 (by decide) (by decide)]
      exact ⟨fun q => ⟨h, q⟩, fun q => q.2⟩
    · rw [lst y y1 h, v24, gb_0]
      exact ⟨fun q => absurd q (by decide), fun q => absurd q.1 irr⟩
def HTc (d : Nat) : Prop := ∀ (ad l : Nat → Nat) (r : S_) (rh ta : Int32 → Int32) (N e : Int32) (Γ : List En) (A : Int32 → Prop) (E m : Nat) (K : Int32 → L_ → S_ → Prop), (ar r 16 e.toNatClampNeg).toInt = m → TP0 l r m → GI (A0 l) r rh ta N → TBX r → 0 ≤ e → e < fi r 4 → m < d → m ≤ 24 → PRc r rh Γ A E m → (∀ z ad' l' r', MO r l' r' → AR r m r' → YR l r (4 * m) l' r' → 0 ≤ z → z < fi r' 11 → PSc r rh Γ A E m d e z l' r' → K z (ad', l') r') → wY_typeOf d K (ad, l) r e
variable {T : Tbz} {d : Nat} {e : Int32} {Γ : List En} {c t c' : Int32} {V V' : (Int32 → Ut) → Prop} {W : Int32 → Nat → Prop} {k am : Prop} {p : Int}
theorem zTY_k1 (h0 : tK T e = 1) (hV : ∀ ρ, V' ρ → V ρ) (hL : zLoc c' V') (hc : c ≤ c') (ht : 0 ≤ t ∧ t < c') (h : ∃ f c1 tb cb Vb, (c ≤ f ∧ f < c1) ∧ zTY T d (tB T e) ((tA T e, false, f, fun _ _ => False, 0) :: Γ) c1 V tb cb Vb W k am p ∧ (cb ≤ t ∧ t < c' ∧ 0 ≤ f) ∧ zLoc cb Vb ∧ (c1 ≤ cb ∧ (0 ≤ tb ∧ tb < cb)) ∧ ∀ ρ, V' ρ ↔ Vb ρ ∧ ρ t = Jn 0 (ρ f) (ρ tb)) : zTY T (d + 1) e Γ c V t c' V' W k am p := by
  rw [zTY]
  refine ⟨hV, Or.inr ⟨hL, hc, ht, Or.inr (Or.inl h0), fun q => ?_, fun _ => h, fun q => ?_, fun q => ?_, fun q => ?_, fun q => ?_⟩⟩ <;> (rw [h0] at q; exact absurd q (by decide))
theorem i32_1 {x : Int32} (h : x.toInt ≤ 100000) : (x + 1).toInt = x.toInt + 1 ∧ x < x + 1 ∧ x ≤ x + 1 := by
  have e : (x + 1).toInt = x.toInt + 1 := i_inc (y := 1000000) (by rw [it]; simp; omega)
  exact ⟨e, by rw [it, e]; omega, by rw [il, e]; omega⟩
theorem TYc_lam (ih : HTc d) {ad l : Nat → Nat} {r : S_} {rh ta : Int32 → Int32} {N : Int32} {A : Int32 → Prop} {E m : Nat} {K : Int32 → L_ → S_ → Prop} (w : TP0 l r (1 + (m : Int))) (hI : GI (A0 l) r rh ta N) (tx : TBX r) (m1 : 1 ≤ m) (m2 : m + 1 ≤ 24) (pr : PRc r rh Γ A E (m + 1)) (hk : ar r 12 e.toNatClampNeg = 1) (hm : (ar r 16 (ar r 14 e.toNatClampNeg).toNatClampNeg).toInt = m) (b1 : 0 ≤ ar r 14 e.toNatClampNeg) (b2 : ar r 14 e.toNatClampNeg < fi r 4) (b3 : m < d) (hK : ∀ z ad' l' r', PSc r rh Γ A E (m + 1) (d + 1) e z l' r' → K z (ad', l') r') : wY_typeOfLambda (wY_typeOf d) K (ad, l) r (ar r 13 e.toNatClampNeg) (ar r 14 e.toNatClampNeg) := by
  unfold wY_typeOfLambda
  obtain ⟨y, ay, ty, a2, h13, h5, h60, h6⟩ := w
  have w : TP0 l r (1 + (m : Int)) := ⟨y, ay, ty, a2, h13, h5, h60, h6⟩
  obtain ⟨⟨ρ0, v0⟩, eg, hA, hlm, lts, bk, rm, hE⟩ := pr
  have c0 := SG_c y.1
  obtain ⟨rm1, rm2, rm3⟩ := rm16 rm hE (by omega) m2
  have mtl := Nat.mul_le_mul_left (E + 2) (mt_lam m1 m2)
  have qtl := Nat.mul_le_mul_left (E + 2) (qt_lam m1 m2)
  rw [Nat.mul_succ] at mtl qtl
  have p5 := y.2.1.1
  have q5 : fi r 5 < 24 := by rw [it]; simp; omega
  have inc5 := i_inc q5
  have lt : fi r 11 < 4096 := by rw [it, show (4096 : Int32).toInt = 4096 from rfl]; omega
  have inc := i_inc lt
  refine ws_nodeC y.1 hI ay lt (by decide) (by decide) (by decide) (Or.inr rfl) (by decide) (Or.inr rfl) (fun z => absurd z (by decide)) (fun _ => ⟨rfl, rfl⟩) hA (Or.inl rfl) (Or.inl rfl) (fun ad1 l1 r1 rh1 g1 mo1 f1 fg1 e11 rz n2 fm1 vc1 bk1 as1 _ => ?_)
  have y1 := new_YI y mo1 f1 fg1
  have e5 : fi r1 5 = fi r 5 := f1.1 5 (by decide)
  have e13 : fi r1 13 = fi r 13 := f1.1 13 (by decide)
  have e6 : fi r1 6 = fi r 6 := f1.1 6 (by decide)
  have eg1 : EG r1 Γ := EG_AR eg (new_AR f1)
  have z11 : fi r 11 < fi r1 11 := by rw [e11, it, inc]; omega
  have v1 : cV r1 ρ0 := (vc1 ρ0).mpr ⟨v0, fun q => absurd q (by decide)⟩
  have Veq : cV r1 = cV r := funext (fun ρ => propext ⟨fun h => ((vc1 ρ).mp h).1, fun h => (vc1 ρ).mpr ⟨h, fun q => absurd q (by decide)⟩⟩)
  refine ws_enter (by rw [e5]; exact q5) ?_
  have tb2 : Tb r (en r1 (ar r 13 e.toNatClampNeg) (fi r 11) (-1)) := Tb_trans (Tb_Fr f1 (by decide) (by decide)) (Tb_Fr en_Fr (by decide) (by decide))
  have t16 : ar (en r1 (ar r 13 e.toNatClampNeg) (fi r 11) (-1)) 16 = ar r 16 := tb2.2 16 (by omega)
  have f5 : fi (en r1 (ar r 13 e.toNatClampNeg) (fi r 11) (-1)) 5 = fi r1 5 + 1 := rfl
  have f13 : fi (en r1 (ar r 13 e.toNatClampNeg) (fi r 11) (-1)) 13 = fi r1 13 := rfl
  have f6 : fi (en r1 (ar r 13 e.toNatClampNeg) (fi r 11) (-1)) 6 = fi r1 6 := rfl
  have w2 : TP0 l1 (en r1 (ar r 13 e.toNatClampNeg) (fi r 11) (-1)) m := TP0_Tb w (en_YI y1 (by rw [e5]; exact q5) c0.1 z11) mo1.2.1 tb2 (by rw [f13, e13]; omega) (by rw [f5, e5, inc5]; omega) (by rw [f6, e6]; exact h60) (by rw [f6, e6]; omega)
  have pr2 : PRc (en r1 (ar r 13 e.toNatClampNeg) (fi r 11) (-1)) rh1 ((ar r 13 e.toNatClampNeg, false, fi r 11, fun _ _ => False, 0) :: Γ) (fun x => A x ∨ x = fi r 11) E m := by
    refine ⟨⟨ρ0, v1⟩, EG_en eg1 (by rw [e5]; exact p5) (by rw [e5]; exact q5) (by simp) (by simp), fm1.2.2.2.1, fun y hy => ?_, ⟨fun q => absurd (show false = true from q) (by decide), LTS_en Γ (LTS_frm hI g1 mo1.2.1 hA fm1 Γ lts)⟩, bk1 bk h60, ?_, hE⟩
    · obtain ⟨e3, h1, h2, h3⟩ := hy
      rcases List.mem_cons.mp h1 with q | q
      · subst q
        have h3' : y = fi r 11 := h3
        rw [h3']
        exact ⟨⟨c0.1, z11⟩, Or.inr rz⟩
      · have k := hlm y ⟨e3, q, h2, h3⟩
        rw [n2 y k.1.1 k.1.2]
        exact ⟨⟨k.1.1, ltt k.1.2 z11⟩, Or.inl k.2⟩
    · show 9 * (fi r1 11).toInt + ((E + 2) * mt m : Nat) ≤ 36882
      rw [e11, inc]
      omega
  refine ih ad1 l1 (en r1 (ar r 13 e.toNatClampNeg) (fi r 11) (-1)) rh1 ta N (ar r 14 e.toNatClampNeg) _ _ E m _ (by rw [t16]; exact hm) w2 g1 (TBX_Tb tx tb2) b1 (by rw [tb2.1 4 (by omega)]; exact b2) b3 (by omega) pr2 (fun z3 ad3 l3 r3 m3 a3 y3 z30 z31 ps _ => ?_)
  obtain ⟨a4, p3⟩ := AR_en (by rw [e5]; exact p5) (by rw [e5]; exact q5) a3
  refine ws_leave p3 ?_
  obtain ⟨t3, c3, W3, k3, am3, pp3, hz, ⟨hl3, hc3, ht3⟩, hb3, hpo⟩ := ps
  rw [ctb_Tb tb2] at hz
  have hz' : zTY (ctb r) d (ar r 14 e.toNatClampNeg) ((ar r 13 e.toNatClampNeg, false, fi r 11, fun _ _ => False, 0) :: Γ) (fi r1 11) (cV r) t3 c3 (cV r3) W3 k3 am3 pp3 := by
    rw [← Veq]
    exact hz
  have hc3' : fi r1 11 ≤ c3 := hc3
  have ar0 : ar (lv r3) 0 ((0 : Int32)).toNatClampNeg = 2 := by
    show ar r3 0 ((0 : Int32)).toNatClampNeg = 2
    have q : ar r3 0 = ar (en r1 (ar r 13 e.toNatClampNeg) (fi r 11) (-1)) 0 := y3.2.2.1.2.1 0 (by decide)
    rw [q]
    exact w2.2.2.2.1
  have z1r : fi r 11 < fi (lv r3) 11 := zo3 z11 m3.2.2.2
  by_cases hv : ∃ ρ, cV r3 ρ
  · obtain ⟨et, ec, rh3, ta3, N3, g3, ⟨fl9, fl10, fl8⟩, bk3, ⟨A3, fm3, hz3, wok, L3, hL3, nL3⟩, mk3⟩ := hpo hv
    subst et
    subst ec
    have e11' : (fi r1 11).toInt = (fi r 11).toInt + 1 := by rw [e11, inc]
    have mk3' : 9 * ((fi r3 11).toInt - (fi r1 11).toInt + 2) ≤ ((E + 2) * mt m : Nat) := mk3
    have lt3 : fi (lv r3) 11 < 4096 := by
      show fi r3 11 < 4096
      rw [it, show (4096 : Int32).toInt = 4096 from rfl]; omega
    have inc3 := i_inc lt3
    have im1 : A3 (rh3 (fi r 11)) := (fm3.2.1 (fi r 11) c0.1 z11).1 (Or.inr rz)
    refine ws_nodeC (r := lv r3) (A := A3) m3.1 g3 m3.2.1 lt3 (by decide) (by decide) (m1le c0.1) (Or.inl z1r) (m1le z30) (Or.inl z31) (arr2 ar0 c0.1 z30) (fun q => absurd q (by decide)) fm3.2.2.2.1 (Or.inr im1) (Or.inr hz3) (fun ad5 l5 r5 rh5 g5 mo5 f5' fg5 e511 rz5 n25 fm5 vc5 bk5 as5 _ => ?_)
    have mo5' : MO r3 l5 r5 := MO_froml mo5
    have hV : ∀ ρ, cV r5 ρ → cV r ρ := fun ρ h => mo1.2.2.1 ρ ((MO_from m3).2.2.1 ρ (mo5'.2.2.1 ρ h))
    have r35 : fi r3 11 < fi r5 11 := by rw [e511, it]; have : (fi r3 11 + 1).toInt = (fi r3 11).toInt + 1 := inc3; show (fi r3 11).toInt < (fi r3 11 + 1).toInt; omega
    have le15 : fi r 11 ≤ fi r3 11 := zo4 (zo3 z11 m3.2.2.2)
    have le5 : fi r 11 ≤ fi r5 11 := zo4 (zo3 z11 (zo2 m3.2.2.2 (zo4 r35)))
    have z50 : 0 ≤ fi r3 11 := zo2 c0.1 le15
    have fmA : FRM r rh A r3 rh3 A3 := FRM_trans hI (A1 := fun x => A x ∨ x = fi r 11) (rh1 := rh1) (r1 := r1) fm1 fm3
    have fmB : FRM r rh A r5 rh5 (fun x => A3 x ∨ x = fi r3 11) := FRM_trans hI fmA fm5
    have i5 : (fi r5 11).toInt = (fi r3 11).toInt + 1 := by
      rw [e511]
      exact inc3
    refine hK (fi r3 11) ad5 l5 r5 ⟨fi r3 11, fi r5 11, W3, k3, am3, pp3, zTY_k1 hk hV (SG_loc mo5.1) le5 ⟨z50, r35⟩ ⟨fi r 11, fi r1 11, t3, fi r3 11, cV r3, ⟨Int32.le_refl _, z11⟩, hz', ⟨Int32.le_refl _, r35, c0.1⟩, hl3, ⟨hc3', ht3⟩, fun ρ => ?_⟩, ⟨SG_loc mo5.1, le5, z50, r35⟩, by have := (SG_c mo5.1).2; omega, fun _ => ⟨rfl, rfl, rh5, ta3, N3, g5, ⟨⟨?_, ?_, ?_⟩, bk5 bk3 ?_, ⟨fun x => A3 x ∨ x = fi r3 11, fmB, ?_, ⟨fun x c hx => ?_, fun x x0 x1 c => ?_⟩, ?_⟩, ?_⟩⟩⟩
    · have q := vc5 ρ
      constructor
      · intro h
        have k := q.mp h
        exact ⟨k.1, k.2 (by decide)⟩
      · rintro ⟨k1, k2⟩
        exact q.mpr ⟨k1, fun _ => k2⟩
    · rw [show fi r5 9 = fi r3 9 from f5'.1 9 (by decide), fl9]
      rw [show fi (en r1 (ar r 13 e.toNatClampNeg) (fi r 11) (-1)) 9 = fi r 9 from f1.1 9 (by decide)]
    · rw [show fi r5 10 = fi r3 10 from f5'.1 10 (by decide), fl10]
      rw [show fi (en r1 (ar r 13 e.toNatClampNeg) (fi r 11) (-1)) 10 = fi r 10 from f1.1 10 (by decide)]
    · rw [show fi r5 8 = fi r3 8 from f5'.1 8 (by decide), fl8]
      rw [show fi (en r1 (ar r 13 e.toNatClampNeg) (fi r 11) (-1)) 8 = fi r 8 from f1.1 8 (by decide)]
    · have q := a4.2.2.1
      show 0 ≤ (fi r3 6).toInt
      have q' : (fi r1 6).toInt ≤ (fi r3 6).toInt := q
      rw [e6] at q'
      omega
    · rw [show fi (lv r3) 11 = fi r3 11 from rfl] at rz5
      rw [rz5]
      exact Or.inr rfl
    · have k := wok.1 x c hx
      refine ⟨⟨k.1.1, ltt k.1.2 r35⟩, ?_, k.2.2.1, fun q => ?_⟩
      · rw [n25 x k.1.1 k.1.2]
        exact Or.inl k.2.1
      · rcases k.2.2.2 (ltt q z11) with u | u
        · exact u
        · rw [u] at q; exact absurd q irr
    · rw [as5 x x0 x1 c]
      constructor
      · rintro ⟨h1, h2⟩
        rcases (wok.2 x x0 h1 c).mp h2 with ⟨u1, u2⟩ | u
        · exact Or.inl ((as1 x x0 u1 c).mp u2)
        · exact Or.inr u
      · rintro (⟨h1, h2⟩ | h)
        · have h3 : x < fi r3 11 := zo3 h1 le15
          exact ⟨h3, (wok.2 x x0 h3 c).mpr (Or.inl ⟨ltt h1 z11, (as1 x x0 (ltt h1 z11) c).mpr ⟨h1, h2⟩⟩)⟩
        · have k := wok.1 x c h
          exact ⟨k.1.2, (wok.2 x x0 k.1.2 c).mpr (Or.inr h)⟩
    · refine ⟨fi r 11 :: fi r3 11 :: L3, fun x hx => ?_, ?_⟩
      · rcases hx with hx | hx
        · rcases hL3 x hx with (u | u) | u
          · exact Or.inl u
          · exact Or.inr (by rw [u]; exact List.mem_cons_self ..)
          · exact Or.inr (List.mem_cons_of_mem _ (List.mem_cons_of_mem _ u))
        · exact Or.inr (by rw [hx]; exact List.mem_cons_of_mem _ (List.mem_cons_self ..))
      · simp only [List.length_cons]
        omega
    · omega
  · have nv : ∀ ρ, ¬ cV r3 ρ := fun ρ h => hv ⟨ρ, h⟩
    refine MO_new (r := lv r3) m3.1 m3.2.1 (by decide) (by decide) (m1le c0.1) (Or.inl z1r) (m1le z30) (Or.inl z31) (arr2 ar0 c0.1 z30) (fun q => absurd q (by decide)) (fun z5 ad5 l5 r5 mo5 _ _ _ _ _ => ?_)
    have nv5 : ∀ ρ, ¬ cV r5 ρ := fun ρ h => nv ρ ((MO_froml mo5).2.2.1 ρ h)
    have i1 := i32_1 (x := c3) (by omega)
    have le : fi r 11 ≤ c3 := zo4 (zo3 z11 hc3')
    have lo : zLoc (c3 + 1) (cV r5) := fun ρ _ _ h => absurd h (nv5 ρ)
    have tt : 0 ≤ c3 ∧ c3 < c3 + 1 := ⟨zo2 c0.1 le, i1.2.1⟩
    refine hK z5 ad5 l5 r5 ⟨c3, c3 + 1, W3, k3, am3, pp3, zTY_k1 hk (fun ρ h => absurd h (nv5 ρ)) lo (zo2 le i1.2.2) tt ⟨fi r 11, fi r1 11, t3, c3, cV r3, ⟨Int32.le_refl _, z11⟩, hz', ⟨Int32.le_refl _, i1.2.1, c0.1⟩, hl3, ⟨hc3', ht3⟩, fun ρ => ⟨fun h => absurd h (nv5 ρ), fun h => absurd h.1 (nv ρ)⟩⟩, ⟨lo, zo2 le i1.2.2, tt⟩, by rw [i1.1]; omega, fun ⟨ρ, h⟩ => absurd h (nv5 ρ)⟩
end ZLAMC
