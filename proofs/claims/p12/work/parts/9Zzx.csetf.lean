/-! The class's settling as a whole. -/
section ZCSETF
variable {a : L_} {r r' : S_} {rh ta rk : Int32 → Int32} {N : Int32}
theorem zNd_cg {I I' : Nat → Int32 → Prop} {F1 F2 F1' F2' : Nat → Int32 → Nat → Prop} {a1 a2 : Int32 → Prop} {g g' : Gr} {W : Int32 → Nat → Prop} (w : zGW a1 a2 g) (f1 : ∀ c k c1, F1 c k c1 → a1 k) (f2 : ∀ c k c1, F2 c k c1 → a2 k) (hR : ∀ x, zNx g x → gR g' x = gR g x) (hr : ∀ y, zRn g y → gH g' y = gH g y ∧ gF g' y = gF g y ∧ gS g' y = gS g y) (hI : ∀ c k, I c k → I' c k) (h1 : ∀ c k c1, F1 c k c1 → F1' c k c1) (h2 : ∀ c k c1, F2 c k c1 → F2' c k c1) (hW : ∀ x c, W x c → zNx g x) {v : Int32} {c : Nat} (h : zNd I F1 F2 g W v c) : zNd I' F1' F2' g' W v c := by
  have key := h (fun v c => zRn g v ∧ zNd I' F1' F2' g' W v c) ?_ ?_
  · exact key.2
  · intro x c hx
    have n := hW x c hx
    refine ⟨w.1 x n, ?_⟩
    rw [← hR x n]
    exact zNd_0 hx
  · rintro y c c1 ⟨hy, hn⟩ q1 q2
    obtain ⟨e1, e2, e3⟩ := hr y hy
    refine ⟨fun q3 => ?_, fun q3 => ?_⟩
    · have nf := ((w.2 y hy).2.2.1 q1).1.mpr (f1 _ _ _ q3)
      have nx : zNx g (gF g y) := by rcases (w.2 y hy).1 with k | k; exact absurd k nf; exact k
      refine ⟨w.1 _ nx, ?_⟩
      have := zNd_1 (c1 := c1) hn (by rw [e1]; exact q1) (by rw [e1]; exact hI _ _ q2) (by rw [e1]; exact h1 _ _ _ q3)
      rw [e2, hR _ nx] at this
      exact this
    · have nf := ((w.2 y hy).2.2.1 q1).2.mpr (f2 _ _ _ q3)
      have nx : zNx g (gS g y) := by rcases (w.2 y hy).2.1 with k | k; exact absurd k nf; exact k
      refine ⟨w.1 _ nx, ?_⟩
      have := zNd_2 (c1 := c1) hn (by rw [e1]; exact q1) (by rw [e1]; exact hI _ _ q2) (by rw [e1]; exact h2 _ _ _ q3)
      rw [e3, hR _ nx] at this
      exact this
def aW (r : S_) (s0 : Int32) (x : Int32) (c : Nat) : Prop := s0 ≤ x ∧ x < fi r 11 ∧ gb (ar r 24 x.toNatClampNeg) c = true
def BdR (r : S_) (rh : Int32 → Int32) (v : Int32) : Prop := ∃ i, lam r i ∧ Rq r rh (ar r 18 i.toNatClampNeg) v
def vr (r : S_) (v : Int32) : Prop := 0 ≤ v ∧ v < fi r 11 ∧ ar r 21 v.toNatClampNeg = -1
/-- the tables as settling needs them -/
def KTz (r : S_) : Prop := (0 ≤ fi r 2 ∧ fi r 2 ≤ 8) ∧ (∀ c k c1, kF r 10 c k c1 → kI r c k ∧ 0 < ar r 0 k.toNatClampNeg) ∧ (∀ c k c1, kF r 11 c k c1 → kI r c k ∧ 1 < ar r 0 k.toNatClampNeg) ∧ (∀ c k c1, kF r 10 c k c1 → c1 < 8) ∧ ∀ c k c1, kF r 11 c k c1 → c1 < 8
theorem KTz_eq {r1 : S_} (h : KTz r) (f2 : fi r1 2 = fi r 2) (e0 : ar r1 0 = ar r 0) (e9 : ar r1 9 = ar r 9) (e10 : ar r1 10 = ar r 10) (e11 : ar r1 11 = ar r 11) : KTz r1 := by
  obtain ⟨h1, h2, h3, h4, h5⟩ := h
  refine ⟨by rw [f2]; exact h1, fun c k c1 q => ?_, fun c k c1 q => ?_, fun c k c1 q => h4 c k c1 ((kF_eq f2 e10).mp q), fun c k c1 q => h5 c k c1 ((kF_eq f2 e11).mp q)⟩
  · rw [e0]
    have := h2 c k c1 ((kF_eq f2 e10).mp q)
    exact ⟨(kI_eq f2 e9).mpr this.1, this.2⟩
  · rw [e0]
    have := h3 c k c1 ((kF_eq f2 e11).mp q)
    exact ⟨(kI_eq f2 e9).mpr this.1, this.2⟩
theorem cNd8 {s0 : Int32} (kt : KTz r) (w8 : ∀ x c, aW r s0 x c → c < 8) {v : Int32} {c : Nat} (h : cNd r (aW r s0) v c) : c < 8 := h (fun _ c => c < 8) (fun x c hx => w8 x c hx) (fun y c c1 _ _ _ => ⟨fun q => kt.2.2.2.1 _ _ _ q, fun q => kt.2.2.2.2 _ _ _ q⟩)
/-- what settling comes to -/
def STL (r r' : S_) (rh : Int32 → Int32) (s0 t z : Int32) : Prop := (∀ x : Int32, 0 ≤ x → x < fi r 11 → Rq r rh t x → (ar r' 26 x.toNatClampNeg = 1 ↔ ∃ v, Rq r rh x v ∧ ar r 21 v.toNatClampNeg = -1 ∧ ¬ BdR r rh v)) ∧ (∀ x : Int32, 0 ≤ x → x < fi r 11 → ¬ Rq r rh t x → ar r' 26 x.toNatClampNeg = ar r 26 x.toNatClampNeg) ∧ (∀ x : Int32, 0 ≤ x → x < fi r 11 → ¬ (ar r 21 x.toNatClampNeg = -1 ∧ Rq r rh t x ∧ ¬ BdR r rh x ∧ ∃ c, cNd r (aW r s0) x c) → ar r' 25 x.toNatClampNeg = ar r 25 x.toNatClampNeg) ∧ (∀ v, vr r v → Rq r rh t v → ¬ BdR r rh v → (∃ c, cNd r (aW r s0) v c) → ∀ d, d < 32 → (gb (ar r' 25 v.toNatClampNeg) d = true ↔ zLow (kU r) (cNd r (aW r s0) v) d)) ∧ (∀ x : Int32, 0 ≤ x → x < fi r 11 → ∀ c, gb (ar r' 24 x.toNatClampNeg) c = true ↔ (x < s0 ∧ gb (ar r 24 x.toNatClampNeg) c = true) ∨ (ar r 21 x.toNatClampNeg = -1 ∧ BdR r rh x ∧ cNd r (aW r s0) x c)) ∧ (¬ fi r' 9 = 0 ↔ ¬ fi r 9 = 0 ∨ zLK (kI r) (kF r 10) (kF r 11) (cG r) (aW r s0)) ∧ (¬ fi r' 10 = 0 ↔ ¬ fi r 10 = 0 ∨ ∃ v c, vr r v ∧ cNd r (aW r s0) v c ∧ ¬ BdR r rh v ∧ ¬ Rq r rh t v) ∧ ∃ l : List (Int32 × Nat), l.Nodup ∧ z.toInt = l.length ∧ ∀ v d, (v, d) ∈ l ↔ (vr r v ∧ ¬ BdR r rh v ∧ Rq r rh t v) ∧ zLow (kU r) (cNd r (aW r s0) v) d
theorem ws_settle {s0 t : Int32} (hI : GI a r rh ta N) (ay : AYc r) (hv : VB r) (hb : fi r 13 < 1900000000) (ac : ACY (fi r 11) (ar r 21) (ar r 22) (ar r 23) rh rk) (hA : TA a r) (kt : KTz r) (s00 : 0 ≤ s0) (s01 : s0 ≤ fi r 11) (t0 : 0 ≤ t) (t1 : t < fi r 11) (hs : ∀ x : Int32, 0 ≤ x → x < fi r 11 → ¬ ar r 27 x.toNatClampNeg = fi r 6 + 1) (w8 : ∀ x c, aW r s0 x c → c < 8) (hop : ∀ x c y, aW r s0 x c → Rq r rh x y → ¬ ar r 26 y.toNatClampNeg = 1) {K : Int32 → S_ → Prop} (hK : ∀ z r', GI a r' rh ta N → AYc r' → VB r' → fi r' 13 = fi r 13 + 3 → fi r' 6 = fi r 6 + 1 → FS (fi r 11) (ar r 21) (ar r 22) (ar r' 22) → Fr [6, 9, 10, 12, 13, 14] [22, 24, 25, 26, 27, 28, 29, 30, 31] r r' → (∀ x : Int32, 0 ≤ x → x < fi r 11 → ar r' 27 x.toNatClampNeg = fi r 6 + 1 ∨ ar r' 27 x.toNatClampNeg = ar r 27 x.toNatClampNeg) → STL r r' rh s0 t z → K z r') : wY_settle a K r s0 t := by
  unfold wY_settle
  intro r1 e1
  subst e1
  have hb1 : fi r 13 < 2000000000 := by clear hI ac hA ay kt hs w8 hop; grind
  refine ws_markBound (r := sF r 6 (fi r 6 + 1)) hI hv hb1 ac hA hs (fun r2 i2 v2 c2 s2 F2 m2 b2 => ?_)
  have f6_2 : fi r2 6 = fi r 6 + 1 := F2.1 6 (by decide)
  have f11_2 : fi r2 11 = fi r 11 := F2.1 11 (by decide)
  have e21_2 : ar r2 21 = ar r 21 := F2.2.1 21 (by decide)
  have e23_2 : ar r2 23 = ar r 23 := F2.2.1 23 (by decide)
  have e0_2 : ar r2 0 = ar r 0 := F2.2.1 0 (by decide)
  have e24_2 : ar r2 24 = ar r 24 := F2.2.1 24 (by decide)
  have e25_2 : ar r2 25 = ar r 25 := F2.2.1 25 (by decide)
  have e26_2 : ar r2 26 = ar r 26 := F2.2.1 26 (by decide)
  have fs2 : FS (fi r 11) (ar r 21) (ar r 22) (ar r2 22) := s2
  have ay2 : AYc r2 := AYc_fs f11_2 e0_2 e21_2 e23_2 fs2 ay
  have c2' : fi r2 13 = fi r 13 + 1 := c2
  have acf : ∀ q : S_, fi q 11 = fi r 11 → ar q 21 = ar r 21 → ar q 23 = ar r 23 → FS (fi r 11) (ar r 21) (ar r 22) (ar q 22) → ACY (fi q 11) (ar q 21) (ar q 22) (ar q 23) rh rk := by
    intro q q1 q2 q3 q4 x x0 x1 x2
    rw [q1] at x1
    rw [q2] at x2
    rw [q3, q4 x x0 x1 x2]
    exact ac x x0 x1 x2
  have rq2 : ∀ {x y}, Rq r2 rh x y ↔ Rq r rh x y := fun {x y} => Rq_fs f11_2 e21_2 e23_2 fs2
  have bd2 : ∀ x : Int32, 0 ≤ x → x < fi r 11 → (ar r2 27 x.toNatClampNeg = fi r2 6 ↔ BdR r rh x) := fun x x0 x1 => by
    rw [f6_2]
    exact b2 x x0 x1
  refine ws_markOpen (r := r2) (p0 := t) i2 ay2 v2 (by rw [c2']; clear hI ac hA ay kt hs w8 hop acf; grind) (acf r2 f11_2 e21_2 e23_2 fs2) t0 (by rw [f11_2]; exact t1) (fun r3 i3 v3 c3 s3 F3 p3 n3 => ?_)
  have f6_3 : fi r3 6 = fi r 6 + 1 := (F3.1 6 (by decide)).trans f6_2
  have f11_3 : fi r3 11 = fi r 11 := (F3.1 11 (by decide)).trans f11_2
  have e21_3 : ar r3 21 = ar r 21 := (F3.2.1 21 (by decide)).trans e21_2
  have e23_3 : ar r3 23 = ar r 23 := (F3.2.1 23 (by decide)).trans e23_2
  have e0_3 : ar r3 0 = ar r 0 := (F3.2.1 0 (by decide)).trans e0_2
  have e24_3 : ar r3 24 = ar r 24 := (F3.2.1 24 (by decide)).trans e24_2
  have e25_3 : ar r3 25 = ar r 25 := (F3.2.1 25 (by decide)).trans e25_2
  have e27_3 : ar r3 27 = ar r2 27 := F3.2.1 27 (by decide)
  have fs3 : FS (fi r 11) (ar r 21) (ar r 22) (ar r3 22) := fun x x0 x1 x2 => (s3 x x0 (by rw [f11_2]; exact x1) (by rw [e21_2]; exact x2)).trans (fs2 x x0 x1 x2)
  have ay3 : AYc r3 := AYc_fs f11_3 e0_3 e21_3 e23_3 fs3 ay
  refine ws_gather (r := r3) (s0 := s0) i3 v3 (by rw [c3, c2']; clear hI ac hA ay kt hs w8 hop acf; grind) (acf r3 f11_3 e21_3 e23_3 fs3) s00 (by rw [f11_3]; exact s01) (fun r4 i4 v4 c4 s4 F4 o4 ob4 vl4 cv4 az4 ao4 n => ?_)
  have f6_4 : fi r4 6 = fi r 6 + 1 := (F4.1 6 (by decide)).trans f6_3
  have f11_4 : fi r4 11 = fi r 11 := (F4.1 11 (by decide)).trans f11_3
  have e21_4 : ar r4 21 = ar r 21 := (F4.2.1 21 (by decide)).trans e21_3
  have e23_4 : ar r4 23 = ar r 23 := (F4.2.1 23 (by decide)).trans e23_3
  have e0_4 : ar r4 0 = ar r 0 := (F4.2.1 0 (by decide)).trans e0_3
  have e25_4 : ar r4 25 = ar r 25 := (F4.2.1 25 (by decide)).trans e25_3
  have e26_4 : ar r4 26 = ar r3 26 := F4.2.1 26 (by decide)
  have e27_4 : ar r4 27 = ar r2 27 := (F4.2.1 27 (by decide)).trans e27_3
  have fs4 : FS (fi r 11) (ar r 21) (ar r 22) (ar r4 22) := fun x x0 x1 x2 => (s4 x x0 (by rw [f11_3]; exact x1) (by rw [e21_3]; exact x2)).trans (fs3 x x0 x1 x2)
  have ay4 : AYc r4 := AYc_fs f11_4 e0_4 e21_4 e23_4 fs4 ay
  have Fall : Fr [6, 12, 13, 14] [22, 24, 26, 27, 28, 29, 30, 31] r r4 := Fr_trans (Fr_sF (by decide)) (Fr_trans (Fr_mono F2 (by decide) (by decide)) (Fr_trans (Fr_mono F3 (by decide) (by decide)) (Fr_mono F4 (by decide) (by decide))))
  have f2_4 : fi r4 2 = fi r 2 := Fall.1 2 (by decide)
  have e7_4 : ar r4 7 = ar r 7 := Fall.2.1 7 (by decide)
  have e9_4 : ar r4 9 = ar r 9 := Fall.2.1 9 (by decide)
  have e10_4 : ar r4 10 = ar r 10 := Fall.2.1 10 (by decide)
  have e11_4 : ar r4 11 = ar r 11 := Fall.2.1 11 (by decide)
  have kt4 : KTz r4 := KTz_eq kt f2_4 e0_4 e9_4 e10_4 e11_4
  -- what is wanted, in the graph before and behind
  have W : Int32 → Nat → Prop := aW r s0
  have gw := cG_GW hI ay
  have gw4 := cG_GW i4 ay4
  have hWx : ∀ x c, aW r s0 x c → zNx (cG r) x := fun x c hx => ⟨zo2 s00 hx.1, hx.2.1⟩
  have hWx4 : ∀ x c, aW r s0 x c → zNx (cG r4) x := fun x c hx => ⟨zo2 s00 hx.1, by show x < fi r4 11; rw [f11_4]; exact hx.2.1⟩
  have rtE : ∀ x : Int32, 0 ≤ x → x < fi r 11 → gR (cG r4) x = rh x ∧ gR (cG r) x = rh x := fun x x0 x1 => ⟨rtc_eq i4 x0 (by rw [f11_4]; exact x1), rtc_eq hI x0 x1⟩
  have roots : ∀ y, 0 ≤ y → y < fi r 11 → rh y = y → ¬ ar r 21 y.toNatClampNeg = -2 := fun y y0 y1 y2 e => by
    have b := hI.2.2.2.2.1.2 y y0 y1
    rw [y2] at b
    exact b.2.2.1 e
  have nd : ∀ v c, cNd r4 (aW r s0) v c ↔ cNd r (aW r s0) v c := by
    intro v c
    constructor
    · refine zNd_cg gw4 (fun c k c1 q => (kt4.2.1 c k c1 q).2) (fun c k c1 q => (kt4.2.2.1 c k c1 q).2) (fun x hx => ?_) (fun y hy => ?_) (fun c k q => (kI_eq f2_4 e9_4).mp q) (fun c k c1 q => (kF_eq f2_4 e10_4).mp q) (fun c k c1 q => (kF_eq f2_4 e11_4).mp q) hWx4
      · have x1 : x < fi r 11 := by have : x < fi r4 11 := hx.2; rw [f11_4] at this; exact this
        exact (rtE x hx.1 x1).2.trans (rtE x hx.1 x1).1.symm
      · have y0 : 0 ≤ y := hy.1.1
        have y1 : y < fi r 11 := by have : y < fi r4 11 := hy.1.2; rw [f11_4] at this; exact this
        have y2 : rh y = y := by rw [← (rtE y y0 y1).1]; exact hy.2
        show ar r 21 y.toNatClampNeg = ar r4 21 y.toNatClampNeg ∧ ar r 22 y.toNatClampNeg = ar r4 22 y.toNatClampNeg ∧ ar r 23 y.toNatClampNeg = ar r4 23 y.toNatClampNeg
        rw [e21_4, e23_4, fs4 y y0 y1 (roots y y0 y1 y2)]
        exact ⟨rfl, rfl, rfl⟩
    · refine zNd_cg gw (fun c k c1 q => (kt.2.1 c k c1 q).2) (fun c k c1 q => (kt.2.2.1 c k c1 q).2) (fun x hx => (rtE x hx.1 hx.2).1.trans (rtE x hx.1 hx.2).2.symm) (fun y hy => ?_) (fun c k q => (kI_eq f2_4 e9_4).mpr q) (fun c k c1 q => (kF_eq f2_4 e10_4).mpr q) (fun c k c1 q => (kF_eq f2_4 e11_4).mpr q) hWx
      have y2 : rh y = y := by rw [← (rtE y hy.1.1 hy.1.2).2]; exact hy.2
      show ar r4 21 y.toNatClampNeg = ar r 21 y.toNatClampNeg ∧ ar r4 22 y.toNatClampNeg = ar r 22 y.toNatClampNeg ∧ ar r4 23 y.toNatClampNeg = ar r 23 y.toNatClampNeg
      rw [e21_4, e23_4, fs4 y hy.1.1 hy.1.2 (roots y hy.1.1 hy.1.2 y2)]
      exact ⟨rfl, rfl, rfl⟩
  have n8 : ∀ x c, cNd r4 (aW r s0) x c → c < 8 := fun x c h => cNd8 kt w8 ((nd x c).mp h)
  have base : ∀ k : Int32, 0 ≤ k → k < fi r4 12 → ∀ c, (gb (ar r4 29 (ar r4 30 k.toNatClampNeg).toNatClampNeg) c = true ↔ ∃ y, aW r s0 y c ∧ rh y = ar r4 30 k.toNatClampNeg) := by
    intro k k0 k1 c
    rw [vl4 k k0 k1 c, f11_3, e24_3]
    exact ⟨fun ⟨y, y0, y1, y2, y3⟩ => ⟨y, ⟨y0, y1, y3⟩, y2⟩, fun ⟨y, ⟨y0, y1, y3⟩, y2⟩ => ⟨y, y0, y1, y2, y3⟩⟩
  have o0 := o4.1
  have om : -1 ≤ fi r4 12 - 1 ∧ fi r4 12 - 1 < fi r4 12 ∧ ∀ k : Int32, fi r4 12 - 1 < k → k < fi r4 12 → False := by
    clear hI ac hA ay kt hs w8 hop acf nd base n8 vl4 cv4 o4
    refine ⟨by grind, by grind, fun k q1 q2 => by grind⟩
  have no : ∀ {P : Prop} (k : Int32), fi r4 12 - 1 < k → k < fi r4 12 → P := fun k q1 q2 => (om.2.2 k q1 q2).elim
  have ot : (fi r4 12 - 1).toInt = (fi r4 12).toInt - 1 := kdec5 o0
  have start : SLI a r4 r4 rh ta N (aW r s0) 0 (fi r4 12 - 1) := by
    refine ⟨i4, fun _ _ _ _ => rfl, Fr_refl _, fun k k0 k1 c hc => ?_, fun _ _ _ _ h => h, fun k q1 q2 => no k q1 q2, ⟨fun _ _ _ => rfl, fun k q1 q2 => no k q1 q2⟩, ⟨fun _ _ _ => rfl, fun k q1 q2 => no k q1 q2⟩, ⟨Or.inl, fun q => q.elim id (fun ⟨k, c, q1, q2, _⟩ => no k q1 q2)⟩, ⟨Or.inl, fun q => q.elim id (fun ⟨k, q1, q2, _⟩ => no k q1 q2)⟩, [], List.nodup_nil, rfl, ?_, fun x d => ⟨fun h => absurd h (List.not_mem_nil), fun ⟨_, k, q1, q2, _⟩ => no k q1 q2⟩⟩
    · obtain ⟨y, y1, y2⟩ := (base k k0 k1 c).mp hc
      have := zNd_0 (I := kI r4) (F1 := kF r4 10) (F2 := kF r4 11) (g := cG r4) y1
      rw [(rtE y (zo2 s00 y1.1) y1.2.1).1, y2] at this
      exact this
    · rw [ot]
      simp
  refine ws_set37 kt4.1.1 kt4.1.2 n8 o4 ob4 i4 ay4 kt4.2.1 kt4.2.2.1 (fun r5 z h => ?_) n r4 0 (fi r4 12 - 1) start om.1 om.2.1
  obtain ⟨h1, h2, h3, h4, h5, h6, ⟨h7, h8⟩, ⟨h9, h10⟩, h11, h12, l, l1, l2, _, l4⟩ := h
  have neg1 : ∀ k : Int32, -1 < k ↔ 0 ≤ k := fun k => by clear hI ac hA ay kt hs w8 hop acf nd base n8 vl4 cv4 o4 start h4 h5 h6 h7 h8 h9 h10 h11 h12 l4; grind
  -- the values are what is wanted
  have vn : ∀ v c, cNd r4 (aW r s0) v c → (∃ k : Int32, 0 ≤ k ∧ k < fi r4 12 ∧ ar r4 30 k.toNatClampNeg = v) ∧ gb (ar r5 29 v.toNatClampNeg) c = true := by
    intro v c hn
    refine hn (fun v c => (∃ k : Int32, 0 ≤ k ∧ k < fi r4 12 ∧ ar r4 30 k.toNatClampNeg = v) ∧ gb (ar r5 29 v.toNatClampNeg) c = true) (fun x c hx => ?_) (fun y c c1 => ?_)
    · have nz : ¬ ar r3 24 x.toNatClampNeg = 0 := by
        rw [e24_3]
        intro e
        have := hx.2.2
        rw [e, gb_0] at this
        exact absurd this (by decide)
      obtain ⟨k, k0, k1, k2⟩ := cv4 x hx.1 (by rw [f11_3]; exact hx.2.1) nz
      rw [(rtE x (zo2 s00 hx.1) hx.2.1).1]
      refine ⟨⟨k, k0, k1, k2⟩, ?_⟩
      rw [← k2]
      exact h5 k k0 k1 c ((base k k0 k1 c).mpr ⟨x, hx, k2.symm⟩)
    · rintro ⟨⟨k, k0, k1, k2⟩, hc⟩ q1 q2
      have st := o4.2.2 k k0 k1
      have nk := i4.2.2.2.1 _ st.1.1 st.1.2.1
      rw [← k2] at q1 q2 hc ⊢
      have ayk := (ay4 _ st.1.1 st.1.2.1).1 q1
      have hs6 := h6 k ((neg1 k).mpr k0) k1 q1 c c1 hc q2
      have pz : ∀ y : Int32, -1 ≤ y → ¬ y = -1 → 0 ≤ y := fun y y0 y1 => by clear hI ac hA ay kt hs w8 hop acf nd base n8 vl4 cv4 o4 start h4 h5 h6 h7 h8 h9 h10 h11 h12 l4 nk st ayk hs6; grind
      refine ⟨fun q3 => ?_, fun q3 => ?_⟩
      · have nf := ayk.1.mpr (kt4.2.1 _ _ _ q3).2
        have e : gR (cG r4) (gF (cG r4) (ar r4 30 k.toNatClampNeg)) = rh (ar r4 22 (ar r4 30 k.toNatClampNeg).toNatClampNeg) := rtc_eq i4 (pz _ nk.2.2.1 nf) nk.2.2.2.1
        rw [e]
        obtain ⟨j, j0, j1, j2⟩ := st.2.1 nf
        exact ⟨⟨j, j0, ltt j1 k1, j2⟩, hs6.1 q3⟩
      · have nf := ayk.2.mpr (kt4.2.2.1 _ _ _ q3).2
        have e : gR (cG r4) (gS (cG r4) (ar r4 30 k.toNatClampNeg)) = rh (ar r4 23 (ar r4 30 k.toNatClampNeg).toNatClampNeg) := rtc_eq i4 (pz _ nk.2.2.2.2.1 nf) nk.2.2.2.2.2.1
        rw [e]
        obtain ⟨j, j0, j1, j2⟩ := st.2.2 nf
        exact ⟨⟨j, j0, ltt j1 k1, j2⟩, hs6.2 q3⟩
  have vk : ∀ k : Int32, 0 ≤ k → k < fi r4 12 → ∀ c, gb (ar r5 29 (ar r4 30 k.toNatClampNeg).toNatClampNeg) c = true ↔ cNd r (aW r s0) (ar r4 30 k.toNatClampNeg) c := fun k k0 k1 c => ⟨fun h => (nd _ c).mp (h4 k k0 k1 c h), fun h => (vn _ c ((nd _ c).mpr h)).2⟩
  have vz : ∀ k : Int32, 0 ≤ k → k < fi r4 12 → (¬ ar r5 29 (ar r4 30 k.toNatClampNeg).toNatClampNeg = 0 ↔ ∃ c, cNd r (aW r s0) (ar r4 30 k.toNatClampNeg) c) := by
    intro k k0 k1
    constructor
    · intro h
      obtain ⟨c, hc⟩ := gnz h
      exact ⟨c, (vk k k0 k1 c).mp hc⟩
    · rintro ⟨c, hc⟩ e
      have := (vk k k0 k1 c).mpr hc
      rw [e, gb_0] at this
      exact absurd this (by decide)
  have inO : ∀ v c, cNd r (aW r s0) v c → ∃ k : Int32, 0 ≤ k ∧ k < fi r4 12 ∧ ar r4 30 k.toNatClampNeg = v := fun v c h => (vn v c ((nd v c).mpr h)).1
  have odr : ∀ k : Int32, 0 ≤ k → k < fi r4 12 → 0 ≤ ar r4 30 k.toNatClampNeg ∧ ar r4 30 k.toNatClampNeg < fi r 11 := fun k k0 k1 => by
    have := (o4.2.2 k k0 k1).1
    rw [f11_4] at this
    exact ⟨this.1, this.2.1⟩
  -- wanted nodes lie in what is asked for, and were not open before
  have hopN : ∀ v c, cNd r (aW r s0) v c → ¬ ar r 26 v.toNatClampNeg = 1 := by
    intro v c h
    obtain ⟨_, x, c0, x1, x2⟩ := zNd_r gw (fun c k c1 q => (kt.2.1 c k c1 q).2) (fun c k c1 q => (kt.2.2.1 c k c1 q).2) hWx h
    refine hop x c0 v x1 (fun S hS hx => x2 S ?_ (fun y hy q => ?_))
    · rw [(rtE x (zo2 s00 x1.1) x1.2.1).2]
      exact hx
    · have y0 : 0 ≤ y := hy.1.1
      have y1 : y < fi r 11 := hy.1.2
      have y2 : rh y = y := by rw [← (rtE y y0 y1).2]; exact hy.2
      have k := hS y y0 y1 (roots y y0 y1 y2) q
      have ny := hI.2.2.2.1 y y0 y1
      have pz : ∀ y : Int32, -1 ≤ y → ¬ y = -1 → 0 ≤ y := fun y y0 y1 => by clear hI ac hA ay kt hs w8 hop acf nd base n8 vl4 cv4 o4 start h4 h5 h6 h7 h8 h9 h10 h11 h12 l4 vn vk vz inO k ny; grind
      refine ⟨fun e => ?_, fun e => ?_⟩
      · have e2 : gR (cG r) (gF (cG r) y) = rh (ar r 22 y.toNatClampNeg) := (rtE _ (pz _ ny.2.2.1 e) ny.2.2.2.1).2
        rw [e2]
        exact k.1 e
      · have e2 : gR (cG r) (gS (cG r) y) = rh (ar r 23 y.toNatClampNeg) := (rtE _ (pz _ ny.2.2.2.2.1 e) ny.2.2.2.2.2.1).2
        rw [e2]
        exact k.2 e
  have opE : ∀ x : Int32, 0 ≤ x → x < fi r 11 → Rq r rh t x → (ar r4 26 x.toNatClampNeg = 1 ↔ ∃ v, Rq r rh x v ∧ ar r 21 v.toNatClampNeg = -1 ∧ ¬ BdR r rh v) := by
    intro x x0 x1 hx
    rw [e26_4, p3 x x0 (by rw [f11_2]; exact x1) (rq2.mpr hx)]
    unfold OPv
    rw [e21_2]
    constructor
    · rintro ⟨v, q1, q2, q3⟩
      have q1' := rq2.mp q1
      have b := Rq_in hI x0 x1 q1'
      exact ⟨v, q1', q2, fun q => q3 ((bd2 v b.1.1 b.1.2).mpr q)⟩
    · rintro ⟨v, q1, q2, q3⟩
      have b := Rq_in hI x0 x1 q1
      exact ⟨v, rq2.mpr q1, q2, fun q => q3 ((bd2 v b.1.1 b.1.2).mp q)⟩
  have opN : ∀ x : Int32, 0 ≤ x → x < fi r 11 → ¬ Rq r rh t x → ar r4 26 x.toNatClampNeg = ar r 26 x.toNatClampNeg := by
    intro x x0 x1 hx
    rw [e26_4, n3 x x0 (by rw [f11_2]; exact x1) (fun q => hx (rq2.mp q)), e26_2]
  -- of a wanted variable: open iff it is in the type and not bound
  have opV : ∀ v c, vr r v → cNd r (aW r s0) v c → (ar r4 26 v.toNatClampNeg = 1 ↔ Rq r rh t v ∧ ¬ BdR r rh v) := by
    intro v c hv hn
    by_cases ht : Rq r rh t v
    · rw [opE v hv.1 hv.2.1 ht]
      have h2 : ¬ ar r 21 v.toNatClampNeg = -2 := by rw [hv.2.2]; decide
      have hu : rh v = v := (hI.2.2.2.2.1.2 v hv.1 hv.2.1).2.2.2.1 h2
      have nc := (ay v hv.1 hv.2.1).2 hv.2.2
      constructor
      · rintro ⟨u, q1, q2, q3⟩
        rcases Rq_inv hu q1 hv.1 hv.2.1 h2 with e | ⟨e, _⟩ | ⟨e, _⟩
        · rw [e] at q3; exact ⟨ht, q3⟩
        · exact absurd nc.1 e
        · exact absurd nc.2 e
      · rintro ⟨_, q⟩
        refine ⟨v, ?_, hv.2.2, q⟩
        have := Rq_0 (r := r) (rh := rh) (x := v)
        rw [hu] at this
        exact this
    · rw [opN v hv.1 hv.2.1 ht]
      exact ⟨fun q => absurd q (hopN v c hn), fun q => absurd q.1 ht⟩
  have bdV : ∀ v : Int32, 0 ≤ v → v < fi r 11 → (ar r4 27 v.toNatClampNeg = fi r4 6 ↔ BdR r rh v) := by
    intro v v0 v1
    rw [e27_4, f6_4, ← f6_2]
    exact bd2 v v0 v1
  have lowE : ∀ k : Int32, 0 ≤ k → k < fi r4 12 → ∀ d, ((gb (ar r5 29 (ar r4 30 k.toNatClampNeg).toNatClampNeg) d = true ∧ ∀ c, gb (ar r5 29 (ar r4 30 k.toNatClampNeg).toNatClampNeg) c = true → ¬ c = d → ¬ kU r4 c d) ↔ zLow (kU r) (cNd r (aW r s0) (ar r4 30 k.toNatClampNeg)) d) := by
    intro k k0 k1 d
    unfold zLow
    rw [vk k k0 k1 d]
    exact ⟨fun q => ⟨q.1, fun c q1 q2 q3 => q.2 c ((vk k k0 k1 c).mpr q1) q2 ((kU_eq f2_4 e7_4).mpr q3)⟩, fun q => ⟨q.1, fun c q1 q2 q3 => q.2 c ((vk k k0 k1 c).mp q1) q2 ((kU_eq f2_4 e7_4).mp q3)⟩⟩
  have f11_5 : fi r5 11 = fi r 11 := (h3.1 11 (by decide)).trans f11_4
  have e26_5 : ar r5 26 = ar r4 26 := h3.2.1 26 (by decide)
  have F5 : Fr [6, 9, 10, 12, 13, 14] [22, 24, 25, 26, 27, 28, 29, 30, 31] r r5 := Fr_trans (Fr_mono Fall (by decide) (by decide)) (Fr_mono h3 (by decide) (by decide))
  have fs5 : FS (fi r 11) (ar r 21) (ar r 22) (ar r5 22) := fun x x0 x1 x2 => (h2 x x0 (by rw [f11_4]; exact x1) (by rw [e21_4]; exact x2)).trans (fs4 x x0 x1 x2)
  refine hK z r5 h1 (AYc_fs f11_5 (F5.2.1 0 (by decide)) (F5.2.1 21 (by decide)) (F5.2.1 23 (by decide)) fs5 ay) ?_ ?_ ?_ fs5 F5 (fun x x0 x1 => ?_) ⟨fun x x0 x1 hx => ?_, fun x x0 x1 hx => ?_, fun x x0 x1 hx => ?_, fun v hv ht hb hn d hd => ?_, fun x x0 x1 c => ?_, ?_, ?_, l, l1, l2, fun v d => ?_⟩
  · unfold VB at v4 ⊢
    rw [h3.1 13 (by decide), h3.2.1 28 (by decide)]
    exact v4
  · rw [h3.1 13 (by decide), c4, c3, c2']
    clear hI ac hA ay kt hs w8 hop acf nd base n8 vl4 cv4 o4 start h4 h5 h6 h7 h8 h9 h10 h11 h12 l4 vn vk vz inO
    grind
  · rw [h3.1 6 (by decide), f6_4]
  · rw [h3.2.1 27 (by decide), e27_4]
    exact m2 x x0
  · rw [e26_5]
    exact opE x x0 x1 hx
  · rw [e26_5]
    exact opN x x0 x1 hx
  · rw [← e25_4]
    refine h7 x x0 (fun k k0 k1 k2 k3 k4 => Classical.byContradiction (fun k5 => hx ?_))
    rw [e21_4] at k3
    rw [← k2] at k5
    obtain ⟨c, hc⟩ := (vz k ((neg1 k).mp k0) k1).mp k5
    rw [k2] at hc
    have q := (opV x c ⟨x0, x1, k3⟩ hc).mp k4
    exact ⟨k3, q.1, q.2, c, hc⟩
  · obtain ⟨c, hc⟩ := hn
    obtain ⟨k, k0, k1, k2⟩ := inO v c hc
    have := h8 k ((neg1 k).mpr k0) k1 (by rw [k2, e21_4]; exact hv.2.2) (by rw [k2]; exact (opV v c hv hc).mpr ⟨ht, hb⟩) ((vz k k0 k1).mpr ⟨c, by rw [k2]; exact hc⟩) d hd
    rw [lowE k k0 k1 d, k2] at this
    exact this
  · have e24x : ∀ c, (gb (ar r4 24 x.toNatClampNeg) c = true ↔ x < s0 ∧ gb (ar r 24 x.toNatClampNeg) c = true) := by
      intro c
      by_cases q : x < s0
      · rw [ao4 x x0 q, e24_3]
        exact ⟨fun h => ⟨q, h⟩, fun h => h.2⟩
      · rw [az4 x (Int32.not_lt.mp q) (by rw [f11_3]; exact x1), gb_0]
        exact ⟨fun h => absurd h (by decide), fun h => absurd h.1 q⟩
    by_cases hp : ar r 21 x.toNatClampNeg = -1 ∧ BdR r rh x ∧ ∃ c, cNd r (aW r s0) x c
    · obtain ⟨p1, p2, c0, p3'⟩ := hp
      obtain ⟨k, k0, k1, k2⟩ := inO x c0 p3'
      have no1 : ¬ ar r4 26 x.toNatClampNeg = 1 := fun q => ((opV x c0 ⟨x0, x1, p1⟩ p3').mp q).2 p2
      have := h10 k ((neg1 k).mpr k0) k1 (by rw [k2, e21_4]; exact p1) (by rw [k2]; exact no1) (by rw [k2]; exact (bdV x x0 x1).mpr p2) c
      rw [vk k k0 k1 c, k2, e24x c] at this
      rw [this]
      exact ⟨fun q => q.elim Or.inl (fun q => Or.inr ⟨p1, p2, q⟩), fun q => q.elim Or.inl (fun q => Or.inr q.2.2)⟩
    · have key : gb (ar r5 24 x.toNatClampNeg) c = true ↔ gb (ar r4 24 x.toNatClampNeg) c = true := by
        by_cases hq : ∃ k : Int32, -1 < k ∧ k < fi r4 12 ∧ ar r4 30 k.toNatClampNeg = x ∧ ar r4 21 x.toNatClampNeg = -1 ∧ ¬ ar r4 26 x.toNatClampNeg = 1 ∧ ar r4 27 x.toNatClampNeg = fi r4 6
        · obtain ⟨k, q1, q2, q3, q4, q5, q6⟩ := hq
          have := h10 k q1 q2 (by rw [q3]; exact q4) (by rw [q3]; exact q5) (by rw [q3]; exact q6) c
          rw [vk k ((neg1 k).mp q1) q2 c, q3] at this
          rw [this]
          refine ⟨fun m => m.elim id (fun m => absurd ⟨by rw [e21_4] at q4; exact q4, (bdV x x0 x1).mp q6, c, m⟩ hp), Or.inl⟩
        · rw [h9 x x0 (fun k q1 q2 q3 q4 q5 q6 => hq ⟨k, q1, q2, q3, q4, q5, q6⟩)]
      rw [key, e24x c]
      exact ⟨Or.inl, fun q => q.elim id (fun q => absurd ⟨q.1, q.2.1, c, q.2.2⟩ hp)⟩
  · rw [h11, Fall.1 9 (by decide)]
    constructor
    · rintro (q | ⟨k, c, q1, q2, q3, q4, q5⟩)
      · exact Or.inl q
      · refine Or.inr ⟨ar r4 30 k.toNatClampNeg, c, (vk k ((neg1 k).mp q1) q2 c).mp q4, ?_, ?_⟩
        · show 0 ≤ ar r 21 (ar r4 30 k.toNatClampNeg).toNatClampNeg
          rw [← e21_4]; exact q3
        · show ¬ kI r c (ar r 21 (ar r4 30 k.toNatClampNeg).toNatClampNeg)
          rw [← e21_4]
          exact fun z => q5 ((kI_eq f2_4 e9_4).mpr z)
    · rintro (q | ⟨y, c, q1, q2, q3⟩)
      · exact Or.inl q
      · obtain ⟨k, k0, k1, k2⟩ := inO y c q1
        refine Or.inr ⟨k, c, (neg1 k).mpr k0, k1, ?_, ?_, ?_⟩
        · rw [k2, e21_4]; exact q2
        · rw [vk k k0 k1 c, k2]; exact q1
        · rw [k2, e21_4]
          exact fun z => q3 ((kI_eq f2_4 e9_4).mp z)
  · rw [h12, Fall.1 10 (by decide)]
    constructor
    · rintro (q | ⟨k, q1, q2, q3, q4, q5, q6⟩)
      · exact Or.inl q
      · have b := odr k ((neg1 k).mp q1) q2
        obtain ⟨c, hc⟩ := (vz k ((neg1 k).mp q1) q2).mp q4
        rw [e21_4] at q3
        have nb : ¬ BdR r rh (ar r4 30 k.toNatClampNeg) := fun z => q6 ((bdV _ b.1 b.2).mpr z)
        exact Or.inr ⟨_, c, ⟨b.1, b.2, q3⟩, hc, nb, fun z => q5 ((opV _ c ⟨b.1, b.2, q3⟩ hc).mpr ⟨z, nb⟩)⟩
    · rintro (q | ⟨v, c, q1, q2, q3, q4⟩)
      · exact Or.inl q
      · obtain ⟨k, k0, k1, k2⟩ := inO v c q2
        refine Or.inr ⟨k, (neg1 k).mpr k0, k1, ?_, ?_, ?_, ?_⟩
        · rw [k2, e21_4]; exact q1.2.2
        · exact (vz k k0 k1).mpr ⟨c, by rw [k2]; exact q2⟩
        · rw [k2]; exact fun z => q4 ((opV v c q1 q2).mp z).1
        · rw [k2]; exact fun z => q3 ((bdV v q1.1 q1.2.1).mp z)
  · rw [l4 v d]
    constructor
    · rintro ⟨d8, k, q1, q2, q3, q4, q5, q6, q7⟩
      have k0 := (neg1 k).mp q1
      have b := odr k k0 q2
      rw [q3] at b
      have q6' := q6
      rw [← q3] at q6'
      obtain ⟨c, hc⟩ := (vz k k0 q2).mp q6'
      rw [q3] at hc
      have q4' := q4
      rw [e21_4] at q4'
      have ov := (opV v c ⟨b.1, b.2, q4'⟩ hc).mp q5
      refine ⟨⟨⟨b.1, b.2, q4'⟩, ov.2, ov.1⟩, ?_⟩
      have := (h8 k q1 q2 (by rw [q3]; exact q4) (by rw [q3]; exact q5) (by rw [q3]; exact q6) d (by omega)).mp (by rw [q3]; exact q7)
      rw [lowE k k0 q2 d, q3] at this
      exact this
    · rintro ⟨⟨hv, hb, ht⟩, hl⟩
      obtain ⟨k, k0, k1, k2⟩ := inO v d hl.1
      have d8 := cNd8 kt w8 hl.1
      have ov := (opV v d hv hl.1).mpr ⟨ht, hb⟩
      have nz := (vz k k0 k1).mpr ⟨d, by rw [k2]; exact hl.1⟩
      refine ⟨d8, k, (neg1 k).mpr k0, k1, k2, by rw [e21_4]; exact hv.2.2, ov, by rw [← k2]; exact nz, ?_⟩
      have := (h8 k ((neg1 k).mpr k0) k1 (by rw [k2, e21_4]; exact hv.2.2) (by rw [k2]; exact ov) nz d (by omega)).mpr (by rw [lowE k k0 k1 d, k2]; exact hl)
      rw [k2] at this
      exact this
end ZCSETF
