/-! Two graphs with the same solutions at related nodes. -/
section ZREL
def zAg (L : Int32 → Int32 → Prop) (ρ σ : Int32 → Ut) : Prop := ∀ x y, L x y → ρ x = σ y
def zSM (V V2 : (Int32 → Ut) → Prop) (L : Int32 → Int32 → Prop) : Prop := (∀ ρ, V ρ → ∃ σ, V2 σ ∧ zAg L ρ σ) ∧ ∀ σ, V2 σ → ∃ ρ, V ρ ∧ zAg L ρ σ
def zRel (V V2 : (Int32 → Ut) → Prop) (L : Int32 → Int32 → Prop) (i t : Int32) : Prop := ∀ ρ σ, V ρ → V2 σ → zAg L ρ σ → ρ i = σ t
def zFl (L : Int32 → Int32 → Prop) : Int32 → Int32 → Prop := fun y x => L x y
variable {I : Nat → Int32 → Prop} {F1 F2 : Nat → Int32 → Nat → Prop} {un : Nat → Nat → Prop} {a1 a2 : Int32 → Prop} {g g2 : Gr} {W W2 : Int32 → Nat → Prop} {L : Int32 → Int32 → Prop} {V V2 : (Int32 → Ut) → Prop}
theorem zSM_fl (h : zSM V V2 L) : zSM V2 V (zFl L) := ⟨fun σ hs => by
    obtain ⟨ρ, h1, h2⟩ := h.2 σ hs
    exact ⟨ρ, h1, fun y x hl => (h2 x y hl).symm⟩, fun ρ hr => by
    obtain ⟨σ, h1, h2⟩ := h.1 ρ hr
    exact ⟨σ, h1, fun y x hl => (h2 x y hl).symm⟩⟩
theorem zRel_fl {i t : Int32} (h : zRel V V2 L i t) : zRel V2 V (zFl L) t i := fun σ ρ h1 h2 h3 => (h ρ σ h2 h1 (fun x y hl => (h3 y x hl).symm)).symm
theorem zRel_L {i t : Int32} (h : L i t) : zRel V V2 L i t := fun _ _ _ _ h3 => h3 i t h
theorem zRel_r {i t : Int32} (hi : zNx g i) (ht : zNx g2 t) (h : zRel (zVal g) (zVal g2) L i t) : zRel (zVal g) (zVal g2) L (gR g i) (gR g2 t) := fun ρ σ h1 h2 h3 => by
  rw [← (h1.2 i hi).1, ← (h2.2 t ht).1]
  exact h ρ σ h1 h2 h3
theorem zval_c {ρ : Int32 → Ut} (v : zVal g ρ) {y : Int32} (hy : zRn g y) (h : 0 ≤ gH g y) : ρ y = Jn (gH g y) (ρ (gF g y)) (ρ (gS g y)) := by
  have := (v.2 y hy.1).2
  rw [hy.2] at this
  exact this h
theorem zE1h (s : zSM (zVal g) (zVal g2) L) (fr : zFree g2) {i t : Int32} (hi : zRn g i) (ht : zRn g2 t) (h : zRel (zVal g) (zVal g2) L i t) (h0 : 0 ≤ gH g i) : 0 ≤ gH g2 t := by
  apply Classical.byContradiction
  intro hn
  obtain ⟨σ, h1, h2⟩ := fr (fun _ => Atm 0)
  obtain ⟨ρ, h3, h4⟩ := s.2 σ h1
  have e := h ρ σ h3 h1 h4
  rw [h2 t ⟨ht, hn⟩, zval_c h3 hi h0] at e
  exact Jn_Atm e
theorem zE1 (s : zSM (zVal g) (zVal g2) L) (fr : zFree g) (fr2 : zFree g2) {i t : Int32} (hi : zRn g i) (ht : zRn g2 t) (h : zRel (zVal g) (zVal g2) L i t) : (0 ≤ gH g i ↔ 0 ≤ gH g2 t) ∧ (0 ≤ gH g i → gH g2 t = gH g i ∧ zRel (zVal g) (zVal g2) L (gF g i) (gF g2 t) ∧ zRel (zVal g) (zVal g2) L (gS g i) (gS g2 t)) := by
  have d1 := zE1h s fr2 hi ht h
  have d2 := zE1h (zSM_fl s) fr ht hi (zRel_fl h)
  have key : 0 ≤ gH g i → ∀ ρ σ, zVal g ρ → zVal g2 σ → zAg L ρ σ → gH g i = gH g2 t ∧ ρ (gF g i) = σ (gF g2 t) ∧ ρ (gS g i) = σ (gS g2 t) := by
    intro h0 ρ σ h1 h2 h3
    have e := h ρ σ h1 h2 h3
    rw [zval_c h1 hi h0, zval_c h2 ht (d1 h0)] at e
    exact Jn_inj e
  refine ⟨⟨d1, d2⟩, fun h0 => ⟨?_, fun ρ σ h1 h2 h3 => (key h0 ρ σ h1 h2 h3).2.1, fun ρ σ h1 h2 h3 => (key h0 ρ σ h1 h2 h3).2.2⟩⟩
  obtain ⟨ρ, h1, _⟩ := fr (fun _ => Atm 0)
  obtain ⟨σ, h3, h4⟩ := s.1 ρ h1
  exact (key h0 ρ σ h1 h3 h4).1.symm
theorem zE2 (s : zSM (zVal g) (zVal g2) L) (fr2 : zFree g2) {v w w' : Int32} (hw : zVR g2 w) (hw' : zVR g2 w') (h : zRel (zVal g) (zVal g2) L v w) (h' : zRel (zVal g) (zVal g2) L v w') : w = w' := by
  apply Classical.byContradiction
  intro hn
  obtain ⟨σ, h1, h2⟩ := fr2 (fun x => if x = w then Atm 0 else Atm 1)
  obtain ⟨ρ, h3, h4⟩ := s.2 σ h1
  have e1 := h ρ σ h3 h1 h4
  have e2 := h' ρ σ h3 h1 h4
  rw [h2 w hw, if_pos rfl] at e1
  rw [h2 w' hw', if_neg (fun z => hn z.symm)] at e2
  rw [e1] at e2
  exact absurd (Atm_inj e2) (by decide)
theorem zRc_T (w : zGW a1 a2 g) (w2 : zGW a1 a2 g2) (s : zSM (zVal g) (zVal g2) L) (fr : zFree g) (fr2 : zFree g2) {x y v : Int32} (hx : zNx g x) (hy : zNx g2 y) (h : zRel (zVal g) (zVal g2) L x y) (hv : zRc g x v) : ∃ u, zRn g2 u ∧ zRc g2 y u ∧ zRel (zVal g) (zVal g2) L v u := by
  have key := hv (fun v => zRn g v ∧ ∃ u, zRn g2 u ∧ zRc g2 y u ∧ zRel (zVal g) (zVal g2) L v u) ⟨w.1 x hx, gR g2 y, w2.1 y hy, zRc_0, zRel_r hx hy h⟩ ?_
  · exact key.2
  · rintro z hz ⟨_, u, u1, u2, u3⟩
    have e := zE1 s fr fr2 hz u1 u3
    have c1 := (w.2 z hz).2.2
    have c2 := (w2.2 u u1).2.2
    have hh : ¬ (gF g z = -1 ∧ gS g z = -1) → 0 ≤ gH g z := fun k => Classical.byContradiction (fun k2 => k (c1.2 k2))
    refine ⟨fun k => ?_, fun k => ?_⟩
    · have k0 := hh (fun k2 => k k2.1)
      have e2 := e.2 k0
      have k2 : ¬ gF g2 u = -1 := (c2.1 (e.1.mp k0)).1.mpr (by rw [e2.1]; exact (c1.1 k0).1.mp k)
      refine ⟨zGW_1 w hz k, _, zGW_1 w2 u1 k2, zRc_1 u2 u1 k2, zRel_r ?_ ?_ e2.2.1⟩
      · rcases (w.2 z hz).1 with q | q
        · exact absurd q k
        · exact q
      · rcases (w2.2 u u1).1 with q | q
        · exact absurd q k2
        · exact q
    · have k0 := hh (fun k2 => k k2.2)
      have e2 := e.2 k0
      have k2 : ¬ gS g2 u = -1 := (c2.1 (e.1.mp k0)).2.mpr (by rw [e2.1]; exact (c1.1 k0).2.mp k)
      refine ⟨zGW_2 w hz k, _, zGW_2 w2 u1 k2, zRc_2 u2 u1 k2, zRel_r ?_ ?_ e2.2.2⟩
      · rcases (w.2 z hz).2.1 with q | q
        · exact absurd q k
        · exact q
      · rcases (w2.2 u u1).2.1 with q | q
        · exact absurd q k2
        · exact q
theorem zRc_V (w : zGW a1 a2 g) (w2 : zGW a1 a2 g2) (s : zSM (zVal g) (zVal g2) L) (fr : zFree g) (fr2 : zFree g2) {x y v : Int32} (hx : zNx g x) (hy : zNx g2 y) (h : zRel (zVal g) (zVal g2) L x y) (hr : zVR g v) (hv : zRc g x v) : ∃ u, zVR g2 u ∧ zRc g2 y u ∧ zRel (zVal g) (zVal g2) L v u := by
  obtain ⟨u, u1, u2, u3⟩ := zRc_T w w2 s fr fr2 hx hy h hv
  exact ⟨u, ⟨u1, fun z => hr.2 ((zE1 s fr fr2 hr.1 u1 u3).1.mpr z)⟩, u2, u3⟩
/-- wants that come to the same -/
def zWR (I : Nat → Int32 → Prop) (F1 F2 : Nat → Int32 → Nat → Prop) (V V2 : (Int32 → Ut) → Prop) (L : Int32 → Int32 → Prop) (k : Prop) (W : Int32 → Nat → Prop) (k2 : Prop) (W2 : Int32 → Nat → Prop) : Prop := (∀ x c, W x c → ∃ y, L x y) ∧ (∀ y c, W2 y c → ∃ x, L x y) ∧ ∀ ρ σ, V ρ → V2 σ → zAg L ρ σ → ∀ q A, zMd I F1 F2 q A → ((k → q) ∧ zSat A ρ W ↔ (k2 → q) ∧ zSat A σ W2)
theorem zWR_fl {k k2 : Prop} (h : zWR I F1 F2 V V2 L k W k2 W2) : zWR I F1 F2 V2 V (zFl L) k2 W2 k W := ⟨h.2.1, h.1, fun σ ρ h1 h2 h3 q A m => (h.2.2 ρ σ h2 h1 (fun x y hl => (h3 y x hl).symm) q A m).symm⟩
variable (f1 : ∀ c k c1, F1 c k c1 → a1 k) (f2 : ∀ c k c1, F2 c k c1 → a2 k) (w : zGW a1 a2 g) (w2 : zGW a1 a2 g2) (s : zSM (zVal g) (zVal g2) L) (fr : zFree g) (fr2 : zFree g2) (hL : ∀ x y, L x y → zNx g x ∧ zNx g2 y)
theorem zWx {k k2 : Prop} (hL : ∀ x y, L x y → zNx g x ∧ zNx g2 y) (h : zWR I F1 F2 (zVal g) (zVal g2) L k W k2 W2) : (∀ x c, W x c → zNx g x) ∧ ∀ x c, W2 x c → zNx g2 x := ⟨fun x c hx => by
    obtain ⟨y, hy⟩ := h.1 x c hx
    exact (hL x y hy).1, fun y c hy => by
    obtain ⟨x, hx⟩ := h.2.1 y c hy
    exact (hL x y hx).2⟩
/-- a wanted variable of the second graph has its like in the first -/
theorem zpart (f1 : ∀ c k c1, F1 c k c1 → a1 k) (f2 : ∀ c k c1, F2 c k c1 → a2 k) (w : zGW a1 a2 g) (w2 : zGW a1 a2 g2) (s : zSM (zVal g) (zVal g2) L) (fr : zFree g) (fr2 : zFree g2) (hL : ∀ x y, L x y → zNx g x ∧ zNx g2 y) {k k2 : Prop} (h : zWR I F1 F2 (zVal g) (zVal g2) L k W k2 W2) {u : Int32} {c : Nat} (hu : zVR g2 u) (hn : zNd I F1 F2 g2 W2 u c) : ∃ v, zVR g v ∧ zRel (zVal g) (zVal g2) L v u := by
  obtain ⟨_, y, c0, h1, h2⟩ := zNd_r w2 f1 f2 (zWx hL h).2 hn
  obtain ⟨x, hx⟩ := h.2.1 y c0 h1
  obtain ⟨v, v1, _, v3⟩ := zRc_V w2 w (zSM_fl s) fr2 fr (hL x y hx).2 (hL x y hx).1 (zRel_fl (zRel_L hx)) hu h2
  exact ⟨v, v1, zRel_fl v3⟩
theorem zkey (f1 : ∀ c k c1, F1 c k c1 → a1 k) (f2 : ∀ c k c1, F2 c k c1 → a2 k) (w : zGW a1 a2 g) (w2 : zGW a1 a2 g2) (s : zSM (zVal g) (zVal g2) L) (fr : zFree g) (fr2 : zFree g2) (hL : ∀ x y, L x y → zNx g x ∧ zNx g2 y) {k k2 : Prop} (h : zWR I F1 F2 (zVal g) (zVal g2) L k W k2 W2) {v : Int32} {c : Nat} (hv : zVR g v) (hn : zNd I F1 F2 g W v c) : ∃ u, zVR g2 u ∧ zNd I F1 F2 g2 W2 u c ∧ zRel (zVal g) (zVal g2) L v u := by
  obtain ⟨ρ, r1, r2⟩ := fr Atm
  obtain ⟨σ, s1, s2⟩ := s.1 ρ r1
  have hb : ∀ c' k a b, ¬ (c' = c ∧ Jn k a b = Atm v) := fun _ _ _ _ z => Jn_Atm z.2
  have m := zFa_md (I := I) (F1 := F1) (F2 := F2) (q := True) (bad := fun c' u => c' = c ∧ u = Atm v) hb
  have e := h.2.2 ρ σ r1 s1 s2 True _ m
  have x1 := (zdrive w f1 f2 (zWx hL h).1 r1 m).mp
  have n1 : ¬ zSat (fun c' u => ¬ zFa I F1 F2 (fun c' u => c' = c ∧ u = Atm v) True c' u) ρ W := fun z => (x1 z).2 v c hv hn (by rw [r2 v hv]; exact zFa_b ⟨rfl, rfl⟩)
  have n2 : ¬ zSat (fun c' u => ¬ zFa I F1 F2 (fun c' u => c' = c ∧ u = Atm v) True c' u) σ W2 := fun z => n1 (e.mpr ⟨fun _ => trivial, z⟩).2
  have n3 : ∃ u c', zVR g2 u ∧ zNd I F1 F2 g2 W2 u c' ∧ zFa I F1 F2 (fun c' u => c' = c ∧ u = Atm v) True c' (σ u) := by
    apply Classical.byContradiction
    intro hc
    refine n2 ((zdrive w2 f1 f2 (zWx hL h).2 s1 m).mpr ⟨fun _ => trivial, fun u c' u1 u2 u3 => hc ⟨u, c', u1, u2, u3⟩⟩)
  obtain ⟨u, c', u1, u2, u3⟩ := n3
  obtain ⟨v', v1, v2⟩ := zpart f1 f2 w w2 s fr fr2 hL h u1 u2
  have e2 := v2 ρ σ r1 s1 s2
  rw [← e2, r2 v' v1] at u3
  obtain ⟨e3, e4⟩ := zFa_at u3
  have e5 := Atm_inj e4
  subst e3 e5
  exact ⟨u, u1, u2, v2⟩
theorem zkeyL (f1 : ∀ c k c1, F1 c k c1 → a1 k) (f2 : ∀ c k c1, F2 c k c1 → a2 k) (w : zGW a1 a2 g) (w2 : zGW a1 a2 g2) (s : zSM (zVal g) (zVal g2) L) (fr : zFree g) (fr2 : zFree g2) (hL : ∀ x y, L x y → zNx g x ∧ zNx g2 y) {k k2 : Prop} (h : zWR I F1 F2 (zVal g) (zVal g2) L k W k2 W2) : (k ∨ zLK I F1 F2 g W) ↔ (k2 ∨ zLK I F1 F2 g2 W2) := by
  obtain ⟨ρ, r1, r2⟩ := fr Atm
  obtain ⟨σ, s1, s2⟩ := s.1 ρ r1
  have m := zFa_md (I := I) (F1 := F1) (F2 := F2) (q := False) (bad := fun _ _ => False) (fun _ _ _ _ z => z)
  have e := h.2.2 ρ σ r1 s1 s2 False _ m
  rw [zdrive w f1 f2 (zWx hL h).1 r1 m, zdrive w2 f1 f2 (zWx hL h).2 s1 m] at e
  have t1 : ∀ v c, zVR g v → zNd I F1 F2 g W v c → ¬ zFa I F1 F2 (fun _ _ => False) False c (ρ v) := by
    intro v c h1 _ h3
    rw [r2 v h1] at h3
    exact zFa_at h3
  have t2 : ∀ v c, zVR g2 v → zNd I F1 F2 g2 W2 v c → ¬ zFa I F1 F2 (fun _ _ => False) False c (σ v) := by
    intro u c h1 h2 h3
    obtain ⟨v', v1, v2⟩ := zpart f1 f2 w w2 s fr fr2 hL h h1 h2
    rw [← v2 ρ σ r1 s1 s2, r2 v' v1] at h3
    exact zFa_at h3
  constructor
  · intro hk
    apply Classical.byContradiction
    intro hn
    have := e.mpr ⟨fun z => hn (Or.inl z), fun z => hn (Or.inr z), t2⟩
    rcases hk with hk | hk
    · exact this.1 hk
    · exact this.2.1 hk
  · intro hk
    apply Classical.byContradiction
    intro hn
    have := e.mp ⟨fun z => hn (Or.inl z), fun z => hn (Or.inr z), t1⟩
    rcases hk with hk | hk
    · exact this.1 hk
    · exact this.2.1 hk
end ZREL
