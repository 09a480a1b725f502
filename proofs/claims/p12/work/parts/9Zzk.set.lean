/-! Settling what is wanted, on both sides. -/
section ZSET
def zBd (g : Gr) (G : Int32 → Prop) (v : Int32) : Prop := ∃ x, G x ∧ zRc g x v
def zLow (un : Nat → Nat → Prop) (N : Nat → Prop) (c : Nat) : Prop := N c ∧ ∀ c', N c' → ¬ c' = c → ¬ un c' c
/-- settling: G what is around, t the type, W k am before, K p W' k' am' behind; H goes by unseen -/
def zSet (I : Nat → Int32 → Prop) (F1 F2 : Nat → Int32 → Nat → Prop) (un : Nat → Nat → Prop) (g : Gr) (G : Int32 → Prop) (t : Int32) (W : Int32 → Nat → Prop) (k am : Prop) (K : Int32 → Nat → Prop) (p : Int) (W' : Int32 → Nat → Prop) (k' am' : Prop) : Prop := ∃ Wd H : Int32 → Nat → Prop, (∀ x c, W x c ↔ Wd x c ∨ H x c) ∧ (∀ x c, H x c → ∀ v, zVR g v → zRc g x v → zBd g G v) ∧ (∀ x c, W' x c ↔ H x c ∨ (zVR g x ∧ zNd I F1 F2 g Wd x c ∧ zBd g G x)) ∧ (k' ↔ k ∨ zLK I F1 F2 g Wd) ∧ (am' ↔ am ∨ ∃ v c, zVR g v ∧ zNd I F1 F2 g Wd v c ∧ ¬ zBd g G v ∧ ¬ zRc g t v) ∧ (∀ v c, K v c ↔ (zVR g v ∧ ¬ zBd g G v ∧ zRc g t v) ∧ zLow un (zNd I F1 F2 g Wd v) c) ∧ ∃ l : List (Int32 × Nat), l.Nodup ∧ (∀ v c, (v, c) ∈ l ↔ K v c) ∧ p = l.length
def zKR (L : Int32 → Int32 → Prop) (K K2 : Int32 → Nat → Prop) : Prop := (∀ v c, K v c → ∃ u, L v u ∧ K2 u c) ∧ ∀ u c, K2 u c → ∃ v, L v u ∧ K v c
def zCl (g g2 : Gr) (L : Int32 → Int32 → Prop) (x y : Int32) : Prop := zNx g x ∧ zNx g2 y ∧ zRel (zVal g) (zVal g2) L x y
variable {I : Nat → Int32 → Prop} {F1 F2 : Nat → Int32 → Nat → Prop} {un : Nat → Nat → Prop} {a1 a2 : Int32 → Prop} {g g2 : Gr} {W W2 : Int32 → Nat → Prop} {L : Int32 → Int32 → Prop} {V V2 : (Int32 → Ut) → Prop}
theorem zCl_fl {x y : Int32} : zCl g2 g (zFl L) y x ↔ zCl g g2 L x y := ⟨fun h => ⟨h.2.1, h.1, zRel_fl h.2.2⟩, fun h => ⟨h.2.1, h.1, zRel_fl h.2.2⟩⟩
theorem zCl_ag {ρ σ : Int32 → Ut} (h1 : zVal g ρ) (h2 : zVal g2 σ) (h : zAg L ρ σ) : zAg (zCl g g2 L) ρ σ := fun _ _ hl => hl.2.2 ρ σ h1 h2 h
theorem zCl_sm (s : zSM (zVal g) (zVal g2) L) : zSM (zVal g) (zVal g2) (zCl g g2 L) := ⟨fun ρ h => by
    obtain ⟨σ, h1, h2⟩ := s.1 ρ h
    exact ⟨σ, h1, zCl_ag h h1 h2⟩, fun σ h => by
    obtain ⟨ρ, h1, h2⟩ := s.2 σ h
    exact ⟨ρ, h1, zCl_ag h1 h h2⟩⟩
theorem inj_len : ∀ (l l2 : List (Int32 × Nat)) (R : Int32 × Nat → Int32 × Nat → Prop), l.Nodup → (∀ x, x ∈ l → ∃ y, y ∈ l2 ∧ R x y) → (∀ x x' y, x ∈ l → x' ∈ l → R x y → R x' y → x = x') → l.length ≤ l2.length := by
  intro l
  induction l with
  | nil => intro l2 R _ _ _; exact Nat.zero_le _
  | cons a l ih =>
    intro l2 R nd h1 h2
    obtain ⟨b, b1, b2⟩ := h1 a (List.mem_cons_self ..)
    have nd' := List.nodup_cons.mp nd
    have hl := ih (l2.erase b) R nd'.2 (fun x hx => by
      obtain ⟨y, y1, y2⟩ := h1 x (List.mem_cons_of_mem _ hx)
      have hne : ¬ y = b := by
        intro e
        subst e
        have := h2 a x y (List.mem_cons_self ..) (List.mem_cons_of_mem _ hx) b2 y2
        subst this
        exact nd'.1 hx
      exact ⟨y, (List.mem_erase_of_ne hne).mpr y1, y2⟩) (fun x x' y hx hx' => h2 x x' y (List.mem_cons_of_mem _ hx) (List.mem_cons_of_mem _ hx'))
    rw [List.length_erase_of_mem b1] at hl
    have : 0 < l2.length := List.length_pos_of_mem b1
    simp only [List.length_cons]
    omega
/-- everything that the two sides' settling needs of each other, one way -/
theorem zset_h (f1 : ∀ c k c1, F1 c k c1 → a1 k) (f2 : ∀ c k c1, F2 c k c1 → a2 k) (w : zGW a1 a2 g) (w2 : zGW a1 a2 g2) (s : zSM (zVal g) (zVal g2) L) (fr : zFree g) (fr2 : zFree g2) (hL : ∀ x y, L x y → zNx g x ∧ zNx g2 y) {k k2 : Prop} (h : zWR I F1 F2 (zVal g) (zVal g2) L k W k2 W2) {G G2 : Int32 → Prop} {t t2 : Int32} (hG : ∀ x, G x → ∃ y, G2 y ∧ L x y) (ht : L t t2) {v u : Int32} (hv : zVR g v) (hu : zVR g2 u) (hr : zRel (zVal g) (zVal g2) L v u) : (∀ c, zNd I F1 F2 g W v c → zNd I F1 F2 g2 W2 u c) ∧ (zBd g G v → zBd g2 G2 u) ∧ (zRc g t v → zRc g2 t2 u) := by
  refine ⟨fun c hn => ?_, ?_, fun hc => ?_⟩
  · obtain ⟨u', u1, u2, u3⟩ := zkey f1 f2 w w2 s fr fr2 hL h hv hn
    rw [zE2 s fr2 hu u1 hr u3]
    exact u2
  · rintro ⟨x, x1, x2⟩
    obtain ⟨y, y1, y2⟩ := hG x x1
    obtain ⟨u', u1, u2, u3⟩ := zRc_V w w2 s fr fr2 (hL x y y2).1 (hL x y y2).2 (zRel_L y2) hv x2
    rw [zE2 s fr2 hu u1 hr u3]
    exact ⟨y, y1, u2⟩
  · obtain ⟨u', u1, u2, u3⟩ := zRc_V w w2 s fr fr2 (hL t t2 ht).1 (hL t t2 ht).2 (zRel_L ht) hv hc
    rw [zE2 s fr2 hu u1 hr u3]
    exact u2
theorem zset_n {G : Int32 → Prop} {Wd H : Int32 → Nat → Prop} (f1 : ∀ c k c1, F1 c k c1 → a1 k) (f2 : ∀ c k c1, F2 c k c1 → a2 k) (w : zGW a1 a2 g) (hW : ∀ x c, W x c → zNx g x) (hw : ∀ x c, W x c ↔ Wd x c ∨ H x c) (hH : ∀ x c, H x c → ∀ v, zVR g v → zRc g x v → zBd g G v) {v : Int32} {c : Nat} (hv : zVR g v) : (zNd I F1 F2 g H v c → zBd g G v) ∧ (¬ zBd g G v → (zNd I F1 F2 g Wd v c ↔ zNd I F1 F2 g W v c)) := by
  have h1 : zNd I F1 F2 g H v c → zBd g G v := by
    intro hn
    obtain ⟨_, x, c0, x1, x2⟩ := zNd_r w f1 f2 (W := H) (fun x c hx => hW x c ((hw x c).mpr (Or.inr hx))) hn
    exact hH x c0 x1 v hv x2
  refine ⟨h1, fun hb => ⟨fun h => (zNd_or hw).mpr (Or.inl h), fun h => ?_⟩⟩
  rcases (zNd_or hw).mp h with h | h
  · exact h
  · exact absurd (h1 h) hb
/-- what a settling lets out, said of all that was wanted -/
theorem zset_o {G : Int32 → Prop} {t : Int32} {k am p : Prop} {K W' : Int32 → Nat → Prop} {pp : Int} {k' am' : Prop} (f1 : ∀ c k c1, F1 c k c1 → a1 k) (f2 : ∀ c k c1, F2 c k c1 → a2 k) (w : zGW a1 a2 g) (hW : ∀ x c, W x c → zNx g x) (h : zSet I F1 F2 un g G t W k am K pp W' k' am') : (∀ ρ q A, zVal g ρ → zMd I F1 F2 q A → ((k' → q) ∧ zSat A ρ W' ↔ (k ∨ zLK I F1 F2 g W → q) ∧ ∀ v c, zVR g v → zNd I F1 F2 g W v c → zBd g G v → A c (ρ v))) ∧ (am' ↔ am ∨ ∃ v c, zVR g v ∧ zNd I F1 F2 g W v c ∧ ¬ zBd g G v ∧ ¬ zRc g t v) ∧ (∀ v c, K v c ↔ (zVR g v ∧ ¬ zBd g G v ∧ zRc g t v) ∧ zLow un (zNd I F1 F2 g W v) c) ∧ (∀ x c, W' x c → W x c ∨ (zVR g x ∧ zNd I F1 F2 g W x c)) ∧ (∃ l : List (Int32 × Nat), l.Nodup ∧ (∀ v c, (v, c) ∈ l ↔ K v c) ∧ pp = l.length) := by
  obtain ⟨Wd, H, e1, e2, e3, e4, e5, e6, e7⟩ := h
  have nn := fun v c hv => zset_n (I := I) (F1 := F1) (F2 := F2) (v := v) (c := c) f1 f2 w hW e1 e2 hv
  have hWH : ∀ x c, H x c → zNx g x := fun x c hx => hW x c ((e1 x c).mpr (Or.inr hx))
  refine ⟨fun ρ q A hr m => ?_, ?_, fun v c => ?_, fun x c hx => ?_, e7⟩
  · have d := zdrive w f1 f2 hWH hr m
    constructor
    · intro ⟨h1, h2⟩
      have hs : zSat A ρ H := fun x c hx => h2 x c ((e3 x c).mpr (Or.inl hx))
      have d1 := d.mp hs
      refine ⟨fun hk => ?_, fun v c hv hn hb => ?_⟩
      · rcases hk with hk | hk
        · exact h1 (e4.mpr (Or.inl hk))
        · rcases (zLK_or e1).mp hk with hk | hk
          · exact h1 (e4.mpr (Or.inr hk))
          · exact d1.1 hk
      · rcases (zNd_or e1).mp hn with hn | hn
        · exact h2 v c ((e3 v c).mpr (Or.inr ⟨hv, hn, hb⟩))
        · exact d1.2 v c hv hn
    · intro ⟨h1, h2⟩
      have hs : zSat A ρ H := d.mpr ⟨fun hk => h1 (Or.inr ((zLK_or e1).mpr (Or.inr hk))), fun v c hv hn => h2 v c hv ((zNd_or e1).mpr (Or.inr hn)) ((nn v c hv).1 hn)⟩
      refine ⟨fun hk => ?_, fun x c hx => ?_⟩
      · rcases e4.mp hk with hk | hk
        · exact h1 (Or.inl hk)
        · exact h1 (Or.inr ((zLK_or e1).mpr (Or.inl hk)))
      · rcases (e3 x c).mp hx with hx | ⟨h3, h4, h5⟩
        · exact hs x c hx
        · exact h2 x c h3 ((zNd_or e1).mpr (Or.inl h4)) h5
  · rw [e5]
    constructor
    · rintro (h | ⟨v, c, h1, h2, h3, h4⟩)
      · exact Or.inl h
      · exact Or.inr ⟨v, c, h1, ((nn v c h1).2 h3).mp h2, h3, h4⟩
    · rintro (h | ⟨v, c, h1, h2, h3, h4⟩)
      · exact Or.inl h
      · exact Or.inr ⟨v, c, h1, ((nn v c h1).2 h3).mpr h2, h3, h4⟩
  · rw [e6]
    constructor
    · rintro ⟨h1, h2, h3⟩
      exact ⟨h1, ((nn v c h1.1).2 h1.2.1).mp h2, fun c' h4 => h3 c' (((nn v c' h1.1).2 h1.2.1).mpr h4)⟩
    · rintro ⟨h1, h2, h3⟩
      exact ⟨h1, ((nn v c h1.1).2 h1.2.1).mpr h2, fun c' h4 => h3 c' (((nn v c' h1.1).2 h1.2.1).mp h4)⟩
  · rcases (e3 x c).mp hx with hx | ⟨h3, h4, h5⟩
    · exact Or.inl ((e1 x c).mpr (Or.inr hx))
    · exact Or.inr ⟨h3, (zNd_or e1).mpr (Or.inl h4)⟩
theorem zset_c (f1 : ∀ c k c1, F1 c k c1 → a1 k) (f2 : ∀ c k c1, F2 c k c1 → a2 k) (w : zGW a1 a2 g) (w2 : zGW a1 a2 g2) (s : zSM (zVal g) (zVal g2) L) (fr : zFree g) (fr2 : zFree g2) (hL : ∀ x y, L x y → zNx g x ∧ zNx g2 y) {k k2 am am2 : Prop} (h : zWR I F1 F2 (zVal g) (zVal g2) L k W k2 W2) (ha : am ↔ am2) {G G2 : Int32 → Prop} {t t2 : Int32} (hG : ∀ x, G x → ∃ y, G2 y ∧ L x y) (hG2 : ∀ y, G2 y → ∃ x, G x ∧ L x y) (ht : L t t2) {K K2 W' W2' : Int32 → Nat → Prop} {p p2 : Int} {k' k2' am' am2' : Prop} (z1 : zSet I F1 F2 un g G t W k am K p W' k' am') (z2 : zSet I F1 F2 un g2 G2 t2 W2 k2 am2 K2 p2 W2' k2' am2') : zWR I F1 F2 (zVal g) (zVal g2) (zCl g g2 L) k' W' k2' W2' ∧ (am' ↔ am2') ∧ zKR (zCl g g2 L) K K2 ∧ p = p2 := by
  have hx := zWx hL h
  obtain ⟨o1, o2, o3, o4, l, l1, l2, l3⟩ := zset_o (p := True) f1 f2 w hx.1 z1
  obtain ⟨q1, q2, q3, q4, m, m1, m2, m3⟩ := zset_o (p := True) f1 f2 w2 hx.2 z2
  have hL' : ∀ x y, zFl L x y → zNx g2 x ∧ zNx g y := fun x y hl => ⟨(hL y x hl).2, (hL y x hl).1⟩
  have A1 := fun v u (hv : zVR g v) (hu : zVR g2 u) (hr : zRel (zVal g) (zVal g2) L v u) => zset_h f1 f2 w w2 s fr fr2 hL h hG ht hv hu hr
  have A2 := fun v u (hv : zVR g v) (hu : zVR g2 u) (hr : zRel (zVal g) (zVal g2) L v u) => zset_h f1 f2 w2 w (zSM_fl s) fr2 fr hL' (zWR_fl h) (L := zFl L) (G := G2) (G2 := G) (t := t2) (t2 := t) (fun y hy => by
    obtain ⟨x, x1, x2⟩ := hG2 y hy
    exact ⟨x, x1, x2⟩) ht hu hv (zRel_fl hr)
  have B1 : ∀ v c, zVR g v → zNd I F1 F2 g W v c → ∃ u, zVR g2 u ∧ zNd I F1 F2 g2 W2 u c ∧ zRel (zVal g) (zVal g2) L v u := fun v c hv hn => zkey f1 f2 w w2 s fr fr2 hL h hv hn
  have B2 : ∀ u c, zVR g2 u → zNd I F1 F2 g2 W2 u c → ∃ v, zVR g v ∧ zNd I F1 F2 g W v c ∧ zRel (zVal g) (zVal g2) L v u := fun u c hu hn => by
    obtain ⟨v, v1, v2, v3⟩ := zkey f1 f2 w2 w (zSM_fl s) fr2 fr hL' (zWR_fl h) hu hn
    exact ⟨v, v1, v2, zRel_fl v3⟩
  have KK : ∀ v u, zVR g v → zVR g2 u → zRel (zVal g) (zVal g2) L v u → ∀ c, K v c ↔ K2 u c := by
    intro v u hv hu hr c
    rw [o3, q3]
    have p1 := A1 v u hv hu hr
    have p2 := A2 v u hv hu hr
    constructor
    · rintro ⟨⟨_, h2, h3⟩, h4, h5⟩
      exact ⟨⟨hu, fun z => h2 (p2.2.1 z), p1.2.2 h3⟩, p1.1 c h4, fun c' h6 => h5 c' (p2.1 c' h6)⟩
    · rintro ⟨⟨_, h2, h3⟩, h4, h5⟩
      exact ⟨⟨hv, fun z => h2 (p1.2.1 z), p2.2.2 h3⟩, p2.1 c h4, fun c' h6 => h5 c' (p1.1 c' h6)⟩
  have KA : ∀ v c, K v c → ∃ u, zCl g g2 L v u ∧ K2 u c ∧ zVR g v ∧ zVR g2 u := by
    intro v c hk
    have hk' := (o3 v c).mp hk
    obtain ⟨u, u1, u2, u3⟩ := B1 v c hk'.1.1 hk'.2.1
    exact ⟨u, ⟨hk'.1.1.1.1, u1.1.1, u3⟩, (KK v u hk'.1.1 u1 u3 c).mp hk, hk'.1.1, u1⟩
  have KB : ∀ u c, K2 u c → ∃ v, zCl g g2 L v u ∧ K v c ∧ zVR g v ∧ zVR g2 u := by
    intro u c hk
    have hk' := (q3 u c).mp hk
    obtain ⟨v, u1, u2, u3⟩ := B2 u c hk'.1.1 hk'.2.1
    exact ⟨v, ⟨u1.1.1, hk'.1.1.1.1, u3⟩, (KK v u u1 hk'.1.1 u3 c).mpr hk, u1, hk'.1.1⟩
  refine ⟨⟨fun x c hw => ?_, fun y c hw => ?_, fun ρ σ h1 h2 h3 q A md => ?_⟩, ?_, ⟨fun v c hk => ?_, fun u c hk => ?_⟩, ?_⟩
  · rcases o4 x c hw with hw | ⟨hw1, hw2⟩
    · obtain ⟨y, hy⟩ := h.1 x c hw
      exact ⟨y, (hL x y hy).1, (hL x y hy).2, zRel_L hy⟩
    · obtain ⟨u, u1, u2, u3⟩ := B1 x c hw1 hw2
      exact ⟨u, hw1.1.1, u1.1.1, u3⟩
  · rcases q4 y c hw with hw | ⟨hw1, hw2⟩
    · obtain ⟨x, hx⟩ := h.2.1 y c hw
      exact ⟨x, (hL x y hx).1, (hL x y hx).2, zRel_L hx⟩
    · obtain ⟨v, u1, u2, u3⟩ := B2 y c hw1 hw2
      exact ⟨v, u1.1.1, hw1.1.1, u3⟩
  · have h4 : zAg L ρ σ := fun x y hl => h3 x y ⟨(hL x y hl).1, (hL x y hl).2, zRel_L hl⟩
    rw [o1 ρ q A h1 md, q1 σ q A h2 md, zkeyL f1 f2 w w2 s fr fr2 hL h]
    constructor
    · rintro ⟨x1, x2⟩
      refine ⟨x1, fun u c hu hn hb => ?_⟩
      obtain ⟨v, v1, v2, v3⟩ := B2 u c hu hn
      rw [← v3 ρ σ h1 h2 h4]
      exact x2 v c v1 v2 ((A2 v u v1 hu v3).2.1 hb)
    · rintro ⟨x1, x2⟩
      refine ⟨x1, fun v c hv hn hb => ?_⟩
      obtain ⟨u, u1, u2, u3⟩ := B1 v c hv hn
      rw [u3 ρ σ h1 h2 h4]
      exact x2 u c u1 u2 ((A1 v u hv u1 u3).2.1 hb)
  · rw [o2, q2, ha]
    constructor
    · rintro (x | ⟨v, c, x1, x2, x3, x4⟩)
      · exact Or.inl x
      · obtain ⟨u, u1, u2, u3⟩ := B1 v c x1 x2
        exact Or.inr ⟨u, c, u1, u2, fun z => x3 ((A2 v u x1 u1 u3).2.1 z), fun z => x4 ((A2 v u x1 u1 u3).2.2 z)⟩
    · rintro (x | ⟨u, c, x1, x2, x3, x4⟩)
      · exact Or.inl x
      · obtain ⟨v, u1, u2, u3⟩ := B2 u c x1 x2
        exact Or.inr ⟨v, c, u1, u2, fun z => x3 ((A1 v u u1 x1 u3).2.1 z), fun z => x4 ((A1 v u u1 x1 u3).2.2 z)⟩
  · obtain ⟨u, u1, u2, _⟩ := KA v c hk
    exact ⟨u, u1, u2⟩
  · obtain ⟨v, u1, u2, _⟩ := KB u c hk
    exact ⟨v, u1, u2⟩
  · have le1 : l.length ≤ m.length := by
      refine inj_len l m (fun a b => zCl g g2 L a.1 b.1 ∧ a.2 = b.2 ∧ zVR g a.1 ∧ zVR g2 b.1) l1 (fun a ha => ?_) (fun a a' b _ _ r1 r2 => ?_)
      · obtain ⟨u, u1, u2, u3, u4⟩ := KA a.1 a.2 ((l2 a.1 a.2).mp ha)
        exact ⟨(u, a.2), (m2 u a.2).mpr u2, u1, rfl, u3, u4⟩
      · have e := zE2 (zSM_fl s) fr r1.2.2.1 r2.2.2.1 (zRel_fl r1.1.2.2) (zRel_fl r2.1.2.2)
        exact Prod.ext e (r1.2.1.trans r2.2.1.symm)
    have le2 : m.length ≤ l.length := by
      refine inj_len m l (fun b a => zCl g g2 L a.1 b.1 ∧ a.2 = b.2 ∧ zVR g a.1 ∧ zVR g2 b.1) m1 (fun b hb => ?_) (fun b b' a _ _ r1 r2 => ?_)
      · obtain ⟨v, u1, u2, u3, u4⟩ := KB b.1 b.2 ((m2 b.1 b.2).mp hb)
        exact ⟨(v, b.2), (l2 v b.2).mpr u2, u1, rfl, u3, u4⟩
      · have e := zE2 s fr2 r1.2.2.2 r2.2.2.2 r1.1.2.2 r2.1.2.2
        exact Prod.ext e (r1.2.1.symm.trans r2.2.1)
    rw [l3, m3]
    omega
end ZSET
