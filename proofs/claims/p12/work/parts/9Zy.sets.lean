/-! Steps of the reference's typing, as sets of terms. -/
section STEP
theorem pig (f : Nat → Int32) : ∀ (c : Nat) (l : List Int32), (∀ i, i < c → f i ∈ l) → (∀ i j, i < c → j < c → f i = f j → i = j) → c ≤ l.length := by
  intro c
  induction c with
  | zero => intro l _ _; exact Nat.zero_le _
  | succ c ih =>
    intro l h1 h2
    have m := h1 c (Nat.lt_succ_self c)
    have k := ih (l.erase (f c)) (fun i hi => (List.mem_erase_of_ne (fun e => by have := h2 i c (by omega) (by omega) e; omega)).mpr (h1 i (by omega))) (fun i j hi hj => h2 i j (by omega) (by omega))
    rw [List.length_erase_of_mem m] at k
    have := List.length_pos_of_mem m
    omega
def qt (m : Nat) : Nat := ([0, 9, 10, 18, 19, 27, 28, 36, 38, 54, 57, 81, 84, 108, 114, 162, 171, 243, 252, 324, 342, 486, 513, 729, 756] : List Nat).getD m 0
theorem qt_lam {m : Nat} (h1 : 1 ≤ m) (h2 : m + 1 ≤ 24) : qt m + 1 ≤ qt (m + 1) := by
  have : ∀ m, m < 24 → 1 ≤ m → qt m + 1 ≤ qt (m + 1) := by decide
  exact this m (by omega) h1
theorem qt_two {x y : Nat} (h1 : 1 ≤ x) (h2 : 1 ≤ y) (h3 : x + y + 1 ≤ 24) : qt x + qt y ≤ qt (x + y + 1) ∧ qt x * qt y ≤ 9 * qt (x + y + 1) := by
  have : ∀ x, x < 24 → ∀ y, y < 24 → (¬ 1 ≤ x ∨ ¬ 1 ≤ y ∨ ¬ x + y + 1 ≤ 24 ∨ (qt x + qt y ≤ qt (x + y + 1) ∧ qt x * qt y ≤ 9 * qt (x + y + 1))) := by decide
  rcases this x (by omega) y (by omega) with k | k | k | k
  · exact absurd h1 k
  · exact absurd h2 k
  · exact absurd h3 k
  · exact k
theorem qt_rng {m : Nat} (h1 : 1 ≤ m) (h2 : m ≤ 24) : 9 ≤ qt m ∧ qt m ≤ 756 := by
  have : ∀ m, m < 25 → 1 ≤ m → 9 ≤ qt m ∧ qt m ≤ 756 := by decide
  exact this m (by omega) h1
def vt (r : S_) (x : Int32) : Prop := 0 ≤ x ∧ x < fi r 28
def VN (r : S_) : Prop := ∀ x : Int32, vt r x → vt r (ar r 64 x.toNatClampNeg) ∧ (0 ≤ ar r 66 x.toNatClampNeg → vt r (ar r 66 x.toNatClampNeg)) ∧ (0 ≤ ar r 67 x.toNatClampNeg → vt r (ar r 67 x.toNatClampNeg))
theorem MI_VN {a : L_} {r : S_} {rh ta : Int32 → Int32} {N : Int32} (w : MI a r rh ta N) : VN r := fun x h => by
  have b := w.2.2.2.1 x h.1 h.2
  exact ⟨b.1, fun g => ⟨g, b.2.2.1.2⟩, fun g => ⟨g, b.2.2.2.1.2⟩⟩
/-- from r0 to r1: new terms R count, what is closed and holds G stays closed with R, and nothing else is touched -/
def TS (r0 r1 : S_) (G : Int32 → Prop) (R : List Int32) : Prop := (0 ≤ fi r0 28 ∧ fi r0 28 ≤ fi r1 28) ∧ (∀ x : Int32, x ∈ R → fi r0 28 ≤ x ∧ x < fi r1 28) ∧ (∀ x : Int32, vt r0 x → (ar r1 64 x.toNatClampNeg = ar r0 64 x.toNatClampNeg ∨ ar r0 64 x.toNatClampNeg = x) ∧ ar r1 66 x.toNatClampNeg = ar r0 66 x.toNatClampNeg ∧ ar r1 67 x.toNatClampNeg = ar r0 67 x.toNatClampNeg) ∧ ∀ D : Int32 → Prop, (∀ x, D x → vt r0 x) → Cld r0 D → (∀ x, G x → D x) → Cld r1 (fun x => D x ∨ x ∈ R) ∧ ∀ x : Int32, vt r0 x → ¬ D x → ar r1 64 x.toNatClampNeg = ar r0 64 x.toNatClampNeg
theorem vt_up {r0 r1 : S_} {G : Int32 → Prop} {R : List Int32} (s : TS r0 r1 G R) {x : Int32} (h : vt r0 x) : vt r1 x := by
  have h1 := s.1.2
  refine ⟨h.1, ?_⟩
  have h2 := h.2
  rw [it] at h2 ⊢
  rw [il] at h1
  omega
theorem TS_refl {r0 r1 : S_} {G : Int32 → Prop} (h0 : 0 ≤ fi r0 28) (h28 : fi r1 28 = fi r0 28) (h : ∀ x : Int32, vt r0 x → ar r1 64 x.toNatClampNeg = ar r0 64 x.toNatClampNeg ∧ ar r1 66 x.toNatClampNeg = ar r0 66 x.toNatClampNeg ∧ ar r1 67 x.toNatClampNeg = ar r0 67 x.toNatClampNeg) : TS r0 r1 G [] := by
  refine ⟨⟨h0, by rw [h28]; exact Int32.le_refl _⟩, fun x hx => absurd hx List.not_mem_nil, fun x hx => ⟨Or.inl (h x hx).1, (h x hx).2⟩, fun D hD hc hG => ⟨fun x x1 x2 x3 => ?_, fun x hx _ => (h x hx).1⟩⟩
  have x3 : D x := x3.elim id (fun z => absurd z List.not_mem_nil)
  have e := h x (hD x x3)
  rw [e.1, e.2.1, e.2.2]
  have c := hc x x1 (hD x x3).2 x3
  exact ⟨Or.inl c.1, fun g => Or.inl (c.2.1 g), fun g => Or.inl (c.2.2 g)⟩
theorem Cld_congr {r : S_} {A B : Int32 → Prop} (h : ∀ x, A x ↔ B x) (c : Cld r A) : Cld r B := fun x x1 x2 x3 => by
  have b := c x x1 x2 ((h x).mpr x3)
  exact ⟨(h _).mp b.1, fun g => (h _).mp (b.2.1 g), fun g => (h _).mp (b.2.2 g)⟩
theorem TS_trans {r0 r1 r2 : S_} {G G' : Int32 → Prop} {R1 R2 : List Int32} (s1 : TS r0 r1 G R1) (s2 : TS r1 r2 G' R2) (hG : ∀ D : Int32 → Prop, (∀ x, D x → vt r0 x) → Cld r0 D → (∀ x, G x → D x) → ∀ x, G' x → D x ∨ x ∈ R1) : TS r0 r2 G (R1 ++ R2) := by
  have a1 := s1.1
  have a2 := s2.1
  have le02 : fi r0 28 ≤ fi r2 28 := by
    have h1 := a1.2
    have h2 := a2.2
    rw [il] at h1 h2 ⊢
    omega
  refine ⟨⟨a1.1, le02⟩, fun x hx => ?_, fun x hx => ?_, fun D hD hc hg => ?_⟩
  · rcases List.mem_append.mp hx with z | z
    · have h1 := s1.2.1 x z
      have h2 := a2.2
      refine ⟨h1.1, ?_⟩
      have h3 := h1.2
      rw [it] at h3 ⊢
      rw [il] at h2
      omega
    · have h1 := s2.2.1 x z
      have h2 := a1.2
      refine ⟨?_, h1.2⟩
      have h3 := h1.1
      rw [il] at h2 h3 ⊢
      omega
  · have h1 := s1.2.2.1 x hx
    have h2 := s2.2.2.1 x (vt_up s1 hx)
    refine ⟨?_, h2.2.1.trans h1.2.1, h2.2.2.trans h1.2.2⟩
    rcases h2.1 with z | z
    · rw [z]; exact h1.1
    · rcases h1.1 with y | y
      · right; rw [← y]; exact z
      · exact Or.inr y
  · have c1 := s1.2.2.2 D hD hc hg
    have v1 : ∀ x, (D x ∨ x ∈ R1) → vt r1 x := fun x hx => by
      rcases hx with z | z
      · exact vt_up s1 (hD x z)
      · have h1 := s1.2.1 x z
        refine ⟨?_, h1.2⟩
        have h2 := h1.1
        have h3 := a1.1
        rw [il] at h2 h3 ⊢
        omega
    have c2 := s2.2.2.2 (fun x => D x ∨ x ∈ R1) v1 c1.1 (hG D hD hc hg)
    refine ⟨Cld_congr (fun x => ?_) c2.1, fun x hx hn => ?_⟩
    · rw [List.mem_append]
      exact or_assoc
    · have e1 := c1.2 x hx hn
      refine (c2.2 x (vt_up s1 hx) ?_).trans e1
      intro h
      rcases h with z | z
      · exact hn z
      · have h1 := (s1.2.1 x z).1
        have h2 := hx.2
        rw [it] at h2
        rw [il] at h1
        omega
/-- the least closed set that holds G -/
def LC (r : S_) (G : Int32 → Prop) (x : Int32) : Prop := vt r x ∧ ∀ A : Int32 → Prop, (∀ x, A x → vt r x) → Cld r A → (∀ x, G x → A x) → A x
theorem LC_cld {r : S_} {G : Int32 → Prop} (hv : VN r) : Cld r (LC r G) := fun x _ _ h => by
  have v := hv x h.1
  refine ⟨⟨v.1, fun A h1 h2 h3 => ?_⟩, fun g => ⟨v.2.1 g, fun A h1 h2 h3 => ?_⟩, fun g => ⟨v.2.2 g, fun A h1 h2 h3 => ?_⟩⟩
  · exact (h2 x h.1.1 h.1.2 (h.2 A h1 h2 h3)).1
  · exact (h2 x h.1.1 h.1.2 (h.2 A h1 h2 h3)).2.1 g
  · exact (h2 x h.1.1 h.1.2 (h.2 A h1 h2 h3)).2.2 g
theorem LC_G {r : S_} {G : Int32 → Prop} (hg : ∀ x, G x → vt r x) : ∀ x, G x → LC r G x := fun x h => ⟨hg x h, fun _ _ _ h3 => h3 x h⟩
theorem LC_TS {r0 r1 : S_} {G G' : Int32 → Prop} {R : List Int32} (s : TS r0 r1 G' R) (hv : VN r0) (hg : ∀ x, G x → vt r0 x) {x : Int32} (h : LC r0 G x) : LC r1 G x := by
  refine ⟨vt_up s h.1, fun A h1 h2 h3 => ?_⟩
  refine (h.2 (fun y => vt r0 y ∧ A y) (fun y hy => hy.1) (fun y y1 y2 y3 => ?_) (fun y hy => ⟨hg y hy, h3 y hy⟩)).2
  have v := hv y ⟨y1, y2⟩
  have e := s.2.2.1 y ⟨y1, y2⟩
  have vy := vt_up s ⟨y1, y2⟩
  have c := h2 y vy.1 vy.2 y3.2
  rw [e.2.1, e.2.2] at c
  refine ⟨⟨v.1, ?_⟩, fun g => ⟨v.2.1 g, c.2.1 g⟩, fun g => ⟨v.2.2 g, c.2.2 g⟩⟩
  rcases e.1 with z | z
  · rw [← z]; exact c.1
  · rw [z]; exact y3.2
/-- y stands under G, however what is equal is told apart -/
def DM (r : S_) (G : Int32 → Prop) (y : Int32) : Prop := ∀ B : Int32 → Prop, (∀ x, vt r x → (B x ↔ B (ar r 64 x.toNatClampNeg))) → (∀ x, vt r x → B x → (0 ≤ ar r 66 x.toNatClampNeg → B (ar r 66 x.toNatClampNeg)) ∧ (0 ≤ ar r 67 x.toNatClampNeg → B (ar r 67 x.toNatClampNeg))) → (∀ x, G x → B x) → B y
theorem LC_DM {r : S_} {G : Int32 → Prop} (hv : VN r) (hg : ∀ x, G x → vt r x) {y : Int32} (h : LC r G y) : DM r G y := by
  intro B h1 h2 h3
  refine (h.2 (fun x => vt r x ∧ B x) (fun x hx => hx.1) (fun x x1 x2 x3 => ?_) (fun x hx => ⟨hg x hx, h3 x hx⟩)).2
  have v := hv x x3.1
  have b := h2 x x3.1 x3.2
  exact ⟨⟨v.1, (h1 x x3.1).mp x3.2⟩, fun g => ⟨v.2.1 g, b.1 g⟩, fun g => ⟨v.2.2 g, b.2 g⟩⟩
theorem DM_TS {r0 r1 : S_} {G G' : Int32 → Prop} {R : List Int32} (s : TS r0 r1 G' R) {y : Int32} (h : DM r0 G y) : DM r1 G y := by
  intro B h1 h2 h3
  refine h B (fun x hx => ?_) (fun x hx hb => ?_) h3
  · rcases (s.2.2.1 x hx).1 with z | z
    · rw [← z]; exact h1 x (vt_up s hx)
    · rw [z]
  · have e := s.2.2.1 x hx
    have b := h2 x (vt_up s hx) hb
    rw [e.2.1, e.2.2] at b
    exact b
theorem R_vt {r0 r1 : S_} {G : Int32 → Prop} {R : List Int32} (s : TS r0 r1 G R) {x : Int32} (h : x ∈ R) : vt r1 x := by
  have h1 := s.2.1 x h
  refine ⟨?_, h1.2⟩
  have h2 := h1.1
  have h3 := s.1.1
  rw [il] at h2 h3 ⊢
  omega
theorem R_new {r0 r1 : S_} {G : Int32 → Prop} {R : List Int32} (s : TS r0 r1 G R) {x : Int32} (h : x ∈ R) : ¬ vt r0 x := by
  intro hx
  have h1 := (s.2.1 x h).1
  have h2 := hx.2
  rw [it] at h2
  rw [il] at h1
  omega
noncomputable def inL (r : S_) (G : Int32 → Prop) (R : List Int32) : List Int32 := R.filter (fun x => @decide (LC r G x) (Classical.propDecidable _))
noncomputable def outL (r : S_) (G : Int32 → Prop) (R : List Int32) : List Int32 := R.filter (fun x => @decide (¬ LC r G x) (Classical.propDecidable _))
theorem mem_inL {r : S_} {G : Int32 → Prop} {R : List Int32} {x : Int32} : x ∈ inL r G R ↔ x ∈ R ∧ LC r G x := by
  unfold inL
  rw [List.mem_filter]
  simp
theorem mem_outL {r : S_} {G : Int32 → Prop} {R : List Int32} {x : Int32} : x ∈ outL r G R ↔ x ∈ R ∧ ¬ LC r G x := by
  unfold outL
  rw [List.mem_filter]
  simp
theorem len_io {r : S_} {G : Int32 → Prop} : ∀ R : List Int32, (inL r G R).length + (outL r G R).length = R.length := by
  intro R
  unfold inL outL
  induction R with
  | nil => rfl
  | cons x R ih =>
    by_cases h : LC r G x
    · rw [List.filter_cons_of_pos (by simpa using h), List.filter_cons_of_neg (by simpa using h)]
      simp only [List.length_cons]
      omega
    · rw [List.filter_cons_of_neg (by simpa using h), List.filter_cons_of_pos (by simpa using h)]
      simp only [List.length_cons]
      omega
/-- what of a LET's first part goes on: what stands under G -/
theorem TS_let {r0 r1 r2 : S_} {G : Int32 → Prop} {Re Rf : List Int32} (s1 : TS r0 r1 G Re) (s2 : TS r1 r2 G Rf) (hv0 : VN r0) (hv1 : VN r1) (hg : ∀ x, G x → vt r0 x) : TS r0 r2 G (inL r1 G Re ++ Rf) := by
  have t := TS_trans s1 s2 (fun D _ _ hg x hx => Or.inl (hg x hx))
  refine ⟨t.1, fun x hx => ?_, t.2.2.1, fun D hD hc hG => ?_⟩
  · rcases List.mem_append.mp hx with z | z
    · exact t.2.1 x (List.mem_append.mpr (Or.inl (mem_inL.mp z).1))
    · exact t.2.1 x (List.mem_append.mpr (Or.inr z))
  · have c' := s1.2.2.2 (LC r0 G) (fun x hx => hx.1) (LC_cld hv0) (LC_G hg)
    have lcD : ∀ x, LC r0 G x → D x := fun x hx => hx.2 D hD hc hG
    have cD := s1.2.2.2 D hD hc hG
    have cQ : Cld r1 (fun x => D x ∨ x ∈ inL r1 G Re) := by
      have nxt : ∀ y, LC r1 G y → (LC r0 G y ∨ y ∈ Re) → D y ∨ y ∈ inL r1 G Re := fun y h1 h2 => h2.elim (fun z => Or.inl (lcD y z)) (fun z => Or.inr (mem_inL.mpr ⟨z, h1⟩))
      have go : ∀ x, vt r1 x → LC r1 G x → (LC r0 G x ∨ x ∈ Re) → (D (ar r1 64 x.toNatClampNeg) ∨ ar r1 64 x.toNatClampNeg ∈ inL r1 G Re) ∧ (0 ≤ ar r1 66 x.toNatClampNeg → D (ar r1 66 x.toNatClampNeg) ∨ ar r1 66 x.toNatClampNeg ∈ inL r1 G Re) ∧ (0 ≤ ar r1 67 x.toNatClampNeg → D (ar r1 67 x.toNatClampNeg) ∨ ar r1 67 x.toNatClampNeg ∈ inL r1 G Re) := fun x hx h1 h2 => by
        have k1 := LC_cld (G := G) hv1 x hx.1 hx.2 h1
        have k2 := c'.1 x hx.1 hx.2 h2
        exact ⟨nxt _ k1.1 k2.1, fun g => nxt _ (k1.2.1 g) (k2.2.1 g), fun g => nxt _ (k1.2.2 g) (k2.2.2 g)⟩
      intro x x1 x2 x3
      rcases x3 with x3 | x3
      · by_cases h : LC r0 G x
        · exact go x ⟨x1, x2⟩ (LC_TS s1 hv0 hg h) (Or.inl h)
        · have vx := hD x x3
          have e := s1.2.2.1 x vx
          have k := hc x vx.1 vx.2 x3
          rw [c'.2 x vx h, e.2.1, e.2.2]
          exact ⟨Or.inl k.1, fun g => Or.inl (k.2.1 g), fun g => Or.inl (k.2.2 g)⟩
      · have m := mem_inL.mp x3
        exact go x ⟨x1, x2⟩ m.2 (Or.inr m.1)
    have vQ : ∀ x, (D x ∨ x ∈ inL r1 G Re) → vt r1 x := fun x hx => hx.elim (fun z => vt_up s1 (hD x z)) (fun z => R_vt s1 (mem_inL.mp z).1)
    have c2 := s2.2.2.2 _ vQ cQ (fun x hx => Or.inl (hG x hx))
    refine ⟨Cld_congr (fun x => ?_) c2.1, fun x hx hn => ?_⟩
    · rw [List.mem_append]
      exact or_assoc
    · refine (c2.2 x (vt_up s1 hx) ?_).trans (cD.2 x hx hn)
      intro h
      exact h.elim hn (fun z => R_new s1 (mem_inL.mp z).1 hx)
/-- what is copied of a LET's first part: U; t its type -/
def LU (r : S_) (G2 Gc : Int32 → Prop) (t : Int32) (U : List Int32) : Prop := (∃ A : Int32 → Prop, (∀ x, A x → vt r x) ∧ Cld r A ∧ (∀ x, Gc x → A x) ∧ ∀ x, x ∈ U → ¬ A x) ∧ (∀ x, x ∈ U → vt r x ∧ (ar r 64 x.toNatClampNeg ∈ U ∨ DM r G2 (ar r 64 x.toNatClampNeg)) ∧ (0 ≤ ar r 66 x.toNatClampNeg → ar r 66 x.toNatClampNeg ∈ U ∨ DM r G2 (ar r 66 x.toNatClampNeg)) ∧ (0 ≤ ar r 67 x.toNatClampNeg → ar r 67 x.toNatClampNeg ∈ U ∨ DM r G2 (ar r 67 x.toNatClampNeg))) ∧ (t ∈ U ∨ DM r G2 t)
theorem LU_TS {r0 r1 : S_} {G2 Gc Gc' : Int32 → Prop} {t : Int32} {U R : List Int32} (h : LU r0 G2 Gc t U) (s : TS r0 r1 Gc R) (hG : ∀ x, Gc' x → Gc x ∨ x ∈ R) : LU r1 G2 Gc' t U := by
  obtain ⟨⟨A, a1, a2, a3, a4⟩, h2, h3⟩ := h
  have c := s.2.2.2 A a1 a2 a3
  have up : ∀ y, (y ∈ U ∨ DM r0 G2 y) → (y ∈ U ∨ DM r1 G2 y) := fun y hy => hy.imp id (DM_TS s)
  refine ⟨⟨fun x => A x ∨ x ∈ R, fun x hx => hx.elim (fun z => vt_up s (a1 x z)) (R_vt s), c.1, fun x hx => (hG x hx).imp (a3 x) id, fun x hx hn => ?_⟩, fun x hx => ?_, up t h3⟩
  · exact hn.elim (a4 x hx) (fun z => R_new s z (h2 x hx).1)
  · have b := h2 x hx
    have e := s.2.2.1 x b.1
    rw [c.2 x b.1 (a4 x hx), e.2.1, e.2.2]
    exact ⟨vt_up s b.1, up _ b.2.1, fun g => up _ (b.2.2.1 g), fun g => up _ (b.2.2.2 g)⟩
theorem LU_new {r0 r1 : S_} {G : Int32 → Prop} {t : Int32} {Re : List Int32} (s : TS r0 r1 G Re) (hv0 : VN r0) (hv1 : VN r1) (hg : ∀ x, G x → vt r0 x) (ht : ∀ D : Int32 → Prop, (∀ x, D x → vt r0 x) → Cld r0 D → (∀ x, G x → D x) → D t ∨ t ∈ Re) : LU r1 G G t (outL r1 G Re) := by
  have c' := s.2.2.2 (LC r0 G) (fun x hx => hx.1) (LC_cld hv0) (LC_G hg)
  have hg1 : ∀ x, G x → vt r1 x := fun x hx => vt_up s (hg x hx)
  have spl : ∀ y, (LC r0 G y ∨ y ∈ Re) → y ∈ outL r1 G Re ∨ DM r1 G y := fun y hy => by
    by_cases h : LC r1 G y
    · exact Or.inr (LC_DM hv1 hg1 h)
    · rcases hy with z | z
      · exact absurd (LC_TS s hv0 hg z) h
      · exact Or.inl (mem_outL.mpr ⟨z, h⟩)
  refine ⟨⟨LC r1 G, fun x hx => hx.1, LC_cld hv1, LC_G hg1, fun x hx => (mem_outL.mp hx).2⟩, fun x hx => ?_, spl t (ht (LC r0 G) (fun x hx => hx.1) (LC_cld hv0) (LC_G hg))⟩
  have m := mem_outL.mp hx
  have v := R_vt s m.1
  have k := c'.1 x v.1 v.2 (Or.inr m.1)
  exact ⟨v, spl _ k.1, fun g => spl _ (k.2.1 g), fun g => spl _ (k.2.2 g)⟩
/-- where a copy goes: into U, or to what is marked around -/
theorem LU_root {a : L_} {r : S_} {rh ta : Int32 → Int32} {N : Int32} (w : MI a r rh ta N) (cg : CGr r rh) {G2 Gc : Int32 → Prop} {t y : Int32} {U : List Int32} (h : LU r G2 Gc t U) {RR : Int32 → Prop} (r1 : ∀ x, G2 x → RR (rh x)) (r2 : ∀ x, vt r x → RR x → (0 ≤ ar r 66 x.toNatClampNeg → RR (rh (ar r 66 x.toNatClampNeg))) ∧ (0 ≤ ar r 67 x.toNatClampNeg → RR (rh (ar r 67 x.toNatClampNeg)))) (hy : vt r y) (hU : y ∈ U ∨ DM r G2 y) : rh y ∈ U ∨ RR (rh y) := by
  have dmr : ∀ z, DM r G2 z → RR (rh z) := fun z hz => by
    refine hz (fun x => RR (rh x)) (fun x hx => ?_) (fun x hx hb => ?_) r1
    · by_cases g : ar r 64 x.toNatClampNeg = x
      · rw [g]
      · rw [((w.2.2.2.2.1.2 x hx.1 hx.2).2.2.2 g).1]
    · have b := w.2.2.2.2.1.2 x hx.1 hx.2
      have nb := w.2.2.2.1 x hx.1 hx.2
      have q := r2 (rh x) b.1 hb
      by_cases g : 0 ≤ ar r 65 x.toNatClampNeg
      · have cx := cg x hx.1 hx.2 g
        have lr := lf_rh w (fun x x1 x2 x3 => (cg x x1 x2 x3).1) hx.1 hx.2 g
        exact ⟨fun g1 => by rw [cx.2.1 g1]; exact q.1 (lr.1.mp g1), fun g1 => by rw [cx.2.2 g1]; exact q.2 (lr.2.mp g1)⟩
      · have k := nb.2.2.2.2.1 (Int32.not_le.mp g)
        rw [k.1, k.2]
        exact ⟨fun z => absurd z (by decide), fun z => absurd z (by decide)⟩
  have key := rh_ind w (A := fun z => z ∈ U ∨ DM r G2 z) (fun x x1 x2 x3 => ?_) hy.1 hy.2 hU
  · refine key.imp id (fun z => ?_)
    have := dmr _ z
    have b := w.2.2.2.2.1.2 y hy.1 hy.2
    rwa [(w.2.2.2.2.1.2 _ b.1.1 b.1.2).2.2.1 b.2.1] at this
  · rcases x3 with z | z
    · exact (h.2.1 x z).2.1
    · right
      intro B h1 h2 h3
      exact (h1 x ⟨x1, x2⟩).mp (z B h1 h2 h3)
end STEP
