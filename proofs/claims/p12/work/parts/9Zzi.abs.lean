/-! Trees, graphs of types, what is wanted of them: nothing of the machine. -/
section ZABS
abbrev Ut := List Int
def Jn (h : Int32) (a b : Ut) : Ut := h.toInt :: (a.length : Int) :: (a ++ b)
def Atm (v : Int32) : Ut := [v.toInt, -1]
theorem Jn_inj {h h' : Int32} {a b a' b' : Ut} (e : Jn h a b = Jn h' a' b') : h = h' ∧ a = a' ∧ b = b' := by
  unfold Jn at e
  simp only [List.cons.injEq] at e
  obtain ⟨e1, e2, e3⟩ := e
  have e4 : a.length = a'.length := by omega
  have e5 := List.append_inj e3 e4
  exact ⟨Int32.toInt_inj.mp e1, e5.1, e5.2⟩
theorem Jn_Atm {h v : Int32} {a b : Ut} (e : Jn h a b = Atm v) : False := by
  unfold Jn Atm at e
  simp only [List.cons.injEq] at e
  omega
theorem Atm_inj {v w : Int32} (e : Atm v = Atm w) : v = w := by
  unfold Atm at e
  simp only [List.cons.injEq] at e
  exact Int32.toInt_inj.mp e.1
theorem Jn_len {h : Int32} {a b : Ut} : (Jn h a b).length = a.length + b.length + 2 := by
  unfold Jn
  simp
theorem Atm_len {v : Int32} : (Atm v).length = 2 := rfl
/-- count, roots, heads, first and second parts -/
abbrev Gr := Int32 × (Int32 → Int32) × (Int32 → Int32) × (Int32 → Int32) × (Int32 → Int32)
def gC (g : Gr) : Int32 := g.1
def gR (g : Gr) : Int32 → Int32 := g.2.1
def gH (g : Gr) : Int32 → Int32 := g.2.2.1
def gF (g : Gr) : Int32 → Int32 := g.2.2.2.1
def gS (g : Gr) : Int32 → Int32 := g.2.2.2.2
def zNx (g : Gr) (x : Int32) : Prop := 0 ≤ x ∧ x < gC g
def zRn (g : Gr) (x : Int32) : Prop := zNx g x ∧ gR g x = x
def zVR (g : Gr) (x : Int32) : Prop := zRn g x ∧ ¬ 0 ≤ gH g x
def zVal (g : Gr) (ρ : Int32 → Ut) : Prop := ρ (-1) = [] ∧ ∀ x, zNx g x → ρ x = ρ (gR g x) ∧ (0 ≤ gH g (gR g x) → ρ x = Jn (gH g (gR g x)) (ρ (gF g (gR g x))) (ρ (gS g (gR g x))))
/-- well-formed; a1 a2: heads that have a first, a second part -/
def zGW (a1 a2 : Int32 → Prop) (g : Gr) : Prop := (∀ x, zNx g x → zRn g (gR g x)) ∧ ∀ y, zRn g y → (gF g y = -1 ∨ zNx g (gF g y)) ∧ (gS g y = -1 ∨ zNx g (gS g y)) ∧ (0 ≤ gH g y → (¬ gF g y = -1 ↔ a1 (gH g y)) ∧ (¬ gS g y = -1 ↔ a2 (gH g y))) ∧ (¬ 0 ≤ gH g y → gF g y = -1 ∧ gS g y = -1)
def zFree (g : Gr) : Prop := ∀ α : Int32 → Ut, ∃ ρ, zVal g ρ ∧ ∀ v, zVR g v → ρ v = α v
def zRc (g : Gr) (x v : Int32) : Prop := ∀ S : Int32 → Prop, S (gR g x) → (∀ y, zRn g y → S y → (¬ gF g y = -1 → S (gR g (gF g y))) ∧ (¬ gS g y = -1 → S (gR g (gS g y)))) → S v
def zNd (I : Nat → Int32 → Prop) (F1 F2 : Nat → Int32 → Nat → Prop) (g : Gr) (W : Int32 → Nat → Prop) (v : Int32) (c : Nat) : Prop := ∀ S : Int32 → Nat → Prop, (∀ x c, W x c → S (gR g x) c) → (∀ y c c1, S y c → 0 ≤ gH g y → I c (gH g y) → (F1 c (gH g y) c1 → S (gR g (gF g y)) c1) ∧ (F2 c (gH g y) c1 → S (gR g (gS g y)) c1)) → S v c
def zLK (I : Nat → Int32 → Prop) (F1 F2 : Nat → Int32 → Nat → Prop) (g : Gr) (W : Int32 → Nat → Prop) : Prop := ∃ y c, zNd I F1 F2 g W y c ∧ 0 ≤ gH g y ∧ ¬ I c (gH g y)
/-- who is in which class, lacking instances read as q -/
def zMd (I : Nat → Int32 → Prop) (F1 F2 : Nat → Int32 → Nat → Prop) (q : Prop) (A : Nat → Ut → Prop) : Prop := ∀ c k a b, A c (Jn k a b) ↔ ((I c k → (∀ c1, F1 c k c1 → A c1 a) ∧ (∀ c1, F2 c k c1 → A c1 b)) ∧ (¬ I c k → q))
def zSat (A : Nat → Ut → Prop) (ρ : Int32 → Ut) (W : Int32 → Nat → Prop) : Prop := ∀ x c, W x c → A c (ρ x)
def zFa (I : Nat → Int32 → Prop) (F1 F2 : Nat → Int32 → Nat → Prop) (bad : Nat → Ut → Prop) (q : Prop) (c : Nat) (u : Ut) : Prop := ∀ S : Nat → Ut → Prop, (∀ c u, bad c u → S c u) → (∀ c k a b, ¬ I c k → ¬ q → S c (Jn k a b)) → (∀ c k a b c1, I c k → F1 c k c1 → S c1 a → S c (Jn k a b)) → (∀ c k a b c1, I c k → F2 c k c1 → S c1 b → S c (Jn k a b)) → S c u
variable {I : Nat → Int32 → Prop} {F1 F2 : Nat → Int32 → Nat → Prop} {un : Nat → Nat → Prop} {a1 a2 : Int32 → Prop} {g g2 : Gr} {W W2 : Int32 → Nat → Prop} {q : Prop} {A : Nat → Ut → Prop} {bad : Nat → Ut → Prop}
theorem zFa_b {c : Nat} {u : Ut} (h : bad c u) : zFa I F1 F2 bad q c u := fun _ h1 _ _ _ => h1 c u h
theorem zFa_q {c : Nat} {k : Int32} {a b : Ut} (h1 : ¬ I c k) (h2 : ¬ q) : zFa I F1 F2 bad q c (Jn k a b) := fun _ _ h _ _ => h c k a b h1 h2
theorem zFa_1 {c c1 : Nat} {k : Int32} {a b : Ut} (h1 : I c k) (h2 : F1 c k c1) (h3 : zFa I F1 F2 bad q c1 a) : zFa I F1 F2 bad q c (Jn k a b) := fun S g1 g2 g3 g4 => g3 c k a b c1 h1 h2 (h3 S g1 g2 g3 g4)
theorem zFa_2 {c c1 : Nat} {k : Int32} {a b : Ut} (h1 : I c k) (h2 : F2 c k c1) (h3 : zFa I F1 F2 bad q c1 b) : zFa I F1 F2 bad q c (Jn k a b) := fun S g1 g2 g3 g4 => g4 c k a b c1 h1 h2 (h3 S g1 g2 g3 g4)
theorem zFa_inv {c : Nat} {u : Ut} (h : zFa I F1 F2 bad q c u) : bad c u ∨ ∃ k a b, u = Jn k a b ∧ ((¬ I c k ∧ ¬ q) ∨ (I c k ∧ ∃ c1, F1 c k c1 ∧ zFa I F1 F2 bad q c1 a) ∨ (I c k ∧ ∃ c1, F2 c k c1 ∧ zFa I F1 F2 bad q c1 b)) := by
  have key := h (fun c u => zFa I F1 F2 bad q c u ∧ (bad c u ∨ ∃ k a b, u = Jn k a b ∧ ((¬ I c k ∧ ¬ q) ∨ (I c k ∧ ∃ c1, F1 c k c1 ∧ zFa I F1 F2 bad q c1 a) ∨ (I c k ∧ ∃ c1, F2 c k c1 ∧ zFa I F1 F2 bad q c1 b)))) ?_ ?_ ?_ ?_
  · exact key.2
  · intro c u hb
    exact ⟨zFa_b hb, Or.inl hb⟩
  · intro c k a b h1 h2
    exact ⟨zFa_q h1 h2, Or.inr ⟨k, a, b, rfl, Or.inl ⟨h1, h2⟩⟩⟩
  · intro c k a b c1 h1 h2 h3
    exact ⟨zFa_1 h1 h2 h3.1, Or.inr ⟨k, a, b, rfl, Or.inr (Or.inl ⟨h1, c1, h2, h3.1⟩)⟩⟩
  · intro c k a b c1 h1 h2 h3
    exact ⟨zFa_2 h1 h2 h3.1, Or.inr ⟨k, a, b, rfl, Or.inr (Or.inr ⟨h1, c1, h2, h3.1⟩)⟩⟩
theorem zFa_at {c : Nat} {v : Int32} (h : zFa I F1 F2 bad q c (Atm v)) : bad c (Atm v) := by
  rcases zFa_inv h with h | ⟨k, a, b, e, _⟩
  · exact h
  · exact (Jn_Atm e.symm).elim
theorem zFa_md (hb : ∀ c k a b, ¬ bad c (Jn k a b)) : zMd I F1 F2 q (fun c u => ¬ zFa I F1 F2 bad q c u) := by
  intro c k a b
  constructor
  · intro h
    refine ⟨fun hi => ⟨fun c1 h1 h2 => h (zFa_1 hi h1 h2), fun c1 h1 h2 => h (zFa_2 hi h1 h2)⟩, fun hi => ?_⟩
    exact Classical.byContradiction (fun hq => h (zFa_q hi hq))
  · intro ⟨h1, h2⟩ h
    rcases zFa_inv h with h | ⟨k', a', b', e, h⟩
    · exact hb _ _ _ _ h
    · obtain ⟨e1, e2, e3⟩ := Jn_inj e
      subst e1 e2 e3
      rcases h with ⟨h3, h4⟩ | ⟨h3, c1, h4, h5⟩ | ⟨h3, c1, h4, h5⟩
      · exact h4 (h2 h3)
      · exact (h1 h3).1 c1 h4 h5
      · exact (h1 h3).2 c1 h4 h5
theorem zNd_0 {x : Int32} {c : Nat} (h : W x c) : zNd I F1 F2 g W (gR g x) c := fun _ h1 _ => h1 x c h
theorem zNd_1 {y : Int32} {c c1 : Nat} (h : zNd I F1 F2 g W y c) (h1 : 0 ≤ gH g y) (h2 : I c (gH g y)) (h3 : F1 c (gH g y) c1) : zNd I F1 F2 g W (gR g (gF g y)) c1 := fun S g1 g2 => (g2 y c c1 (h S g1 g2) h1 h2).1 h3
theorem zNd_2 {y : Int32} {c c1 : Nat} (h : zNd I F1 F2 g W y c) (h1 : 0 ≤ gH g y) (h2 : I c (gH g y)) (h3 : F2 c (gH g y) c1) : zNd I F1 F2 g W (gR g (gS g y)) c1 := fun S g1 g2 => (g2 y c c1 (h S g1 g2) h1 h2).2 h3
theorem zNd_or {Wd H : Int32 → Nat → Prop} (hw : ∀ x c, W x c ↔ Wd x c ∨ H x c) {v : Int32} {c : Nat} : zNd I F1 F2 g W v c ↔ zNd I F1 F2 g Wd v c ∨ zNd I F1 F2 g H v c := by
  constructor
  · intro h
    refine h (fun v c => zNd I F1 F2 g Wd v c ∨ zNd I F1 F2 g H v c) ?_ ?_
    · intro x c hx
      rcases (hw x c).mp hx with h | h
      · exact Or.inl (zNd_0 h)
      · exact Or.inr (zNd_0 h)
    · intro y c c1 h h1 h2
      rcases h with h | h
      · exact ⟨fun h3 => Or.inl (zNd_1 h h1 h2 h3), fun h3 => Or.inl (zNd_2 h h1 h2 h3)⟩
      · exact ⟨fun h3 => Or.inr (zNd_1 h h1 h2 h3), fun h3 => Or.inr (zNd_2 h h1 h2 h3)⟩
  · intro h
    rcases h with h | h
    · exact fun S g1 g2 => h S (fun x c hx => g1 x c ((hw x c).mpr (Or.inl hx))) g2
    · exact fun S g1 g2 => h S (fun x c hx => g1 x c ((hw x c).mpr (Or.inr hx))) g2
theorem zLK_or {Wd H : Int32 → Nat → Prop} (hw : ∀ x c, W x c ↔ Wd x c ∨ H x c) : zLK I F1 F2 g W ↔ zLK I F1 F2 g Wd ∨ zLK I F1 F2 g H := by
  constructor
  · rintro ⟨y, c, h1, h2, h3⟩
    rcases (zNd_or hw).mp h1 with h | h
    · exact Or.inl ⟨y, c, h, h2, h3⟩
    · exact Or.inr ⟨y, c, h, h2, h3⟩
  · rintro (⟨y, c, h1, h2, h3⟩ | ⟨y, c, h1, h2, h3⟩)
    · exact ⟨y, c, (zNd_or hw).mpr (Or.inl h1), h2, h3⟩
    · exact ⟨y, c, (zNd_or hw).mpr (Or.inr h1), h2, h3⟩
theorem zGW_1 (w : zGW a1 a2 g) {y : Int32} (h : zRn g y) (h1 : ¬ gF g y = -1) : zRn g (gR g (gF g y)) := w.1 _ (by rcases (w.2 y h).1 with h | h; exact absurd h h1; exact h)
theorem zGW_2 (w : zGW a1 a2 g) {y : Int32} (h : zRn g y) (h1 : ¬ gS g y = -1) : zRn g (gR g (gS g y)) := w.1 _ (by rcases (w.2 y h).2.1 with h | h; exact absurd h h1; exact h)
theorem zRc_0 {x : Int32} : zRc g x (gR g x) := fun _ h _ => h
theorem zRc_1 {x y : Int32} (h : zRc g x y) (hy : zRn g y) (h1 : ¬ gF g y = -1) : zRc g x (gR g (gF g y)) := fun S g1 g2 => (g2 y hy (h S g1 g2)).1 h1
theorem zRc_2 {x y : Int32} (h : zRc g x y) (hy : zRn g y) (h1 : ¬ gS g y = -1) : zRc g x (gR g (gS g y)) := fun S g1 g2 => (g2 y hy (h S g1 g2)).2 h1
theorem zRc_r (w : zGW a1 a2 g) {x v : Int32} (hx : zNx g x) (h : zRc g x v) : zRn g v := h (zRn g) (w.1 x hx) (fun y hy _ => ⟨fun h1 => zGW_1 w hy h1, fun h1 => zGW_2 w hy h1⟩)
theorem zNd_r (w : zGW a1 a2 g) (f1 : ∀ c k c1, F1 c k c1 → a1 k) (f2 : ∀ c k c1, F2 c k c1 → a2 k) (hW : ∀ x c, W x c → zNx g x) {v : Int32} {c : Nat} (h : zNd I F1 F2 g W v c) : zRn g v ∧ ∃ x c0, W x c0 ∧ zRc g x v := by
  refine h (fun v c => zRn g v ∧ ∃ x c0, W x c0 ∧ zRc g x v) ?_ ?_
  · intro x c hx
    exact ⟨w.1 x (hW x c hx), x, c, hx, zRc_0⟩
  · intro y c c1 ⟨hy, x, c0, h1, h2⟩ h3 h4
    refine ⟨fun h5 => ?_, fun h5 => ?_⟩
    · have h6 := ((w.2 y hy).2.2.1 h3).1.mpr (f1 _ _ _ h5)
      exact ⟨zGW_1 w hy h6, x, c0, h1, zRc_1 h2 hy h6⟩
    · have h6 := ((w.2 y hy).2.2.1 h3).2.mpr (f2 _ _ _ h5)
      exact ⟨zGW_2 w hy h6, x, c0, h1, zRc_2 h2 hy h6⟩
/-- what is wanted, told of variables -/
theorem zdrive (w : zGW a1 a2 g) (f1 : ∀ c k c1, F1 c k c1 → a1 k) (f2 : ∀ c k c1, F2 c k c1 → a2 k) (hW : ∀ x c, W x c → zNx g x) {ρ : Int32 → Ut} (v : zVal g ρ) (m : zMd I F1 F2 q A) : zSat A ρ W ↔ (zLK I F1 F2 g W → q) ∧ ∀ v c, zVR g v → zNd I F1 F2 g W v c → A c (ρ v) := by
  have ch : ∀ y, zRn g y → 0 ≤ gH g y → ρ y = Jn (gH g y) (ρ (gF g y)) (ρ (gS g y)) := by
    intro y hy h
    have := (v.2 y hy.1).2
    rw [hy.2] at this
    exact this h
  have rr : ∀ x, zNx g x → ρ (gR g x) = ρ x := fun x hx => (v.2 x hx).1.symm
  have fx1 : ∀ y c c1, zRn g y → 0 ≤ gH g y → F1 c (gH g y) c1 → zNx g (gF g y) := by
    intro y c c1 hy h h1
    rcases (w.2 y hy).1 with h2 | h2
    · exact absurd h2 (((w.2 y hy).2.2.1 h).1.mpr (f1 _ _ _ h1))
    · exact h2
  have fx2 : ∀ y c c1, zRn g y → 0 ≤ gH g y → F2 c (gH g y) c1 → zNx g (gS g y) := by
    intro y c c1 hy h h1
    rcases (w.2 y hy).2.1 with h2 | h2
    · exact absurd h2 (((w.2 y hy).2.2.1 h).2.mpr (f2 _ _ _ h1))
    · exact h2
  constructor
  · intro h
    have key : ∀ y c, zNd I F1 F2 g W y c → zRn g y ∧ A c (ρ y) := by
      intro y c hn
      refine hn (fun y c => zRn g y ∧ A c (ρ y)) ?_ ?_
      · intro x c hx
        exact ⟨w.1 x (hW x c hx), by rw [rr x (hW x c hx)]; exact h x c hx⟩
      · intro y c c1 ⟨hy, ha⟩ h1 h2
        rw [ch y hy h1] at ha
        have hm := ((m c _ _ _).mp ha).1 h2
        refine ⟨fun h3 => ⟨w.1 _ (fx1 y c c1 hy h1 h3), ?_⟩, fun h3 => ⟨w.1 _ (fx2 y c c1 hy h1 h3), ?_⟩⟩
        · rw [rr _ (fx1 y c c1 hy h1 h3)]
          exact hm.1 c1 h3
        · rw [rr _ (fx2 y c c1 hy h1 h3)]
          exact hm.2 c1 h3
    refine ⟨?_, fun v c _ hn => (key v c hn).2⟩
    rintro ⟨y, c, h1, h2, h3⟩
    obtain ⟨hy, ha⟩ := key y c h1
    rw [ch y hy h2] at ha
    exact ((m c _ _ _).mp ha).2 h3
  · intro ⟨hl, hv⟩
    have key : ∀ (n : Nat) y c, (ρ y).length ≤ n → zRn g y → zNd I F1 F2 g W y c → A c (ρ y) := by
      intro n
      induction n with
      | zero =>
        intro y c hlen hy hn
        by_cases h : 0 ≤ gH g y
        · rw [ch y hy h, Jn_len] at hlen
          omega
        · exact hv y c ⟨hy, h⟩ hn
      | succ n ih =>
        intro y c hlen hy hn
        by_cases h : 0 ≤ gH g y
        · have e := ch y hy h
          rw [e, Jn_len] at hlen
          rw [e]
          refine (m c _ _ _).mpr ⟨fun hi => ⟨fun c1 h1 => ?_, fun c1 h1 => ?_⟩, fun hi => hl ⟨y, c, hn, h, hi⟩⟩
          · have hx := fx1 y c c1 hy h h1
            rw [← rr _ hx]
            exact ih _ c1 (by rw [rr _ hx]; omega) (w.1 _ hx) (zNd_1 hn h hi h1)
          · have hx := fx2 y c c1 hy h h1
            rw [← rr _ hx]
            exact ih _ c1 (by rw [rr _ hx]; omega) (w.1 _ hx) (zNd_2 hn h hi h1)
        · exact hv y c ⟨hy, h⟩ hn
    intro x c hx
    have hn := hW x c hx
    rw [← rr x hn]
    exact key _ _ c (Nat.le_refl _) (w.1 x hn) (zNd_0 hx)
end ZABS
