/-! How typing may go, and that it comes to the same, however it goes. -/
section ZTY
abbrev En := Int32 × Bool × Int32 × (Int32 → Nat → Prop) × Int
def zLams (Γ : List En) (x : Int32) : Prop := ∃ e, e ∈ Γ ∧ e.2.1 = false ∧ x = e.2.2.1
def zLook : List En → Int32 → Option (En × List En)
  | [], _ => none
  | e :: Γ, x => if e.1 = x then some (e, Γ) else zLook Γ x
def zLoc (c : Int32) (V : (Int32 → Ut) → Prop) : Prop := ∀ ρ ρ' : Int32 → Ut, (∀ x, x < c → ρ x = ρ' x) → V ρ → V ρ'
def zCopy (G : Int32 → Prop) (te : Int32) (K : Int32 → Nat → Prop) (c : Int32) (V : (Int32 → Ut) → Prop) (t c' : Int32) (V' : (Int32 → Ut) → Prop) (W : Int32 → Nat → Prop) : Prop := ∃ cp : Int32 → Int32, (∀ v cl, K v cl → 0 ≤ cp v ∧ cp v < c') ∧ (∀ ρ, V' ρ → ∃ ρ3, V ρ3 ∧ (∀ x, G x → ρ3 x = ρ x) ∧ ρ3 te = ρ t ∧ ∀ v cl, K v cl → ρ3 v = ρ (cp v)) ∧ (∀ ρ ρ3, V ρ → V ρ3 → (∀ x, G x → ρ3 x = ρ x) → ∃ ρ', V' ρ' ∧ (∀ x, x < c → ρ' x = ρ x) ∧ ρ' t = ρ3 te ∧ ∀ v cl, K v cl → ρ' (cp v) = ρ3 v) ∧ ∀ x cl, W x cl ↔ ∃ v, x = cp v ∧ K v cl
def zStat (ev : (Nat → Ut) → Int32 → Ut) (ty : Int32) (m : Prop) (w c : Int32) (V : (Int32 → Ut) → Prop) (t c' : Int32) (V' : (Int32 → Ut) → Prop) : Prop := (m → 0 ≤ w ∧ w < c') ∧ (∀ ρ, V' ρ → ∃ θ : Nat → Ut, ρ t = ev θ ty ∧ (m → ρ w = θ 0)) ∧ ∀ ρ (θ : Nat → Ut), V ρ → ∃ ρ', V' ρ' ∧ (∀ x, x < c → ρ' x = ρ x) ∧ ρ' t = ev θ ty ∧ (m → ρ' w = θ 0)
/-- the tables: kinds and parts of expressions, methods' types, types written out; instances, classes, parts -/
abbrev Tbz := ((Int32 → Int32) × (Int32 → Int32) × (Int32 → Int32) × (Int32 → Int32)) × ((Int32 → Int32) × ((Nat → Ut) → Int32 → Ut)) × ((Nat → Int32 → Prop) × (Nat → Int32 → Nat → Prop) × (Nat → Int32 → Nat → Prop) × (Nat → Nat → Prop)) × ((Int32 → Prop) × (Int32 → Prop))
def tK (T : Tbz) : Int32 → Int32 := T.1.1
def tA (T : Tbz) : Int32 → Int32 := T.1.2.1
def tB (T : Tbz) : Int32 → Int32 := T.1.2.2.1
def tC (T : Tbz) : Int32 → Int32 := T.1.2.2.2
def tM (T : Tbz) : Int32 → Int32 := T.2.1.1
def tE (T : Tbz) : (Nat → Ut) → Int32 → Ut := T.2.1.2
def tI (T : Tbz) : Nat → Int32 → Prop := T.2.2.1.1
def t1 (T : Tbz) : Nat → Int32 → Nat → Prop := T.2.2.1.2.1
def t2 (T : Tbz) : Nat → Int32 → Nat → Prop := T.2.2.1.2.2.1
def tU (T : Tbz) : Nat → Nat → Prop := T.2.2.1.2.2.2
def ta1 (T : Tbz) : Int32 → Prop := T.2.2.2.1
def ta2 (T : Tbz) : Int32 → Prop := T.2.2.2.2
/-- one settling of a LET's e -/
def zLet (T : Tbz) (Γ : List En) (c : Int32) (V : (Int32 → Ut) → Prop) (t : Int32) (W : Int32 → Nat → Prop) (k am : Prop) (K : Int32 → Nat → Prop) (p : Int) (W' : Int32 → Nat → Prop) (k' am' : Prop) : Prop := ∃ g, gC g = c ∧ V = zVal g ∧ zGW (ta1 T) (ta2 T) g ∧ zFree g ∧ zSet (tI T) (t1 T) (t2 T) (tU T) g (zLams Γ) t W k am K p W' k' am'
def zTY (T : Tbz) : Nat → Int32 → List En → Int32 → ((Int32 → Ut) → Prop) → Int32 → Int32 → ((Int32 → Ut) → Prop) → (Int32 → Nat → Prop) → Prop → Prop → Int → Prop
  | 0, _, _, _, _, _, _, _, _, _, _, _ => False
  | d + 1, e, Γ, c, V, t, c', V', W, k, am, p => (∀ ρ, V' ρ → V ρ) ∧ (((∀ ρ, ¬ V' ρ) ∧ ∀ ρ, ¬ V ρ) ∨ (zLoc c' V' ∧ c ≤ c' ∧ (0 ≤ t ∧ t < c') ∧ (tK T e = 0 ∨ tK T e = 1 ∨ tK T e = 2 ∨ tK T e = 3 ∨ tK T e = 4 ∨ tK T e = 5) ∧
    (tK T e = 0 → (zLook Γ (tA T e) = none → ∀ ρ, ¬ V' ρ) ∧ ∀ x b te K p' Γ', zLook Γ (tA T e) = some ((x, b, te, K, p'), Γ') → (b = false → t = te ∧ (∀ ρ, V ρ → V' ρ) ∧ (∀ x cl, ¬ W x cl) ∧ ¬ k ∧ ¬ am ∧ p = 0) ∧ (b = true → zCopy (zLams Γ') te K c V t c' V' W ∧ ¬ k ∧ ¬ am ∧ p = p')) ∧
    (tK T e = 1 → ∃ f c1 tb cb Vb, (c ≤ f ∧ f < c1) ∧ zTY T d (tB T e) ((tA T e, false, f, fun _ _ => False, 0) :: Γ) c1 V tb cb Vb W k am p ∧ (cb ≤ t ∧ t < c' ∧ 0 ≤ f) ∧ zLoc cb Vb ∧ (c1 ≤ cb ∧ (0 ≤ tb ∧ tb < cb)) ∧ ∀ ρ, V' ρ ↔ Vb ρ ∧ ρ t = Jn 0 (ρ f) (ρ tb)) ∧
    (tK T e = 2 → ∃ x1 c1 V1 W1 k1 am1 p1 x2 c2 V2 W2 k2 am2 p2 ar, zTY T d (tA T e) Γ c V x1 c1 V1 W1 k1 am1 p1 ∧ zTY T d (tB T e) Γ c1 V1 x2 c2 V2 W2 k2 am2 p2 ∧ (c2 ≤ t ∧ c2 ≤ ar ∧ ¬ t = ar) ∧ zLoc c1 V1 ∧ zLoc c2 V2 ∧ (c ≤ c1 ∧ c1 ≤ c2 ∧ (0 ≤ x1 ∧ x1 < c1) ∧ (0 ≤ x2 ∧ x2 < c2)) ∧ (∀ ρ, V' ρ ↔ V2 ρ ∧ ρ ar = Jn 0 (ρ x2) (ρ t) ∧ ρ x1 = ρ ar) ∧ (∀ x cl, W x cl ↔ W1 x cl ∨ W2 x cl) ∧ (k ↔ k1 ∨ k2) ∧ (am ↔ am1 ∨ am2) ∧ p = p1 + p2) ∧
    (tK T e = 3 → ∃ x1 c1 V1 W1 k1 am1 p1 K p0 W1' k1' am1' W2 k2 am2 p2, zTY T d (tB T e) Γ c V x1 c1 V1 W1 k1 am1 p1 ∧ zLoc c1 V1 ∧ ((∃ ρ, V1 ρ) → zLet T Γ c1 V1 x1 W1 k1 am1 K p0 W1' k1' am1') ∧ zTY T d (tC T e) ((tA T e, true, x1, K, p0) :: Γ) c1 V1 t c' V' W2 k2 am2 p2 ∧ (∀ x cl, W x cl ↔ W1' x cl ∨ W2 x cl) ∧ (k ↔ k1' ∨ k2) ∧ (am ↔ am1' ∨ am2) ∧ p = p1 + p2) ∧
    (tK T e = 4 → ∃ w, zStat (tE T) (tM T (tA T e)) True w c V t c' V' ∧ (∀ x cl, W x cl ↔ x = w ∧ cl = (tA T e).toNatClampNeg) ∧ ¬ k ∧ ¬ am ∧ p = 1) ∧
    (tK T e = 5 → ∃ w, zStat (tE T) (tA T e) False w c V t c' V' ∧ (∀ x cl, ¬ W x cl) ∧ ¬ k ∧ ¬ am ∧ p = 0)))
def zEnv (L : Int32 → Int32 → Prop) : List En → List En → Prop
  | [], [] => True
  | e :: Γ, e2 :: Γ2 => (e.1 = e2.1 ∧ e.2.1 = e2.2.1 ∧ L e.2.2.1 e2.2.2.1 ∧ (e.2.1 = true → zKR L e.2.2.2.1 e2.2.2.2.1 ∧ e.2.2.2.2 = e2.2.2.2.2)) ∧ zEnv L Γ Γ2
  | [], _ :: _ => False
  | _ :: _, [] => False
variable {T : Tbz} {L L' : Int32 → Int32 → Prop} {V V2 V' V2' : (Int32 → Ut) → Prop} {c c2 c' c2' : Int32} {I : Nat → Int32 → Prop} {F1 F2 : Nat → Int32 → Nat → Prop} {W W2 : Int32 → Nat → Prop}
theorem zKR_mono (h : ∀ x y, L x y → L' x y) {K K2 : Int32 → Nat → Prop} (k : zKR L K K2) : zKR L' K K2 := ⟨fun v c hk => by
    obtain ⟨u, h1, h2⟩ := k.1 v c hk
    exact ⟨u, h _ _ h1, h2⟩, fun v c hk => by
    obtain ⟨u, h1, h2⟩ := k.2 v c hk
    exact ⟨u, h _ _ h1, h2⟩⟩
theorem zEnv_mono (h : ∀ x y, L x y → L' x y) : ∀ (Γ Γ2 : List En), zEnv L Γ Γ2 → zEnv L' Γ Γ2 := by
  intro Γ
  induction Γ with
  | nil => intro Γ2; cases Γ2 <;> exact id
  | cons e Γ ih =>
    intro Γ2
    cases Γ2 with
    | nil => exact id
    | cons e2 Γ2 =>
      rintro ⟨⟨h1, h2, h3, h4⟩, h5⟩
      exact ⟨⟨h1, h2, h _ _ h3, fun hb => ⟨zKR_mono h (h4 hb).1, (h4 hb).2⟩⟩, ih Γ2 h5⟩
theorem zEnv_lams : ∀ (Γ Γ2 : List En), zEnv L Γ Γ2 → (∀ x, zLams Γ x → ∃ y, zLams Γ2 y ∧ L x y) ∧ ∀ y, zLams Γ2 y → ∃ x, zLams Γ x ∧ L x y := by
  intro Γ
  induction Γ with
  | nil =>
    intro Γ2 h
    cases Γ2 with
    | nil => exact ⟨fun x ⟨e, he, _⟩ => absurd he (List.not_mem_nil), fun x ⟨e, he, _⟩ => absurd he (List.not_mem_nil)⟩
    | cons e2 Γ2 => exact h.elim
  | cons e Γ ih =>
    intro Γ2 h
    cases Γ2 with
    | nil => exact h.elim
    | cons e2 Γ2 =>
      obtain ⟨⟨h1, h2, h3, h4⟩, h5⟩ := h
      obtain ⟨i1, i2⟩ := ih Γ2 h5
      refine ⟨fun x ⟨e', he, hb, hx⟩ => ?_, fun y ⟨e', he, hb, hx⟩ => ?_⟩
      · rcases List.mem_cons.mp he with he | he
        · subst he
          exact ⟨e2.2.2.1, ⟨e2, List.mem_cons_self .., by rw [← h2]; exact hb, rfl⟩, by rw [hx]; exact h3⟩
        · obtain ⟨y, ⟨e3, y1, y2⟩, y3⟩ := i1 x ⟨e', he, hb, hx⟩
          exact ⟨y, ⟨e3, List.mem_cons_of_mem _ y1, y2⟩, y3⟩
      · rcases List.mem_cons.mp he with he | he
        · subst he
          exact ⟨e.2.2.1, ⟨e, List.mem_cons_self .., by rw [h2]; exact hb, rfl⟩, by rw [hx]; exact h3⟩
        · obtain ⟨x, ⟨e3, y1, y2⟩, y3⟩ := i2 y ⟨e', he, hb, hx⟩
          exact ⟨x, ⟨e3, List.mem_cons_of_mem _ y1, y2⟩, y3⟩
theorem zEnv_look {x : Int32} : ∀ (Γ Γ2 : List En), zEnv L Γ Γ2 → (zLook Γ x = none ∧ zLook Γ2 x = none) ∨ ∃ e Γ' e2 Γ2', zLook Γ x = some (e, Γ') ∧ zLook Γ2 x = some (e2, Γ2') ∧ zEnv L (e :: Γ') (e2 :: Γ2') := by
  intro Γ
  induction Γ with
  | nil =>
    intro Γ2 h
    cases Γ2 with
    | nil => exact Or.inl ⟨rfl, rfl⟩
    | cons e2 Γ2 => exact h.elim
  | cons e Γ ih =>
    intro Γ2 h
    cases Γ2 with
    | nil => exact h.elim
    | cons e2 Γ2 =>
      by_cases hx : e.1 = x
      · have hx2 : e2.1 = x := by rw [← h.1.1]; exact hx
        exact Or.inr ⟨e, Γ, e2, Γ2, by rw [zLook, if_pos hx], by rw [zLook, if_pos hx2], h⟩
      · have hx2 : ¬ e2.1 = x := by rw [← h.1.1]; exact hx
        rw [zLook, if_neg hx, zLook, if_neg hx2]
        exact ih Γ2 h.2
theorem zWR_mono {k k2 : Prop} (h1 : ∀ ρ, V' ρ → V ρ) (h2 : ∀ ρ, V2' ρ → V2 ρ) (hl : ∀ x y, L x y → L' x y) (h : zWR I F1 F2 V V2 L k W k2 W2) : zWR I F1 F2 V' V2' L' k W k2 W2 := ⟨fun x cl hw => by
    obtain ⟨y, hy⟩ := h.1 x cl hw
    exact ⟨y, hl _ _ hy⟩, fun y cl hw => by
    obtain ⟨x, hx⟩ := h.2.1 y cl hw
    exact ⟨x, hl _ _ hx⟩, fun ρ σ r1 r2 r3 => h.2.2 ρ σ (h1 ρ r1) (h2 σ r2) (fun x y hxy => r3 x y (hl x y hxy))⟩
theorem zWR_or {k1 k2 m1 m2 k m : Prop} {A B A2 B2 : Int32 → Nat → Prop} (h : zWR I F1 F2 V V2 L k1 A m1 A2) (h' : zWR I F1 F2 V V2 L k2 B m2 B2) (hk : k ↔ k1 ∨ k2) (hm : m ↔ m1 ∨ m2) (hW : ∀ x cl, W x cl ↔ A x cl ∨ B x cl) (hW2 : ∀ x cl, W2 x cl ↔ A2 x cl ∨ B2 x cl) : zWR I F1 F2 V V2 L k W m W2 := by
  refine ⟨fun x cl hw => ?_, fun y cl hw => ?_, fun ρ σ r1 r2 r3 q M md => ?_⟩
  · rcases (hW x cl).mp hw with hw | hw
    · exact h.1 x cl hw
    · exact h'.1 x cl hw
  · rcases (hW2 y cl).mp hw with hw | hw
    · exact h.2.1 y cl hw
    · exact h'.2.1 y cl hw
  · have e1 := h.2.2 ρ σ r1 r2 r3 q M md
    have e2 := h'.2.2 ρ σ r1 r2 r3 q M md
    rw [hk, hm]
    constructor
    · rintro ⟨x1, x2⟩
      have y1 := e1.mp ⟨fun z => x1 (Or.inl z), fun x cl hx => x2 x cl ((hW x cl).mpr (Or.inl hx))⟩
      have y2 := e2.mp ⟨fun z => x1 (Or.inr z), fun x cl hx => x2 x cl ((hW x cl).mpr (Or.inr hx))⟩
      refine ⟨fun z => z.elim y1.1 y2.1, fun x cl hx => ?_⟩
      rcases (hW2 x cl).mp hx with hx | hx
      · exact y1.2 x cl hx
      · exact y2.2 x cl hx
    · rintro ⟨x1, x2⟩
      have y1 := e1.mpr ⟨fun z => x1 (Or.inl z), fun x cl hx => x2 x cl ((hW2 x cl).mpr (Or.inl hx))⟩
      have y2 := e2.mpr ⟨fun z => x1 (Or.inr z), fun x cl hx => x2 x cl ((hW2 x cl).mpr (Or.inr hx))⟩
      refine ⟨fun z => z.elim y1.1 y2.1, fun x cl hx => ?_⟩
      rcases (hW x cl).mp hx with hx | hx
      · exact y1.2 x cl hx
      · exact y2.2 x cl hx
theorem zWR_no {k m : Prop} (hk : ¬ k) (hm : ¬ m) (hW : ∀ x cl, ¬ W x cl) (hW2 : ∀ x cl, ¬ W2 x cl) : zWR I F1 F2 V V2 L k W m W2 := ⟨fun x cl h => absurd h (hW x cl), fun x cl h => absurd h (hW2 x cl), fun _ _ _ _ _ _ _ _ => ⟨fun _ => ⟨fun z => absurd z hm, fun x cl h => absurd h (hW2 x cl)⟩, fun _ => ⟨fun z => absurd z hk, fun x cl h => absurd h (hW x cl)⟩⟩⟩
def zUp (ρ : Int32 → Ut) (x : Int32) (u : Ut) : Int32 → Ut := fun y => if y = x then u else ρ y
theorem zUp_s {ρ : Int32 → Ut} {x : Int32} {u : Ut} : zUp ρ x u x = u := if_pos rfl
theorem zUp_n {ρ : Int32 → Ut} {x y : Int32} {u : Ut} (h : ¬ y = x) : zUp ρ x u y = ρ y := if_neg h
theorem zlt_ne {x y z : Int32} (h1 : y < z) (h2 : z ≤ x) : ¬ y = x := by grind
theorem zLoc_up (h : zLoc c V) {ρ : Int32 → Ut} {x : Int32} {u : Ut} (hx : c ≤ x) (hv : V ρ) : V (zUp ρ x u) := h ρ _ (fun y hy => (zUp_n (zlt_ne hy hx)).symm) hv
theorem zLoc_le (h : zLoc c V) (hc : c ≤ c') : zLoc c' V := fun ρ ρ' he hv => h ρ ρ' (fun x hx => he x (by grind)) hv
def zLb (L : Int32 → Int32 → Prop) (c c2 : Int32) : Prop := ∀ x y, L x y → (0 ≤ x ∧ x < c) ∧ (0 ≤ y ∧ y < c2)
def zAd (L : Int32 → Int32 → Prop) (a b : Int32) : Int32 → Int32 → Prop := fun x y => L x y ∨ (x = a ∧ y = b)
theorem zAd_o {a b x y : Int32} (h : L x y) : zAd L a b x y := Or.inl h
theorem zAd_n {a b : Int32} : zAd L a b a b := Or.inr ⟨rfl, rfl⟩
theorem zLb_le (h : zLb L c c2) (h1 : c ≤ c') (h2 : c2 ≤ c2') : zLb L c' c2' := fun x y hl => by
  have := h x y hl
  refine ⟨⟨this.1.1, ?_⟩, this.2.1, ?_⟩
  · have h3 := this.1.2
    clear this h
    grind
  · have h3 := this.2.2
    clear this h
    grind
theorem zLb_ad {a b : Int32} (h : zLb L c c2) (h1 : c ≤ c') (h2 : c2 ≤ c2') (ha : 0 ≤ a ∧ a < c') (hb : 0 ≤ b ∧ b < c2') : zLb (zAd L a b) c' c2' := fun x y hl => by
  rcases hl with hl | ⟨e1, e2⟩
  · exact zLb_le h h1 h2 x y hl
  · subst e1 e2
    exact ⟨ha, hb⟩
/-- a fresh one more on each side -/
theorem zSM_fresh (s : zSM V V2 L) (l : zLoc c V) (l2 : zLoc c2 V2) (lb : zLb L c c2) {a b : Int32} (ha : c ≤ a) (hb : c2 ≤ b) : zSM V V2 (zAd L a b) := by
  refine ⟨fun ρ h => ?_, fun σ h => ?_⟩
  · obtain ⟨σ, h1, h2⟩ := s.1 ρ h
    refine ⟨zUp σ b (ρ a), zLoc_up l2 hb h1, fun x y hl => ?_⟩
    rcases hl with hl | ⟨e1, e2⟩
    · rw [zUp_n (zlt_ne (lb x y hl).2.2 hb)]
      exact h2 x y hl
    · subst e1 e2
      rw [zUp_s]
  · obtain ⟨ρ, h1, h2⟩ := s.2 σ h
    refine ⟨zUp ρ a (σ b), zLoc_up l ha h1, fun x y hl => ?_⟩
    rcases hl with hl | ⟨e1, e2⟩
    · rw [zUp_n (zlt_ne (lb x y hl).1.2 ha)]
      exact h2 x y hl
    · subst e1 e2
      rw [zUp_s]
/-- solutions that keep to something that related nodes tell -/
theorem zSM_cut (s : zSM V V2 L) {P P2 : (Int32 → Ut) → Prop} (h1 : ∀ ρ, V' ρ ↔ V ρ ∧ P ρ) (h2 : ∀ ρ, V2' ρ ↔ V2 ρ ∧ P2 ρ) (he : ∀ ρ σ, zAg L ρ σ → (P ρ ↔ P2 σ)) : zSM V' V2' L := by
  refine ⟨fun ρ h => ?_, fun σ h => ?_⟩
  · obtain ⟨σ, k1, k2⟩ := s.1 ρ ((h1 ρ).mp h).1
    exact ⟨σ, (h2 σ).mpr ⟨k1, (he ρ σ k2).mp ((h1 ρ).mp h).2⟩, k2⟩
  · obtain ⟨ρ, k1, k2⟩ := s.2 σ ((h2 σ).mp h).1
    exact ⟨ρ, (h1 ρ).mpr ⟨k1, (he ρ σ k2).mpr ((h2 σ).mp h).2⟩, k2⟩
theorem zSM_ne (s : zSM V V2 L) : ((∀ ρ, ¬ V ρ) ∧ ∀ ρ, ¬ V2 ρ) ∨ ((∃ ρ, V ρ) ∧ ∃ ρ, V2 ρ) := by
  by_cases h : ∃ ρ, V ρ
  · obtain ⟨ρ, h1⟩ := h
    obtain ⟨σ, h2, _⟩ := s.1 ρ h1
    exact Or.inr ⟨⟨ρ, h1⟩, σ, h2⟩
  · refine Or.inl ⟨fun ρ hr => h ⟨ρ, hr⟩, fun σ hs => ?_⟩
    obtain ⟨ρ, h1, _⟩ := s.2 σ hs
    exact h ⟨ρ, h1⟩
end ZTY
