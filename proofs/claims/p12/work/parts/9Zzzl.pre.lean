/-! Typing in the class, where there is a solution: what stands before and behind. -/
section ZPRE
def mt (m : Nat) : Nat := ([0, 9, 10, 18, 20, 36, 39, 63, 67, 99, 105, 153, 162, 234, 246, 342, 360, 504, 531, 747, 783, 1071, 1125, 1557, 1638] : List Nat).getD m 0
theorem mt_lam {m : Nat} (h1 : 1 ≤ m) (h2 : m + 1 ≤ 24) : mt m + 1 ≤ mt (m + 1) := by
  have : ∀ m, m < 24 → 1 ≤ m → mt m + 1 ≤ mt (m + 1) := by decide
  exact this m (by omega) h1
theorem mt_two {x y : Nat} (h1 : 1 ≤ x) (h2 : 1 ≤ y) (h3 : x + y + 1 ≤ 24) : mt x + mt y ≤ mt (x + y + 1) ∧ 9 * mt x + qt x * mt y ≤ 9 * mt (x + y + 1) := by
  have : ∀ x, x < 24 → ∀ y, y < 24 → (¬ 1 ≤ x ∨ ¬ 1 ≤ y ∨ ¬ x + y + 1 ≤ 24 ∨ (mt x + mt y ≤ mt (x + y + 1) ∧ 9 * mt x + qt x * mt y ≤ 9 * mt (x + y + 1))) := by decide
  rcases this x (by omega) y (by omega) with h | h | h | h
  · exact absurd h1 h
  · exact absurd h2 h
  · exact absurd h3 h
  · exact h
theorem mt_rng {m : Nat} (h1 : 1 ≤ m) (h2 : m ≤ 24) : 9 ≤ mt m ∧ mt m ≤ 1638 := by
  have : ∀ m, m < 25 → 1 ≤ m → 9 ≤ mt m ∧ mt m ≤ 1638 := by decide
  exact this m (by omega) h1
def ctb (r : S_) : Tbz := ((fun e => ar r 12 e.toNatClampNeg, fun e => ar r 13 e.toNatClampNeg, fun e => ar r 14 e.toNatClampNeg, fun e => ar r 15 e.toNatClampNeg), (fun c => ar r 8 c.toNatClampNeg, cev r), (kI r, kF r 10, kF r 11, kU r), (ca1 r, ca2 r))
theorem ctb_Tb {r r' : S_} (h : Tb r r') : ctb r' = ctb r := by
  have e2 : fi r' 2 = fi r 2 := h.1 2 (by omega)
  unfold ctb cev kI kF kU ca1 ca2
  rw [e2, h.2 0 (by omega), h.2 1 (by omega), h.2 2 (by omega), h.2 3 (by omega), h.2 7 (by omega), h.2 8 (by omega), h.2 9 (by omega), h.2 10 (by omega), h.2 11 (by omega), h.2 12 (by omega), h.2 13 (by omega), h.2 14 (by omega), h.2 15 (by omega)]
def TBX (r : S_) : Prop := KTz r ∧ ∀ e : Int32, 0 ≤ e → e < fi r 4 → 0 ≤ ar r 12 e.toNatClampNeg ∧ ar r 12 e.toNatClampNeg ≤ 5
theorem TBX_Tb {r r' : S_} (w : TBX r) (h : Tb r r') : TBX r' := ⟨KTz_eq w.1 (h.1 2 (by omega)) (h.2 0 (by omega)) (h.2 9 (by omega)) (h.2 10 (by omega)) (h.2 11 (by omega)), by rw [h.1 4 (by omega), h.2 12 (by omega)]; exact w.2⟩
/-- stale marks; kept bits -/
def BK (r : S_) : Prop := ∀ x : Int32, 0 ≤ x → x < fi r 11 → (ar r 27 x.toNatClampNeg).toInt ≤ (fi r 6).toInt ∧ ∀ c, gb (ar r 25 x.toNatClampNeg) c = true → c < 8
def PRc (r : S_) (rh : Int32 → Int32) (Γ : List En) (A : Int32 → Prop) (E m : Nat) : Prop := (∃ ρ, cV r ρ) ∧ EG r Γ ∧ LV r rh A ∧ (∀ y, zLams Γ y → (0 ≤ y ∧ y < fi r 11) ∧ A (rh y)) ∧ LTS r rh A E Γ ∧ BK r ∧ 9 * (fi r 11).toInt + ((E + 2) * mt m : Nat) ≤ 36882 ∧ 16 ≤ E
def WOK (r : S_) (A : Int32 → Prop) (r' : S_) (rh' : Int32 → Int32) (A' : Int32 → Prop) (W : Int32 → Nat → Prop) : Prop := (∀ x c, W x c → (0 ≤ x ∧ x < fi r' 11) ∧ A' (rh' x) ∧ c < 8 ∧ (x < fi r 11 → A x)) ∧ ∀ x : Int32, 0 ≤ x → x < fi r' 11 → ∀ c, gb (ar r' 24 x.toNatClampNeg) c = true ↔ (x < fi r 11 ∧ gb (ar r 24 x.toNatClampNeg) c = true) ∨ W x c
def POc (r : S_) (rh : Int32 → Int32) (A : Int32 → Prop) (E m : Nat) (z : Int32) (r' : S_) (rh' : Int32 → Int32) (W : Int32 → Nat → Prop) (k am : Prop) (p : Int) : Prop := ((¬ fi r' 9 = 0 ↔ ¬ fi r 9 = 0 ∨ k) ∧ (¬ fi r' 10 = 0 ↔ ¬ fi r 10 = 0 ∨ am) ∧ fi r' 8 = fi r 8 + Int32.ofInt p) ∧ BK r' ∧ (∃ A', FRM r rh A r' rh' A' ∧ A' (rh' z) ∧ WOK r A r' rh' A' W ∧ ∃ L : List Int32, (∀ x, A' x → A x ∨ x ∈ L) ∧ 9 * (L.length + 2) ≤ (E + 2) * qt m) ∧ 9 * ((fi r' 11).toInt - (fi r 11).toInt + 2) ≤ ((E + 2) * mt m : Nat)
def PSc (r : S_) (rh : Int32 → Int32) (Γ : List En) (A : Int32 → Prop) (E m d : Nat) (e z : Int32) (l' : Nat → Nat) (r' : S_) : Prop := ∃ (t c' : Int32) (W : Int32 → Nat → Prop) (k am : Prop) (p : Int), zTY (ctb r) d e Γ (fi r 11) (cV r) t c' (cV r') W k am p ∧ (zLoc c' (cV r') ∧ fi r 11 ≤ c' ∧ (0 ≤ t ∧ t < c')) ∧ c'.toInt ≤ 4096 + 2 * m ∧ ((∃ ρ, cV r' ρ) → t = z ∧ c' = fi r' 11 ∧ ∃ rh' ta' N', GI (A0 l') r' rh' ta' N' ∧ POc r rh A E m z r' rh' W k am p)
theorem SG_c {l : Nat → Nat} {r : S_} (h : SG l r) : 0 ≤ fi r 11 ∧ (fi r 11).toInt ≤ 4096 := by
  obtain ⟨⟨rh, ta, N, hI⟩, hp, _⟩ := h
  have q : (fi r 11).toInt ≤ l 21 := hI.2.2.1
  refine ⟨hI.2.1, ?_⟩
  rcases hp with k | k | k | k | k | k | k <;> rw [k] at q <;> omega
theorem SG_loc {l : Nat → Nat} {r : S_} (h : SG l r) : zLoc (fi r 11) (cV r) := by
  obtain ⟨⟨rh, ta, N, hI⟩, hp, _⟩ := h
  exact fun ρ ρ' he hv => ⟨hv.1, VC_loc hI he hv.2⟩
/-- past all solutions, typing says nothing -/
theorem zTY_gar {T : Tbz} {d : Nat} {e : Int32} {Γ : List En} {c t c' : Int32} {V V' : (Int32 → Ut) → Prop} {W : Int32 → Nat → Prop} {k am : Prop} {p : Int} (h : ∀ ρ, ¬ V ρ) (h2 : ∀ ρ, V' ρ → V ρ) : zTY T (d + 1) e Γ c V t c' V' W k am p := by
  rw [zTY]
  exact ⟨h2, Or.inl ⟨fun ρ q => h ρ (h2 ρ q), h⟩⟩
/-- a name's place -/
theorem EQ_look {r : S_} {rh : Int32 → Int32} {A : Int32 → Prop} {E : Nat} {x : Int32} : ∀ Γ : List En, EQ r Γ → LTS r rh A E Γ → ((∀ n, n < Γ.length → ¬ ar r 17 n = x) → zLook Γ x = none) ∧ ∀ j, j < Γ.length → ar r 17 j = x → (∀ i, j < i → i < Γ.length → ¬ ar r 17 i = x) → ∃ e Γ', zLook Γ x = some (e, Γ') ∧ Γ'.length = j ∧ EQ r (e :: Γ') ∧ LTS r rh A E (e :: Γ') ∧ ∀ y, zLams (e :: Γ') y → zLams Γ y := by
  intro Γ
  induction Γ with
  | nil => exact fun _ _ => ⟨fun _ => rfl, fun j hj => absurd hj (by simp)⟩
  | cons e Γ ih =>
    intro q w
    have i := ih q.2 w.2
    refine ⟨fun h => ?_, fun j hj h1 h2 => ?_⟩
    · have k : ¬ e.1 = x := by rw [← q.1.1]; exact h _ (by simp)
      rw [zLook, if_neg k]
      exact i.1 (fun n hn => h n (by simp; omega))
    · by_cases k : e.1 = x
      · have k2 : j = Γ.length := by
          refine Classical.byContradiction (fun z => ?_)
          exact h2 Γ.length (by simp at hj; omega) (by simp) (by rw [q.1.1]; exact k)
        exact ⟨e, Γ, by rw [zLook, if_pos k], k2.symm, q, w, fun y hy => hy⟩
      · have k2 : j < Γ.length := by
          refine Classical.byContradiction (fun z => ?_)
          have e1 : j = Γ.length := by simp at hj; omega
          rw [e1, q.1.1] at h1
          exact k h1
        obtain ⟨e', Γ', g1, g2, g3, g4, g5⟩ := i.2 j k2 h1 (fun i h3 h4 => h2 i h3 (by simp; omega))
        exact ⟨e', Γ', by rw [zLook, if_neg k]; exact g1, g2, g3, g4, fun y hy => by
          obtain ⟨e3, y1, y2⟩ := g5 y hy
          exact ⟨e3, List.mem_cons_of_mem _ y1, y2⟩⟩
theorem FRM_refl {a : L_} {r : S_} {rh ta : Int32 → Int32} {N : Int32} {A : Int32 → Prop} (hA : LV r rh A) : FRM r rh A r rh A := ⟨Int32.le_refl _, fun _ _ _ => ⟨id, fun _ => rfl⟩, fun _ _ _ _ _ => ⟨rfl, rfl, rfl, rfl, rfl⟩, hA, fun _ h => h, fun _ h => Or.inl h⟩
/-- a method's type holds variable 0 -/
theorem cin0 {l : Nat → Nat} {r : S_} (w : TT l r) (ty : TYz r) : ∀ (n : Nat) (t : Int32), 0 ≤ t → t < fi r 1 → t.toInt < n → ¬ ar r 5 t.toNatClampNeg &&& 1 = 0 → cin r 0 t := by
  intro n
  induction n with
  | zero => intro t t0 _ h; rw [il] at t0; simp at t0; omega
  | succ n ih =>
    intro t t0 t1 hn hm
    have x := w.2.2.2 t t0 t1
    have p := ty.2.1 t t0 t1
    by_cases hh : 0 ≤ ar r 1 t.toNatClampNeg
    · rw [cin_c ty t0 t1 hh]
      rcases x.2.2.2.2.2.2.2 hm with e | ⟨e, e2⟩ | ⟨e, e2⟩
      · rw [e] at hh; exact absurd hh (by decide)
      · have q := p.1.2
        have q2 := q
        rw [it] at q2
        exact Or.inl (ih _ (by have := p.1.1; clear ih w ty x p; grind) (ltt q t1) (by omega) e2)
      · have q := p.2.2
        have q2 := q
        rw [it] at q2
        exact Or.inr (ih _ (by have := p.2.1; clear ih w ty x p; grind) (ltt q t1) (by omega) e2)
    · have hneg : ar r 1 t.toNatClampNeg < 0 := Int32.not_le.mp hh
      rw [cin_v t0 hneg]
      rcases x.2.2.2.2.2.2.2 hm with e | ⟨e, e2⟩ | ⟨e, e2⟩
      · rw [e]; rfl
      · exact absurd (x.2.2.2.2.2.2.1 hneg).1 e
      · exact absurd (x.2.2.2.2.2.2.1 hneg).2 e
end ZPRE
