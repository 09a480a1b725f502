/-! What classes a type is in: the class's walk. -/
section ISD
theorem or_0 {x y : Int32} (h : x ||| y = 0) : x = 0 ∧ y = 0 := by
  have g : ∀ i, gb x i = false ∧ gb y i = false := fun i => by
    have e := gb_or (a := x) (b := y) (i := i)
    rw [h, gb_0] at e
    exact Bool.or_eq_false_iff.mp e.symm
  exact ⟨gb_ext (fun i _ => by rw [gb_0]; exact (g i).1), gb_ext (fun i _ => by rw [gb_0]; exact (g i).2)⟩
theorem gb_n0 {x : Int32} {i : Nat} (h : gb x i = true) : ¬ x = 0 := fun z => by
  rw [z, gb_0] at h
  exact absurd h (by decide)
theorem one_n0 {d : Int32} (d0 : 0 ≤ d) (d1 : d < 8) : ¬ (1 : Int32) <<< (d &&& 31) = 0 := by
  rcases v8 d0 d1 with h | h | h | h | h | h | h | h <;> (rw [h]; decide)
/-- a type without variables -/
theorem nov {l : Nat → Nat} {r : S_} (w : TT l r) (sq : SQ r) {t : Int32} (t0 : 0 ≤ t) (t1 : t < fi r 1) (h : ar r 5 t.toNatClampNeg = 0) : 0 ≤ ar r 1 t.toNatClampNeg ∧ (0 ≤ ar r 2 t.toNatClampNeg → ar r 5 (ar r 2 t.toNatClampNeg).toNatClampNeg = 0) ∧ (0 ≤ ar r 3 t.toNatClampNeg → ar r 5 (ar r 3 t.toNatClampNeg).toNatClampNeg = 0) := by
  have s := (sq t t0 t1).2.1
  have wt := (w.2.2.2 t t0 t1).1
  rw [h] at s
  by_cases e : ar r 1 t.toNatClampNeg < 0
  · rw [if_pos e] at s
    exact absurd s.symm (one_n0 (by clear w sq s; grind) (by clear w sq s; grind))
  · rw [if_neg e] at s
    have o := or_0 s.symm
    unfold btP at o
    refine ⟨Int32.not_lt.mp e, fun g => ?_, fun g => ?_⟩
    · have := o.1
      rw [if_neg (fun z => by rw [z] at g; exact absurd g (by decide))] at this
      exact this
    · have := o.2
      rw [if_neg (fun z => by rw [z] at g; exact absurd g (by decide))] at this
      exact this
theorem wants_1 {l : Nat → Nat} {r : S_} (h : INV l r) {t c : Int32} (t0 : 0 ≤ t) (t1 : t < fi r 1) (k0 : 0 ≤ ar r 1 t.toNatClampNeg) (c0 : 0 ≤ c) (c1 : c < fi r 2) {i : Nat} (g : gb (ar r 10 (8 * c + ar r 1 t.toNatClampNeg).toNatClampNeg) i = true) : 0 ≤ ar r 2 t.toNatClampNeg := by
  obtain ⟨⟨-, -, -, ⟨w1, w2, -⟩, -⟩, q, -, -, -, ⟨-, wq⟩, -, sq⟩ := h
  have a := (sq t t0 t1).2.2 k0
  have c8 : c < 8 := by have := w2.2.1; clear w1 w2 q wq sq a g; grind
  have k8 : ar r 1 t.toNatClampNeg < 8 := by have := w1.1.2.1; have := a.1; clear w1 w2 q wq sq a g; grind
  have b := (wq c _ c0 c8 k0 k8).1
  rw [q.2.2.2.1.2.2.1, q.1.2] at b
  exact a.2.1.mpr (b (gb_n0 g)).2
theorem wants_2 {l : Nat → Nat} {r : S_} (h : INV l r) {t c : Int32} (t0 : 0 ≤ t) (t1 : t < fi r 1) (k0 : 0 ≤ ar r 1 t.toNatClampNeg) (c0 : 0 ≤ c) (c1 : c < fi r 2) {i : Nat} (g : gb (ar r 11 (8 * c + ar r 1 t.toNatClampNeg).toNatClampNeg) i = true) : 0 ≤ ar r 3 t.toNatClampNeg := by
  obtain ⟨⟨-, -, -, ⟨w1, w2, -⟩, -⟩, q, -, -, -, ⟨-, wq⟩, -, sq⟩ := h
  have a := (sq t t0 t1).2.2 k0
  have c8 : c < 8 := by have := w2.2.1; clear w1 w2 q wq sq a g; grind
  have k8 : ar r 1 t.toNatClampNeg < 8 := by have := w1.1.2.1; have := a.1; clear w1 w2 q wq sq a g; grind
  have b := (wq c _ c0 c8 k0 k8).2.1
  rw [q.2.2.2.1.2.2.2, q.1.2] at b
  exact a.2.2.mpr (b (gb_n0 g)).2
theorem down_ok {ad l : Nat → Nat} {r : S_} (h : INV l r) : ∀ (d : Nat) (b t p : Int32) (K : Int32 → Prop), 0 ≤ t → t < fi r 1 → ar r 5 t.toNatClampNeg = 0 → (ar r 4 t.toNatClampNeg).toInt ≤ d → 0 ≤ p → p.toInt + (ar r 4 t.toNatClampNeg).toInt ≤ 17 → ((∀ c : Int32, 0 ≤ c → c < fi r 2 → gb b c.toNatClampNeg = true → hH r t c) → K 1) → (¬ (∀ c : Int32, 0 ≤ c → c < fi r 2 → gb b c.toNatClampNeg = true → hH r t c) → K 0) → qK_holdsAllDown (ad, l) r d (fun z => zb z → K z) b t p := by
  have h' := h
  obtain ⟨⟨-, -, -, ⟨w1, w2, -⟩, -⟩, -, -, -, -, -, -, sq⟩ := h
  have kt : KT (ad, l) r := w2
  have f2 := w1.1.2.1
  have f4 := w1.1.2.2.2
  have n8 := w2.2.1
  intro d
  induction d with
  | zero =>
    intro b t p K t0 t1 t5 t4
    have := (w1.2.2.2 t t0 t1).2.2.2.1.1
    rw [il] at this
    simp at this
    omega
  | succ d ih =>
    intro b t p K t0 t1 t5 t4 p0 p1 h1 h0
    have wt := w1.2.2.2 t t0 t1
    have sz := wt.2.2.2.1.1
    rw [il] at sz
    simp at sz
    have nv := nov w1 sq t0 t1 t5
    have k0 := nv.1
    have ary := (sq t t0 t1).2.2 k0
    have k8 : ar r 1 t.toNatClampNeg < 8 := by have := ary.1; clear h' w1 w2 kt sq ih h1 h0 wt ary nv; grind
    have v60 : ∀ q, l q = 60 → vp_in t (ln (ad, l) q) := fun q hq => vi2 t0 t1 (by show (fi r 1).toInt ≤ l q; rw [hq]; rw [il] at f4; simpa using f4)
    have pz : p.toInt ≤ 16 := by omega
    have pn : ¬ 16 < p := fun z => by rw [it] at z; simp at z; omega
    have pp : (p + 1).toInt = p.toInt + 1 := by
      rw [il] at p0
      exact i_add (by simp at p0 ⊢; omega) (by simp; omega)
    have pp0 : 0 ≤ p + 1 := by rw [il] at p0 ⊢; rw [pp]; simp at p0 ⊢; omega
    have l1 := w1.2.1.2.1
    have l2 := w1.2.1.2.2.1
    have l3 := w1.2.1.2.2.2.1
    have ch : ∀ x : Int32, 0 ≤ x → (x = ar r 2 t.toNatClampNeg ∨ x = ar r 3 t.toNatClampNeg) → x < fi r 1 ∧ ar r 5 x.toNatClampNeg = 0 ∧ (ar r 4 x.toNatClampNeg).toInt < (ar r 4 t.toNatClampNeg).toInt := fun x x0 hx => by
      have xn : ¬ x = -1 := fun z => by rw [z] at x0; exact absurd x0 (by decide)
      rcases hx with e | e
      · have q := wt.2.2.2.2.1 (by rw [← e]; exact xn)
        rw [it, ← e] at q
        refine ⟨by rw [e]; exact ltt wt.2.1.2 t1, ?_, q⟩
        rw [e] at x0 ⊢
        exact nv.2.1 x0
      · have q := wt.2.2.2.2.2.1 (by rw [← e]; exact xn)
        rw [it, ← e] at q
        refine ⟨by rw [e]; exact ltt wt.2.2.1.2 t1, ?_, q⟩
        rw [e] at x0 ⊢
        exact nv.2.2 x0
    have hi := fun c => hH_iff w1 (c := c) t0 t1
    have i32 : ∀ i : Int32, 0 ≤ i → i < fi r 2 → i.toNatClampNeg < 32 := fun i i0 i1 => by
      have a := i_nat i0
      rw [it] at i1
      rw [il] at n8
      simp at n8
      omega
    rw [qK_holdsAllDown]
    unfold qK_holdsAllDown_B
    refine ⟨v60 1 l1, fun z => absurd z pn, fun _ => ⟨fun z => (nl0 k0 z).elim, fun _ => haveI_ok kt k0 k8 (fun hv => ⟨fun _ => ?_, fun z => absurd z (by decide)⟩) (fun c c0 c1 c2 c3 => ⟨fun z => absurd rfl z, fun _ => ⟨zb0, fun _ => h0 (fun ha => ((hi c).mp (ha c c0 c1 c2)).2.1 c3)⟩⟩)⟩⟩
    refine joinI_ok kt (Or.inl rfl) k0 k8 (fun z8 h8 => joinI_ok kt (Or.inr rfl) k0 k8 (fun z9 h9 => ?_))
    have j96 : (∀ c : Int32, 0 ≤ c → c < fi r 2 → gb b c.toNatClampNeg = true → ∀ i : Int32, 0 ≤ i → i < fi r 2 → gb (ar r 10 (8 * c + ar r 1 t.toNatClampNeg).toNatClampNeg) i.toNatClampNeg = true → 0 ≤ ar r 2 t.toNatClampNeg ∧ hH r (ar r 2 t.toNatClampNeg) i) → qK_holdsAllDown_B_J96 (ad, l) r (qK_holdsAllDown (ad, l) r d) (fun z => zb z → K z) p z9 (ar r 3 t.toNatClampNeg) := by
      intro hf
      unfold qK_holdsAllDown_B_J96 qK_holdsAllDown_B_J118
      refine ⟨fun e => ⟨zb1, fun _ => h1 (fun c c0 c1 c2 => (hi c).mpr ⟨k0, hv c c0 c1 c2, hf c c0 c1 c2, fun i i0 i1 g => ?_⟩)⟩, fun e => ?_⟩
      · have := wants_2 h' t0 t1 k0 c0 c1 g
        rw [e] at this
        exact absurd this (by decide)
      · have x0 : 0 ≤ ar r 3 t.toNatClampNeg := by have := wt.2.2.1.1; clear h' w1 w2 kt sq ih h1 h0 wt ary nv hf h8 h9 hi ch v60 hv i32; grind
        have cc := ch _ x0 (Or.inr rfl)
        refine ih z9 (ar r 3 t.toNatClampNeg) (p + 1) _ x0 cc.1 cc.2.1 (by omega) pp0 (by omega) (fun ha => ⟨fun z => absurd z (by decide), fun _ => ⟨zb1, fun _ => h1 (fun c c0 c1 c2 => (hi c).mpr ⟨k0, hv c c0 c1 c2, hf c c0 c1 c2, fun i i0 i1 g => ⟨x0, ha i i0 i1 ((h9 _ (i32 i i0 i1)).mpr ⟨c, c0, c1, c2, g⟩)⟩⟩)⟩⟩) (fun ha => ⟨fun _ => ⟨zb0, fun _ => h0 (fun hall => ha (fun i i0 i1 g => ?_))⟩, fun z => absurd rfl z⟩)
        obtain ⟨c, c0, c1, c2, c3⟩ := (h9 _ (i32 i i0 i1)).mp g
        exact (((hi c).mp (hall c c0 c1 c2)).2.2.2 i i0 i1 c3).2
    refine ⟨v60 2 l2, v60 3 l3, fun e => j96 (fun c c0 c1 c2 i i0 i1 g => ?_), fun e => ?_⟩
    · have := wants_1 h' t0 t1 k0 c0 c1 g
      rw [e] at this
      exact absurd this (by decide)
    · have x0 : 0 ≤ ar r 2 t.toNatClampNeg := by have := wt.2.1.1; clear h' w1 w2 kt sq ih h1 h0 wt ary nv j96 h8 h9 hi ch v60 hv i32; grind
      have cc := ch _ x0 (Or.inl rfl)
      refine ih z8 (ar r 2 t.toNatClampNeg) (p + 1) _ x0 cc.1 cc.2.1 (by omega) pp0 (by omega) (fun ha => ⟨fun z => absurd z (by decide), fun _ => j96 (fun c c0 c1 c2 i i0 i1 g => ⟨x0, ha i i0 i1 ((h8 _ (i32 i i0 i1)).mpr ⟨c, c0, c1, c2, g⟩)⟩)⟩) (fun ha => ⟨fun _ => ⟨zb0, fun _ => h0 (fun hall => ha (fun i i0 i1 g => ?_))⟩, fun z => absurd rfl z⟩)
      obtain ⟨c, c0, c1, c2, c3⟩ := (h8 _ (i32 i i0 i1)).mp g
      exact (((hi c).mp (hall c c0 c1 c2)).2.2.1 i i0 i1 c3).2
theorem holdsAll_ok {ad l : Nat → Nat} {r : S_} (h : INV l r) {c t : Int32} (c0 : 0 ≤ c) (c1 : c < fi r 2) (t0 : 0 ≤ t) (t1 : t < fi r 1) (t5 : ar r 5 t.toNatClampNeg = 0) {K : Int32 → Prop} (h1 : hH r t c → K 1) (h0 : ¬ hH r t c → K 0) : qK_holdsAll (ad, l) r (fun z => zb z → K z) (1 <<< (c &&& 31)) t := by
  have w1 : TT l r := h.1.2.2.2.1.1
  have n8 := h.1.2.2.2.1.2.1.2.1
  have sz := (w1.2.2.2 t t0 t1).2.2.2.1.2
  rw [il] at sz
  simp at sz
  have c8 : c < 8 := by clear h w1 h1 h0; grind
  have it32 : ∀ e : Int32, 0 ≤ e → e < fi r 2 → (gb (1 <<< (c &&& 31)) e.toNatClampNeg = true ↔ e = c) := fun e e0 e1 => by
    have e8 : e < 8 := by clear h w1 h1 h0; grind
    have := d_lt e0 e8
    rw [gb_one c0 c8 (by omega)]
    constructor
    · intro z
      exact (i_inj e0 c0).mp (of_decide_eq_true z)
    · intro z
      rw [z]
      simp
  unfold qK_holdsAll
  refine down_ok h 19 _ t 0 _ t0 t1 t5 (by omega) (by decide) (by simp; omega) (fun ha => ⟨zb1, fun _ => h1 (ha c c0 c1 ((it32 c c0 c1).mpr rfl))⟩) (fun ha => ⟨zb0, fun _ => h0 (fun hh => ha (fun e e0 e1 g => ?_))⟩)
  rw [(it32 e e0 e1).mp g]
  exact hh
end ISD
