/-! The class's settling: from wholes to parts. -/
section ZCSET
variable {a : L_} {r r' : S_} {rh ta rk : Int32 → Int32} {N : Int32}
def cNd (r : S_) (W : Int32 → Nat → Prop) (v : Int32) (c : Nat) : Prop := zNd (kI r) (kF r 10) (kF r 11) (cG r) W v c
/-- the states between: those of index over v are done -/
def SLI (a : L_) (r1 r : S_) (rh ta : Int32 → Int32) (N : Int32) (W : Int32 → Nat → Prop) (v3 v : Int32) : Prop := GI a r rh ta N ∧ FS (fi r1 11) (ar r1 21) (ar r1 22) (ar r 22) ∧ Fr [9, 10] [22, 24, 25, 29] r1 r ∧ (∀ k : Int32, 0 ≤ k → k < fi r1 12 → ∀ c, gb (ar r 29 (ar r1 30 k.toNatClampNeg).toNatClampNeg) c = true → cNd r1 W (ar r1 30 k.toNatClampNeg) c) ∧ (∀ k : Int32, 0 ≤ k → k < fi r1 12 → ∀ c, gb (ar r1 29 (ar r1 30 k.toNatClampNeg).toNatClampNeg) c = true → gb (ar r 29 (ar r1 30 k.toNatClampNeg).toNatClampNeg) c = true) ∧ (∀ k : Int32, v < k → k < fi r1 12 → 0 ≤ ar r1 21 (ar r1 30 k.toNatClampNeg).toNatClampNeg → ∀ c c1, gb (ar r 29 (ar r1 30 k.toNatClampNeg).toNatClampNeg) c = true → kI r1 c (ar r1 21 (ar r1 30 k.toNatClampNeg).toNatClampNeg) → (kF r1 10 c (ar r1 21 (ar r1 30 k.toNatClampNeg).toNatClampNeg) c1 → gb (ar r 29 (rh (ar r1 22 (ar r1 30 k.toNatClampNeg).toNatClampNeg)).toNatClampNeg) c1 = true) ∧ (kF r1 11 c (ar r1 21 (ar r1 30 k.toNatClampNeg).toNatClampNeg) c1 → gb (ar r 29 (rh (ar r1 23 (ar r1 30 k.toNatClampNeg).toNatClampNeg)).toNatClampNeg) c1 = true)) ∧ ((∀ x : Int32, 0 ≤ x → (∀ k : Int32, v < k → k < fi r1 12 → ar r1 30 k.toNatClampNeg = x → ar r1 21 x.toNatClampNeg = -1 → ar r1 26 x.toNatClampNeg = 1 → ar r 29 x.toNatClampNeg = 0) → ar r 25 x.toNatClampNeg = ar r1 25 x.toNatClampNeg) ∧ ∀ k : Int32, v < k → k < fi r1 12 → ar r1 21 (ar r1 30 k.toNatClampNeg).toNatClampNeg = -1 → ar r1 26 (ar r1 30 k.toNatClampNeg).toNatClampNeg = 1 → ¬ ar r 29 (ar r1 30 k.toNatClampNeg).toNatClampNeg = 0 → ∀ d, d < 32 → (gb (ar r 25 (ar r1 30 k.toNatClampNeg).toNatClampNeg) d = true ↔ gb (ar r 29 (ar r1 30 k.toNatClampNeg).toNatClampNeg) d = true ∧ ∀ c, gb (ar r 29 (ar r1 30 k.toNatClampNeg).toNatClampNeg) c = true → ¬ c = d → ¬ kU r1 c d)) ∧ ((∀ x : Int32, 0 ≤ x → (∀ k : Int32, v < k → k < fi r1 12 → ar r1 30 k.toNatClampNeg = x → ar r1 21 x.toNatClampNeg = -1 → ¬ ar r1 26 x.toNatClampNeg = 1 → ¬ ar r1 27 x.toNatClampNeg = fi r1 6) → ar r 24 x.toNatClampNeg = ar r1 24 x.toNatClampNeg) ∧ ∀ k : Int32, v < k → k < fi r1 12 → ar r1 21 (ar r1 30 k.toNatClampNeg).toNatClampNeg = -1 → ¬ ar r1 26 (ar r1 30 k.toNatClampNeg).toNatClampNeg = 1 → ar r1 27 (ar r1 30 k.toNatClampNeg).toNatClampNeg = fi r1 6 → ∀ c, (gb (ar r 24 (ar r1 30 k.toNatClampNeg).toNatClampNeg) c = true ↔ gb (ar r1 24 (ar r1 30 k.toNatClampNeg).toNatClampNeg) c = true ∨ gb (ar r 29 (ar r1 30 k.toNatClampNeg).toNatClampNeg) c = true)) ∧ (¬ fi r 9 = 0 ↔ ¬ fi r1 9 = 0 ∨ ∃ k c, v < k ∧ k < fi r1 12 ∧ 0 ≤ ar r1 21 (ar r1 30 k.toNatClampNeg).toNatClampNeg ∧ gb (ar r 29 (ar r1 30 k.toNatClampNeg).toNatClampNeg) c = true ∧ ¬ kI r1 c (ar r1 21 (ar r1 30 k.toNatClampNeg).toNatClampNeg)) ∧ (¬ fi r 10 = 0 ↔ ¬ fi r1 10 = 0 ∨ ∃ k, v < k ∧ k < fi r1 12 ∧ ar r1 21 (ar r1 30 k.toNatClampNeg).toNatClampNeg = -1 ∧ ¬ ar r 29 (ar r1 30 k.toNatClampNeg).toNatClampNeg = 0 ∧ ¬ ar r1 26 (ar r1 30 k.toNatClampNeg).toNatClampNeg = 1 ∧ ¬ ar r1 27 (ar r1 30 k.toNatClampNeg).toNatClampNeg = fi r1 6) ∧ ∃ l : List (Int32 × Nat), l.Nodup ∧ v3.toInt = l.length ∧ (l.length : Int) ≤ 8 * ((fi r1 12).toInt - 1 - v.toInt) ∧ ∀ x d, (x, d) ∈ l ↔ d < 8 ∧ ∃ k, v < k ∧ k < fi r1 12 ∧ ar r1 30 k.toNatClampNeg = x ∧ ar r1 21 x.toNatClampNeg = -1 ∧ ar r1 26 x.toNatClampNeg = 1 ∧ ¬ ar r 29 x.toNatClampNeg = 0 ∧ gb (ar r 25 x.toNatClampNeg) d = true
/-- the list of a set's bits -/
def bl (x v : Int32) : List (Int32 × Nat) := ((List.range 8).filter (fun i => gb v i)).map (fun i => (x, i))
theorem bl_mem {x v y : Int32} {d : Nat} : (y, d) ∈ bl x v ↔ y = x ∧ d < 8 ∧ gb v d = true := by
  unfold bl
  simp only [List.mem_map, List.mem_filter, List.mem_range, Prod.mk.injEq]
  constructor
  · rintro ⟨i, ⟨i1, i2⟩, e1, e2⟩
    subst e1 e2
    exact ⟨rfl, i1, i2⟩
  · rintro ⟨e1, h1, h2⟩
    exact ⟨d, ⟨h1, h2⟩, e1.symm, rfl⟩
theorem bl_nd {x v : Int32} : (bl x v).Nodup := by
  unfold bl List.Nodup
  rw [List.pairwise_map]
  refine List.Pairwise.imp ?_ (List.Pairwise.filter _ List.nodup_range)
  intro p q h e
  exact h (Prod.mk.inj e).2
theorem fl_cnt {p : Nat → Bool} : ∀ n : Nat, ((List.range n).filter p).length = cnt p n := by
  intro n
  induction n with
  | zero => rfl
  | succ n ih =>
    rw [List.range_succ, List.filter_append, List.length_append, ih, cnt]
    by_cases h : p n
    · simp [h]
    · simp [h]
theorem bl_len {x v : Int32} : (bl x v).length = bn v := by
  unfold bl bn
  rw [List.length_map, fl_cnt]
theorem bn_le {v : Int32} : bn v ≤ 8 := cnt_le _ _
theorem kdec {k v : Int32} (hv : 0 ≤ v) (h : v - 1 < k) : k = v ∨ v < k := by grind
theorem kdec2 {k v : Int32} (hv : 0 ≤ v) (h : v < k) : v - 1 < k := by grind
theorem kdec3 {v : Int32} (hv : 0 ≤ v) : v - 1 < v := by grind
theorem kdec4 {v : Int32} (hv : 0 ≤ v) : (v + -1) = v - 1 := by grind
theorem kdec5 {v : Int32} (hv : 0 ≤ v) : (v - 1).toInt = v.toInt - 1 := by
  have := ir v
  rw [il] at hv
  simp at hv
  exact i_sub (by simp; omega) (by simp; omega)
section
variable {r1 : S_} {W : Int32 → Nat → Prop} {v3 v : Int32}
/-- nothing wanted there -/
theorem SLI_skip (o : ORD r1 rh) (h : SLI a r1 r rh ta N W v3 v) (v0 : 0 ≤ v) (v1 : v < fi r1 12) (hz : ar r 29 (ar r1 30 v.toNatClampNeg).toNatClampNeg = 0) : SLI a r1 r rh ta N W v3 (v - 1) := by
  obtain ⟨h1, h2, h3, h4, h5, h6, ⟨h7, h8⟩, ⟨h9, h10⟩, h11, h12, l, l1, l2, l3, l4⟩ := h
  have nb : ∀ c, ¬ gb (ar r 29 (ar r1 30 v.toNatClampNeg).toNatClampNeg) c = true := fun c => by rw [hz, gb_0]; decide
  refine ⟨h1, h2, h3, h4, h5, fun k k0 k1 k2 c c1 k3 => ?_, ⟨fun x x0 hx => h7 x x0 (fun k k0 k1 => hx k (kdec2 v0 k0) k1), fun k k0 k1 k2 k3 k4 => ?_⟩, ⟨fun x x0 hx => h9 x x0 (fun k k0 k1 => hx k (kdec2 v0 k0) k1), fun k k0 k1 k2 k3 k4 c => ?_⟩, ?_, ?_, l, l1, l2, ?_, fun x d => ?_⟩
  · rcases kdec v0 k0 with e | e
    · rw [e] at k3
      exact absurd k3 (nb c)
    · exact h6 k e k1 k2 c c1 k3
  · rcases kdec v0 k0 with e | e
    · rw [e] at k4
      exact absurd hz k4
    · exact h8 k e k1 k2 k3 k4
  · rcases kdec v0 k0 with e | e
    · rw [e]
      rw [e] at k1 k2 k3 k4
      rw [hz, gb_0, h9 _ (o.2.2 v v0 v1).1.1 (fun k' q1 q2 q3 => absurd q3.symm (o.2.1 v k' v0 q1 q2))]
      simp
    · exact h10 k e k1 k2 k3 k4 c
  · rw [h11]
    constructor
    · rintro (q | ⟨k, c, q1, q2⟩)
      · exact Or.inl q
      · exact Or.inr ⟨k, c, kdec2 v0 q1, q2⟩
    · rintro (q | ⟨k, c, q1, q2, q3, q4, q5⟩)
      · exact Or.inl q
      · rcases kdec v0 q1 with e | e
        · rw [e] at q4
          exact absurd q4 (nb c)
        · exact Or.inr ⟨k, c, e, q2, q3, q4, q5⟩
  · rw [h12]
    constructor
    · rintro (q | ⟨k, q1, q2⟩)
      · exact Or.inl q
      · exact Or.inr ⟨k, kdec2 v0 q1, q2⟩
    · rintro (q | ⟨k, q1, q2, q3, q4, q5⟩)
      · exact Or.inl q
      · rcases kdec v0 q1 with e | e
        · rw [e] at q4
          exact absurd hz q4
        · exact Or.inr ⟨k, e, q2, q3, q4, q5⟩
  · rw [kdec5 v0]
    omega
  · rw [l4 x d]
    constructor
    · rintro ⟨d8, k, q1, q2⟩
      exact ⟨d8, k, kdec2 v0 q1, q2⟩
    · rintro ⟨d8, k, q1, q2, q3, q4, q5, q6, q7⟩
      rcases kdec v0 q1 with e | e
      · rw [e] at q3
        rw [← q3] at q6
        exact absurd hz q6
      · exact ⟨d8, k, e, q2, q3, q4, q5, q6, q7⟩
/-- values that were done stay; a row of the invariant with new values -/
theorem od_ne (o : ORD r1 rh) {j k : Int32} (j0 : 0 ≤ j) (jk : j < k) (k1 : k < fi r1 12) : ¬ ar r1 30 j.toNatClampNeg = ar r1 30 k.toNatClampNeg := o.2.1 j k j0 jk k1
theorem SLI_open (o : ORD r1 rh) (h : SLI a r1 r rh ta N W v3 v) (v0 : 0 ≤ v) (v1 : v < fi r1 12) (vb : fi r1 12 < 20000) (hv : ar r1 21 (ar r1 30 v.toNatClampNeg).toNatClampNeg = -1) (ho : ar r1 26 (ar r1 30 v.toNatClampNeg).toNatClampNeg = 1) (hz : ¬ ar r 29 (ar r1 30 v.toNatClampNeg).toNatClampNeg = 0) {z : Int32} (hl : ∀ d, d < 32 → (gb z d = true ↔ gb (ar r 29 (ar r1 30 v.toNatClampNeg).toNatClampNeg) d = true ∧ ∀ c, gb (ar r 29 (ar r1 30 v.toNatClampNeg).toNatClampNeg) c = true → ¬ c = d → ¬ kU r1 c d)) : SLI a r1 (sA r 25 (upd (ar r 25) (ar r1 30 v.toNatClampNeg).toNatClampNeg z)) rh ta N W (v3 + Int32.ofNat (bn z)) (v - 1) := by
  obtain ⟨h1, h2, h3, h4, h5, h6, ⟨h7, h8⟩, ⟨h9, h10⟩, h11, h12, l, l1, l2, l3, l4⟩ := h
  have u0 : 0 ≤ ar r1 30 v.toNatClampNeg := (o.2.2 v v0 v1).1.1
  have odp : ∀ k : Int32, v < k → k < fi r1 12 → 0 ≤ ar r1 30 k.toNatClampNeg := fun k k0 k1 => (o.2.2 k (zo2 v0 (zo4 k0)) k1).1.1
  have ne : ∀ k : Int32, v < k → k < fi r1 12 → ¬ ar r1 30 k.toNatClampNeg = ar r1 30 v.toNatClampNeg := fun k k0 k1 e => od_ne o v0 k0 k1 e.symm
  have e25 : ar (sA r 25 (upd (ar r 25) (ar r1 30 v.toNatClampNeg).toNatClampNeg z)) 25 = upd (ar r 25) (ar r1 30 v.toNatClampNeg).toNatClampNeg z := rfl
  have nh : ¬ 0 ≤ ar r1 21 (ar r1 30 v.toNatClampNeg).toNatClampNeg := by rw [hv]; decide
  have vt := kdec5 v0
  have vb' : (fi r1 12).toInt ≤ 20000 := by rw [it, show (20000 : Int32).toInt = 20000 from rfl] at vb; omega
  have v0' : 0 ≤ v.toInt := by rw [il] at v0; simpa using v0
  have bn8 := bn_le (v := z)
  have ebn : (Int32.ofNat (bn z)).toInt = bn z := i_ofn (by omega)
  refine ⟨h1, h2, Fr_trans h3 (Fr_sA (by decide)), h4, h5, fun k k0 k1 k2 c c1 k3 => ?_, ⟨fun x x0 hx => ?_, fun k k0 k1 k2 k3 k4 d hd => ?_⟩, ⟨fun x x0 hx => h9 x x0 (fun k k0 k1 => hx k (kdec2 v0 k0) k1), fun k k0 k1 k2 k3 k4 c => ?_⟩, ?_, ?_, l ++ bl (ar r1 30 v.toNatClampNeg) z, ?_, ?_, ?_, fun x d => ?_⟩
  · rcases kdec v0 k0 with e | e
    · rw [e] at k2
      exact absurd k2 nh
    · exact h6 k e k1 k2 c c1 k3
  · rw [e25, updI _ _ u0 x0]
    by_cases e : x = ar r1 30 v.toNatClampNeg
    · have q : ar r 29 x.toNatClampNeg = 0 := hx v (kdec3 v0) v1 e.symm (by rw [e]; exact hv) (by rw [e]; exact ho)
      rw [e] at q
      exact absurd q hz
    · rw [if_neg e]
      exact h7 x x0 (fun k k0 k1 => hx k (kdec2 v0 k0) k1)
  · rcases kdec v0 k0 with e | e
    · rw [e, e25, pk_us]
      exact hl d hd
    · rw [e25, updI _ _ u0 (odp k e k1), if_neg (ne k e k1)]
      exact h8 k e k1 k2 k3 k4 d hd
  · rcases kdec v0 k0 with e | e
    · rw [e] at k3
      exact absurd ho k3
    · exact h10 k e k1 k2 k3 k4 c
  · have e9 : fi (sA r 25 (upd (ar r 25) (ar r1 30 v.toNatClampNeg).toNatClampNeg z)) 9 = fi r 9 := rfl
    rw [e9, h11]
    constructor
    · rintro (q | ⟨k, c, q1, q2⟩)
      · exact Or.inl q
      · exact Or.inr ⟨k, c, kdec2 v0 q1, q2⟩
    · rintro (q | ⟨k, c, q1, q2, q3, q4, q5⟩)
      · exact Or.inl q
      · rcases kdec v0 q1 with e | e
        · rw [e] at q3
          exact absurd q3 nh
        · exact Or.inr ⟨k, c, e, q2, q3, q4, q5⟩
  · have e10 : fi (sA r 25 (upd (ar r 25) (ar r1 30 v.toNatClampNeg).toNatClampNeg z)) 10 = fi r 10 := rfl
    rw [e10, h12]
    constructor
    · rintro (q | ⟨k, q1, q2⟩)
      · exact Or.inl q
      · exact Or.inr ⟨k, kdec2 v0 q1, q2⟩
    · rintro (q | ⟨k, q1, q2, q3, q4, q5, q6⟩)
      · exact Or.inl q
      · rcases kdec v0 q1 with e | e
        · rw [e] at q5
          exact absurd ho q5
        · exact Or.inr ⟨k, e, q2, q3, q4, q5, q6⟩
  · refine List.nodup_append.mpr ⟨l1, bl_nd, fun p hp q hq e => ?_⟩
    obtain ⟨p1, p2⟩ := p
    obtain ⟨q1, q2⟩ := q
    have b := (bl_mem.mp hq).1
    obtain ⟨_, k, m1, m2, m3, _⟩ := (l4 p1 p2).mp hp
    have e1 := (Prod.mk.inj e).1
    exact ne k m1 m2 (by rw [m3, e1, b])
  · rw [i_add (by rw [ebn]; omega) (by rw [ebn]; omega), ebn, List.length_append, bl_len]
    omega
  · rw [List.length_append, bl_len, vt]
    omega
  · rw [List.mem_append, l4 x d, bl_mem]
    constructor
    · rintro (⟨d8, k, q1, q2, q3, q4, q5, q6, q7⟩ | ⟨e, d8, q⟩)
      · refine ⟨d8, k, kdec2 v0 q1, q2, q3, q4, q5, q6, ?_⟩
        rw [e25, ← q3, updI _ _ u0 (odp k q1 q2), if_neg (ne k q1 q2), q3]
        exact q7
      · refine ⟨d8, v, kdec3 v0, v1, e.symm, by rw [e]; exact hv, by rw [e]; exact ho, by rw [e]; exact hz, ?_⟩
        rw [e, e25, pk_us]
        exact q
    · rintro ⟨d8, k, q1, q2, q3, q4, q5, q6, q7⟩
      rcases kdec v0 q1 with e | e
      · rw [e] at q3
        rw [← q3, e25, pk_us] at q7
        exact Or.inr ⟨q3.symm, d8, q7⟩
      · rw [e25, ← q3, updI _ _ u0 (odp k e q2), if_neg (ne k e q2), q3] at q7
        exact Or.inl ⟨d8, k, e, q2, q3, q4, q5, q6, q7⟩
theorem SLI_bound (o : ORD r1 rh) (h : SLI a r1 r rh ta N W v3 v) (v0 : 0 ≤ v) (v1 : v < fi r1 12) (hv : ar r1 21 (ar r1 30 v.toNatClampNeg).toNatClampNeg = -1) (ho : ¬ ar r1 26 (ar r1 30 v.toNatClampNeg).toNatClampNeg = 1) (hb : ar r1 27 (ar r1 30 v.toNatClampNeg).toNatClampNeg = fi r1 6) : SLI a r1 (sA r 24 (upd (ar r 24) (ar r1 30 v.toNatClampNeg).toNatClampNeg (ar r 24 (ar r1 30 v.toNatClampNeg).toNatClampNeg ||| ar r 29 (ar r1 30 v.toNatClampNeg).toNatClampNeg))) rh ta N W v3 (v - 1) := by
  obtain ⟨h1, h2, h3, h4, h5, h6, ⟨h7, h8⟩, ⟨h9, h10⟩, h11, h12, l, l1, l2, l3, l4⟩ := h
  have u0 : 0 ≤ ar r1 30 v.toNatClampNeg := (o.2.2 v v0 v1).1.1
  have odp : ∀ k : Int32, v < k → k < fi r1 12 → 0 ≤ ar r1 30 k.toNatClampNeg := fun k k0 k1 => (o.2.2 k (zo2 v0 (zo4 k0)) k1).1.1
  have ne : ∀ k : Int32, v < k → k < fi r1 12 → ¬ ar r1 30 k.toNatClampNeg = ar r1 30 v.toNatClampNeg := fun k k0 k1 e => od_ne o v0 k0 k1 e.symm
  have nh : ¬ 0 ≤ ar r1 21 (ar r1 30 v.toNatClampNeg).toNatClampNeg := by rw [hv]; decide
  have e24 : ar (sA r 24 (upd (ar r 24) (ar r1 30 v.toNatClampNeg).toNatClampNeg (ar r 24 (ar r1 30 v.toNatClampNeg).toNatClampNeg ||| ar r 29 (ar r1 30 v.toNatClampNeg).toNatClampNeg))) 24 = upd (ar r 24) (ar r1 30 v.toNatClampNeg).toNatClampNeg (ar r 24 (ar r1 30 v.toNatClampNeg).toNatClampNeg ||| ar r 29 (ar r1 30 v.toNatClampNeg).toNatClampNeg) := rfl
  have f9 : fi (sA r 24 (upd (ar r 24) (ar r1 30 v.toNatClampNeg).toNatClampNeg (ar r 24 (ar r1 30 v.toNatClampNeg).toNatClampNeg ||| ar r 29 (ar r1 30 v.toNatClampNeg).toNatClampNeg))) 9 = fi r 9 := rfl
  have f10 : fi (sA r 24 (upd (ar r 24) (ar r1 30 v.toNatClampNeg).toNatClampNeg (ar r 24 (ar r1 30 v.toNatClampNeg).toNatClampNeg ||| ar r 29 (ar r1 30 v.toNatClampNeg).toNatClampNeg))) 10 = fi r 10 := rfl
  refine ⟨h1, h2, Fr_trans h3 (Fr_sA (by decide)), h4, h5, fun k k0 k1 k2 c c1 k3 => ?_, ⟨fun x x0 hx => h7 x x0 (fun k k0 k1 => hx k (kdec2 v0 k0) k1), fun k k0 k1 k2 k3 k4 => ?_⟩, ⟨fun x x0 hx => ?_, fun k k0 k1 k2 k3 k4 c => ?_⟩, ?_, ?_, l, l1, l2, by rw [kdec5 v0]; omega, fun x d => ?_⟩
  · rcases kdec v0 k0 with e | e
    · rw [e] at k2
      exact absurd k2 nh
    · exact h6 k e k1 k2 c c1 k3
  · rcases kdec v0 k0 with e | e
    · rw [e] at k3
      exact absurd k3 ho
    · exact h8 k e k1 k2 k3 k4
  · rw [e24, updI _ _ u0 x0]
    by_cases e : x = ar r1 30 v.toNatClampNeg
    · exact absurd (by rw [e]; exact hb) (hx v (kdec3 v0) v1 e.symm (by rw [e]; exact hv) (by rw [e]; exact ho))
    · rw [if_neg e]
      exact h9 x x0 (fun k k0 k1 => hx k (kdec2 v0 k0) k1)
  · rcases kdec v0 k0 with e | e
    · rw [e, e24, pk_us, gb_or, Bool.or_eq_true, h9 _ u0 (fun k' q1 q2 q3 => absurd q3 (ne k' q1 q2))]
      exact Iff.rfl
    · rw [e24, updI _ _ u0 (odp k e k1), if_neg (ne k e k1)]
      exact h10 k e k1 k2 k3 k4 c
  · rw [f9, h11]
    constructor
    · rintro (q | ⟨k, c, q1, q2⟩)
      · exact Or.inl q
      · exact Or.inr ⟨k, c, kdec2 v0 q1, q2⟩
    · rintro (q | ⟨k, c, q1, q2, q3, q4, q5⟩)
      · exact Or.inl q
      · rcases kdec v0 q1 with e | e
        · rw [e] at q3
          exact absurd q3 nh
        · exact Or.inr ⟨k, c, e, q2, q3, q4, q5⟩
  · rw [f10, h12]
    constructor
    · rintro (q | ⟨k, q1, q2⟩)
      · exact Or.inl q
      · exact Or.inr ⟨k, kdec2 v0 q1, q2⟩
    · rintro (q | ⟨k, q1, q2, q3, q4, q5, q6⟩)
      · exact Or.inl q
      · rcases kdec v0 q1 with e | e
        · rw [e] at q6
          exact absurd hb q6
        · exact Or.inr ⟨k, e, q2, q3, q4, q5, q6⟩
  · rw [l4 x d]
    constructor
    · rintro ⟨d8, k, q1, q2⟩
      exact ⟨d8, k, kdec2 v0 q1, q2⟩
    · rintro ⟨d8, k, q1, q2, q3, q4, q5, q6, q7⟩
      rcases kdec v0 q1 with e | e
      · rw [e] at q3
        rw [← q3] at q5
        exact absurd q5 ho
      · exact ⟨d8, k, e, q2, q3, q4, q5, q6, q7⟩
theorem SLI_amb (o : ORD r1 rh) (h : SLI a r1 r rh ta N W v3 v) (v0 : 0 ≤ v) (v1 : v < fi r1 12) (hv : ar r1 21 (ar r1 30 v.toNatClampNeg).toNatClampNeg = -1) (hz : ¬ ar r 29 (ar r1 30 v.toNatClampNeg).toNatClampNeg = 0) (ho : ¬ ar r1 26 (ar r1 30 v.toNatClampNeg).toNatClampNeg = 1) (hb : ¬ ar r1 27 (ar r1 30 v.toNatClampNeg).toNatClampNeg = fi r1 6) : SLI a r1 (sF r 10 1) rh ta N W v3 (v - 1) := by
  obtain ⟨h1, h2, h3, h4, h5, h6, ⟨h7, h8⟩, ⟨h9, h10⟩, h11, h12, l, l1, l2, l3, l4⟩ := h
  have nh : ¬ 0 ≤ ar r1 21 (ar r1 30 v.toNatClampNeg).toNatClampNeg := by rw [hv]; decide
  have f9 : fi (sF r 10 1) 9 = fi r 9 := rfl
  have f10 : fi (sF r 10 1) 10 = 1 := rfl
  refine ⟨h1, h2, Fr_trans h3 (Fr_sF (by decide)), h4, h5, fun k k0 k1 k2 c c1 k3 => ?_, ⟨fun x x0 hx => h7 x x0 (fun k k0 k1 => hx k (kdec2 v0 k0) k1), fun k k0 k1 k2 k3 k4 => ?_⟩, ⟨fun x x0 hx => h9 x x0 (fun k k0 k1 => hx k (kdec2 v0 k0) k1), fun k k0 k1 k2 k3 k4 c => ?_⟩, ?_, ?_, l, l1, l2, by rw [kdec5 v0]; omega, fun x d => ?_⟩
  · rcases kdec v0 k0 with e | e
    · rw [e] at k2
      exact absurd k2 nh
    · exact h6 k e k1 k2 c c1 k3
  · rcases kdec v0 k0 with e | e
    · rw [e] at k3
      exact absurd k3 ho
    · exact h8 k e k1 k2 k3 k4
  · rcases kdec v0 k0 with e | e
    · rw [e] at k4
      exact absurd k4 hb
    · exact h10 k e k1 k2 k3 k4 c
  · rw [f9, h11]
    constructor
    · rintro (q | ⟨k, c, q1, q2⟩)
      · exact Or.inl q
      · exact Or.inr ⟨k, c, kdec2 v0 q1, q2⟩
    · rintro (q | ⟨k, c, q1, q2, q3, q4, q5⟩)
      · exact Or.inl q
      · rcases kdec v0 q1 with e | e
        · rw [e] at q3
          exact absurd q3 nh
        · exact Or.inr ⟨k, c, e, q2, q3, q4, q5⟩
  · rw [f10]
    exact ⟨fun _ => Or.inr ⟨v, kdec3 v0, v1, hv, hz, ho, hb⟩, fun _ => by decide⟩
  · rw [l4 x d]
    constructor
    · rintro ⟨d8, k, q1, q2⟩
      exact ⟨d8, k, kdec2 v0 q1, q2⟩
    · rintro ⟨d8, k, q1, q2, q3, q4, q5, q6, q7⟩
      rcases kdec v0 q1 with e | e
      · rw [e] at q3
        rw [← q3] at q5
        exact absurd q5 ho
      · exact ⟨d8, k, e, q2, q3, q4, q5, q6, q7⟩
/-- the values behind a handing down -/
def HDv (r1 r r' : S_) (rh : Int32 → Int32) (u : Int32) : Prop := ∀ x : Int32, 0 ≤ x → ∀ c1, gb (ar r' 29 x.toNatClampNeg) c1 = true ↔ gb (ar r 29 x.toNatClampNeg) c1 = true ∨ (¬ ar r1 22 u.toNatClampNeg = -1 ∧ x = rh (ar r1 22 u.toNatClampNeg) ∧ ∃ c, gb (ar r 29 u.toNatClampNeg) c = true ∧ kF r1 10 c (ar r1 21 u.toNatClampNeg) c1) ∨ (¬ ar r1 23 u.toNatClampNeg = -1 ∧ x = rh (ar r1 23 u.toNatClampNeg) ∧ ∃ c, gb (ar r 29 u.toNatClampNeg) c = true ∧ kF r1 11 c (ar r1 21 u.toNatClampNeg) c1)
theorem SLI_hand (o : ORD r1 rh) (hI1 : GI a r1 rh ta N) (ay : AYc r1) (fa1 : ∀ c k c1, kF r1 10 c k c1 → kI r1 c k ∧ 0 < ar r1 0 k.toNatClampNeg) (fa2 : ∀ c k c1, kF r1 11 c k c1 → kI r1 c k ∧ 1 < ar r1 0 k.toNatClampNeg) (h : SLI a r1 r rh ta N W v3 v) (v0 : 0 ≤ v) (v1 : v < fi r1 12) (hv : 0 ≤ ar r1 21 (ar r1 30 v.toNatClampNeg).toNatClampNeg) (g1 : GI a r' rh ta N) (g2 : FS (fi r1 11) (ar r1 21) (ar r1 22) (ar r' 22)) (g3 : Fr [9, 10] [22, 24, 25, 29] r1 r') (e24 : ar r' 24 = ar r 24) (e25 : ar r' 25 = ar r 25) (e10 : fi r' 10 = fi r 10) (hd : HDv r1 r r' rh (ar r1 30 v.toNatClampNeg)) (hl : ¬ fi r' 9 = 0 ↔ ¬ fi r 9 = 0 ∨ ∃ c, gb (ar r 29 (ar r1 30 v.toNatClampNeg).toNatClampNeg) c = true ∧ ¬ kI r1 c (ar r1 21 (ar r1 30 v.toNatClampNeg).toNatClampNeg)) : SLI a r1 r' rh ta N W v3 (v - 1) := by
  obtain ⟨h1, h2, h3, h4, h5, h6, ⟨h7, h8⟩, ⟨h9, h10⟩, h11, h12, l, l1, l2, l3, l4⟩ := h
  obtain ⟨⟨u0, u1, u2⟩, u3, u4⟩ := o.2.2 v v0 v1
  have odp : ∀ k : Int32, 0 ≤ k → k < fi r1 12 → 0 ≤ ar r1 30 k.toNatClampNeg := fun k k0 k1 => (o.2.2 k k0 k1).1.1
  have nv : ¬ ar r1 21 (ar r1 30 v.toNatClampNeg).toNatClampNeg = -1 := by intro e; rw [e] at hv; exact absurd hv (by decide)
  have grow : ∀ x : Int32, 0 ≤ x → ∀ c, gb (ar r 29 x.toNatClampNeg) c = true → gb (ar r' 29 x.toNatClampNeg) c = true := fun x x0 c hc => (hd x x0 c).mpr (Or.inl hc)
  -- values from v on stay
  have same : ∀ k : Int32, v ≤ k → k < fi r1 12 → ar r' 29 (ar r1 30 k.toNatClampNeg).toNatClampNeg = ar r 29 (ar r1 30 k.toNatClampNeg).toNatClampNeg := by
    intro k k0 k1
    have kk : 0 ≤ k := zo2 v0 k0
    refine gb_ext (fun i _ => ?_)
    have q := hd _ (odp k kk k1) i
    have q2 : gb (ar r' 29 (ar r1 30 k.toNatClampNeg).toNatClampNeg) i = true ↔ gb (ar r 29 (ar r1 30 k.toNatClampNeg).toNatClampNeg) i = true := by
      rw [q]
      constructor
      · rintro (m | ⟨m1, m2, _⟩ | ⟨m1, m2, _⟩)
        · exact m
        · obtain ⟨j, j0, j1, j2⟩ := u3 m1
          exact absurd (j2.trans m2.symm) (od_ne o j0 (zo3 j1 k0) k1)
        · obtain ⟨j, j0, j1, j2⟩ := u4 m1
          exact absurd (j2.trans m2.symm) (od_ne o j0 (zo3 j1 k0) k1)
      · exact Or.inl
    cases e1 : gb (ar r' 29 (ar r1 30 k.toNatClampNeg).toNatClampNeg) i <;> cases e2 : gb (ar r 29 (ar r1 30 k.toNatClampNeg).toNatClampNeg) i <;> simp [e1, e2] at q2 <;> rfl
  have chi : ∀ y : Int32, -1 ≤ y → ¬ y = -1 → y < fi r1 11 → 0 ≤ rh y := fun y y0 y1 y2 => (hI1.2.2.2.2.1.2 y (by clear h4 h5 h6 h7 h8 h9 h10 h11 h12 l4 same grow hd hl hI1; grind) y2).1
  have nn := hI1.2.2.2.1
  have ndr : ∀ y : Int32, 0 ≤ y → y < fi r1 11 → gR (cG r1) y = rh y := fun y y0 y1 => rtc_eq hI1 y0 y1
  have pz : ∀ y : Int32, -1 ≤ y → ¬ y = -1 → 0 ≤ y := fun y y0 y1 => by clear h4 h5 h6 h7 h8 h9 h10 h11 h12 l4 same grow hd hl hI1 chi nn ndr; grind
  refine ⟨g1, g2, g3, fun k k0 k1 c hc => ?_, fun k k0 k1 c hc => grow _ (odp k k0 k1) c (h5 k k0 k1 c hc), fun k k0 k1 k2 c c1 k3 k4 => ?_, ⟨fun x x0 hx => ?_, fun k k0 k1 k2 k3 k4 => ?_⟩, ⟨fun x x0 hx => ?_, fun k k0 k1 k2 k3 k4 c => ?_⟩, ?_, ?_, l, l1, l2, by rw [kdec5 v0]; omega, fun x d => ?_⟩
  · -- soundness
    have nu := nn _ u0 u1
    rcases (hd _ (odp k k0 k1) c).mp hc with m | ⟨m1, m2, c0, m3, m4⟩ | ⟨m1, m2, c0, m3, m4⟩
    · exact h4 k k0 k1 c m
    · have q := h4 v v0 v1 c0 m3
      have q2 := zNd_1 (g := cG r1) q hv (fa1 _ _ _ m4).1 m4
      have e : gR (cG r1) (gF (cG r1) (ar r1 30 v.toNatClampNeg)) = rh (ar r1 22 (ar r1 30 v.toNatClampNeg).toNatClampNeg) := ndr _ (pz _ nu.2.2.1 m1) nu.2.2.2.1
      rw [e, ← m2] at q2
      exact q2
    · have q := h4 v v0 v1 c0 m3
      have q2 := zNd_2 (g := cG r1) q hv (fa2 _ _ _ m4).1 m4
      have e : gR (cG r1) (gS (cG r1) (ar r1 30 v.toNatClampNeg)) = rh (ar r1 23 (ar r1 30 v.toNatClampNeg).toNatClampNeg) := ndr _ (pz _ nu.2.2.2.2.1 m1) nu.2.2.2.2.2.1
      rw [e, ← m2] at q2
      exact q2
  · -- steps
    have kv : v ≤ k := by rcases kdec v0 k0 with e | e; rw [e]; exact Int32.le_refl _; exact zo4 e
    have kk : 0 ≤ k := zo2 v0 kv
    have nk := nn _ (o.2.2 k kk k1).1.1 (o.2.2 k kk k1).1.2.1
    have ayk := (ay _ (o.2.2 k kk k1).1.1 (o.2.2 k kk k1).1.2.1).1 k2
    rw [same k kv k1] at k3
    refine ⟨fun k5 => ?_, fun k5 => ?_⟩
    · have nf : ¬ ar r1 22 (ar r1 30 k.toNatClampNeg).toNatClampNeg = -1 := ayk.1.mpr (fa1 _ _ _ k5).2
      have p0 := chi _ nk.2.2.1 nf nk.2.2.2.1
      rcases kdec v0 k0 with e | e
      · subst e
        exact (hd _ p0 c1).mpr (Or.inr (Or.inl ⟨nf, rfl, c, k3, k5⟩))
      · exact grow _ p0 c1 ((h6 k e k1 k2 c c1 k3 k4).1 k5)
    · have nf : ¬ ar r1 23 (ar r1 30 k.toNatClampNeg).toNatClampNeg = -1 := ayk.2.mpr (fa2 _ _ _ k5).2
      have p0 := chi _ nk.2.2.2.2.1 nf nk.2.2.2.2.2.1
      rcases kdec v0 k0 with e | e
      · subst e
        exact (hd _ p0 c1).mpr (Or.inr (Or.inr ⟨nf, rfl, c, k3, k5⟩))
      · exact grow _ p0 c1 ((h6 k e k1 k2 c c1 k3 k4).2 k5)
  · rw [e25]
    refine h7 x x0 (fun k k0 k1 k2 k3 k4 => ?_)
    have := hx k (kdec2 v0 k0) k1 k2 k3 k4
    rw [← k2, same k (zo4 k0) k1] at this
    rw [← k2]
    exact this
  · rcases kdec v0 k0 with e | e
    · rw [e] at k2
      exact absurd k2 nv
    · rw [same k (zo4 e) k1] at k4 ⊢
      rw [e25]
      exact h8 k e k1 k2 k3 k4
  · rw [e24]
    exact h9 x x0 (fun k k0 k1 => hx k (kdec2 v0 k0) k1)
  · rcases kdec v0 k0 with e | e
    · rw [e] at k2
      exact absurd k2 nv
    · rw [same k (zo4 e) k1, e24]
      exact h10 k e k1 k2 k3 k4 c
  · rw [hl, h11]
    constructor
    · rintro ((q | ⟨k, c, q1, q2, q3, q4, q5⟩) | ⟨c, q1, q2⟩)
      · exact Or.inl q
      · exact Or.inr ⟨k, c, kdec2 v0 q1, q2, q3, by rw [same k (zo4 q1) q2]; exact q4, q5⟩
      · exact Or.inr ⟨v, c, kdec3 v0, v1, hv, by rw [same v (Int32.le_refl _) v1]; exact q1, q2⟩
    · rintro (q | ⟨k, c, q1, q2, q3, q4, q5⟩)
      · exact Or.inl (Or.inl q)
      · rcases kdec v0 q1 with e | e
        · subst e
          rw [same k (Int32.le_refl _) v1] at q4
          exact Or.inr ⟨c, q4, q5⟩
        · rw [same k (zo4 e) q2] at q4
          exact Or.inl (Or.inr ⟨k, c, e, q2, q3, q4, q5⟩)
  · rw [e10, h12]
    constructor
    · rintro (q | ⟨k, q1, q2, q3, q4, q5⟩)
      · exact Or.inl q
      · exact Or.inr ⟨k, kdec2 v0 q1, q2, q3, by rw [same k (zo4 q1) q2]; exact q4, q5⟩
    · rintro (q | ⟨k, q1, q2, q3, q4, q5⟩)
      · exact Or.inl q
      · rcases kdec v0 q1 with e | e
        · rw [e] at q3
          exact absurd q3 nv
        · rw [same k (zo4 e) q2] at q4
          exact Or.inr ⟨k, e, q2, q3, q4, q5⟩
  · rw [l4 x d, e25]
    constructor
    · rintro ⟨d8, k, q1, q2, q3, q4, q5, q6, q7⟩
      refine ⟨d8, k, kdec2 v0 q1, q2, q3, q4, q5, ?_, q7⟩
      rw [← q3, same k (zo4 q1) q2, q3]
      exact q6
    · rintro ⟨d8, k, q1, q2, q3, q4, q5, q6, q7⟩
      rcases kdec v0 q1 with e | e
      · rw [e] at q3
        rw [← q3] at q4
        exact absurd q4 nv
      · rw [← q3, same k (zo4 e) q2, q3] at q6
        exact ⟨d8, k, e, q2, q3, q4, q5, q6, q7⟩
end
end ZCSET
