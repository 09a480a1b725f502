/-! Leaves from left to right; what is new, in its order. -/
section ZLVS
variable {a1 a2 : Int32 → Prop} {g g2 : Gr} {ρ σ : Int32 → Ut}
def lvn (g : Gr) : Nat → Int32 → List Int32
  | 0, _ => []
  | n + 1, x => if 0 ≤ gH g x then (if gF g x = -1 then [] else lvn g n (gR g (gF g x))) ++ (if gS g x = -1 then [] else lvn g n (gR g (gS g x))) else [x]
theorem pt_len (w : zGW a1 a2 g) (v : zVal g ρ) {x : Int32} (hx : zRn g x) (hb : 0 ≤ gH g x) : ρ x = Jn (gH g x) (ρ (gF g x)) (ρ (gS g x)) ∧ (¬ gF g x = -1 → zRn g (gR g (gF g x)) ∧ ρ (gF g x) = ρ (gR g (gF g x)) ∧ (ρ (gR g (gF g x))).length < (ρ x).length) ∧ (¬ gS g x = -1 → zRn g (gR g (gS g x)) ∧ ρ (gS g x) = ρ (gR g (gS g x)) ∧ (ρ (gR g (gS g x))).length < (ρ x).length) := by
  have k := v.2 x hx.1
  rw [hx.2] at k
  have e := k.2 hb
  have n := w.2 x hx
  have len := congrArg List.length e
  rw [Jn_len] at len
  refine ⟨e, fun h => ?_, fun h => ?_⟩
  · have nx := n.1.resolve_left h
    have q := (v.2 _ nx).1
    exact ⟨w.1 _ nx, q, by rw [← q]; omega⟩
  · have nx := n.2.1.resolve_left h
    have q := (v.2 _ nx).1
    exact ⟨w.1 _ nx, q, by rw [← q]; omega⟩
theorem lvn_eq (w : zGW a1 a2 g) (v : zVal g ρ) : ∀ (n m : Nat) (x : Int32), zRn g x → (ρ x).length < n → (ρ x).length < m → lvn g n x = lvn g m x := by
  intro n
  induction n with
  | zero => intro m x _ h; omega
  | succ n ih =>
    intro m x hx h1 h2
    cases m with
    | zero => omega
    | succ m =>
      rw [lvn, lvn]
      by_cases hb : 0 ≤ gH g x
      · obtain ⟨_, p1, p2⟩ := pt_len w v hx hb
        rw [if_pos hb, if_pos hb]
        by_cases q1 : gF g x = -1
        · rw [if_pos q1, if_pos q1]
          by_cases q2 : gS g x = -1
          · rw [if_pos q2, if_pos q2]
          · have k := p2 q2
            rw [if_neg q2, if_neg q2, ih m _ k.1 (by omega) (by omega)]
        · have k1 := p1 q1
          rw [if_neg q1, if_neg q1, ih m _ k1.1 (by omega) (by omega)]
          by_cases q2 : gS g x = -1
          · rw [if_pos q2, if_pos q2]
          · have k := p2 q2
            rw [if_neg q2, if_neg q2, ih m _ k.1 (by omega) (by omega)]
      · rw [if_neg hb, if_neg hb]
/-- the leaves of a root -/
def LVS (g : Gr) (ρ : Int32 → Ut) (x : Int32) : List Int32 := lvn g ((ρ x).length + 1) x
def pL (g : Gr) (ρ : Int32 → Ut) (p : Int32) : List Int32 := if p = -1 then [] else LVS g ρ (gR g p)
theorem LVS_v {x : Int32} (h : ¬ 0 ≤ gH g x) : LVS g ρ x = [x] := by
  unfold LVS
  rw [lvn, if_neg h]
theorem LVS_b (w : zGW a1 a2 g) (v : zVal g ρ) {x : Int32} (hx : zRn g x) (hb : 0 ≤ gH g x) : LVS g ρ x = pL g ρ (gF g x) ++ pL g ρ (gS g x) := by
  obtain ⟨_, p1, p2⟩ := pt_len w v hx hb
  unfold LVS pL
  rw [lvn, if_pos hb]
  congr 1
  · by_cases q : gF g x = -1
    · rw [if_pos q, if_pos q]
    · have k := p1 q
      rw [if_neg q, if_neg q]
      exact lvn_eq w v _ _ _ k.1 k.2.2 (Nat.lt_succ_self _)
  · by_cases q : gS g x = -1
    · rw [if_pos q, if_pos q]
    · have k := p2 q
      rw [if_neg q, if_neg q]
      exact lvn_eq w v _ _ _ k.1 k.2.2 (Nat.lt_succ_self _)
theorem LVS_irr (w : zGW a1 a2 g) (v : zVal g ρ) (v2 : zVal g σ) {x : Int32} (hx : zRn g x) : LVS g ρ x = LVS g σ x := by
  unfold LVS
  have e1 := lvn_eq w v ((ρ x).length + 1) (max (ρ x).length (σ x).length + 1) x hx (by omega) (by omega)
  have e2 := lvn_eq w v2 ((σ x).length + 1) (max (ρ x).length (σ x).length + 1) x hx (by omega) (by omega)
  rw [e1, e2]
/-- leaves are variables that are reached -/
theorem LVS_in (w : zGW a1 a2 g) (v : zVal g ρ) : ∀ (n : Nat) (x : Int32), zRn g x → (ρ x).length < n → ∀ u, u ∈ LVS g ρ x ↔ zVR g u ∧ zRc g x u := by
  intro n
  induction n with
  | zero => intro x _ h; omega
  | succ n ih =>
    intro x hx hl u
    have r0 : zRc g x x := by have := zRc_0 (g := g) (x := x); rw [hx.2] at this; exact this
    by_cases hb : 0 ≤ gH g x
    · obtain ⟨_, p1, p2⟩ := pt_len w v hx hb
      rw [LVS_b w v hx hb, List.mem_append]
      have s1 : u ∈ pL g ρ (gF g x) ↔ ¬ gF g x = -1 ∧ zVR g u ∧ zRc g (gR g (gF g x)) u := by
        unfold pL
        by_cases q : gF g x = -1
        · rw [if_pos q]
          exact ⟨fun h => absurd h List.not_mem_nil, fun h => absurd q h.1⟩
        · rw [if_neg q, ih _ (p1 q).1 (by have := (p1 q).2.2; omega) u]
          exact ⟨fun h => ⟨q, h⟩, fun h => h.2⟩
      have s2 : u ∈ pL g ρ (gS g x) ↔ ¬ gS g x = -1 ∧ zVR g u ∧ zRc g (gR g (gS g x)) u := by
        unfold pL
        by_cases q : gS g x = -1
        · rw [if_pos q]
          exact ⟨fun h => absurd h List.not_mem_nil, fun h => absurd q h.1⟩
        · rw [if_neg q, ih _ (p2 q).1 (by have := (p2 q).2.2; omega) u]
          exact ⟨fun h => ⟨q, h⟩, fun h => h.2⟩
      rw [s1, s2]
      have tr : ∀ p : Int32, zRn g (gR g p) → zRc g x (gR g p) → zRc g (gR g p) u → zRc g x u := fun p hp h1 h2 S g1 g2 => h2 S (by rw [hp.2]; exact h1 S g1 g2) g2
      constructor
      · rintro (⟨q, h1, h2⟩ | ⟨q, h1, h2⟩)
        · exact ⟨h1, tr _ (p1 q).1 (zRc_1 r0 hx q) h2⟩
        · exact ⟨h1, tr _ (p2 q).1 (zRc_2 r0 hx q) h2⟩
      · rintro ⟨h1, h2⟩
        have key := h2 (fun y => zRn g y ∧ (y = x ∨ (¬ gF g x = -1 ∧ zRc g (gR g (gF g x)) y) ∨ (¬ gS g x = -1 ∧ zRc g (gR g (gS g x)) y))) (by rw [hx.2]; exact ⟨hx, Or.inl rfl⟩) (fun y hy hs => ⟨fun q => ⟨zGW_1 w hy q, ?_⟩, fun q => ⟨zGW_2 w hy q, ?_⟩⟩)
        · rcases key.2 with e | e | e
          · rw [e] at h1
            exact absurd hb h1.2
          · exact Or.inl ⟨e.1, h1, e.2⟩
          · exact Or.inr ⟨e.1, h1, e.2⟩
        · rcases hs.2 with e | e | e
          · rw [e] at q ⊢
            exact Or.inr (Or.inl ⟨q, by have := zRc_0 (g := g) (x := gR g (gF g x)); rw [(p1 q).1.2] at this; exact this⟩)
          · exact Or.inr (Or.inl ⟨e.1, zRc_1 e.2 hy q⟩)
          · exact Or.inr (Or.inr ⟨e.1, zRc_1 e.2 hy q⟩)
        · rcases hs.2 with e | e | e
          · rw [e] at q ⊢
            exact Or.inr (Or.inr ⟨q, by have := zRc_0 (g := g) (x := gR g (gS g x)); rw [(p2 q).1.2] at this; exact this⟩)
          · exact Or.inr (Or.inl ⟨e.1, zRc_2 e.2 hy q⟩)
          · exact Or.inr (Or.inr ⟨e.1, zRc_2 e.2 hy q⟩)
    · rw [LVS_v hb, List.mem_singleton]
      constructor
      · intro e
        rw [e]
        exact ⟨⟨hx, hb⟩, r0⟩
      · rintro ⟨h1, h2⟩
        have n := (w.2 x hx).2.2.2 hb
        exact h2 (fun y => y = x) hx.2 (fun y hy e => ⟨fun q => absurd n.1 (by rw [e] at q; exact q), fun q => absurd n.2 (by rw [e] at q; exact q)⟩)
theorem Atm_nJn {v h : Int32} {a b : Ut} : ¬ Atm v = Jn h a b := fun e => Jn_Atm e.symm
/-- trees that are equal have equal leaves -/
theorem LVS_ag (w : zGW a1 a2 g) (w2 : zGW a1 a2 g2) (v : zVal g ρ) (v2 : zVal g2 σ) : ∀ (n : Nat) (x y : Int32), zRn g x → zRn g2 y → (ρ x).length < n → ρ x = σ y → (∀ u, zVR g u → zRc g x u → ∃ b, ρ u = Atm b) → (∀ u, zVR g2 u → zRc g2 y u → ∃ b, σ u = Atm b) → (LVS g ρ x).map ρ = (LVS g2 σ y).map σ := by
  intro n
  induction n with
  | zero => intro x y _ _ h; omega
  | succ n ih =>
    intro x y hx hy hl e t1 t2
    have rx : zRc g x x := by have := zRc_0 (g := g) (x := x); rw [hx.2] at this; exact this
    have ry : zRc g2 y y := by have := zRc_0 (g := g2) (x := y); rw [hy.2] at this; exact this
    by_cases hb : 0 ≤ gH g x
    · obtain ⟨j1, p1, p2⟩ := pt_len w v hx hb
      by_cases hb2 : 0 ≤ gH g2 y
      · obtain ⟨j2, q1, q2⟩ := pt_len w2 v2 hy hb2
        rw [j1, j2] at e
        obtain ⟨e1, e2, e3⟩ := Jn_inj e
        rw [LVS_b w v hx hb, LVS_b w2 v2 hy hb2, List.map_append, List.map_append]
        have n1 := (w.2 x hx).2.2.1 hb
        have n2 := (w2.2 y hy).2.2.1 hb2
        rw [← e1] at n2
        have tr : ∀ p u : Int32, zRn g (gR g p) → zRc g x (gR g p) → zRc g (gR g p) u → zRc g x u := fun p u hp h1 h2 S g1 g2 => h2 S (by rw [hp.2]; exact h1 S g1 g2) g2
        have tr2 : ∀ p u : Int32, zRn g2 (gR g2 p) → zRc g2 y (gR g2 p) → zRc g2 (gR g2 p) u → zRc g2 y u := fun p u hp h1 h2 S g1 g2 => h2 S (by rw [hp.2]; exact h1 S g1 g2) g2
        have i1 : (pL g ρ (gF g x)).map ρ = (pL g2 σ (gF g2 y)).map σ := by
          unfold pL
          by_cases q : gF g x = -1
          · have q' : gF g2 y = -1 := Classical.byContradiction (fun z => (n1.1.mpr (n2.1.mp z)) q)
            rw [if_pos q, if_pos q']
            rfl
          · have q' : ¬ gF g2 y = -1 := n2.1.mpr (n1.1.mp q)
            have k1 := p1 q
            have k2 := q1 q'
            rw [if_neg q, if_neg q']
            exact ih _ _ k1.1 k2.1 (by omega) (by rw [← k1.2.1, ← k2.2.1]; exact e2) (fun u hu hc => t1 u hu (tr _ u k1.1 (zRc_1 rx hx q) hc)) (fun u hu hc => t2 u hu (tr2 _ u k2.1 (zRc_1 ry hy q') hc))
        have i2 : (pL g ρ (gS g x)).map ρ = (pL g2 σ (gS g2 y)).map σ := by
          unfold pL
          by_cases q : gS g x = -1
          · have q' : gS g2 y = -1 := Classical.byContradiction (fun z => (n1.2.mpr (n2.2.mp z)) q)
            rw [if_pos q, if_pos q']
            rfl
          · have q' : ¬ gS g2 y = -1 := n2.2.mpr (n1.2.mp q)
            have k1 := p2 q
            have k2 := q2 q'
            rw [if_neg q, if_neg q']
            exact ih _ _ k1.1 k2.1 (by omega) (by rw [← k1.2.1, ← k2.2.1]; exact e3) (fun u hu hc => t1 u hu (tr _ u k1.1 (zRc_2 rx hx q) hc)) (fun u hu hc => t2 u hu (tr2 _ u k2.1 (zRc_2 ry hy q') hc))
        rw [i1, i2]
      · obtain ⟨b, eb⟩ := t2 y ⟨hy, hb2⟩ ry
        rw [j1, eb] at e
        exact absurd e.symm Atm_nJn
    · obtain ⟨b, eb⟩ := t1 x ⟨hx, hb⟩ rx
      by_cases hb2 : 0 ≤ gH g2 y
      · obtain ⟨j2, _⟩ := pt_len w2 v2 hy hb2
        rw [eb, j2] at e
        exact absurd e Atm_nJn
      · rw [LVS_v hb, LVS_v hb2]
        show [ρ x] = [σ y]
        rw [e]
/-- what is new, in its order -/
def dd {α : Type} [DecidableEq α] (D : List α) : List α → List α
  | [] => D
  | x :: l => dd (if x ∈ D then D else D ++ [x]) l
theorem dd_app {α : Type} [DecidableEq α] : ∀ (l m D : List α), dd D (l ++ m) = dd (dd D l) m := by
  intro l
  induction l with
  | nil => intro m D; rfl
  | cons x l ih => intro m D; rw [List.cons_append, dd, dd, ih]
theorem dd_sub {α : Type} [DecidableEq α] : ∀ (l D : List α), (∀ x, x ∈ l → x ∈ D) → dd D l = D := by
  intro l
  induction l with
  | nil => intro D _; rfl
  | cons x l ih =>
    intro D h
    rw [dd, if_pos (h x List.mem_cons_self), ih D (fun y hy => h y (List.mem_cons_of_mem _ hy))]
theorem dd_mem {α : Type} [DecidableEq α] : ∀ (l D : List α) (y : α), y ∈ dd D l ↔ y ∈ D ∨ y ∈ l := by
  intro l
  induction l with
  | nil => intro D y; rw [dd]; exact ⟨Or.inl, fun h => h.resolve_right List.not_mem_nil⟩
  | cons x l ih =>
    intro D y
    rw [dd, ih, List.mem_cons]
    by_cases q : x ∈ D
    · rw [if_pos q]
      constructor
      · rintro (h | h)
        · exact Or.inl h
        · exact Or.inr (Or.inr h)
      · rintro (h | h | h)
        · exact Or.inl h
        · rw [h]; exact Or.inl q
        · exact Or.inr h
    · rw [if_neg q, List.mem_append, List.mem_singleton]
      constructor
      · rintro ((h | h) | h)
        · exact Or.inl h
        · exact Or.inr (Or.inl h)
        · exact Or.inr (Or.inr h)
      · rintro (h | h | h)
        · exact Or.inl (Or.inl h)
        · exact Or.inl (Or.inr h)
        · exact Or.inr h
theorem dd_up {α : Type} {D l : List α} {x a : α} (h : a ∈ D ++ [x] ∨ a ∈ l) : a ∈ D ∨ a ∈ x :: l := by
  rcases h with h | h
  · rcases List.mem_append.mp h with h | h
    · exact Or.inl h
    · rw [List.mem_singleton.mp h]
      exact Or.inr List.mem_cons_self
  · exact Or.inr (List.mem_cons_of_mem _ h)
theorem dd_map {α β : Type} [DecidableEq α] [DecidableEq β] (f : α → β) : ∀ (l D : List α), (∀ x y, (x ∈ D ∨ x ∈ l) → (y ∈ D ∨ y ∈ l) → f x = f y → x = y) → (dd D l).map f = dd (D.map f) (l.map f) := by
  intro l
  induction l with
  | nil => intro D _; rfl
  | cons x l ih =>
    intro D h
    rw [dd, List.map_cons, dd]
    have e : x ∈ D ↔ f x ∈ D.map f := ⟨fun q => List.mem_map.mpr ⟨x, q, rfl⟩, fun q => by
      obtain ⟨y, y1, y2⟩ := List.mem_map.mp q
      rw [← h y x (Or.inl y1) (Or.inr List.mem_cons_self) y2]
      exact y1⟩
    by_cases q : x ∈ D
    · rw [if_pos q, if_pos (e.mp q)]
      exact ih D (fun a b ha hb => h a b (ha.elim Or.inl (fun z => Or.inr (List.mem_cons_of_mem _ z))) (hb.elim Or.inl (fun z => Or.inr (List.mem_cons_of_mem _ z))))
    · rw [if_neg q, if_neg (fun z => q (e.mpr z)), ih (D ++ [x]) (fun a b ha hb => h a b (dd_up ha) (dd_up hb)), List.map_append]
      rfl
theorem dd_nd {α : Type} [DecidableEq α] : ∀ (l D : List α), D.Nodup → (dd D l).Nodup := by
  intro l
  induction l with
  | nil => intro D h; exact h
  | cons x l ih =>
    intro D h
    rw [dd]
    by_cases q : x ∈ D
    · rw [if_pos q]; exact ih D h
    · rw [if_neg q]
      refine ih _ (List.nodup_append.mpr ⟨h, List.nodup_cons.mpr ⟨List.not_mem_nil, List.nodup_nil⟩, fun a ha b hb e => ?_⟩)
      rw [List.mem_singleton.mp hb] at e
      rw [e] at ha
      exact q ha
theorem nd_le {D : List Int32} (nd : D.Nodup) {n : Nat} {f : Nat → Int32} (h : ∀ x, x ∈ D → ∃ i, i < n ∧ f i = x) : D.length ≤ n := by
  have k := inj_len (D.map (fun x => (x, 0))) ((List.range n).map (fun i => (f i, 0))) (fun p q => p = q) (List.Pairwise.map _ (fun x y hxy e => hxy (congrArg Prod.fst e)) nd) (fun p hp => by
    obtain ⟨x, x1, x2⟩ := List.mem_map.mp hp
    obtain ⟨i, i1, i2⟩ := h x x1
    exact ⟨p, List.mem_map.mpr ⟨i, List.mem_range.mpr i1, by rw [i2]; exact x2⟩, rfl⟩) (fun x x' y _ _ e1 e2 => e1.trans e2.symm)
  rw [List.length_map, List.length_map, List.length_range] at k
  exact k
end ZLVS
