/-! The class's settling: what is open; what is asked is gathered. -/
section ZCOPEN
variable {a : L_} {r r' : S_} {rh ta rk : Int32 → Int32} {N : Int32}
theorem AYc_fs (h11 : fi r' 11 = fi r 11) (h0 : ar r' 0 = ar r 0) (h21 : ar r' 21 = ar r 21) (h23 : ar r' 23 = ar r 23) (hf : FS (fi r 11) (ar r 21) (ar r 22) (ar r' 22)) (ay : AYc r) : AYc r' := by
  intro x x0 x1
  rw [h11] at x1
  have k := ay x x0 x1
  rw [h0, h21, h23]
  refine ⟨fun e => ?_, fun e => ?_⟩
  · rw [hf x x0 x1 (fun z => by rw [z] at e; exact absurd e (by decide))]
    exact k.1 e
  · rw [hf x x0 x1 (fun z => by rw [z] at e; exact absurd e (by decide))]
    exact k.2 e
theorem ws_firstOf (hI : GI a r rh ta N) {p0 : Int32} (h1 : 0 ≤ p0) (h2 : p0 < fi r 11) {K : Int32 → S_ → Prop} (hK0 : ar r 22 p0.toNatClampNeg = -1 → K (-1) r) (hK : ¬ ar r 22 p0.toNatClampNeg = -1 → ∀ f, GI a (sA r 22 f) rh ta N → FS (fi r 11) (ar r 21) (ar r 22) f → K (rh (ar r 22 p0.toNatClampNeg)) (sA r 22 f)) : wG_firstOf a K r p0 := by
  unfold wG_firstOf
  have n := hI.2.2.2.1 p0 h1 h2
  refine fun _ => ⟨fun g _ => ?_, fun g => hK0 g⟩
  exact ws_settled hI (by have := n.2.2.1; clear hI n hK hK0; grind) n.2.2.2.1 (hK g)
theorem ws_secondOf (hI : GI a r rh ta N) {p0 : Int32} (h1 : 0 ≤ p0) (h2 : p0 < fi r 11) {K : Int32 → S_ → Prop} (hK0 : ar r 23 p0.toNatClampNeg = -1 → K (-1) r) (hK : ¬ ar r 23 p0.toNatClampNeg = -1 → ∀ f, GI a (sA r 22 f) rh ta N → FS (fi r 11) (ar r 21) (ar r 22) f → K (rh (ar r 23 p0.toNatClampNeg)) (sA r 22 f)) : wG_secondOf a K r p0 := by
  unfold wG_secondOf
  have n := hI.2.2.2.1 p0 h1 h2
  refine fun _ => ⟨fun g _ => ?_, fun g => hK0 g⟩
  exact ws_settled hI (by have := n.2.2.2.2.1; clear hI n hK hK0; grind) n.2.2.2.2.2.1 (hK g)
theorem ws_holdsOpen {x : Int32} {K : Int32 → Prop} (h1 : ¬ x = -1 → ar r 26 x.toNatClampNeg = 1 → K 1) (h0 : (x = -1 ∨ ¬ ar r 26 x.toNatClampNeg = 1) → K 0) : wY_holdsOpen a r K x := ⟨fun e _ => h0 (Or.inl e), fun e _ => ⟨fun g _ => h0 (Or.inr g), fun g _ => h1 e g⟩⟩
/-- the order: each once, parts before wholes -/
def ORD (r : S_) (rh : Int32 → Int32) : Prop := 0 ≤ fi r 12 ∧ DO0 r ∧ ∀ k : Int32, 0 ≤ k → k < fi r 12 → (0 ≤ ar r 30 k.toNatClampNeg ∧ ar r 30 k.toNatClampNeg < fi r 11 ∧ ¬ ar r 21 (ar r 30 k.toNatClampNeg).toNatClampNeg = -2) ∧ (¬ ar r 22 (ar r 30 k.toNatClampNeg).toNatClampNeg = -1 → ∃ j : Int32, 0 ≤ j ∧ j < k ∧ ar r 30 j.toNatClampNeg = rh (ar r 22 (ar r 30 k.toNatClampNeg).toNatClampNeg)) ∧ (¬ ar r 23 (ar r 30 k.toNatClampNeg).toNatClampNeg = -1 → ∃ j : Int32, 0 ≤ j ∧ j < k ∧ ar r 30 j.toNatClampNeg = rh (ar r 23 (ar r 30 k.toNatClampNeg).toNatClampNeg))
theorem PW_ORD (w : PW a r rh ta N True rk) (d : DO0 r) : ORD r rh := by
  refine ⟨(ordL w).1, d, fun k k0 k1 => ?_⟩
  have b := ord_in w k0 k1
  have w3 := (w.2.2.2.2.2.1 trivial).2.2.2 k k0 k1
  exact ⟨⟨b.1, b.2.1, b.2.2.1⟩, w3.1, w3.2⟩
theorem ORD_fs (o : ORD r rh) (h11 : fi r' 11 = fi r 11) (h12 : fi r' 12 = fi r 12) (h21 : ar r' 21 = ar r 21) (h23 : ar r' 23 = ar r 23) (h30 : ar r' 30 = ar r 30) (hf : FS (fi r 11) (ar r 21) (ar r 22) (ar r' 22)) : ORD r' rh := by
  obtain ⟨o1, o2, o3⟩ := o
  refine ⟨by rw [h12]; exact o1, ?_, fun k k0 k1 => ?_⟩
  · unfold DO0 at o2 ⊢
    rw [h12, h30]
    exact o2
  · rw [h12] at k1
    have q := o3 k k0 k1
    rw [h11, h21, h23, h30, hf _ q.1.1 q.1.2.1 q.1.2.2]
    exact q
def OPv (r : S_) (rh : Int32 → Int32) (u : Int32) : Prop := ∃ v, Rq r rh u v ∧ ar r 21 v.toNatClampNeg = -1 ∧ ¬ ar r 27 v.toNatClampNeg = fi r 6
theorem OPv_rh (hI : GI a r rh ta N) {x : Int32} (x0 : 0 ≤ x) (x1 : x < fi r 11) : OPv r rh (rh x) ↔ OPv r rh x := by
  have b := hI.2.2.2.2.1.2 x x0 x1
  have e : rh (rh x) = rh x := (hI.2.2.2.2.1.2 (rh x) b.1 b.2.1).2.2.2.1 b.2.2.1
  unfold OPv Rq
  rw [e]
theorem OPv_c (hI : GI a r rh ta N) {u : Int32} (h0 : 0 ≤ u) (h1 : u < fi r 11) (h2 : ¬ ar r 21 u.toNatClampNeg = -2) (h3 : ¬ ar r 21 u.toNatClampNeg = -1) : OPv r rh u ↔ (¬ ar r 22 u.toNatClampNeg = -1 ∧ OPv r rh (ar r 22 u.toNatClampNeg)) ∨ (¬ ar r 23 u.toNatClampNeg = -1 ∧ OPv r rh (ar r 23 u.toNatClampNeg)) := by
  have hu : rh u = u := (hI.2.2.2.2.1.2 u h0 h1).2.2.2.1 h2
  have cl := Rq_cl (r := r) (rh := rh) (x := u) u h0 h1 h2 (by have := Rq_0 (r := r) (rh := rh) (x := u); rw [hu] at this; exact this)
  constructor
  · rintro ⟨v, v1, v2, v3⟩
    rcases Rq_inv hu v1 h0 h1 h2 with e | ⟨e1, e2⟩ | ⟨e1, e2⟩
    · rw [e] at v2
      exact absurd v2 h3
    · exact Or.inl ⟨e1, v, e2, v2, v3⟩
    · exact Or.inr ⟨e1, v, e2, v2, v3⟩
  · rintro (⟨e, v, v1, v2, v3⟩ | ⟨e, v, v1, v2, v3⟩)
    · exact ⟨v, fun S hS hx => v1 S hS (cl.1 e S hS hx), v2, v3⟩
    · exact ⟨v, fun S hS hx => v1 S hS (cl.2 e S hS hx), v2, v3⟩
theorem OPv_v (hI : GI a r rh ta N) (ay : AYc r) {u : Int32} (h0 : 0 ≤ u) (h1 : u < fi r 11) (h3 : ar r 21 u.toNatClampNeg = -1) : OPv r rh u ↔ ¬ ar r 27 u.toNatClampNeg = fi r 6 := by
  have h2 : ¬ ar r 21 u.toNatClampNeg = -2 := by rw [h3]; decide
  have hu : rh u = u := (hI.2.2.2.2.1.2 u h0 h1).2.2.2.1 h2
  have nc := (ay u h0 h1).2 h3
  constructor
  · rintro ⟨v, v1, v2, v3⟩
    rcases Rq_inv hu v1 h0 h1 h2 with e | ⟨e1, _⟩ | ⟨e1, _⟩
    · rw [← e]; exact v3
    · exact absurd nc.1 e1
    · exact absurd nc.2 e1
  · intro h
    refine ⟨u, ?_, h3, h⟩
    have := Rq_0 (r := r) (rh := rh) (x := u)
    rw [hu] at this
    exact this
def OPI (r0 r : S_) (rh : Int32 → Int32) (v : Int32) : Prop := (∀ k : Int32, 0 ≤ k → k < v → (ar r 26 (ar r0 30 k.toNatClampNeg).toNatClampNeg = 1 ↔ OPv r0 rh (ar r0 30 k.toNatClampNeg))) ∧ ∀ x : Int32, 0 ≤ x → (∀ k : Int32, 0 ≤ k → k < v → ¬ ar r0 30 k.toNatClampNeg = x) → ar r 26 x.toNatClampNeg = ar r0 26 x.toNatClampNeg
theorem OPI_22 {r0 : S_} {v : Int32} {f : Nat → Int32} (h : OPI r0 r rh v) : OPI r0 (sA r 22 f) rh v := h
theorem OPI_next {r0 : S_} {v u0 : Int32} (o : ORD r0 rh) (v0 : 0 ≤ v) (v1 : v < fi r0 12) (vb : v < 20000) (h : OPI r0 r rh v) (hu : u0 = 1 ↔ OPv r0 rh (ar r0 30 v.toNatClampNeg)) : OPI r0 (sA r 26 (upd (ar r 26) (ar r0 30 v.toNatClampNeg).toNatClampNeg u0)) rh (v + 1) := by
  have b := (o.2.2 v v0 v1).1
  refine ⟨fun k k0 k1 => ?_, fun x x0 hx => ?_⟩
  · have bk : 0 ≤ ar r0 30 k.toNatClampNeg := (o.2.2 k k0 (zo3 k1 (by clear o h hu b; grind))).1.1
    show upd (ar r 26) (ar r0 30 v.toNatClampNeg).toNatClampNeg u0 (ar r0 30 k.toNatClampNeg).toNatClampNeg = 1 ↔ _
    rw [updI _ _ b.1 bk]
    by_cases e : k = v
    · rw [e, if_pos rfl]
      exact hu
    · have kv := ps2 vb k1 e
      rw [if_neg (o.2.1 k v k0 kv v1)]
      exact h.1 k k0 kv
  · show upd (ar r 26) (ar r0 30 v.toNatClampNeg).toNatClampNeg u0 x.toNatClampNeg = _
    rw [updI _ _ b.1 x0, if_neg (fun e => hx v v0 (ps3 vb) e.symm)]
    exact h.2 x x0 (fun k k0 k1 => hx k k0 (ps vb k1))
theorem ws_mo17 {r0 : S_} (hI0 : GI a r0 rh ta N) (ay : AYc r0) (o : ORD r0 rh) (ob : fi r0 12 < 20000) {KX : S_ → Prop} (hK : ∀ r', GI a r' rh ta N → FS (fi r0 11) (ar r0 21) (ar r0 22) (ar r' 22) → Fr [] [22, 26] r0 r' → OPI r0 r' rh (fi r0 12) → KX r') : ∀ (n : Nat) (r : S_) (v : Int32), GI a r rh ta N → FS (fi r0 11) (ar r0 21) (ar r0 22) (ar r 22) → Fr [] [22, 26] r0 r → 0 ≤ v → v ≤ fi r0 12 → OPI r0 r rh v → wY_markOpen_L17 a KX n r v := by
  intro n
  induction n with
  | zero => intro r v _ _ _ _ _ _; trivial
  | succ n ih =>
    intro r v hI hf F v0 v1 h
    have f12 : fi r 12 = fi r0 12 := F.1 12 (by decide)
    have f11 : fi r 11 = fi r0 11 := F.1 11 (by decide)
    have f6 : fi r 6 = fi r0 6 := F.1 6 (by decide)
    have e30 : ar r 30 = ar r0 30 := F.2.1 30 (by decide)
    have e21 : ar r 21 = ar r0 21 := F.2.1 21 (by decide)
    have e23 : ar r 23 = ar r0 23 := F.2.1 23 (by decide)
    have e27 : ar r 27 = ar r0 27 := F.2.1 27 (by decide)
    rw [wY_markOpen_L17, f12, e30]
    refine ⟨fun g => hK r hI hf F ?_, fun g _ => ?_⟩
    · have e : v = fi r0 12 := by clear h ih hI hI0 hf o ay; grind
      rw [← e]
      exact h
    have hlt : v < fi r0 12 := Int32.not_le.mp g
    have vb : v < 20000 := ltt hlt ob
    obtain ⟨⟨u0, u1, u2⟩, u3, u4⟩ := o.2.2 v v0 hlt
    have c1 : 0 ≤ v + 1 := by clear h ih hI hI0 hf o ay u3 u4; grind
    have c2 : v + 1 ≤ fi r0 12 := by clear h ih hI hI0 hf o ay u3 u4; grind
    -- behind the flag
    have fin : ∀ (r2 : S_) (z : Int32), GI a r2 rh ta N → FS (fi r0 11) (ar r0 21) (ar r0 22) (ar r2 22) → Fr [] [22, 26] r0 r2 → OPI r0 r2 rh v → (z = 0 ∨ z = 1) → (z = 1 ↔ OPv r0 rh (ar r0 30 v.toNatClampNeg)) → wY_markOpen_J108 a (wY_markOpen_L17 a KX n) KX r2 v (ar r0 30 v.toNatClampNeg) z := by
      intro r2 z i1 i2 i3 i4 z01 i5
      unfold wY_markOpen_J108 wY_markOpen_J128
      refine ⟨fun ez _ r13 e13 => ?_, fun ez _ r13 e13 => ?_⟩
      · rw [e13]
        exact ih _ (v + 1) i1 i2 (Fr_trans i3 (Fr_sA (by decide))) c1 c2 (OPI_next o v0 hlt vb i4 (by rw [← i5, ez]))
      · have e1 : z = 1 := by rcases z01 with k | k; exact absurd k ez; exact k
        rw [e13]
        exact ih _ (v + 1) i1 i2 (Fr_trans i3 (Fr_sA (by decide))) c1 c2 (OPI_next o v0 hlt vb i4 (by rw [← i5, e1]))
    have chf : ∀ r2, Fr [] [22, 26] r0 r2 → OPI r0 r2 rh v → ∀ y : Int32, (∃ j : Int32, 0 ≤ j ∧ j < v ∧ ar r0 30 j.toNatClampNeg = y) → (ar r2 26 y.toNatClampNeg = 1 ↔ OPv r0 rh y) := by
      rintro r2 _ i4 y ⟨j, j0, j1, j2⟩
      rw [← j2]
      exact i4.1 j j0 j1
    unfold wG_isVariable
    rw [e21]
    refine fun _ => ⟨fun gv _ _ => ⟨fun _ => ?_, fun z => absurd rfl z⟩, fun gv _ _ => ⟨fun z => absurd z (by decide), fun _ _ => ?_⟩⟩
    · -- a constructor
      have oc := OPv_c hI0 u0 u1 u2 gv
      have hN := hI0.2.2.2.1 _ u0 u1
      have ef : ar r 22 (ar r0 30 v.toNatClampNeg).toNatClampNeg = ar r0 22 (ar r0 30 v.toNatClampNeg).toNatClampNeg := hf _ u0 u1 u2
      -- the second part
      have snd : ∀ r2, GI a r2 rh ta N → FS (fi r0 11) (ar r0 21) (ar r0 22) (ar r2 22) → Fr [] [22, 26] r0 r2 → OPI r0 r2 rh v → ¬ (¬ ar r0 22 (ar r0 30 v.toNatClampNeg).toNatClampNeg = -1 ∧ OPv r0 rh (ar r0 22 (ar r0 30 v.toNatClampNeg).toNatClampNeg)) → wG_secondOf a (fun z14 r15 => wY_holdsOpen a r15 (fun z16 => zb z16 → ((z16 = 0) → wY_markOpen_J108 a (wY_markOpen_L17 a KX n) KX r15 v (ar r0 30 v.toNatClampNeg) 0) ∧ ((¬ z16 = 0) → wY_markOpen_J103 a (wY_markOpen_L17 a KX n) KX r15 v (ar r0 30 v.toNatClampNeg))) z14) r2 (ar r0 30 v.toNatClampNeg) := by
        intro r2 i1 i2 i3 i4 nof
        have g11 : fi r2 11 = fi r0 11 := i3.1 11 (by decide)
        have g23 : ar r2 23 = ar r0 23 := i3.2.1 23 (by decide)
        have g21 : ar r2 21 = ar r0 21 := i3.2.1 21 (by decide)
        refine ws_secondOf i1 u0 (by rw [g11]; exact u1) (fun e => ?_) (fun e f k1 k2 => ?_)
        · rw [g23] at e
          refine ws_holdsOpen (fun z => absurd rfl z) (fun _ _ => ⟨fun _ => fin r2 0 i1 i2 i3 i4 (Or.inl rfl) ⟨fun z => absurd z (by decide), fun z => ?_⟩, fun z => absurd rfl z⟩)
          rcases oc.mp z with k | k
          · exact absurd k nof
          · exact absurd e k.1
        · rw [g23] at e ⊢
          have i2' : FS (fi r0 11) (ar r0 21) (ar r0 22) f := fun x x0 x1 x2 => (k2 x x0 (by rw [g11]; exact x1) (by rw [g21]; exact x2)).trans (i2 x x0 x1 x2)
          have i3' : Fr [] [22, 26] r0 (sA r2 22 f) := Fr_trans i3 (Fr_sA (by decide))
          have p0 : 0 ≤ ar r0 23 (ar r0 30 v.toNatClampNeg).toNatClampNeg := by have := hN.2.2.2.2.1; clear h ih hI hI0 hf o ay u3 u4 oc hN k1 k2 i1 i2 i4 i2'; grind
          have cf := chf _ i3' i4 _ (u4 e)
          have eq := OPv_rh hI0 p0 hN.2.2.2.2.2.1
          refine ws_holdsOpen (fun _ ho _ => ⟨fun z => absurd z (by decide), fun _ => ?_⟩) (fun ho _ => ⟨fun _ => fin _ 0 k1 i2' i3' i4 (Or.inl rfl) ⟨fun z => absurd z (by decide), fun z => ?_⟩, fun z => absurd rfl z⟩)
          · exact fin _ 1 k1 i2' i3' i4 (Or.inr rfl) ⟨fun _ => oc.mpr (Or.inr ⟨e, eq.mp (cf.mp ho)⟩), fun _ => rfl⟩
          · rcases oc.mp z with k | k
            · exact absurd k nof
            · rcases ho with q | q
              · have b := hI0.2.2.2.2.1.2 _ p0 hN.2.2.2.2.2.1
                rw [q] at b
                exact absurd b.1 (by decide)
              · exact absurd (cf.mpr (eq.mpr k.2)) q
      refine ws_firstOf hI u0 (by rw [f11]; exact u1) (fun e => ?_) (fun e f k1 k2 => ?_)
      · rw [ef] at e
        exact ws_holdsOpen (fun z => absurd rfl z) (fun _ _ => ⟨fun z => absurd rfl z, fun _ => snd r hI hf F h (fun k => k.1 e)⟩)
      · rw [ef] at e ⊢
        have i2' : FS (fi r0 11) (ar r0 21) (ar r0 22) f := fun x x0 x1 x2 => (k2 x x0 (by rw [f11]; exact x1) (by rw [e21]; exact x2)).trans (hf x x0 x1 x2)
        have i3' : Fr [] [22, 26] r0 (sA r 22 f) := Fr_trans F (Fr_sA (by decide))
        have p0 : 0 ≤ ar r0 22 (ar r0 30 v.toNatClampNeg).toNatClampNeg := by have := hN.2.2.1; clear h ih hI hI0 hf o ay u3 u4 oc hN k1 k2 i2' snd; grind
        have cf := chf _ i3' h _ (u3 e)
        have eq := OPv_rh hI0 p0 hN.2.2.2.1
        refine ws_holdsOpen (fun _ ho _ => ⟨fun _ => ?_, fun z => absurd z (by decide)⟩) (fun ho _ => ⟨fun z => absurd rfl z, fun _ => snd _ k1 i2' i3' h (fun k => ?_)⟩)
        · exact fin _ 1 k1 i2' i3' h (Or.inr rfl) ⟨fun _ => oc.mpr (Or.inl ⟨e, eq.mp (cf.mp ho)⟩), fun _ => rfl⟩
        · rcases ho with q | q
          · have b := hI0.2.2.2.2.1.2 _ p0 hN.2.2.2.1
            rw [q] at b
            exact absurd b.1 (by decide)
          · exact absurd (cf.mpr (eq.mpr k.2)) q
    · have ov := OPv_v hI0 ay u0 u1 gv
      rw [e27, f6]
      exact ⟨fun e => fin r 0 hI hf F h (Or.inl rfl) ⟨fun z => absurd z (by decide), fun z => absurd e (ov.mp z)⟩, fun e => fin r 1 hI hf F h (Or.inr rfl) ⟨fun _ => ov.mpr e, fun _ => rfl⟩⟩
theorem ws_markOpen {p0 : Int32} (hI : GI a r rh ta N) (ay : AYc r) (hv : VB r) (hb : fi r 13 < 2000000000) (ac : ACY (fi r 11) (ar r 21) (ar r 22) (ar r 23) rh rk) (x1 : 0 ≤ p0) (x2 : p0 < fi r 11) {K : S_ → Prop} (hK : ∀ r', GI a r' rh ta N → VB r' → fi r' 13 = fi r 13 + 1 → FS (fi r 11) (ar r 21) (ar r 22) (ar r' 22) → Fr [12, 13, 14] [22, 26, 28, 29, 30, 31] r r' → (∀ x : Int32, 0 ≤ x → x < fi r 11 → Rq r rh p0 x → (ar r' 26 x.toNatClampNeg = 1 ↔ OPv r rh x)) → (∀ x : Int32, 0 ≤ x → x < fi r 11 → ¬ Rq r rh p0 x → ar r' 26 x.toNatClampNeg = ar r 26 x.toNatClampNeg) → K r') : wY_markOpen a K r p0 := by
  unfold wY_markOpen
  refine ws_start ?_
  have w0 := PW_start (acy := True) (rk := rk) hI hv hb (fun _ => ac)
  have none0 : ∀ x : Int32, ¬ ar r 28 x.toNatClampNeg = fi r 13 + 1 := by
    intro x h2
    have h3 := hv.2 x.toNatClampNeg
    have h4 := hv.1
    rw [h2] at h3
    clear w0 hI ac hv ay
    grind
  refine ws_walk (r := sF (sF r 13 (fi r 13 + 1)) 12 0) (S := Rq (sF (sF r 13 (fi r 13 + 1)) 12 0) rh p0) w0 x1 x2 Rq_cl Rq_0 DO0_start (fun r2 w F q3 q4 _ d n => ?_)
  have f11 : fi r2 11 = fi r 11 := F.1 11 (by decide) (by decide)
  have f13 : fi r2 13 = fi r 13 + 1 := F.1 13 (by decide) (by decide)
  have f6 : fi r2 6 = fi r 6 := F.1 6 (by decide) (by decide)
  have e21 : ar r2 21 = ar r 21 := F.2.1 21 (by decide) (by decide) (by decide) (by decide) (by decide)
  have e23 : ar r2 23 = ar r 23 := F.2.1 23 (by decide) (by decide) (by decide) (by decide) (by decide)
  have e26 : ar r2 26 = ar r 26 := F.2.1 26 (by decide) (by decide) (by decide) (by decide) (by decide)
  have e27 : ar r2 27 = ar r 27 := F.2.1 27 (by decide) (by decide) (by decide) (by decide) (by decide)
  have e0 : ar r2 0 = ar r 0 := F.2.1 0 (by decide) (by decide) (by decide) (by decide) (by decide)
  have hfs : FS (fi r 11) (ar r 21) (ar r 22) (ar r2 22) := F.2.2.2.1
  have rq : ∀ {x y}, Rq r2 rh x y ↔ Rq r rh x y := fun {x y} => Rq_fs f11 e21 e23 hfs
  have ay2 : AYc r2 := AYc_fs f11 e0 e21 e23 hfs ay
  have od := PW_ORD w d
  have hin : ∀ x, vs r2 x ↔ (0 ≤ x ∧ x < fi r 11) ∧ Rq r rh p0 x := by
    intro x
    constructor
    · rintro ⟨h1, h2, h3⟩
      rw [f11] at h2
      refine ⟨⟨h1, h2⟩, ?_⟩
      rcases q4 x h1 h2 (by rw [f13] at h3; exact h3) with k | k
      · exact absurd (show ar r 28 x.toNatClampNeg = fi r 13 + 1 from k) (none0 x)
      · exact k
    · rintro ⟨_, h2⟩
      have b := hI.2.2.2.2.1.2 p0 x1 x2
      exact rq.mpr h2 (vs r2) (PW_cl w) ⟨b.1, by rw [f11]; exact b.2.1, q3⟩
  have ob : fi r2 12 < 20000 := by
    have h1 := (ordL w).2
    have h2 := hI.2.2.1
    have h3 := hI.1.2.2.2.2.2.2.2.2.2.2.2
    rw [it, show (20000 : Int32).toInt = 20000 from rfl]
    rw [f11] at h1
    omega
  have ov : ∀ u, OPv r2 rh u ↔ OPv r rh u := by
    intro u
    unfold OPv
    rw [e21, e27, f6]
    exact ⟨fun ⟨v, v1, v2⟩ => ⟨v, rq.mp v1, v2⟩, fun ⟨v, v1, v2⟩ => ⟨v, rq.mpr v1, v2⟩⟩
  refine ws_mo17 (r0 := r2) w.1 ay2 od ob (fun r3 i1 i2 i3 i4 => ?_) n r2 0 w.1 (fun _ _ _ _ => rfl) (Fr_refl _) (by decide) od.1 ⟨fun k k0 k1 => (nl0 k0 k1).elim, fun _ _ _ => rfl⟩
  have g13 : fi r3 13 = fi r2 13 := i3.1 13 (by decide)
  refine hK r3 i1 ?_ (by rw [g13, f13]) (fun x x0 x1 x2 => ?_) ?_ (fun x x0 x1 hx => ?_) (fun x x0 x1 hx => ?_)
  · have q : VB r2 := w.2.1
    unfold VB at q ⊢
    rw [g13, i3.2.1 28 (by decide)]
    exact q
  · exact (i2 x x0 (by rw [f11]; exact x1) (by rw [e21]; exact x2)).trans (hfs x x0 x1 x2)
  · exact Fr_trans (Fr_trans (Fr_sF (by decide)) (Fr_sF (by decide))) (Fr_trans (Fr_mono (Fw_Fr F) (by decide) (by decide)) (Fr_mono i3 (by decide) (by decide)))
  · obtain ⟨k, k0, k1, k2⟩ := (PW_vs w).mp ((hin x).mpr ⟨⟨x0, x1⟩, hx⟩)
    have := i4.1 k k0 k1
    rw [k2, ov] at this
    exact this
  · rw [← e26]
    refine i4.2 x x0 (fun k k0 k1 k2 => hx ?_)
    exact ((hin x).mp ((PW_vs w).mpr ⟨k, k0, k1, k2⟩)).2
end ZCOPEN
