/-! The class's settling: what is asked is gathered. -/
section ZCASK
variable {a : L_} {r r' : S_} {rh ta rk : Int32 → Int32} {N : Int32}
theorem gz {v : Int32} : v = 0 ↔ ∀ c, gb v c = false := by
  constructor
  · intro h c
    rw [h]
    exact gb_0
  · intro h
    refine gb_ext (fun i _ => ?_)
    rw [h i, gb_0]
theorem gnz {v : Int32} (h : ¬ v = 0) : ∃ c, gb v c = true := by
  apply Classical.byContradiction
  intro hc
  refine h (gz.mpr (fun c => ?_))
  cases e : gb v c with
  | false => rfl
  | true => exact absurd ⟨c, e⟩ hc
theorem ws_ga9 {r0 : S_} {s0 : Int32} (s00 : 0 ≤ s0) (c0 : 0 ≤ fi r0 11) {KX : S_ → Int32 → Prop} (hK : ∀ r', PW a r' rh ta N True rk → Fw r0 r' → DO0 r' → (∀ x : Int32, s0 ≤ x → x < fi r0 11 → ¬ ar r0 24 x.toNatClampNeg = 0 → vs r' (rh x)) → KX r' s0) : ∀ (n : Nat) (r : S_) (v : Int32), PW a r rh ta N True rk → Fw r0 r → DO0 r → s0 ≤ v → (∀ x : Int32, s0 ≤ x → x < v → x < fi r0 11 → ¬ ar r0 24 x.toNatClampNeg = 0 → vs r (rh x)) → wY_gatherAsked_L9 a KX n r s0 v := by
  intro n
  induction n with
  | zero => intro r v _ _ _ _ _; trivial
  | succ n ih =>
    intro r v w F d v0 h
    have f11 : fi r 11 = fi r0 11 := F.1 11 (by decide) (by decide)
    have e24 : ar r 24 = ar r0 24 := F.2.1 24 (by decide) (by decide) (by decide) (by decide) (by decide)
    rw [wY_gatherAsked_L9]
    unfold wY_gatherAsked_J40
    rw [f11, e24]
    refine ⟨fun g => hK r w F d (fun x x0 x1 x2 => h x x0 ?_ x1 x2), fun g _ => ?_⟩
    · clear w h ih hK; grind
    · have hlt : v < fi r0 11 := Int32.not_le.mp g
      have v00 : 0 ≤ v := zo2 s00 v0
      have c1 : s0 ≤ v + 1 := by clear w h ih hK; grind
      have step : ∀ i : Int32, i < v + 1 → i < v ∨ i = v := fun i hi => by clear w h ih hK; grind
      refine ⟨fun q => ih r (v + 1) w F d c1 (fun x x0 x1 x2 x3 => ?_), fun q => ?_⟩
      · rcases step x x1 with k | k
        · exact h x x0 k x2 x3
        · rw [k] at x3
          exact absurd q x3
      · refine ws_walk (S := fun x => True) w v00 (by rw [f11]; exact hlt) (fun _ _ _ _ _ => ⟨fun _ => trivial, fun _ => trivial⟩) trivial d (fun r' q1 q2 q3 _ _ q5 => ?_)
        have g11 : fi r' 11 = fi r 11 := q2.1 11 (by decide) (by decide)
        have g13 : fi r' 13 = fi r 13 := q2.1 13 (by decide) (by decide)
        have b := w.1.2.2.2.2.1.2 v v00 (show v < fi r 11 by rw [f11]; exact hlt)
        refine ih r' (v + 1) q1 (Fw_trans F q2) q5 c1 (fun x x0 x1 x2 x3 => ?_)
        rcases step x x1 with k | k
        · have m := h x x0 k x2 x3
          exact ⟨m.1, by rw [g11]; exact m.2.1, by rw [g13]; exact q2.2.2.2.2 _ m.1 m.2.1 m.2.2⟩
        · rw [k]
          exact ⟨b.1, by rw [g11]; exact b.2.1, q3⟩
theorem ws_ga48 {r0 : S_} {s0 : Int32} (c : ∀ k : Int32, 0 ≤ k → k < fi r0 12 → 0 ≤ ar r0 30 k.toNatClampNeg) {KX : S_ → Int32 → Prop} (hK : ∀ r', Fr [] [29] r0 r' → (∀ k : Int32, 0 ≤ k → k < fi r0 12 → ar r' 29 (ar r0 30 k.toNatClampNeg).toNatClampNeg = 0) → KX r' s0) : ∀ (n : Nat) (r : S_) (v : Int32), Fr [] [29] r0 r → 0 ≤ v → (∀ k : Int32, 0 ≤ k → k < v → k < fi r0 12 → ar r 29 (ar r0 30 k.toNatClampNeg).toNatClampNeg = 0) → wY_gatherAsked_L48 a KX n r s0 v := by
  intro n
  induction n with
  | zero => intro r v _ _ _; trivial
  | succ n ih =>
    intro r v F v0 h
    have f12 : fi r 12 = fi r0 12 := F.1 12 (by decide)
    have e30 : ar r 30 = ar r0 30 := F.2.1 30 (by decide)
    rw [wY_gatherAsked_L48, f12, e30]
    refine ⟨fun g => hK r F (fun k k0 k1 => h k k0 ?_ k1), fun g _ _ r9 e9 => ?_⟩
    · clear h ih F; grind
    · have hlt : v < fi r0 12 := Int32.not_le.mp g
      have o := c v v0 hlt
      refine ih r9 (v + 1) (by rw [e9]; exact Fr_trans F (Fr_sA (by decide))) (by clear h ih F; grind) (fun k k0 k1 k2 => ?_)
      rw [e9]
      show upd (ar r 29) (ar r0 30 v.toNatClampNeg).toNatClampNeg 0 (ar r0 30 k.toNatClampNeg).toNatClampNeg = 0
      rw [updI _ _ o (c k k0 k2)]
      by_cases e : ar r0 30 k.toNatClampNeg = ar r0 30 v.toNatClampNeg
      · rw [if_pos e]
      · rw [if_neg e]
        have : ¬ k = v := fun e2 => e (by rw [e2])
        exact h k k0 (by clear h ih F e; grind) k2
/-- what has been gathered up to v -/
def GA (r0 r : S_) (rh : Int32 → Int32) (s0 v : Int32) : Prop := (∀ x : Int32, 0 ≤ x → x < fi r0 11 → (∃ k : Int32, 0 ≤ k ∧ k < fi r0 12 ∧ ar r0 30 k.toNatClampNeg = x) → ∀ c, gb (ar r 29 x.toNatClampNeg) c = true ↔ ∃ y : Int32, s0 ≤ y ∧ y < v ∧ y < fi r0 11 ∧ rh y = x ∧ gb (ar r0 24 y.toNatClampNeg) c = true) ∧ (∀ y : Int32, s0 ≤ y → y < v → y < fi r0 11 → ar r 24 y.toNatClampNeg = 0) ∧ ∀ y : Int32, 0 ≤ y → (y < s0 ∨ v ≤ y) → ar r 24 y.toNatClampNeg = ar r0 24 y.toNatClampNeg
theorem ws_ga85 {r0 : S_} {s0 : Int32} (s00 : 0 ≤ s0) (hI0 : GI a r0 rh ta N) (cov : ∀ x : Int32, s0 ≤ x → x < fi r0 11 → ¬ ar r0 24 x.toNatClampNeg = 0 → ∃ k : Int32, 0 ≤ k ∧ k < fi r0 12 ∧ ar r0 30 k.toNatClampNeg = rh x) {KX : S_ → Prop} (hK : ∀ r', GI a r' rh ta N → FS (fi r0 11) (ar r0 21) (ar r0 22) (ar r' 22) → Fr [] [22, 24, 29] r0 r' → GA r0 r' rh s0 (fi r0 11) → KX r') : ∀ (n : Nat) (r : S_) (v : Int32), GI a r rh ta N → FS (fi r0 11) (ar r0 21) (ar r0 22) (ar r 22) → Fr [] [22, 24, 29] r0 r → s0 ≤ v → v ≤ fi r0 11 → GA r0 r rh s0 v → wY_gatherAsked_L85 a KX n r v := by
  intro n
  induction n with
  | zero => intro r v _ _ _ _ _ _; trivial
  | succ n ih =>
    intro r v hI hf F v0 v1 h
    have f11 : fi r 11 = fi r0 11 := F.1 11 (by decide)
    have e21 : ar r 21 = ar r0 21 := F.2.1 21 (by decide)
    rw [wY_gatherAsked_L85]
    unfold wY_gatherAsked_J146
    rw [f11]
    have v00 : 0 ≤ v := zo2 s00 v0
    refine ⟨fun g => hK r hI hf F ?_, fun g _ => ?_⟩
    · have e : v = fi r0 11 := by clear h ih hI hI0 hf F cov; grind
      rw [← e]
      exact h
    · have hlt : v < fi r0 11 := Int32.not_le.mp g
      have hb : v < 20000 := by
        have h1 := hI0.2.2.1
        have h3 := hI0.1.2.2.2.2.2.2.2.2.2.2.2
        rw [it, show (20000 : Int32).toInt = 20000 from rfl]
        rw [it] at hlt
        omega
      have c1 : s0 ≤ v + 1 := by clear h ih hI hI0 hf F cov; grind
      have c2 : v + 1 ≤ fi r0 11 := by clear h ih hI hI0 hf F cov; grind
      have old : ar r 24 v.toNatClampNeg = ar r0 24 v.toNatClampNeg := h.2.2 v v00 (Or.inr (Int32.le_refl _))
      refine ⟨fun q => ih r (v + 1) hI hf F c1 c2 ⟨fun x x0 x1 xo c => ?_, fun y y0 y1 y2 => ?_, fun y y0 y1 => h.2.2 y y0 ?_⟩, fun q => ?_⟩
      · rw [old] at q
        rw [h.1 x x0 x1 xo c]
        constructor
        · rintro ⟨y, y0, y1, y2⟩
          exact ⟨y, y0, ps hb y1, y2⟩
        · rintro ⟨y, y0, y1, y2, y3, y4⟩
          refine ⟨y, y0, ps2 hb y1 (fun e => ?_), y2, y3, y4⟩
          rw [e, q, gb_0] at y4
          exact absurd y4 (by decide)
      · by_cases e : y = v
        · rw [e]; exact q
        · exact h.2.1 y y0 (ps2 hb y1 e) y2
      · rcases y1 with k | k
        · exact Or.inl k
        · exact Or.inr (by clear h ih hI hI0 hf F cov; grind)
      · refine ws_settled hI v00 (by rw [f11]; exact hlt) (fun f k1 k2 _ _ _ r18 e18 _ r20 e20 => ?_)
        have b := hI0.2.2.2.2.1.2 v v00 hlt
        have i2' : FS (fi r0 11) (ar r0 21) (ar r0 22) f := fun x x0 x1 x2 => (k2 x x0 (by rw [f11]; exact x1) (by rw [e21]; exact x2)).trans (hf x x0 x1 x2)
        have er : r20 = sA (sA (sA r 22 f) 29 (upd (ar r 29) (rh v).toNatClampNeg (ar r 29 (rh v).toNatClampNeg ||| ar r0 24 v.toNatClampNeg))) 24 (upd (ar r 24) v.toNatClampNeg 0) := by
          rw [e20, e18, ← old]
          rfl
        rw [er]
        refine ih _ (v + 1) k1 i2' (Fr_trans F (Fr_trans (Fr_sA (by decide)) (Fr_trans (Fr_sA (by decide)) (Fr_sA (by decide))))) c1 c2 ⟨fun x x0 x1 xo c => ?_, fun y y0 y1 y2 => ?_, fun y y0 y1 => ?_⟩
        · show gb (upd (ar r 29) (rh v).toNatClampNeg (ar r 29 (rh v).toNatClampNeg ||| ar r0 24 v.toNatClampNeg) x.toNatClampNeg) c = true ↔ _
          rw [updI _ _ b.1 x0]
          by_cases e : x = rh v
          · rw [if_pos e, gb_or, Bool.or_eq_true, ← e, h.1 x x0 x1 xo c]
            constructor
            · rintro (⟨y, y0, y1, y2⟩ | k)
              · exact ⟨y, y0, ps hb y1, y2⟩
              · exact ⟨v, v0, ps3 hb, hlt, e.symm, k⟩
            · rintro ⟨y, y0, y1, y2, y3, y4⟩
              by_cases ey : y = v
              · subst ey
                exact Or.inr y4
              · exact Or.inl ⟨y, y0, ps2 hb y1 ey, y2, y3, y4⟩
          · rw [if_neg e, h.1 x x0 x1 xo c]
            constructor
            · rintro ⟨y, y0, y1, y2⟩
              exact ⟨y, y0, ps hb y1, y2⟩
            · rintro ⟨y, y0, y1, y2, y3, y4⟩
              refine ⟨y, y0, ps2 hb y1 (fun ey => ?_), y2, y3, y4⟩
              subst ey
              exact e y3.symm
        · show upd (ar r 24) v.toNatClampNeg 0 y.toNatClampNeg = 0
          rw [updI _ _ v00 (zo2 s00 y0)]
          by_cases e : y = v
          · rw [if_pos e]
          · rw [if_neg e]
            exact h.2.1 y y0 (ps2 hb y1 e) y2
        · show upd (ar r 24) v.toNatClampNeg 0 y.toNatClampNeg = _
          have ne : ¬ y = v := by
            intro e
            subst e
            rcases y1 with k | k
            · clear h ih hI hI0 hf F cov; grind
            · clear h ih hI hI0 hf F cov; grind
          rw [updI _ _ v00 y0, if_neg ne]
          refine h.2.2 y y0 ?_
          rcases y1 with k | k
          · exact Or.inl k
          · exact Or.inr (by clear h ih hI hI0 hf F cov; grind)
theorem ws_gather {s0 : Int32} (hI : GI a r rh ta N) (hv : VB r) (hb : fi r 13 < 2000000000) (ac : ACY (fi r 11) (ar r 21) (ar r 22) (ar r 23) rh rk) (s00 : 0 ≤ s0) (s01 : s0 ≤ fi r 11) {K : S_ → Prop} (hK : ∀ r', GI a r' rh ta N → VB r' → fi r' 13 = fi r 13 + 1 → FS (fi r 11) (ar r 21) (ar r 22) (ar r' 22) → Fr [12, 13, 14] [22, 24, 28, 29, 30, 31] r r' → ORD r' rh → fi r' 12 < 20000 → (∀ k : Int32, 0 ≤ k → k < fi r' 12 → ∀ c, gb (ar r' 29 (ar r' 30 k.toNatClampNeg).toNatClampNeg) c = true ↔ ∃ y : Int32, s0 ≤ y ∧ y < fi r 11 ∧ rh y = ar r' 30 k.toNatClampNeg ∧ gb (ar r 24 y.toNatClampNeg) c = true) → (∀ x : Int32, s0 ≤ x → x < fi r 11 → ¬ ar r 24 x.toNatClampNeg = 0 → ∃ k : Int32, 0 ≤ k ∧ k < fi r' 12 ∧ ar r' 30 k.toNatClampNeg = rh x) → (∀ y : Int32, s0 ≤ y → y < fi r 11 → ar r' 24 y.toNatClampNeg = 0) → (∀ y : Int32, 0 ≤ y → y < s0 → ar r' 24 y.toNatClampNeg = ar r 24 y.toNatClampNeg) → K r') : wY_gatherAsked a K r s0 := by
  unfold wY_gatherAsked
  refine ws_start (fun n => ?_)
  have w0 := PW_start (acy := True) (rk := rk) hI hv hb (fun _ => ac)
  refine ws_ga9 (r0 := sF (sF r 13 (fi r 13 + 1)) 12 0) s00 hI.2.1 (fun r2 w F d cov n2 => ?_) n _ s0 w0 (Fw_refl _) DO0_start (Int32.le_refl _) (fun x x0 x1 => absurd x0 (fun z => by clear w0 hI ac hv; grind))
  have f11 : fi r2 11 = fi r 11 := F.1 11 (by decide) (by decide)
  have f13 : fi r2 13 = fi r 13 + 1 := F.1 13 (by decide) (by decide)
  have e21 : ar r2 21 = ar r 21 := F.2.1 21 (by decide) (by decide) (by decide) (by decide) (by decide)
  have e24 : ar r2 24 = ar r 24 := F.2.1 24 (by decide) (by decide) (by decide) (by decide) (by decide)
  have hfs : FS (fi r 11) (ar r 21) (ar r 22) (ar r2 22) := F.2.2.2.1
  have od := PW_ORD w d
  refine ws_ga48 (r0 := r2) (fun k k0 k1 => (ord_in w k0 k1).1) (fun r3 F3 hz n3 => ?_) n2 r2 0 (Fr_refl _) (by decide) (fun k k0 k1 => (nl0 k0 k1).elim)
  have a3 : ∀ k, ¬ k = 29 → ar r3 k = ar r2 k := fun k hk => F3.2.1 k (by simp; exact hk)
  have g3 : ∀ k, fi r3 k = fi r2 k := fun k => F3.1 k (by simp)
  have gi : GI a r3 rh ta N := by
    have q : GI a r2 rh ta N := w.1
    unfold GI at q ⊢
    rw [g3 11, a3 21 (by decide), a3 22 (by decide), a3 23 (by decide)]
    exact q
  have cov3 : ∀ x : Int32, s0 ≤ x → x < fi r3 11 → ¬ ar r3 24 x.toNatClampNeg = 0 → ∃ k : Int32, 0 ≤ k ∧ k < fi r3 12 ∧ ar r3 30 k.toNatClampNeg = rh x := by
    intro x x0 x1 x2
    rw [g3 12, a3 30 (by decide)]
    rw [g3 11, f11] at x1
    rw [a3 24 (by decide), e24] at x2
    exact (PW_vs w).mp (cov x x0 x1 x2)
  refine ws_ga85 (r0 := r3) s00 gi cov3 (fun r4 i1 i2 i3 i4 => ?_) n3 r3 s0 gi (fun _ _ _ _ => rfl) (Fr_refl _) (Int32.le_refl _) (by rw [g3 11, f11]; exact s01) ⟨fun x x0 x1 xo c => ?_, fun y y0 y1 => absurd y0 (fun z => by clear w0 hI ac hv; grind), fun _ _ _ => rfl⟩
  · have g12 : fi r4 12 = fi r2 12 := (i3.1 12 (by decide)).trans (g3 12)
    have g30 : ar r4 30 = ar r2 30 := (i3.2.1 30 (by decide)).trans (a3 30 (by decide))
    have g11 : fi r4 11 = fi r 11 := ((i3.1 11 (by decide)).trans (g3 11)).trans f11
    have g13 : fi r4 13 = fi r 13 + 1 := ((i3.1 13 (by decide)).trans (g3 13)).trans f13
    have fs4 : FS (fi r 11) (ar r 21) (ar r 22) (ar r4 22) := fun x x0 x1 x2 => by
      rw [i2 x x0 (by rw [g3 11, f11]; exact x1) (by rw [a3 21 (by decide), e21]; exact x2), a3 22 (by decide)]
      exact hfs x x0 x1 x2
    refine hK r4 i1 ?_ g13 fs4 ?_ ?_ ?_ (fun k k0 k1 c => ?_) (fun x x0 x1 x2 => ?_) (fun y y0 y1 => ?_) (fun y y0 y1 => ?_)
    · have q : VB r2 := w.2.1
      unfold VB at q ⊢
      rw [g13, ← f13, i3.2.1 28 (by decide), a3 28 (by decide)]
      exact q
    · exact Fr_trans (Fr_trans (Fr_sF (by decide)) (Fr_sF (by decide))) (Fr_trans (Fr_mono (Fw_Fr F) (by decide) (by decide)) (Fr_trans (Fr_mono F3 (by decide) (by decide)) (Fr_mono i3 (by decide) (by decide))))
    · refine ORD_fs od (g11.trans f11.symm) g12 ((i3.2.1 21 (by decide)).trans (a3 21 (by decide))) ((i3.2.1 23 (by decide)).trans (a3 23 (by decide))) g30 (fun x x0 x1 x2 => ?_)
      rw [i2 x x0 (by rw [g3 11]; exact x1) (by rw [a3 21 (by decide)]; exact x2), a3 22 (by decide)]
    · rw [g12]
      have h1 := (ordL w).2
      have h2 := hI.2.2.1
      have h3 := hI.1.2.2.2.2.2.2.2.2.2.2.2
      rw [it, show (20000 : Int32).toInt = 20000 from rfl]
      rw [f11] at h1
      omega
    · rw [g12] at k1
      have bk := ord_in w k0 k1
      rw [g30, i4.1 _ bk.1 (by rw [g3 11]; exact bk.2.1) ⟨k, k0, by rw [g3 12]; exact k1, by rw [a3 30 (by decide)]⟩ c, g3 11, f11, a3 24 (by decide), e24]
      exact ⟨fun ⟨y, y0, y1, y2, y3, y4⟩ => ⟨y, y0, y2, y3, y4⟩, fun ⟨y, y0, y1, y2, y3⟩ => ⟨y, y0, y1, y1, y2, y3⟩⟩
    · obtain ⟨k, k0, k1, k2⟩ := (PW_vs w).mp (cov x x0 x1 x2)
      exact ⟨k, k0, by rw [g12]; exact k1, by rw [g30]; exact k2⟩
    · exact i4.2.1 y y0 (by rw [g3 11, f11]; exact y1) (by rw [g3 11, f11]; exact y1)
    · rw [i4.2.2 y y0 (Or.inl y1), a3 24 (by decide), e24]
  · obtain ⟨k, k0, k1, k2⟩ := xo
    rw [g3 12] at k1
    rw [a3 30 (by decide)] at k2
    have := hz k k0 k1
    rw [k2] at this
    rw [this, gb_0]
    refine ⟨fun h => absurd h (by decide), fun ⟨y, y0, y1, _⟩ => absurd y0 (fun z => by clear w0 hI ac hv; grind)⟩
end ZCASK
