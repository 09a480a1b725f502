/-! The class's settling: what is bound, what is open. -/
section ZCMARK
variable {a : L_} {r r' : S_} {rh ta rk : Int32 → Int32} {N : Int32}
def Rq (r : S_) (rh : Int32 → Int32) (x v : Int32) : Prop := ∀ S : Int32 → Prop, Cr r rh S → S (rh x) → S v
theorem Rq_cl {x : Int32} : Cr r rh (Rq r rh x) := fun z z0 z1 z2 z3 => ⟨fun e S hS hx => (hS z z0 z1 z2 (z3 S hS hx)).1 e, fun e S hS hx => (hS z z0 z1 z2 (z3 S hS hx)).2 e⟩
theorem Rq_0 {x : Int32} : Rq r rh x (rh x) := fun _ _ h => h
theorem Cr_fs {S : Int32 → Prop} (h11 : fi r' 11 = fi r 11) (h21 : ar r' 21 = ar r 21) (h23 : ar r' 23 = ar r 23) (hf : FS (fi r 11) (ar r 21) (ar r 22) (ar r' 22)) : Cr r' rh S ↔ Cr r rh S := by
  constructor
  · intro h z z0 z1 z2 z3
    have k := h z z0 (by rw [h11]; exact z1) (by rw [h21]; exact z2) z3
    rw [h23, hf z z0 z1 z2] at k
    exact k
  · intro h z z0 z1 z2 z3
    rw [h11] at z1
    rw [h21] at z2
    have k := h z z0 z1 z2 z3
    rw [h23, hf z z0 z1 z2]
    exact k
theorem Rq_fs (h11 : fi r' 11 = fi r 11) (h21 : ar r' 21 = ar r 21) (h23 : ar r' 23 = ar r 23) (hf : FS (fi r 11) (ar r 21) (ar r 22) (ar r' 22)) {x v : Int32} : Rq r' rh x v ↔ Rq r rh x v := ⟨fun h S hS => h S ((Cr_fs h11 h21 h23 hf).mpr hS), fun h S hS => h S ((Cr_fs h11 h21 h23 hf).mp hS)⟩
theorem Rq_trans {x y z : Int32} (h : Rq r rh x y) (hy : rh y = y) (h2 : Rq r rh y z) : Rq r rh x z := fun S hS hx => h2 S hS (by rw [hy]; exact h S hS hx)
theorem Rq_in (hI : GI a r rh ta N) {x v : Int32} (x0 : 0 ≤ x) (x1 : x < fi r 11) (h : Rq r rh x v) : (0 ≤ v ∧ v < fi r 11) ∧ ¬ ar r 21 v.toNatClampNeg = -2 ∧ rh v = v := by
  have hN := hI.2.2.2.1
  have hR := hI.2.2.2.2.1
  have key : ∀ y : Int32, 0 ≤ y → y < fi r 11 → (0 ≤ rh y ∧ rh y < fi r 11) ∧ ¬ ar r 21 (rh y).toNatClampNeg = -2 ∧ rh (rh y) = rh y := fun y y0 y1 => by
    have b := hR.2 y y0 y1
    exact ⟨⟨b.1, b.2.1⟩, b.2.2.1, (hR.2 (rh y) b.1 b.2.1).2.2.2.1 b.2.2.1⟩
  refine h (fun v => (0 ≤ v ∧ v < fi r 11) ∧ ¬ ar r 21 v.toNatClampNeg = -2 ∧ rh v = v) (fun z z0 z1 z2 _ => ?_) (key x x0 x1)
  have b := hN z z0 z1
  refine ⟨fun e => key _ ?_ b.2.2.2.1, fun e => key _ ?_ b.2.2.2.2.2.1⟩
  · have := b.2.2.1; clear hN hR hI h key b; grind
  · have := b.2.2.2.2.1; clear hN hR hI h key b; grind
/-- the first step away from a root -/
theorem Rq_inv {u v : Int32} (hu : rh u = u) (h : Rq r rh u v) (h0 : 0 ≤ u) (h1 : u < fi r 11) (h2 : ¬ ar r 21 u.toNatClampNeg = -2) : v = u ∨ (¬ ar r 22 u.toNatClampNeg = -1 ∧ Rq r rh (ar r 22 u.toNatClampNeg) v) ∨ (¬ ar r 23 u.toNatClampNeg = -1 ∧ Rq r rh (ar r 23 u.toNatClampNeg) v) := by
  refine h (fun v => v = u ∨ (¬ ar r 22 u.toNatClampNeg = -1 ∧ Rq r rh (ar r 22 u.toNatClampNeg) v) ∨ (¬ ar r 23 u.toNatClampNeg = -1 ∧ Rq r rh (ar r 23 u.toNatClampNeg) v)) (fun z z0 z1 z2 z3 => ?_) (Or.inl hu)
  rcases z3 with e | ⟨e1, e2⟩ | ⟨e1, e2⟩
  · subst e
    exact ⟨fun e => Or.inr (Or.inl ⟨e, Rq_0⟩), fun e => Or.inr (Or.inr ⟨e, Rq_0⟩)⟩
  · exact ⟨fun e => Or.inr (Or.inl ⟨e1, (Rq_cl z z0 z1 z2 e2).1 e⟩), fun e => Or.inr (Or.inl ⟨e1, (Rq_cl z z0 z1 z2 e2).2 e⟩)⟩
  · exact ⟨fun e => Or.inr (Or.inr ⟨e1, (Rq_cl z z0 z1 z2 e2).1 e⟩), fun e => Or.inr (Or.inr ⟨e1, (Rq_cl z z0 z1 z2 e2).2 e⟩)⟩
def vs (r : S_) (x : Int32) : Prop := 0 ≤ x ∧ x < fi r 11 ∧ ar r 28 x.toNatClampNeg = fi r 13
theorem PW_cl {acy : Prop} (w : PW a r rh ta N acy rk) : Cr r rh (vs r) := by
  intro z z0 z1 z2 ⟨_, _, zv⟩
  have c := w.2.2.2.2.1 z z0 z1 zv
  have hN := w.1.2.2.2.1
  have hR := w.1.2.2.2.2.1
  have n := hN z z0 z1
  have p : ∀ y : Int32, -1 ≤ y → ¬ y = -1 → 0 ≤ y := fun y y0 y1 => by clear w c hN hR n; grind
  refine ⟨fun e => ?_, fun e => ?_⟩
  · have b := hR.2 _ (p _ n.2.2.1 e) n.2.2.2.1
    refine ⟨b.1, b.2.1, ?_⟩
    rcases c.2.2.2.2.1 e (fun _ => rfl) with k | ⟨k, k0, k1, _⟩
    · exact k
    · exact (nl0 k0 (show k < 0 from k1)).elim
  · have b := hR.2 _ (p _ n.2.2.2.2.1 e) n.2.2.2.2.2.1
    refine ⟨b.1, b.2.1, ?_⟩
    rcases c.2.2.2.2.2 e (fun _ => by decide) with k | ⟨k, k0, k1, _⟩
    · exact k
    · exact (nl0 k0 (show k < 0 from k1)).elim
theorem Fw_Fr {r1 r2 : S_} (w : Fw r1 r2) : Fr [12, 14] [22, 28, 29, 30, 31] r1 r2 := by
  refine ⟨fun k h => ?_, fun k h => ?_, w.2.2.1⟩
  · simp at h
    exact w.1 k h.1 h.2
  · simp at h
    exact w.2.1 k h.1 h.2.1 h.2.2.1 h.2.2.2.1 h.2.2.2.2
def lam (r : S_) (i : Int32) : Prop := (0 ≤ i ∧ i < fi r 5) ∧ ar r 19 i.toNatClampNeg = -1
theorem ws_mb9 {r0 : S_} (hA : TA a r0) {KX : S_ → Prop} (hK : ∀ r', PW a r' rh ta N True rk → Fw r0 r' → DO0 r' → (∀ x, vs r' x ↔ ∃ i, lam r0 i ∧ Rq r0 rh (ar r0 18 i.toNatClampNeg) x) → KX r') : ∀ (n : Nat) (r : S_) (v : Int32), PW a r rh ta N True rk → Fw r0 r → DO0 r → 0 ≤ v → v ≤ fi r0 5 → (∀ x, vs r x → ∃ i, lam r0 i ∧ Rq r0 rh (ar r0 18 i.toNatClampNeg) x) → (∀ i, lam r0 i → i < v → vs r (rh (ar r0 18 i.toNatClampNeg))) → wY_markBound_L9 a KX n r v := by
  intro n
  induction n with
  | zero => intro r v _ _ _ _ _ _ _; trivial
  | succ n ih =>
    intro r v w F d v0 v1 h1 h2
    have f5 : fi r 5 = fi r0 5 := F.1 5 (by decide) (by decide)
    have f11 : fi r 11 = fi r0 11 := F.1 11 (by decide) (by decide)
    have f13 : fi r 13 = fi r0 13 := F.1 13 (by decide) (by decide)
    have e19 : ar r 19 = ar r0 19 := F.2.1 19 (by decide) (by decide) (by decide) (by decide) (by decide)
    have e18 : ar r 18 = ar r0 18 := F.2.1 18 (by decide) (by decide) (by decide) (by decide) (by decide)
    have e21 : ar r 21 = ar r0 21 := F.2.1 21 (by decide) (by decide) (by decide) (by decide) (by decide)
    have e23 : ar r 23 = ar r0 23 := F.2.1 23 (by decide) (by decide) (by decide) (by decide) (by decide)
    have rq : ∀ {x y}, Rq r rh x y ↔ Rq r0 rh x y := fun {x y} => Rq_fs f11 e21 e23 F.2.2.2.1
    rw [wY_markBound_L9]
    unfold wY_markBound_J40
    rw [f5, e19, e18]
    refine ⟨fun g => hK r w F d (fun x => ⟨h1 x, fun ⟨i, i1, i2⟩ => ?_⟩), fun g _ => ?_⟩
    · have iv : i < v := by have := i1.1.2; clear w h1 h2 i2 ih; grind
      exact rq.mpr i2 (vs r) (PW_cl w) (h2 i i1 iv)
    · have hlt : v < fi r0 5 := Int32.not_le.mp g
      have c1 : 0 ≤ v + 1 := by clear w h1 h2 ih; grind
      have c2 : v + 1 ≤ fi r0 5 := by clear w h1 h2 ih; grind
      have step : ∀ i : Int32, i < v + 1 → i < v ∨ i = v := fun i hi => by clear w h1 h2 ih; grind
      refine ⟨fun q => ih r (v + 1) w F d c1 c2 h1 (fun i i1 i2 => ?_), fun q _ => ?_⟩
      · rcases step i i2 with k | k
        · exact h2 i i1 k
        · rw [k] at i1
          exact absurd i1.2 q
      · have t := hA.2.2.2.2.2 v v0 hlt
        refine ws_walk (S := Rq r rh (ar r0 18 v.toNatClampNeg)) w t.1 (by rw [f11]; exact t.2) Rq_cl Rq_0 d (fun r' q1 q2 q3 q4 _ q5 => ?_)
        have g11 : fi r' 11 = fi r 11 := q2.1 11 (by decide) (by decide)
        have g13 : fi r' 13 = fi r 13 := q2.1 13 (by decide) (by decide)
        have b := w.1.2.2.2.2.1.2 _ t.1 (show ar r0 18 v.toNatClampNeg < fi r 11 by rw [f11]; exact t.2)
        refine ih r' (v + 1) q1 (Fw_trans F q2) q5 c1 c2 (fun x hx => ?_) (fun i i1 i2 => ?_)
        · rcases q4 x hx.1 (by rw [← g11]; exact hx.2.1) (by rw [← g13]; exact hx.2.2) with k | k
          · exact h1 x ⟨hx.1, by rw [← g11]; exact hx.2.1, k⟩
          · exact ⟨v, ⟨⟨v0, hlt⟩, q⟩, rq.mp k⟩
        · rcases step i i2 with k | k
          · have m := h2 i i1 k
            exact ⟨m.1, by rw [g11]; exact m.2.1, by rw [g13]; exact q2.2.2.2.2 _ m.1 m.2.1 m.2.2⟩
          · rw [k]
            exact ⟨b.1, by rw [g11]; exact b.2.1, q3⟩
theorem ws_mb48 {r0 : S_} (c : ∀ k : Int32, 0 ≤ k → k < fi r0 12 → 0 ≤ ar r0 30 k.toNatClampNeg) (hs : ∀ x : Int32, 0 ≤ x → x < fi r0 11 → ¬ ar r0 27 x.toNatClampNeg = fi r0 6) {KX : S_ → Prop} (hK : ∀ r', Fr [] [27] r0 r' → (∀ x : Int32, 0 ≤ x → ar r' 27 x.toNatClampNeg = fi r0 6 ∨ ar r' 27 x.toNatClampNeg = ar r0 27 x.toNatClampNeg) → (∀ x : Int32, 0 ≤ x → x < fi r0 11 → (ar r' 27 x.toNatClampNeg = fi r0 6 ↔ ∃ k, 0 ≤ k ∧ k < fi r0 12 ∧ ar r0 30 k.toNatClampNeg = x)) → KX r') : ∀ (n : Nat) (r : S_) (v : Int32), Fr [] [27] r0 r → (∀ x : Int32, 0 ≤ x → ar r 27 x.toNatClampNeg = fi r0 6 ∨ ar r 27 x.toNatClampNeg = ar r0 27 x.toNatClampNeg) → 0 ≤ v → v ≤ fi r0 12 → (∀ x : Int32, 0 ≤ x → x < fi r0 11 → (ar r 27 x.toNatClampNeg = fi r0 6 ↔ ∃ k, 0 ≤ k ∧ k < v ∧ ar r0 30 k.toNatClampNeg = x)) → wY_markBound_L48 a KX n r v := by
  intro n
  induction n with
  | zero => intro r v _ _ _ _ _; trivial
  | succ n ih =>
    intro r v F hx0 v0 v1 h
    have f12 : fi r 12 = fi r0 12 := F.1 12 (by decide)
    have f6 : fi r 6 = fi r0 6 := F.1 6 (by decide)
    have e30 : ar r 30 = ar r0 30 := F.2.1 30 (by decide)
    rw [wY_markBound_L48, f12, e30, f6]
    refine ⟨fun g => hK r F hx0 (fun x x0 x1 => ?_), fun g _ _ r10 e10 => ?_⟩
    · rw [h x x0 x1]
      have e : v = fi r0 12 := by clear h ih F; grind
      rw [e]
    · have hlt : v < fi r0 12 := Int32.not_le.mp g
      have o := c v v0 hlt
      refine ih r10 (v + 1) (by rw [e10]; exact Fr_trans F (Fr_sA (by decide))) (fun x x0 => ?_) (by clear h ih F; grind) (by clear h ih F; grind) (fun x x0 x1 => ?_)
      · rw [e10]
        show upd (ar r 27) (ar r0 30 v.toNatClampNeg).toNatClampNeg (fi r0 6) x.toNatClampNeg = _ ∨ upd (ar r 27) (ar r0 30 v.toNatClampNeg).toNatClampNeg (fi r0 6) x.toNatClampNeg = _
        rw [updI _ _ o x0]
        by_cases e : x = ar r0 30 v.toNatClampNeg
        · rw [if_pos e]; exact Or.inl rfl
        · rw [if_neg e]; exact hx0 x x0
      rw [e10]
      show upd (ar r 27) (ar r0 30 v.toNatClampNeg).toNatClampNeg (fi r0 6) x.toNatClampNeg = fi r0 6 ↔ _
      rw [updI _ _ o x0]
      constructor
      · intro hx
        by_cases e : x = ar r0 30 v.toNatClampNeg
        · exact ⟨v, v0, by clear h ih F; grind, e.symm⟩
        · rw [if_neg e] at hx
          obtain ⟨k, k0, k1, k2⟩ := (h x x0 x1).mp hx
          exact ⟨k, k0, by clear h ih F; grind, k2⟩
      · rintro ⟨k, k0, k1, k2⟩
        by_cases e : x = ar r0 30 v.toNatClampNeg
        · rw [if_pos e]
        · rw [if_neg e]
          refine (h x x0 x1).mpr ⟨k, k0, ?_, k2⟩
          have : ¬ k = v := fun e2 => e (by rw [← k2, e2])
          clear h ih F; grind
theorem PW_vs {acy : Prop} (w : PW a r rh ta N acy rk) {x : Int32} : vs r x ↔ ∃ k, 0 ≤ k ∧ k < fi r 12 ∧ ar r 30 k.toNatClampNeg = x := by
  constructor
  · rintro ⟨h1, h2, h3⟩
    obtain ⟨k, k1, k2, k3⟩ := vis_ord w h1 h2 h3
    exact ⟨k, k1, k2, k3⟩
  · rintro ⟨k, k1, k2, k3⟩
    have b := ord_in w k1 k2
    rw [k3] at b
    exact ⟨b.1, b.2.1, b.2.2.2.1⟩
theorem ws_markBound (hI : GI a r rh ta N) (hv : VB r) (hb : fi r 13 < 2000000000) (ac : ACY (fi r 11) (ar r 21) (ar r 22) (ar r 23) rh rk) (hA : TA a r) (hs : ∀ x : Int32, 0 ≤ x → x < fi r 11 → ¬ ar r 27 x.toNatClampNeg = fi r 6) {K : S_ → Prop} (hK : ∀ r', GI a r' rh ta N → VB r' → fi r' 13 = fi r 13 + 1 → FS (fi r 11) (ar r 21) (ar r 22) (ar r' 22) → Fr [12, 13, 14] [22, 27, 28, 29, 30, 31] r r' → (∀ x : Int32, 0 ≤ x → ar r' 27 x.toNatClampNeg = fi r 6 ∨ ar r' 27 x.toNatClampNeg = ar r 27 x.toNatClampNeg) → (∀ x : Int32, 0 ≤ x → x < fi r 11 → (ar r' 27 x.toNatClampNeg = fi r 6 ↔ ∃ i, lam r i ∧ Rq r rh (ar r 18 i.toNatClampNeg) x)) → K r') : wY_markBound a K r := by
  unfold wY_markBound
  refine ws_start (fun n => ?_)
  have w0 := PW_start (acy := True) (rk := rk) hI hv hb (fun _ => ac)
  have none0 : ∀ x, ¬ vs (sF (sF r 13 (fi r 13 + 1)) 12 0) x := by
    rintro x ⟨x0, x1, x2⟩
    have h2 : ar r 28 x.toNatClampNeg = fi r 13 + 1 := x2
    have h3 := hv.2 x.toNatClampNeg
    have h4 := hv.1
    rw [h2] at h3
    clear w0 hI ac hv hs
    grind
  refine ws_mb9 (r0 := sF (sF r 13 (fi r 13 + 1)) 12 0) hA (fun r' w F d hvs n2 => ?_) n _ 0 w0 (Fw_refl _) DO0_start (by decide) hA.1 (fun x hx => absurd hx (none0 x)) (fun i i1 i2 => (nl0 i1.1.1 i2).elim)
  have f11 : fi r' 11 = fi r 11 := F.1 11 (by decide) (by decide)
  have f6 : fi r' 6 = fi r 6 := F.1 6 (by decide) (by decide)
  have e27 : ar r' 27 = ar r 27 := F.2.1 27 (by decide) (by decide) (by decide) (by decide) (by decide)
  refine ws_mb48 (r0 := r') (fun k k0 k1 => (ord_in w k0 k1).1) (fun x x0 x1 => by rw [e27, f6]; exact hs x x0 (by rw [← f11]; exact x1)) (fun r2 F2 h0 h => ?_) n2 r' 0 (Fr_refl _) (fun _ _ => Or.inr rfl) (by decide) (ordL w).1 (fun x x0 x1 => ?_)
  · have a2 : ∀ k, ¬ k = 27 → ar r2 k = ar r' k := fun k hk => F2.2.1 k (by simp; exact hk)
    have g2 : ∀ k, fi r2 k = fi r' k := fun k => F2.1 k (by simp)
    have gi : GI a r2 rh ta N := by
      have q : GI a r' rh ta N := w.1
      unfold GI at q ⊢
      rw [g2 11, a2 21 (by decide), a2 22 (by decide), a2 23 (by decide)]
      exact q
    refine hK r2 gi ?_ ?_ ?_ ?_ (fun x x0 => by have := h0 x x0; rw [f6, e27] at this; exact this) (fun x x0 x1 => ?_)
    · have q : VB r' := w.2.1
      unfold VB at q ⊢
      rw [g2 13, a2 28 (by decide)]
      exact q
    · rw [g2 13]
      exact F.1 13 (by decide) (by decide)
    · rw [a2 22 (by decide)]
      exact F.2.2.2.1
    · exact Fr_trans (Fr_trans (Fr_sF (by decide)) (Fr_sF (by decide))) (Fr_trans (Fr_mono (Fw_Fr F) (by decide) (by decide)) (Fr_mono F2 (by decide) (by decide)))
    · rw [← f6, h x x0 (by rw [f11]; exact x1), ← PW_vs w, hvs x]
      exact Iff.rfl
  · rw [e27, f6]
    refine ⟨fun h => absurd h (hs x x0 (by rw [← f11]; exact x1)), fun ⟨k, k0, k1, _⟩ => (nl0 k0 k1).elim⟩
end ZCMARK
