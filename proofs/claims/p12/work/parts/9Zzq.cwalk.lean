/-! The class's walks: what they reach, each once. -/
section ZCWALK
variable {a : L_} {r r' : S_} {rh ta rk : Int32 → Int32} {N : Int32} {acy : Prop} {px pp : Int32}
def DO (ord : Nat → Int32) (o : Int32) (st : Nat → Int32) (hh : Int32) : Prop := (∀ i j : Int32, 0 ≤ i → i < j → j < o → ¬ ord i.toNatClampNeg = ord j.toNatClampNeg) ∧ (∀ k i : Int32, 0 ≤ k → k < hh → st k.toNatClampNeg < 0 → 0 ≤ i → i < o → ¬ ord i.toNatClampNeg = -1 - st k.toNatClampNeg) ∧ ∀ k k' : Int32, 0 ≤ k → k < k' → k' < hh → st k.toNatClampNeg < 0 → ¬ st k.toNatClampNeg = st (k').toNatClampNeg
section
variable {c : Int32} {h : Nat → Int32} {V : Nat → Int32} {vis : Int32} {ord : Nat → Int32} {o : Int32} {st : Nat → Int32} {hh : Int32}
theorem DO_pop (d : DO ord o st hh) (h0 : 0 < hh) : DO ord o st (hh - 1) := ⟨d.1, fun k i k0 k1 => d.2.1 k i k0 (pl2 h0 k1), fun k k' k0 k1 k2 => d.2.2 k k' k0 k1 (pl2 h0 k2)⟩
theorem DO_mark (d : DO ord o st hh) (h0 : 0 < hh) (ho : 0 ≤ o) (ho2 : o < 20000) (h1 : st (hh - 1).toNatClampNeg < 0) : DO (upd ord o.toNatClampNeg (-1 - st (hh - 1).toNatClampNeg)) (o + 1) st (hh - 1) := by
  have p3 := pl3 h0
  refine ⟨fun i j i0 ij jo => ?_, fun k i k0 k1 k2 i0 i1 => ?_, fun k k' k0 k1 k2 => d.2.2 k k' k0 k1 (pl2 h0 k2)⟩
  · have j0 := le0 i0 ij
    rw [updI _ _ ho i0, updI _ _ ho j0]
    by_cases ej : j = o
    · have io : ¬ i = o := fun e => by rw [e, ej] at ij; exact irr ij
      rw [if_neg io, if_pos ej]
      rw [ej] at ij
      exact d.2.1 _ i p3.1 p3.2 h1 i0 ij
    · have jo2 := ps2 ho2 jo ej
      have io : ¬ i = o := fun e => by rw [e] at ij; exact irr (ltt ij jo2)
      rw [if_neg io, if_neg ej]
      exact d.1 i j i0 ij jo2
  · rw [updI _ _ ho i0]
    by_cases ei : i = o
    · rw [if_pos ei]
      intro e
      have e2 := m1e e
      exact d.2.2 k (hh - 1) k0 k1 p3.2 k2 e2.symm
    · rw [if_neg ei]
      exact d.2.1 k i k0 (pl2 h0 k1) k2 i0 (ps2 ho2 i1 ei)
theorem DO_visit (d : DO ord o st hh) (wb : WB c h V vis ord o st hh) (h0 : 0 < hh) (h1 : 0 ≤ st (hh - 1).toNatClampNeg) (h3 : ¬ V (st (hh - 1).toNatClampNeg).toNatClampNeg = vis) : DO ord o (upd st (hh - 1).toNatClampNeg (-1 - st (hh - 1).toNatClampNeg)) hh := by
  have p3 := pl3 h0
  refine ⟨d.1, fun k i k0 k1 k2 i0 i1 => ?_, fun k k' k0 k1 k2 k3 => ?_⟩
  · rw [updI _ _ p3.1 k0] at k2 ⊢
    by_cases e : k = hh - 1
    · rw [if_pos e, m1m]
      intro e2
      have b := (wb.1 i i0 i1).2.2.2
      rw [e2] at b
      exact h3 b
    · rw [if_neg e] at k2 ⊢
      exact d.2.1 k i k0 k1 k2 i0 i1
  · have k'0 := le0 k0 k1
    rw [updI _ _ p3.1 k0] at k3 ⊢
    rw [updI _ _ p3.1 k'0]
    by_cases e : k = hh - 1
    · exfalso
      rw [e] at k1
      exact irr (ltt k1 (pl h0 k2 (fun e2 => by rw [e2] at k1; exact irr k1)))
    · rw [if_neg e] at k3 ⊢
      by_cases e2 : k' = hh - 1
      · rw [if_pos e2]
        intro e3
        have b := ((wb.2 k k0 (ltt k1 k2)).2 k3).2.2.2
        rw [e3, m1m] at b
        exact h3 b
      · rw [if_neg e2]
        exact d.2.2 k k' k0 k1 k2 k3
theorem DO_push {y : Int32} (d : DO ord o st hh) (h0 : 0 ≤ hh) (h9 : hh < 20000) (hy : 0 ≤ y) : DO ord o (upd st hh.toNatClampNeg y) (hh + 1) := by
  refine ⟨d.1, fun k i k0 k1 k2 i0 i1 => ?_, fun k k' k0 k1 k2 k3 => ?_⟩
  · rw [updI _ _ h0 k0] at k2 ⊢
    by_cases e : k = hh
    · rw [if_pos e] at k2
      exact (nl0 hy k2).elim
    · rw [if_neg e] at k2 ⊢
      exact d.2.1 k i k0 (ps2 h9 k1 e) k2 i0 i1
  · have k'0 := le0 k0 k1
    rw [updI _ _ h0 k0] at k3 ⊢
    rw [updI _ _ h0 k'0]
    by_cases e : k = hh
    · rw [if_pos e] at k3
      exact (nl0 hy k3).elim
    · rw [if_neg e] at k3 ⊢
      by_cases e2 : k' = hh
      · rw [if_pos e2]
        intro e3
        rw [e3] at k3
        exact nl0 hy k3
      · rw [if_neg e2]
        exact d.2.2 k k' k0 k1 (ps2 h9 k2 e2) k3
end
/-- what has been seen lies in S; each is ordered once -/
def WX (S : Int32 → Prop) (V0 : Nat → Int32) (r : S_) : Prop := (∀ x : Int32, 0 ≤ x → x < fi r 11 → ar r 28 x.toNatClampNeg = fi r 13 → ¬ V0 x.toNatClampNeg = fi r 13 → ar r 29 x.toNatClampNeg = x) ∧ (∀ x : Int32, 0 ≤ x → x < fi r 11 → ar r 28 x.toNatClampNeg = fi r 13 → V0 x.toNatClampNeg = fi r 13 ∨ S x) ∧ (∀ k : Int32, 0 ≤ k → k < fi r 14 → 0 ≤ ar r 31 k.toNatClampNeg → S (ar r 31 k.toNatClampNeg)) ∧ DO (ar r 30) (fi r 12) (ar r 31) (fi r 14)
theorem WX_push {S : Int32 → Prop} {V0 : Nat → Int32} {y : Int32} (x : WX S V0 r) (h0 : 0 ≤ fi r 14) (h9 : fi r 14 < 20000) (hy : 0 ≤ y) (sy : S y) : WX S V0 (sF (sA r 31 (upd (ar r 31) (fi r 14).toNatClampNeg y)) 14 (fi r 14 + 1)) := by
  refine ⟨x.1, x.2.1, fun k k0 k1 k2 => ?_, DO_push x.2.2.2 h0 h9 hy⟩
  have k1' : k < fi r 14 + 1 := k1
  have k2' : 0 ≤ upd (ar r 31) (fi r 14).toNatClampNeg y k.toNatClampNeg := k2
  show S (upd (ar r 31) (fi r 14).toNatClampNeg y k.toNatClampNeg)
  rw [updI _ _ h0 k0] at k2' ⊢
  by_cases e : k = fi r 14
  · rw [if_pos e]; exact sy
  · rw [if_neg e] at k2' ⊢
    exact x.2.2.1 k k0 (ps2 h9 k1' e) k2'
theorem Cr_22 {D : Int32 → Prop} {f : Nat → Int32} (hf : FS (fi r 11) (ar r 21) (ar r 22) f) (h : Cr r rh D) : Cr (sA r 22 f) rh D := by
  intro z z0 z1 z2 z3
  have k := h z z0 z1 z2 z3
  have q : f z.toNatClampNeg = ar r 22 z.toNatClampNeg := hf z z0 z1 z2
  show (¬ f z.toNatClampNeg = -1 → D (rh (f z.toNatClampNeg))) ∧ _
  rw [q]
  exact k
theorem ws_J142 {S : Int32 → Prop} {V0 : Nat → Int32} {KB : S_ → Int32 → Prop} {KX : S_ → Prop} {v2 : Int32} (w : WI a r rh ta N acy rk px pp 1) (cr : Cr r rh S) (x : WX S V0 r) (sx : S px) (hrec : ∀ r2, WI a r2 rh ta N acy rk px pp 0 → Cr r2 rh S → WX S V0 r2 → KB r2 (v2 + 1)) : wG_walk_J142 a KB KX r v2 px := by
  have hp := px_in w
  have w1 := w.1
  have n := w1.2.2.2.1 px hp.1 hp.2.1
  unfold wG_walk_J142 wG_walk_J166
  refine fun _ => ⟨fun g => hrec r (WI_skipF w g) cr x, fun g _ => ?_⟩
  have g0 : 0 ≤ ar r 22 px.toNatClampNeg := by have b := n.2.2.1; clear w w1 hrec n cr x; grind
  refine ws_settled w1 g0 n.2.2.2.1 (fun f k1 k2 => ?_)
  have w2 := WI_fs w k1 k2
  have hc := cap w2
  have ho := (o_lt w2).2
  have e : (ar (sA r 22 f) 22) px.toNatClampNeg = ar r 22 px.toNatClampNeg := k2 px hp.1 hp.2.1 hp.2.2
  have w3 := WI_pushF w2 (by rw [e]; exact g)
  rw [e] at w3
  have b := w1.2.2.2.2.1.2 _ g0 n.2.2.2.1
  refine ws_push w2.2.2.1.2.1 hc.1 hc.2 (hrec _ w3 (Cr_22 (r := r) k2 cr) (WX_push (r := sA r 22 f) x w2.2.2.1.2.1 ho b.1 ((cr px hp.1 hp.2.1 hp.2.2 sx).1 g)))
theorem ws_JS {S : Int32 → Prop} {V0 : Nat → Int32} {KB : S_ → Int32 → Prop} {KX : S_ → Prop} {v2 : Int32} (w : WI a r rh ta N acy rk px pp 2) (cr : Cr r rh S) (x : WX S V0 r) (sx : S px) (hrec : ∀ r2, WI a r2 rh ta N acy rk px pp 0 → Cr r2 rh S → WX S V0 r2 → KB r2 (v2 + 1)) : vp_in px (ln a 23) → ((ar r 23 px.toNatClampNeg = -1) → wG_walk_J142 a KB KX r v2 px) ∧ ((¬ ar r 23 px.toNatClampNeg = -1) → vp_in px (ln a 23) → wG_settled a (fun z26 r27 => wG_push a (fun r28 => wG_walk_J142 a KB KX r28 v2 px) r27 z26) r (ar r 23 px.toNatClampNeg)) := by
  have hp := px_in w
  have w1 := w.1
  have n := w1.2.2.2.1 px hp.1 hp.2.1
  refine fun _ => ⟨fun g => ws_J142 (WI_skipS w g) cr x sx hrec, fun g _ => ?_⟩
  have g0 : 0 ≤ ar r 23 px.toNatClampNeg := by have b := n.2.2.2.2.1; clear w w1 hrec n cr x; grind
  refine ws_settled w1 g0 n.2.2.2.2.2.1 (fun f k1 k2 => ?_)
  have w2 := WI_fs w k1 k2
  have hc := cap w2
  have ho := (o_lt w2).2
  have w3 := WI_pushS w2 g
  have b := w1.2.2.2.2.1.2 _ g0 n.2.2.2.2.2.1
  exact ws_push w2.2.2.1.2.1 hc.1 hc.2 (ws_J142 w3 (Cr_22 (r := r) k2 cr) (WX_push (r := sA r 22 f) x w2.2.2.1.2.1 ho b.1 ((cr px hp.1 hp.2.1 hp.2.2 sx).2 g)) sx hrec)
theorem ws_walk_L {S : Int32 → Prop} {V0 : Nat → Int32} {KX : S_ → Prop} (hK : ∀ r', WX S V0 r' → KX r') : ∀ (n : Nat) (r : S_) (v2 : Int32), WI a r rh ta N acy rk 0 0 0 → Cr r rh S → WX S V0 r → wG_walk_L16 a KX n r v2 := by
  intro n
  induction n with
  | zero => intro r v2 _ _ _; trivial
  | succ n ih =>
    intro r v2 w cr x
    have ho := o_lt w
    have hcap := cap w
    have w1 := w.1
    rw [wG_walk_L16]
    refine ⟨fun g => hK r x, fun g => ⟨fun g2 => hK r x, fun g2 r7 e7 => ?_⟩⟩
    have h0 : 0 < fi r 14 := Int32.not_le.mp g
    have p3 := pl3 h0
    have hd1 : (fi r 14 - 1).toInt = (fi r 14).toInt - 1 := by
      have := ir (fi r 14)
      have h9 := h0
      rw [it] at h9
      exact i_sub (by simp at h9 ⊢; omega) (by simp at h9 ⊢; omega)
    subst e7
    simp only [fi_sF, fi_sA, ar_sF, ar_sA, la_sF, la_sA, reduceIte, Nat.reduceEqDiff]
    refine fun _ => ⟨fun g3 _ => ⟨fun g4 _ r13 e13 _ r15 e15 => ?_, fun g4 => ?_⟩, fun g3 => ?_⟩
    · subst e13
      subst e15
      have b := (w.2.2.2.1.2 _ p3.1 p3.2).1 g3
      have w2 := WI_visit w h0 g3 g4 (g := fi r 14 - 1 + 1) (by clear w w1 ih hK cr x; grind)
      have sx := x.2.2.1 _ p3.1 p3.2 g3
      have ee : fi r 14 - 1 + 1 = fi r 14 := by clear w w1 ih hK cr x w2; grind
      refine ws_push ?_ ?_ hcap.2 ?_
      · exact p3.1
      · show (fi r 14 - 1).toInt < _
        rw [hd1]
        omega
      · refine ws_JS w2 cr ⟨fun y y0 y1 y2 y3 => ?_, fun y y0 y1 y2 => ?_, fun k k0 k1 k2 => ?_, ?_⟩ sx (fun r2 q1 q2 q3 => ih r2 (v2 + 1) (WI_any q1 0 0) q2 q3)
        · have y2' : upd (ar r 28) (ar r 31 (fi r 14 - 1).toNatClampNeg).toNatClampNeg (fi r 13) y.toNatClampNeg = fi r 13 := y2
          show upd (ar r 29) (ar r 31 (fi r 14 - 1).toNatClampNeg).toNatClampNeg (ar r 31 (fi r 14 - 1).toNatClampNeg) y.toNatClampNeg = y
          rw [updI _ _ g3 y0] at y2' ⊢
          by_cases e : y = ar r 31 (fi r 14 - 1).toNatClampNeg
          · rw [if_pos e, e]
          · rw [if_neg e] at y2' ⊢
            exact x.1 y y0 y1 y2' y3
        · have y2' : upd (ar r 28) (ar r 31 (fi r 14 - 1).toNatClampNeg).toNatClampNeg (fi r 13) y.toNatClampNeg = fi r 13 := y2
          rw [updI _ _ g3 y0] at y2'
          by_cases e : y = ar r 31 (fi r 14 - 1).toNatClampNeg
          · rw [e]; exact Or.inr sx
          · rw [if_neg e] at y2'
            exact x.2.1 y y0 y1 y2'
        · have k1' : k < fi r 14 - 1 + 1 := k1
          rw [ee] at k1'
          have k2' : 0 ≤ upd (ar r 31) (fi r 14 - 1).toNatClampNeg (-1 - ar r 31 (fi r 14 - 1).toNatClampNeg) k.toNatClampNeg := k2
          show S (upd (ar r 31) (fi r 14 - 1).toNatClampNeg (-1 - ar r 31 (fi r 14 - 1).toNatClampNeg) k.toNatClampNeg)
          rw [updI _ _ p3.1 k0] at k2' ⊢
          by_cases e : k = fi r 14 - 1
          · rw [if_pos e] at k2'
            exact (nl0 k2' (m1n g3)).elim
          · rw [if_neg e] at k2' ⊢
            exact x.2.2.1 k k0 k1' k2'
        · have d := DO_visit x.2.2.2 w.2.2.2.1 h0 g3 g4
          show DO (ar r 30) (fi r 12) (upd (ar r 31) (fi r 14 - 1).toNatClampNeg (-1 - ar r 31 (fi r 14 - 1).toNatClampNeg)) (fi r 14 - 1 + 1)
          rw [ee]
          exact d
    · refine ih _ (v2 + 1) (WI_any (WI_pop w h0 g3 g4) 0 0) cr ⟨x.1, x.2.1, fun k k0 k1 => x.2.2.1 k k0 (pl2 h0 k1), DO_pop x.2.2.2 h0⟩
    · intro _ r30 e30 r31 e31
      subst e30
      subst e31
      have h1 : ar r 31 (fi r 14 - 1).toNatClampNeg < 0 := Int32.not_le.mp g3
      exact ih _ (v2 + 1) (WI_any (WI_mark w h0 h1) 0 0) cr ⟨x.1, x.2.1, fun k k0 k1 => x.2.2.1 k k0 (pl2 h0 k1), DO_mark x.2.2.2 h0 w.2.2.1.1 (by have := ho.1; clear w w1 ih hK cr x hcap; grind) h1⟩
/-- between walks: PW, and each is ordered once -/
def DO0 (r : S_) : Prop := ∀ i j : Int32, 0 ≤ i → i < j → j < fi r 12 → ¬ ar r 30 i.toNatClampNeg = ar r 30 j.toNatClampNeg
theorem ws_walk {p0 : Int32} {S : Int32 → Prop} (w : PW a r rh ta N acy rk) (h1 : 0 ≤ p0) (h2 : p0 < fi r 11) (cr : Cr r rh S) (sp : S (rh p0)) (d : DO0 r) {K : S_ → Prop} (hK : ∀ r', PW a r' rh ta N acy rk → Fw r r' → ar r' 28 (rh p0).toNatClampNeg = fi r' 13 → (∀ x : Int32, 0 ≤ x → x < fi r 11 → ar r' 28 x.toNatClampNeg = fi r 13 → ar r 28 x.toNatClampNeg = fi r 13 ∨ S x) → (∀ x : Int32, 0 ≤ x → x < fi r 11 → ar r' 28 x.toNatClampNeg = fi r 13 → ¬ ar r 28 x.toNatClampNeg = fi r 13 → ar r' 29 x.toNatClampNeg = x) → DO0 r' → K r') : wG_walk a K r p0 := by
  have key : wG_walk a (fun r' => WX S (ar r 28) r') r p0 := by
    unfold wG_walk
    intro r1 e1
    have w0 : WI a r1 rh ta N acy rk 0 0 0 := by rw [e1]; exact w
    have h14 : fi r1 14 = 0 := by rw [e1]; rfl
    have h11 : fi r1 11 = fi r 11 := by rw [e1]; rfl
    have x1 : WX S (ar r 28) r1 := by
      refine ⟨fun x x0 x1 x2 x3 => absurd ?_ x3, fun x x0 x1 x2 => Or.inl ?_, fun k k0 k1 => ?_, ?_, fun k i k0 k1 => ?_, fun k k' k0 k1 k2 => ?_⟩
      · rw [e1] at x2 ⊢; exact x2
      · rw [e1] at x2 ⊢; exact x2
      · rw [h14] at k1; exact (nl0 k0 k1).elim
      · rw [e1]; exact d
      · rw [h14] at k1; exact (nl0 k0 k1).elim
      · rw [h14] at k2; exact (nl0 (le0 k0 k1) k2).elim
    have cr1 : Cr r1 rh S := by rw [e1]; exact cr
    have hr := w0.1.2.2.2.2.1.2 p0 h1 (by rw [h11]; exact h2)
    refine ws_settled w0.1 h1 (by rw [h11]; exact h2) (fun f k1 k2 => ?_)
    have w2 := WI_fs w0 k1 k2
    have hc := cap w2
    have w3 := WI_push0 w2 h14 hr.1 hr.2.1 hr.2.2.1
    refine ws_push w2.2.2.1.2.1 hc.1 hc.2 (fun n => ?_)
    exact ws_walk_L (fun r' h => h) n _ 0 w3 (Cr_22 (r := r1) k2 cr1) (WX_push (r := sA r1 22 f) x1 w2.2.2.1.2.1 (o_lt w2).2 hr.1 sp)
  refine wq_G_walk (K := fun r' => PW a r' rh ta N acy rk ∧ Fw r r' ∧ ar r' 28 (rh p0).toNatClampNeg = fi r' 13) (K2 := fun r' => WX S (ar r 28) r') (fun r' h x => ?_) (walk_ok w h1 h2 (fun r' q1 q2 q3 => ⟨q1, q2, q3⟩)) key
  obtain ⟨q1, q2, q3⟩ := h
  have e11 : fi r' 11 = fi r 11 := q2.1 11 (by decide) (by decide)
  have e13 : fi r' 13 = fi r 13 := q2.1 13 (by decide) (by decide)
  exact hK r' q1 q2 q3 (fun y y0 y1 y2 => by
    have := x.2.1 y y0 (by rw [e11]; exact y1) (by rw [e13]; exact y2)
    rw [e13] at this
    exact this) (fun y y0 y1 y2 y3 => x.1 y y0 (by rw [e11]; exact y1) (by rw [e13]; exact y2) (by rw [e13]; exact y3)) x.2.2.2.1
theorem ws_start {K : S_ → Prop} (hK : K (sF (sF r 13 (fi r 13 + 1)) 12 0)) : wG_startWalk a K r := by
  unfold wG_startWalk
  intro r1 e1 r2 e2
  subst e1
  subst e2
  exact hK
theorem DO0_start : DO0 (sF (sF r 13 (fi r 13 + 1)) 12 0) := fun i j i0 ij jo => (nl0 (le0 i0 ij) (show j < 0 from jo)).elim
end ZCWALK
