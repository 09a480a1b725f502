/-! The reference: marking the types that a type holds. -/
section STATIC2
/-- what marking comes to -/
def SP (r0 r : S_) (t : Int32) : Prop := SJ r0 r t (-1)
theorem st_down {l : Nat → Nat} {r0 r : S_} {t k : Int32} {b2 : Nat → Int32} (w : TT l r0) (t0 : 0 ≤ t) (t1 : t < fi r0 1) (k0 : 0 ≤ k) (kt : k ≤ t) (hF : Fr [] [88] r0 (sA r 88 b2)) (h2 : ∀ j : Int32, 0 ≤ j → j < 60 → zb (b2 j.toNatClampNeg) ∧ (¬ b2 j.toNatClampNeg = 0 → j ≤ t)) (h3 : ¬ b2 t.toNatClampNeg = 0) (h4 : ∀ j : Int32, 0 ≤ j → j < 60 → ¬ b2 j.toNatClampNeg = 0 → j.toInt > k.toInt → (0 ≤ ar r0 2 j.toNatClampNeg → ¬ b2 (ar r0 2 j.toNatClampNeg).toNatClampNeg = 0) ∧ (0 ≤ ar r0 3 j.toNatClampNeg → ¬ b2 (ar r0 3 j.toNatClampNeg).toNatClampNeg = 0)) (h5 : ∀ A : Int32 → Prop, A t → (∀ j : Int32, 0 ≤ j → j < fi r0 1 → A j → (0 ≤ ar r0 2 j.toNatClampNeg → A (ar r0 2 j.toNatClampNeg)) ∧ (0 ≤ ar r0 3 j.toNatClampNeg → A (ar r0 3 j.toNatClampNeg))) → ∀ j : Int32, 0 ≤ j → j < 60 → ¬ b2 j.toNatClampNeg = 0 → A j) (hk : ¬ b2 k.toNatClampNeg = 0 → (0 ≤ ar r0 2 k.toNatClampNeg → ¬ b2 (ar r0 2 k.toNatClampNeg).toNatClampNeg = 0) ∧ (0 ≤ ar r0 3 k.toNatClampNeg → ¬ b2 (ar r0 3 k.toNatClampNeg).toNatClampNeg = 0)) (h6 : ∀ p u, WT r0 p u → sm (ww p u b2 k.toInt) 60 ≤ u t.toNatClampNeg + (if b2 k.toNatClampNeg = 0 then 0 else (if ar r0 2 k.toNatClampNeg = -1 then 0 else u (ar r0 2 k.toNatClampNeg).toNatClampNeg) + (if ar r0 3 k.toNatClampNeg = -1 then 0 else u (ar r0 3 k.toNatClampNeg).toNatClampNeg))) : SJ r0 (sA r 88 b2) t (k.toInt - 1) := by
  have f4 := w.1.2.2.2
  have k60 : k.toNatClampNeg < 60 := by
    have h := i_nat k0
    rw [il] at f4 kt
    rw [it] at t1
    simp at f4
    omega
  have kr : k < fi r0 1 := by rw [it]; rw [il] at kt; rw [it] at t1; omega
  have a88 : ar (sA r 88 b2) 88 = b2 := by rw [ar_sA, if_pos rfl]
  unfold SJ
  rw [a88]
  refine ⟨hF, h2, h3, fun j j0 j1 j2 j3 => ?_, h5, fun p u hw => ?_⟩
  · by_cases e : j.toInt > k.toInt
    · exact h4 j j0 j1 j2 e
    · have e2 : j = k := by rw [ie]; omega
      rw [e2] at j2 ⊢
      exact hk j2
  · have e := sm_upd (f := ww p u b2 k.toInt) (g := ww p u b2 (k.toInt - 1)) k60 (fun j _ hj => by
      unfold ww
      have kn := i_nat k0
      by_cases g : b2 j = 0
      · rw [if_pos g, if_pos g]
      · rw [if_neg g, if_neg g]
        by_cases g2 : (j : Int) > k.toInt
        · rw [if_pos g2, if_pos (by omega)]
        · rw [if_neg g2, if_neg (by omega)])
    rw [e]
    have hs := h6 p u hw
    have hq := hw.2 k k0 kr
    have kn := i_nat k0
    by_cases g : b2 k.toNatClampNeg = 0
    · have e1 : ww p u b2 (k.toInt - 1) k.toNatClampNeg = 0 := by unfold ww; rw [if_pos g]
      have e2 : ww p u b2 k.toInt k.toNatClampNeg = 0 := by unfold ww; rw [if_pos g]
      rw [if_pos g] at hs
      omega
    · have e1 : ww p u b2 (k.toInt - 1) k.toNatClampNeg = p k.toNatClampNeg := by unfold ww; rw [if_neg g, if_pos (by omega)]
      have e2 : ww p u b2 k.toInt k.toNatClampNeg = u k.toNatClampNeg := by unfold ww; rw [if_neg g, if_neg (by omega)]
      rw [if_neg g] at hs
      omega
theorem markStatic_ok {ad l : Nat → Nat} {r0 : S_} {t : Int32} (w : TT l r0) (hM : ML (A0 l)) (e38 : ar r0 38 = ar r0 2) (e39 : ar r0 39 = ar r0 3) (t0 : 0 ≤ t) (t1 : t < fi r0 1) {K : S_ → Prop} (hK : ∀ r, SP r0 r t → K r) : qM_markStatic (ad, l) K r0 t := by
  have l88 : l 88 = 60 := ml (n := 60) hM (by decide) (by decide) rfl
  have l38 : l 38 = 60 := ml (n := 60) hM (by decide) (by decide) rfl
  have l39 : l 39 = 60 := ml (n := 60) hM (by decide) (by decide) rfl
  have f4 := w.1.2.2.2
  have t60 : t < 60 := by clear w hK hM; grind
  have v60 : ∀ k : Int32, 0 ≤ k → k < 60 → ∀ q, l q = 60 → vp_in k (l q) := fun k k0 k1 q hq => vi2 k0 k1 (by rw [hq]; decide)
  -- downwards
  have down : ∀ (n : Nat) (r : S_) (k : Int32), SJ r0 r t k.toInt → -1 ≤ k → k ≤ t → k.toInt + 1 < n → qM_markStatic_L32 (ad, l) (fun r => K r) n r k := by
    intro n
    induction n with
    | zero =>
      intro r k h k1 k2 k3
      rw [il] at k1
      simp at k1
      omega
    | succ n ih =>
      intro r k h k1 k2 k3
      have h' := h
      obtain ⟨h1, h2, h3, h4, h5, h6⟩ := h
      have r38 : ar r 38 = ar r0 2 := (h1.2.1 38 (by decide)).trans e38
      have r39 : ar r 39 = ar r0 3 := (h1.2.1 39 (by decide)).trans e39
      rw [qM_markStatic_L32]
      refine ⟨fun g => hK r ?_, fun g => ?_⟩
      · have e : k.toInt = -1 := by
          rw [il] at k1
          rw [it] at g
          simp at k1 g
          omega
        rw [e] at h'
        exact h'
      · have k0 : 0 ≤ k := by clear h' h1 h2 h3 h4 h5 h6 w hK hM ih v60; grind
        have k60 : k < 60 := by clear h' h1 h2 h3 h4 h5 h6 w hK hM ih v60; grind
        have kr : k < fi r0 1 := by clear h' h1 h2 h3 h4 h5 h6 w hK hM ih v60; grind
        have hd : (k + -1).toInt = k.toInt - 1 := by
          have h9 := k0
          rw [il] at h9
          have := ir k
          rw [i_add (by simp at h9 ⊢; omega) (by simp at h9 ⊢; omega)]
          simp
          omega
        have wt := w.2.2.2 k k0 kr
        have c1 : -1 ≤ k + -1 := by rw [il, hd]; rw [il] at k0; simp at k0 ⊢; omega
        have c2 : k + -1 ≤ t := by rw [il, hd]; rw [il] at k2; omega
        have go : ∀ b2 : Nat → Int32, SJ r0 (sA r 88 b2) t (k.toInt - 1) → qM_markStatic_L32 (ad, l) (fun r => K r) n (sA r 88 b2) (k + -1) := fun b2 hb => ih _ _ (by rw [hd]; exact hb) c1 c2 (by omega)
        -- unmarked: on
        have go0 : ar r 88 k.toNatClampNeg = 0 → qM_markStatic_L32 (ad, l) (fun r => K r) n r (k + -1) := by
          intro e
          have := go (ar r 88) (st_down w t0 t1 k0 k2 (by rw [sA_id]; exact h1) h2 h3 h4 h5 (fun z => absurd e z) (fun p u hw => by rw [if_pos e]; have := h6 p u hw; omega))
          rw [sA_id] at this
          exact this
        have hxy : ∀ x : Int32, 0 ≤ x → x < k → x.toInt ≤ k.toInt ∧ x ≤ t ∧ x < 60 := fun x x0 x1 => by
          rw [it] at x1
          refine ⟨by omega, ?_, ?_⟩
          · rw [il]; rw [il] at k2; omega
          · rw [it]; rw [it] at k60; omega
        -- the second part, b1: marks with the first part's mark
        have j66 : ∀ (b1 : Nat → Int32), ¬ b1 k.toNatClampNeg = 0 → Fr [] [88] r0 (sA r 88 b1) → (∀ j : Int32, 0 ≤ j → j < 60 → zb (b1 j.toNatClampNeg) ∧ (¬ b1 j.toNatClampNeg = 0 → j ≤ t)) → ¬ b1 t.toNatClampNeg = 0 → (∀ j : Int32, 0 ≤ j → j < 60 → ¬ b1 j.toNatClampNeg = 0 → j.toInt > k.toInt → (0 ≤ ar r0 2 j.toNatClampNeg → ¬ b1 (ar r0 2 j.toNatClampNeg).toNatClampNeg = 0) ∧ (0 ≤ ar r0 3 j.toNatClampNeg → ¬ b1 (ar r0 3 j.toNatClampNeg).toNatClampNeg = 0)) → (∀ A : Int32 → Prop, A t → (∀ j : Int32, 0 ≤ j → j < fi r0 1 → A j → (0 ≤ ar r0 2 j.toNatClampNeg → A (ar r0 2 j.toNatClampNeg)) ∧ (0 ≤ ar r0 3 j.toNatClampNeg → A (ar r0 3 j.toNatClampNeg))) → ∀ j : Int32, 0 ≤ j → j < 60 → ¬ b1 j.toNatClampNeg = 0 → A j) → (0 ≤ ar r0 2 k.toNatClampNeg → ¬ b1 (ar r0 2 k.toNatClampNeg).toNatClampNeg = 0) → (∀ p u, WT r0 p u → sm (ww p u b1 k.toInt) 60 ≤ u t.toNatClampNeg + (if ar r0 2 k.toNatClampNeg = -1 then 0 else u (ar r0 2 k.toNatClampNeg).toNatClampNeg)) → qM_markStatic_J66 (ad, l) (qM_markStatic_L32 (ad, l) (fun r => K r) n) (fun r => K r) (sA r 88 b1) k := by
          intro b1 bk bF b2 b3 b4 b5 b7 b6
          have a88 : ar (sA r 88 b1) 88 = b1 := by rw [ar_sA, if_pos rfl]
          have a39 : ar (sA r 88 b1) 39 = ar r0 3 := by rw [ar_sA, if_neg (by decide)]; exact r39
          unfold qM_markStatic_J66 qM_markStatic_J96
          rw [a88, a39]
          refine ⟨v60 k k0 k60 88 l88, fun z => absurd z bk, fun _ => ⟨v60 k k0 k60 39 l39, fun g2 => ?_, fun g2 => ?_⟩⟩
          · refine go b1 (st_down w t0 t1 k0 k2 bF b2 b3 b4 b5 (fun _ => ⟨b7, fun z => absurd z (fun q => nl0 q g2)⟩) (fun p u hw => ?_))
            have e3 : ar r0 3 k.toNatClampNeg = -1 := by have := wt.2.2.1.1; clear h' h1 h2 h3 h4 h5 h6 w hK hM ih v60 go go0 hxy bF b2 b3 b4 b5 b6 b7 wt hw; grind
            rw [if_neg bk, if_pos e3]
            have := b6 p u hw
            omega
          · have g3 : 0 ≤ ar r0 3 k.toNatClampNeg := by clear h' h1 h2 h3 h4 h5 h6 w hK hM ih v60 go go0 hxy bF b2 b3 b4 b5 b6 b7 wt; grind
            have hx := hxy _ g3 wt.2.2.1.2
            refine ⟨v60 k k0 k60 39 l39, v60 _ g3 hx.2.2 88 l88, fun r14 e14 => ?_⟩
            rw [nar1, sA_sA] at e14
            rw [e14]
            have m := SJ_mark (x := ar r0 3 k.toNatClampNeg) (r := sA r 88 b1) w t0 t1 bF (by rw [a88]; exact b2) (by rw [a88]; exact b3) (by rw [a88]; exact b4) g3 hx.1 hx.2.1
            rw [a88, sA_sA] at m
            obtain ⟨m1, m2, m3, m4, m5⟩ := m
            have up : ∀ y : Int32, 0 ≤ y → ¬ b1 y.toNatClampNeg = 0 → ¬ upd b1 (ar r0 3 k.toNatClampNeg).toNatClampNeg 1 y.toNatClampNeg = 0 := fun y y0 hy => by
              rw [updI _ _ g3 y0]
              split
              · decide
              · exact hy
            refine go _ (st_down w t0 t1 k0 k2 m1 m2 m3 m4 (fun A a1 a2 j j0 j1 j2 => ?_) (fun _ => ⟨fun z => up _ z (b7 z), fun _ => by rw [pk_us]; decide⟩) (fun p u hw => ?_))
            · rw [updI _ _ g3 j0] at j2
              by_cases e : j = ar r0 3 k.toNatClampNeg
              · rw [e]
                exact (a2 k k0 kr (b5 A a1 a2 k k0 k60 bk)).2 g3
              · rw [if_neg e] at j2
                exact b5 A a1 a2 j j0 j1 j2
            · have q := m5 p u hw.1
              have q2 := b6 p u hw
              have e3 : (if ar r0 3 k.toNatClampNeg = -1 then 0 else u (ar r0 3 k.toNatClampNeg).toNatClampNeg) = u (ar r0 3 k.toNatClampNeg).toNatClampNeg := if_neg (fun z => by rw [z] at g3; exact absurd g3 (by decide))
              rw [if_neg (up k k0 bk), e3]
              omega
        refine ⟨v60 k k0 k60 88 l88, fun g2 => ?_, fun g2 => ⟨v60 k k0 k60 38 l38, fun g3 => ?_, fun g3 => ?_⟩⟩
        · unfold qM_markStatic_J66 qM_markStatic_J96
          exact ⟨v60 k k0 k60 88 l88, fun _ => go0 g2, fun z => absurd g2 z⟩
        · rw [r38] at g3
          have e2 : ar r0 2 k.toNatClampNeg = -1 := by have := wt.2.1.1; clear h' h1 h2 h3 h4 h5 h6 w hK hM ih v60 go go0 hxy j66 wt; grind
          have := j66 (ar r 88) g2 (by rw [sA_id]; exact h1) h2 h3 h4 h5 (fun z => absurd z (fun q => nl0 q g3)) (fun p u hw => by rw [if_pos e2]; have := h6 p u hw; omega)
          rw [sA_id] at this
          exact this
        · rw [r38] at g3 ⊢
          have g4 : 0 ≤ ar r0 2 k.toNatClampNeg := by clear h' h1 h2 h3 h4 h5 h6 w hK hM ih v60 go go0 hxy j66 wt; grind
          have hx := hxy _ g4 wt.2.1.2
          refine ⟨v60 k k0 k60 38 l38, v60 _ g4 hx.2.2 88 l88, fun r19 e19 => ?_⟩
          rw [nar1] at e19
          rw [e19]
          obtain ⟨m1, m2, m3, m4, m5⟩ := SJ_mark (x := ar r0 2 k.toNatClampNeg) w t0 t1 h1 h2 h3 h4 g4 hx.1 hx.2.1
          refine j66 _ ?_ m1 m2 m3 m4 (fun A a1 a2 j j0 j1 j2 => ?_) (fun _ => by rw [pk_us]; decide) (fun p u hw => ?_)
          · rw [updI _ _ g4 k0]
            split
            · decide
            · exact g2
          · rw [updI _ _ g4 j0] at j2
            by_cases e : j = ar r0 2 k.toNatClampNeg
            · rw [e]
              exact (a2 k k0 kr (h5 A a1 a2 k k0 k60 g2)).1 g4
            · rw [if_neg e] at j2
              exact h5 A a1 a2 j j0 j1 j2
          · have q := m5 p u hw.1
            have q2 := h6 p u hw
            rw [if_neg (fun z => by rw [z] at g4; exact absurd g4 (by decide))]
            omega
  -- the start
  have tn := i_nat t0
  have first : ∀ (n : Nat) (b : Nat → Int32) (v : Int32), 0 ≤ v → v ≤ 60 → (∀ k : Int32, 0 ≤ k → k < v → b k.toNatClampNeg = if k = t then 1 else 0) → (60 : Int) - v.toInt < n → qM_markStatic_L2 (ad, l) (fun r v1 => ∃ n20 : Nat, qM_markStatic_L32 (ad, l) (fun r => K r) n20 r v1) n (sA r0 88 b) t v := by
    intro n
    induction n with
    | zero =>
      intro b v k1 k2 k3 k4
      rw [il] at k2
      simp at k2
      omega
    | succ n ih =>
      intro b v k1 k2 k3 k4
      rw [qM_markStatic_L2]
      refine ⟨fun g => ?_, fun g => ?_⟩
      · have e60 : v = 60 := by clear w hK hM v60 down k3 ih; grind
        rw [e60] at k3
        refine ⟨t.toNatClampNeg + 2, down _ _ t ?_ (by clear w hK hM v60 down k3 ih; grind) (Int32.le_refl _) (by omega)⟩
        have a88 : ar (sA r0 88 b) 88 = b := by rw [ar_sA, if_pos rfl]
        have bt : b t.toNatClampNeg = 1 := by rw [k3 t t0 t60, if_pos rfl]
        unfold SJ
        rw [a88]
        refine ⟨Fr_sA (by decide), fun k q0 q1 => ?_, by rw [bt]; decide, fun k q0 q1 q2 q3 => ?_, fun A a1 _ k q0 q1 q2 => ?_, fun p u hw => ?_⟩
        · rw [k3 k q0 q1]
          split
          · rename_i e
            exact ⟨zb1, fun _ => by rw [e]; exact Int32.le_refl _⟩
          · exact ⟨zb0, fun z => absurd rfl z⟩
        · rw [k3 k q0 q1] at q2
          by_cases e : k = t
          · rw [e] at q3
            omega
          · rw [if_neg e] at q2
            exact absurd rfl q2
        · rw [k3 k q0 q1] at q2
          by_cases e : k = t
          · rw [e]; exact a1
          · rw [if_neg e] at q2
            exact absurd rfl q2
        · have z : ∀ n, sm (fun _ => (0 : Int)) n = 0 := fun n => by
            induction n with
            | zero => rfl
            | succ n ihz => rw [sm, ihz]; rfl
          have t60n : t.toNatClampNeg < 60 := by
            rw [it] at t60
            simp at t60
            omega
          have e := sm_upd (f := fun _ => (0 : Int)) (g := ww p u b t.toInt) t60n (fun j hj hn => by
            unfold ww
            have ej := i_ofn (n := j) (by omega)
            have y1 : 0 ≤ Int32.ofNat j := by rw [il, ej]; simp
            have y3 := i_nat y1
            have y4 : (Int32.ofNat j).toNatClampNeg = j := by omega
            have q := k3 (Int32.ofNat j) y1 (by rw [it, ej]; simp; omega)
            rw [y4, if_neg (fun e => hn (by rw [← e, y4]))] at q
            rw [if_pos q])
          rw [e, z]
          have : ww p u b t.toInt t.toNatClampNeg = u t.toNatClampNeg := by
            unfold ww
            rw [bt, if_neg (by decide), if_neg (by omega)]
          omega
      · have hlt : v < 60 := Int32.not_le.mp g
        have hi := i_inc hlt
        have st : ∀ u0 : Int32, u0 = (if v = t then 1 else 0) → qM_markStatic_J23 (ad, l) (qM_markStatic_L2 (ad, l) (fun r v1 => ∃ n20 : Nat, qM_markStatic_L32 (ad, l) (fun r => K r) n20 r v1) n) (fun r v1 => ∃ n20 : Nat, qM_markStatic_L32 (ad, l) (fun r => K r) n20 r v1) (sA r0 88 b) t v u0 v := by
          intro u0 e0
          unfold qM_markStatic_J23
          refine ⟨v60 v k1 hlt 88 l88, fun r4 e4 => ?_⟩
          have nb : vp_nar .boolean u0 = u0 := by rw [e0]; split <;> rfl
          rw [nb, ar_sA, if_pos rfl, sA_sA] at e4
          rw [e4]
          refine ih _ (v + 1) (by clear w hK hM v60 down k3 ih; grind) (by clear w hK hM v60 down k3 ih; grind) (fun k q0 q1 => ?_) (by omega)
          rw [updI _ _ k1 q0]
          by_cases e : k = v
          · rw [if_pos e, e0, e]
          · rw [if_neg e]
            exact k3 k q0 (by clear w hK hM v60 down k3 ih; grind)
        exact ⟨fun g2 => st 0 (by rw [if_neg g2]), fun g2 => st 1 (by rw [if_pos g2])⟩
  unfold qM_markStatic
  refine ⟨61, ?_⟩
  have := first 61 (ar r0 88) 0 (by decide) (by decide) (fun k q0 q1 => (nl0 q0 q1).elim) (by simp)
  rw [sA_id] at this
  exact this
end STATIC2
