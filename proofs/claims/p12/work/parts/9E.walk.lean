/-! The walk: parts before wholes. -/
section WALK3
variable {c : Int32} {h f s : Nat → Int32} {rh rk : Int32 → Int32} {V : Nat → Int32} {vis : Int32} {val ord : Nat → Int32} {o : Int32} {st : Nat → Int32} {hh px pp : Int32} {d : Nat}
theorem irr {x : Int32} (g : x < x) : False := by grind
theorem ltt {x y z : Int32} (g : x < y) (g2 : y < z) : x < z := by grind
theorem npl {p q : Int32} (e : ¬ p = q) (e2 : ¬ p < q) : q < p := by grind
theorem le0 {p q : Int32} (e : 0 ≤ p) (e2 : p < q) : 0 ≤ q := by grind
theorem WD1_pop (w : WD1 rk st hh) (h0 : 0 < hh) : WD1 rk st (hh - 1) := fun p q k1 k2 k3 k4 => w p q k1 k2 (pl2 h0 k3) k4
theorem WD2_pop (w2 : WD2 f s rh ord o st hh px 0) (w1 : WD1 rk st hh) (h0 : 0 < hh) (h1 : 0 ≤ st (hh - 1).toNatClampNeg) (wc : (∃ k : Int32, 0 ≤ k ∧ k < o ∧ ord k.toNatClampNeg = st (hh - 1).toNatClampNeg) ∨ ∃ k : Int32, 0 ≤ k ∧ k < hh ∧ st k.toNatClampNeg = -1 - st (hh - 1).toNatClampNeg) : WD2 f s rh ord o st (hh - 1) px 0 := by
  have p3 := pl3 h0
  have wo : ∃ k : Int32, 0 ≤ k ∧ k < o ∧ ord k.toNatClampNeg = st (hh - 1).toNatClampNeg := by
    rcases wc with b | ⟨k, q1, q2, q3⟩
    · exact b
    · exfalso
      have hn : st k.toNatClampNeg < 0 := by rw [q3]; exact m1n h1
      have hk : ¬ k = hh - 1 := fun e => by subst e; exact nl0 h1 hn
      have := w1 k (hh - 1) q1 (pl h0 q2 hk) p3.2 hn
      rw [itm_p h1, q3, m1m] at this
      exact irr this
  have key : ∀ p y : Int32, onS ord o st hh p y → onS ord o st (hh - 1) p y := by
    intro p y hy
    rcases hy with b | ⟨q, q1, q2, q3⟩
    · exact Or.inl b
    · by_cases e : q = hh - 1
      · subst e
        rw [itm_p h1] at q3
        subst q3
        exact Or.inl wo
      · exact Or.inr ⟨q, q1, pl h0 q2 e, q3⟩
  intro p k1 k2 k3
  obtain ⟨b1, b2⟩ := w2 p k1 (pl2 h0 k2) k3
  exact ⟨fun g g2 => key _ _ (b1 g g2), fun g g2 => key _ _ (b2 g g2)⟩
theorem WD2_mark (w2 : WD2 f s rh ord o st hh px 0) (h0 : 0 < hh) (ho : 0 ≤ o) (ho2 : o < 20000) (h1 : st (hh - 1).toNatClampNeg < 0) : WD2 f s rh (upd ord o.toNatClampNeg (-1 - st (hh - 1).toNatClampNeg)) (o + 1) st (hh - 1) px 0 := by
  have key : ∀ p y : Int32, onS ord o st hh p y → onS (upd ord o.toNatClampNeg (-1 - st (hh - 1).toNatClampNeg)) (o + 1) st (hh - 1) p y := by
    intro p y hy
    rcases hy with ⟨k, q1, q2, q3⟩ | ⟨q, q1, q2, q3⟩
    · refine Or.inl ⟨k, q1, ps ho2 q2, ?_⟩
      rw [updI ord _ ho q1, if_neg (fun e => by subst e; exact irr q2), q3]
    · by_cases e : q = hh - 1
      · subst e
        rw [itm_n h1] at q3
        exact Or.inl ⟨o, ho, ps3 ho2, by rw [pk_us, q3]⟩
      · exact Or.inr ⟨q, q1, pl h0 q2 e, q3⟩
  intro p k1 k2 k3
  obtain ⟨b1, b2⟩ := w2 p k1 (pl2 h0 k2) k3
  exact ⟨fun g g2 => key _ _ (b1 g g2), fun g g2 => key _ _ (b2 g g2)⟩
theorem WD3_mark (w3 : WD3 f s rh ord o) (w2 : WD2 f s rh ord o st hh px 0) (h0 : 0 < hh) (ho : 0 ≤ o) (ho2 : o < 20000) (h1 : st (hh - 1).toNatClampNeg < 0) : WD3 f s rh (upd ord o.toNatClampNeg (-1 - st (hh - 1).toNatClampNeg)) (o + 1) := by
  have p3 := pl3 h0
  have old : ∀ j : Int32, 0 ≤ j → j < o → upd ord o.toNatClampNeg (-1 - st (hh - 1).toNatClampNeg) j.toNatClampNeg = ord j.toNatClampNeg := fun j j1 j2 => by
    rw [updI ord _ ho j1, if_neg (fun e => by subst e; exact irr j2)]
  intro k k1 k2
  by_cases e : k = o
  · subst e
    rw [pk_us]
    obtain ⟨b1, b2⟩ := w2 (hh - 1) p3.1 p3.2 h1
    refine ⟨fun g => ?_, fun g => ?_⟩
    · rcases b1 g (fun _ => rfl) with ⟨j, q1, q2, q3⟩ | ⟨q, q1, q2, q3⟩
      · exact ⟨j, q1, q2, by rw [old j q1 q2, q3]⟩
      · exact absurd q1 (by clear w2 w3 old; grind)
    · rcases b2 g (fun _ => by decide) with ⟨j, q1, q2, q3⟩ | ⟨q, q1, q2, q3⟩
      · exact ⟨j, q1, q2, by rw [old j q1 q2, q3]⟩
      · exact absurd q1 (by clear w2 w3 old; grind)
  · have k3 := ps2 ho2 k2 e
    rw [old k k1 k3]
    obtain ⟨b1, b2⟩ := w3 k k1 k3
    refine ⟨fun g => ?_, fun g => ?_⟩
    · obtain ⟨j, q1, q2, q3⟩ := b1 g
      exact ⟨j, q1, q2, by rw [old j q1 (ltt q2 k3), q3]⟩
    · obtain ⟨j, q1, q2, q3⟩ := b2 g
      exact ⟨j, q1, q2, by rw [old j q1 (ltt q2 k3), q3]⟩
theorem itm_v (h0 : 0 < hh) (h1 : 0 ≤ st (hh - 1).toNatClampNeg) {q : Int32} (hq : 0 ≤ q) : itm (upd st (hh - 1).toNatClampNeg (-1 - st (hh - 1).toNatClampNeg) q.toNatClampNeg) = itm (st q.toNatClampNeg) := by
  have p3 := pl3 h0
  rw [updI st _ p3.1 hq]
  by_cases e : q = hh - 1
  · rw [if_pos e, itm_n (m1n h1), m1m, e, itm_p h1]
  · rw [if_neg e]
theorem WD1_visit (w : WD1 rk st hh) (h0 : 0 < hh) (h1 : 0 ≤ st (hh - 1).toNatClampNeg) : WD1 rk (upd st (hh - 1).toNatClampNeg (-1 - st (hh - 1).toNatClampNeg)) hh := by
  have p3 := pl3 h0
  intro p q k1 k2 k3 k4
  rw [itm_v h0 h1 (le0 k1 k2)]
  by_cases e : p = hh - 1
  · exact absurd k3 (by clear w; grind)
  · rw [updI st _ p3.1 k1, if_neg e] at k4 ⊢
    exact w p q k1 k2 k3 k4
theorem WD2_visit (w2 : WD2 f s rh ord o st hh px 0) (h0 : 0 < hh) (h1 : 0 ≤ st (hh - 1).toNatClampNeg) : WD2 f s rh ord o (upd st (hh - 1).toNatClampNeg (-1 - st (hh - 1).toNatClampNeg)) hh (st (hh - 1).toNatClampNeg) 2 := by
  have p3 := pl3 h0
  have key : ∀ p y : Int32, 0 ≤ p → onS ord o st hh p y → onS ord o (upd st (hh - 1).toNatClampNeg (-1 - st (hh - 1).toNatClampNeg)) hh p y := by
    intro p y p0 hy
    rcases hy with b | ⟨q, q1, q2, q3⟩
    · exact Or.inl b
    · exact Or.inr ⟨q, q1, q2, by rw [itm_v h0 h1 (le0 p0 q1), q3]⟩
  intro p k1 k2 k3
  by_cases e : p = hh - 1
  · subst e
    rw [pk_us, m1m]
    exact ⟨fun g g2 => absurd (g2 rfl) (by decide), fun g g2 => absurd (g2 rfl) (by decide)⟩
  · rw [updI st _ p3.1 k1, if_neg e] at k3 ⊢
    obtain ⟨b1, b2⟩ := w2 p k1 k2 k3
    exact ⟨fun g g2 => key _ _ k1 (b1 g (fun _ => rfl)), fun g g2 => key _ _ k1 (b2 g (fun _ => by decide))⟩
theorem WE_visit (h0 : 0 < hh) (h1 : 0 ≤ st (hh - 1).toNatClampNeg) : WE (upd st (hh - 1).toNatClampNeg (-1 - st (hh - 1).toNatClampNeg)) hh (st (hh - 1).toNatClampNeg) (hh - 1) := by
  have p3 := pl3 h0
  refine ⟨p3.1, p3.2, by rw [pk_us], h1, fun q k1 k2 => ?_⟩
  exact absurd k2 (by grind)
theorem WD2_skipS (w : WD2 f s rh ord o st hh px 2) (h1 : s px.toNatClampNeg = -1) : WD2 f s rh ord o st hh px 1 := by
  intro p k1 k2 k3
  obtain ⟨b1, b2⟩ := w p k1 k2 k3
  refine ⟨fun g g2 => b1 g (fun e => absurd (g2 e) (by decide)), fun g g2 => b2 g (fun e => ?_)⟩
  rw [e] at g
  exact absurd h1 g
theorem WD2_skipF (w : WD2 f s rh ord o st hh px 1) (h1 : f px.toNatClampNeg = -1) : WD2 f s rh ord o st hh px 0 := by
  intro p k1 k2 k3
  obtain ⟨b1, b2⟩ := w p k1 k2 k3
  refine ⟨fun g g2 => b1 g (fun e => ?_), fun g g2 => b2 g (fun e => by decide)⟩
  rw [e] at g
  exact absurd h1 g
theorem WD1_push {y : Int32} (w : WD1 rk st hh) (we : WE st hh px pp) (h0 : 0 ≤ hh) (h9 : hh < 20000) (hy : 0 ≤ y) (hr : rk y < rk px) : WD1 rk (upd st hh.toNatClampNeg y) (hh + 1) := by
  intro p q k1 k2 k3 k4
  have k5 : ¬ p = hh := fun e => by subst e; exact nl0 hy (by rw [pk_us] at k4; exact k4)
  have k6 : p < hh := by
    clear w we k4
    grind
  rw [updI st _ h0 k1, if_neg k5] at k4 ⊢
  rw [updI st _ h0 (le0 k1 k2)]
  by_cases e : q = hh
  · rw [if_pos e, itm_p hy]
    by_cases e2 : p = pp
    · rw [e2, we.2.2.1, m1m]; exact hr
    · have k7 : p < pp := by
        by_cases e3 : p < pp
        · exact e3
        · exact absurd k4 (fun z => nl0 (we.2.2.2.2 p (npl e2 e3) k6) z)
      have k8 := w p pp k1 k7 we.2.1 k4
      rw [we.2.2.1, itm_n (m1n we.2.2.2.1), m1m] at k8
      exact ltt hr k8
  · rw [if_neg e]
    exact w p q k1 k2 (ps2 h9 k3 e) k4
theorem WE_push {y : Int32} (we : WE st hh px pp) (h0 : 0 ≤ hh) (h9 : hh < 20000) (hy : 0 ≤ y) : WE (upd st hh.toNatClampNeg y) (hh + 1) px pp := by
  obtain ⟨e1, e2, e3, e4, e5⟩ := we
  refine ⟨e1, ps h9 e2, ?_, e4, fun q k1 k2 => ?_⟩
  · rw [updI st _ h0 e1, if_neg (fun e => by subst e; exact irr e2), e3]
  · rw [updI st _ h0 (le0 e1 k1)]
    by_cases e : q = hh
    · rw [if_pos e]; exact hy
    · rw [if_neg e]; exact e5 q k1 (ps2 h9 k2 e)
theorem onS_push {y p z : Int32} (h0 : 0 ≤ hh) (h9 : hh < 20000) (hp : 0 ≤ p) (w : onS ord o st hh p z) : onS ord o (upd st hh.toNatClampNeg y) (hh + 1) p z := by
  rcases w with b | ⟨q, q1, q2, q3⟩
  · exact Or.inl b
  · refine Or.inr ⟨q, q1, ps h9 q2, ?_⟩
    rw [updI st _ h0 (le0 hp q1), if_neg (fun e => by subst e; exact irr q2), q3]
theorem WD2_pushS (w : WD2 f s rh ord o st hh px 2) (h0 : 0 ≤ hh) (h9 : hh < 20000) (hy : 0 ≤ rh (s px.toNatClampNeg)) : WD2 f s rh ord o (upd st hh.toNatClampNeg (rh (s px.toNatClampNeg))) (hh + 1) px 1 := by
  intro p k1 k2 k3
  have k5 : ¬ p = hh := fun e => by subst e; exact nl0 hy (by rw [pk_us] at k3; exact k3)
  rw [updI st _ h0 k1, if_neg k5] at k3 ⊢
  have k6 := ps2 h9 k2 k5
  obtain ⟨b1, b2⟩ := w p k1 k6 k3
  refine ⟨fun g g2 => onS_push h0 h9 k1 (b1 g (fun e => absurd (g2 e) (by decide))), fun g g2 => ?_⟩
  by_cases e : -1 - st p.toNatClampNeg = px
  · refine Or.inr ⟨hh, k6, ps3 h9, ?_⟩
    rw [pk_us, itm_p hy, e]
  · exact onS_push h0 h9 k1 (b2 g (fun z => absurd z e))
theorem WD2_pushF (w : WD2 f s rh ord o st hh px 1) (h0 : 0 ≤ hh) (h9 : hh < 20000) (hy : 0 ≤ rh (f px.toNatClampNeg)) : WD2 f s rh ord o (upd st hh.toNatClampNeg (rh (f px.toNatClampNeg))) (hh + 1) px 0 := by
  intro p k1 k2 k3
  have k5 : ¬ p = hh := fun e => by subst e; exact nl0 hy (by rw [pk_us] at k3; exact k3)
  rw [updI st _ h0 k1, if_neg k5] at k3 ⊢
  have k6 := ps2 h9 k2 k5
  obtain ⟨b1, b2⟩ := w p k1 k6 k3
  refine ⟨fun g g2 => ?_, fun g g2 => onS_push h0 h9 k1 (b2 g (fun e => by decide))⟩
  by_cases e : -1 - st p.toNatClampNeg = px
  · refine Or.inr ⟨hh, k6, ps3 h9, ?_⟩
    rw [pk_us, itm_p hy, e]
  · exact onS_push h0 h9 k1 (b1 g (fun z => absurd z e))
end WALK3
