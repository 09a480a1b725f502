/-! The walk: the visited ones, and parts before wholes. -/
section WALK2
variable {c : Int32} {h f s : Nat → Int32} {rh rk : Int32 → Int32} {V : Nat → Int32} {vis : Int32} {val ord : Nat → Int32} {o : Int32} {st : Nat → Int32} {hh px pp : Int32} {d : Nat}
theorem m1m {x : Int32} : -1 - (-1 - x) = x := by grind
theorem m1e {x y : Int32} (e : -1 - x = -1 - y) : x = y := by grind
theorem m1n {x : Int32} (e : 0 ≤ x) : -1 - x < 0 := by grind
theorem nl0 {x : Int32} (e : 0 ≤ x) (g : x < 0) : False := by grind
theorem itm_p {v : Int32} (e : 0 ≤ v) : itm v = v := by unfold itm; rw [if_neg (fun g => nl0 e g)]
theorem itm_n {v : Int32} (e : v < 0) : itm v = -1 - v := by unfold itm; rw [if_pos e]
theorem pl {k hh : Int32} (h0 : 0 < hh) (k2 : k < hh) (e : ¬ k = hh - 1) : k < hh - 1 := by grind
theorem pl2 {k hh : Int32} (h0 : 0 < hh) (k2 : k < hh - 1) : k < hh := by grind
theorem pl3 {hh : Int32} (h0 : 0 < hh) : 0 ≤ hh - 1 ∧ hh - 1 < hh := by grind
theorem ps {k o : Int32} (h9 : o < 20000) (k2 : k < o) : k < o + 1 := by grind
theorem ps2 {k o : Int32} (h9 : o < 20000) (k2 : k < o + 1) (e : ¬ k = o) : k < o := by grind
theorem ps3 {o : Int32} (h9 : o < 20000) : o < o + 1 := by grind
theorem WC_pop (w : WC c h f s rh V vis val ord o st hh px 0) (h0 : 0 < hh) (h1 : 0 ≤ st (hh - 1).toNatClampNeg) (h2 : V (st (hh - 1).toNatClampNeg).toNatClampNeg = vis) : WC c h f s rh V vis val ord o st (hh - 1) px 0 := by
  intro x k1 k2 k3
  obtain ⟨b1, b2, b3, b4, b5, b6⟩ := w x k1 k2 k3
  refine ⟨b1, b2, b3, ?_, fun g g2 => ?_, fun g g2 => ?_⟩
  · rcases b4 with b4 | ⟨k, q1, q2, q3⟩
    · exact Or.inl b4
    · refine Or.inr ⟨k, q1, pl h0 q2 (fun e => ?_), q3⟩
      subst e
      rw [q3] at h1
      exact nl0 h1 (m1n k1)
  · rcases b5 g g2 with b | ⟨k, q1, q2, q3⟩
    · exact Or.inl b
    · by_cases e : k = hh - 1
      · subst e; rw [q3] at h2; exact Or.inl h2
      · exact Or.inr ⟨k, q1, pl h0 q2 e, q3⟩
  · rcases b6 g g2 with b | ⟨k, q1, q2, q3⟩
    · exact Or.inl b
    · by_cases e : k = hh - 1
      · subst e; rw [q3] at h2; exact Or.inl h2
      · exact Or.inr ⟨k, q1, pl h0 q2 e, q3⟩
theorem WC_mark (w : WC c h f s rh V vis val ord o st hh px 0) (hr : ∀ x, 0 ≤ x → x < c → 0 ≤ rh x) (hN : GN c h f s) (h0 : 0 < hh) (ho : 0 ≤ o) (ho2 : o < 20000) (h1 : st (hh - 1).toNatClampNeg < 0) : WC c h f s rh V vis val (upd ord o.toNatClampNeg (-1 - st (hh - 1).toNatClampNeg)) (o + 1) st (hh - 1) px 0 := by
  intro x k1 k2 k3
  obtain ⟨b1, b2, b3, b4, b5, b6⟩ := w x k1 k2 k3
  obtain ⟨n1, n2, n3, n4, n5, n6, n7⟩ := hN x k1 k2
  refine ⟨b1, b2, b3, ?_, fun g g2 => ?_, fun g g2 => ?_⟩
  · rcases b4 with ⟨k, q1, q2, q3⟩ | ⟨k, q1, q2, q3⟩
    · refine Or.inl ⟨k, q1, ps ho2 q2, ?_⟩
      rw [updI ord _ ho q1, if_neg (fun e => by subst e; exact absurd q2 (by clear hr hN; grind)), q3]
    · by_cases e : k = hh - 1
      · subst e
        refine Or.inl ⟨o, ho, ps3 ho2, ?_⟩
        rw [pk_us, q3, m1m]
      · exact Or.inr ⟨k, q1, pl h0 q2 e, q3⟩
  · rcases b5 g g2 with b | ⟨k, q1, q2, q3⟩
    · exact Or.inl b
    · refine Or.inr ⟨k, q1, pl h0 q2 (fun e => ?_), q3⟩
      subst e
      rw [q3] at h1
      exact nl0 (hr _ (by clear hr hN b4 b5 b6 w; grind) n4) h1
  · rcases b6 g g2 with b | ⟨k, q1, q2, q3⟩
    · exact Or.inl b
    · refine Or.inr ⟨k, q1, pl h0 q2 (fun e => ?_), q3⟩
      subst e
      rw [q3] at h1
      exact nl0 (hr _ (by clear hr hN b4 b5 b6 w; grind) n6) h1
theorem WC_visit (w : WC c h f s rh V vis val ord o st hh px 0) (hr : ∀ x, 0 ≤ x → x < c → 0 ≤ rh x) (hN : GN c h f s) (h0 : 0 < hh) (h1 : 0 ≤ st (hh - 1).toNatClampNeg) (h2 : st (hh - 1).toNatClampNeg < c) (h3 : ¬ h (st (hh - 1).toNatClampNeg).toNatClampNeg = -2) (h4 : ¬ V (st (hh - 1).toNatClampNeg).toNatClampNeg = vis) : WC c h f s rh (upd V (st (hh - 1).toNatClampNeg).toNatClampNeg vis) vis (upd val (st (hh - 1).toNatClampNeg).toNatClampNeg (st (hh - 1).toNatClampNeg)) ord o (upd st (hh - 1).toNatClampNeg (-1 - st (hh - 1).toNatClampNeg)) hh (st (hh - 1).toNatClampNeg) 2 := by
  have p3 := pl3 h0
  have key : ∀ y : Int32, 0 ≤ y → (V y.toNatClampNeg = vis ∨ ∃ k : Int32, 0 ≤ k ∧ k < hh ∧ st k.toNatClampNeg = y) → (upd V (st (hh - 1).toNatClampNeg).toNatClampNeg vis y.toNatClampNeg = vis ∨ ∃ k : Int32, 0 ≤ k ∧ k < hh ∧ upd st (hh - 1).toNatClampNeg (-1 - st (hh - 1).toNatClampNeg) k.toNatClampNeg = y) := by
    intro y y0 hy
    rcases hy with b | ⟨k, q1, q2, q3⟩
    · left; rw [updI V _ h1 y0]; split
      · rfl
      · exact b
    · by_cases e : k = hh - 1
      · subst e; left; rw [q3, pk_us]
      · right; refine ⟨k, q1, q2, ?_⟩; rw [updI st _ p3.1 q1, if_neg e, q3]
  intro x k1 k2 k3
  obtain ⟨n1, n2, n3, n4, n5, n6, n7⟩ := hN x k1 k2
  by_cases e : x = st (hh - 1).toNatClampNeg
  · subst e
    refine ⟨h3, ?_, ?_, Or.inr ⟨hh - 1, p3.1, p3.2, by rw [pk_us]⟩, fun g g2 => absurd (g2 rfl) (by decide), fun g g2 => absurd (g2 rfl) (by decide)⟩
    · rw [pk_us]; exact h1
    · rw [pk_us]; exact h2
  · rw [updI V _ h1 k1, if_neg e] at k3
    obtain ⟨b1, b2, b3, b4, b5, b6⟩ := w x k1 k2 k3
    refine ⟨b1, ?_, ?_, ?_, fun g g2 => ?_, fun g g2 => ?_⟩
    · rw [updI val _ h1 k1, if_neg e]; exact b2
    · rw [updI val _ h1 k1, if_neg e]; exact b3
    · rcases b4 with b4 | ⟨k, q1, q2, q3⟩
      · exact Or.inl b4
      · refine Or.inr ⟨k, q1, q2, ?_⟩
        rw [updI st _ p3.1 q1, if_neg (fun e2 => ?_), q3]
        subst e2
        rw [q3] at h1
        exact nl0 h1 (m1n k1)
    · exact key _ (hr _ (by clear hr hN b4 b5 b6 w key; grind) n4) (b5 g (fun _ => rfl))
    · exact key _ (hr _ (by clear hr hN b4 b5 b6 w key; grind) n6) (b6 g (fun _ => by decide))
theorem WC_skipS (w : WC c h f s rh V vis val ord o st hh px 2) (h1 : s px.toNatClampNeg = -1) : WC c h f s rh V vis val ord o st hh px 1 := by
  intro x k1 k2 k3
  obtain ⟨b1, b2, b3, b4, b5, b6⟩ := w x k1 k2 k3
  refine ⟨b1, b2, b3, b4, fun g g2 => b5 g (fun e => absurd (g2 e) (by decide)), fun g g2 => b6 g (fun e => ?_)⟩
  subst e
  exact absurd h1 g
theorem WC_skipF (w : WC c h f s rh V vis val ord o st hh px 1) (h1 : f px.toNatClampNeg = -1) : WC c h f s rh V vis val ord o st hh px 0 := by
  intro x k1 k2 k3
  obtain ⟨b1, b2, b3, b4, b5, b6⟩ := w x k1 k2 k3
  refine ⟨b1, b2, b3, b4, fun g g2 => b5 g (fun e => ?_), fun g g2 => b6 g (fun e => by decide)⟩
  subst e
  exact absurd h1 g
theorem WC_pushS (w : WC c h f s rh V vis val ord o st hh px 2) (h0 : 0 ≤ hh) (h9 : hh < 20000) : WC c h f s rh V vis val ord o (upd st hh.toNatClampNeg (rh (s px.toNatClampNeg))) (hh + 1) px 1 := by
  have key : ∀ y k : Int32, 0 ≤ k → k < hh → st k.toNatClampNeg = y → (0 ≤ k ∧ k < hh + 1 ∧ upd st hh.toNatClampNeg (rh (s px.toNatClampNeg)) k.toNatClampNeg = y) := by
    intro y k q1 q2 q3
    refine ⟨q1, ps h9 q2, ?_⟩
    rw [updI st _ h0 q1, if_neg (fun e => by subst e; exact absurd q2 (by grind)), q3]
  intro x k1 k2 k3
  obtain ⟨b1, b2, b3, b4, b5, b6⟩ := w x k1 k2 k3
  refine ⟨b1, b2, b3, ?_, fun g g2 => ?_, fun g g2 => ?_⟩
  · rcases b4 with b4 | ⟨k, q1, q2, q3⟩
    · exact Or.inl b4
    · exact Or.inr ⟨k, key _ _ q1 q2 q3⟩
  · rcases b5 g (fun e => absurd (g2 e) (by decide)) with b | ⟨k, q1, q2, q3⟩
    · exact Or.inl b
    · exact Or.inr ⟨k, key _ _ q1 q2 q3⟩
  · by_cases e : x = px
    · subst e
      exact Or.inr ⟨hh, h0, ps3 h9, by rw [pk_us]⟩
    · rcases b6 g (fun z => absurd z e) with b | ⟨k, q1, q2, q3⟩
      · exact Or.inl b
      · exact Or.inr ⟨k, key _ _ q1 q2 q3⟩
theorem WC_pushF (w : WC c h f s rh V vis val ord o st hh px 1) (h0 : 0 ≤ hh) (h9 : hh < 20000) : WC c h f s rh V vis val ord o (upd st hh.toNatClampNeg (rh (f px.toNatClampNeg))) (hh + 1) px 0 := by
  have key : ∀ y k : Int32, 0 ≤ k → k < hh → st k.toNatClampNeg = y → (0 ≤ k ∧ k < hh + 1 ∧ upd st hh.toNatClampNeg (rh (f px.toNatClampNeg)) k.toNatClampNeg = y) := by
    intro y k q1 q2 q3
    refine ⟨q1, ps h9 q2, ?_⟩
    rw [updI st _ h0 q1, if_neg (fun e => by subst e; exact absurd q2 (by grind)), q3]
  intro x k1 k2 k3
  obtain ⟨b1, b2, b3, b4, b5, b6⟩ := w x k1 k2 k3
  refine ⟨b1, b2, b3, ?_, fun g g2 => ?_, fun g g2 => ?_⟩
  · rcases b4 with b4 | ⟨k, q1, q2, q3⟩
    · exact Or.inl b4
    · exact Or.inr ⟨k, key _ _ q1 q2 q3⟩
  · by_cases e : x = px
    · subst e
      exact Or.inr ⟨hh, h0, ps3 h9, by rw [pk_us]⟩
    · rcases b5 g (fun z => absurd z e) with b | ⟨k, q1, q2, q3⟩
      · exact Or.inl b
      · exact Or.inr ⟨k, key _ _ q1 q2 q3⟩
  · rcases b6 g (fun e => by decide) with b | ⟨k, q1, q2, q3⟩
    · exact Or.inl b
    · exact Or.inr ⟨k, key _ _ q1 q2 q3⟩
end WALK2
