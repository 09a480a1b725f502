/-! What a copy in the class means. -/
section ZZCOP
theorem zpick {P : Int32 → Prop} {f g : Int32 → Ut} : ∃ α : Int32 → Ut, ∀ u, (P u → α u = f u) ∧ (¬ P u → α u = g u) := by
  have h : ∀ u : Int32, ∃ y : Ut, (P u → y = f u) ∧ (¬ P u → y = g u) := by
    intro u
    by_cases h : P u
    · exact ⟨f u, fun _ => rfl, fun k => absurd h k⟩
    · exact ⟨g u, fun k => absurd k h, fun _ => rfl⟩
  exact Classical.axiomOfChoice h
theorem zcop_cls {a a' : L_} {r r' : S_} {rh rh' ta ta' m : Int32 → Int32} {N N' t z : Int32} (hI : GI a r rh ta N) (hI' : GI a' r' rh' ta' N') (ay : AYc r) (t0 : 0 ≤ t) (t1 : t < fi r 11) (cp : CPF r r' rh rh' t z m) {G : Int32 → Prop} (hG : ∀ x, G x → 0 ≤ x ∧ x < fi r 11) (hD : ∀ x, Rq r rh t x → ¬ ar r 26 x.toNatClampNeg = 1 → ∀ ρ ρ', cV r ρ → cV r ρ' → (∀ y, G y → ρ y = ρ' y) → ρ x = ρ' x) (hGP : ∀ x v, G x → Rq r rh x v → ¬ (Rq r rh t v ∧ ar r 26 v.toNatClampNeg = 1)) (hcl : ∀ x v, Rq r rh t x → ¬ ar r 26 x.toNatClampNeg = 1 → Rq r rh x v → ¬ ar r 26 v.toNatClampNeg = 1) (hk0 : ∀ x, Rq r rh t x → ar r 26 x.toNatClampNeg = 1 → ¬ ar r 21 x.toNatClampNeg = -1 → ar r 25 x.toNatClampNeg = 0) {K : Int32 → Nat → Prop} (hK : ∀ v c, K v c ↔ (Rq r rh t v ∧ ar r 21 v.toNatClampNeg = -1 ∧ ar r 26 v.toNatClampNeg = 1) ∧ gb (ar r 25 v.toNatClampNeg) c = true) : zCopy G t K (fi r 11) (cV r) z (fi r' 11) (cV r') (fun x c => (fi r 11 ≤ x ∧ x < fi r' 11) ∧ gb (ar r' 24 x.toNatClampNeg) c = true) := by
  obtain ⟨ez, c1, c2, c3, c4, c5, c6, _⟩ := cp
  have c0 := hI.2.1
  have old : ∀ ρ, cV r' ρ → cV r ρ := fun ρ v => ⟨by rw [← c6]; exact v.1, VC_old hI hI' c5 (fun x x0 x1 => (c2 x x0 x1).2.2) (fun x x0 x1 => ⟨(c2 x x0 x1).1.1, (c2 x x0 x1).1.2.1, (c2 x x0 x1).2.1⟩) v.2⟩
  have b0 := hI.2.2.2.2.1.2 t t0 t1
  have rr : ∀ y : Int32, 0 ≤ y → y < fi r 11 → rh (rh y) = rh y := fun y y0 y1 => by
    have b := hI.2.2.2.2.1.2 y y0 y1
    exact (hI.2.2.2.2.1.2 _ b.1 b.2.1).2.2.2.1 b.2.2.1
  have pz : ∀ y : Int32, -1 ≤ y → ¬ y = -1 → 0 ≤ y := fun y y0 y1 => by clear hI hI' ay hG hD hGP hcl hk0 hK c1 c2 c3 c4 old b0 rr; grind
  refine ⟨m, fun v cl hk => ?_, fun ρ hv => ?_, fun ρ ρ3 h1 h2 ha => ?_, fun x cl => ⟨fun h => ?_, fun h => ?_⟩⟩
  · have q := ((c1 v ((hK v cl).mp hk).1.1).1 ((hK v cl).mp hk).1.2.2).1
    exact ⟨zo2 c0 q.1, q.2⟩
  · have ho := old ρ hv
    obtain ⟨α, hα⟩ := zpick (P := fun u => Rq r rh t u ∧ ar r 26 u.toNatClampNeg = 1) (f := fun u => ρ (m u)) (g := ρ)
    obtain ⟨ρ3, g1, g2⟩ := VC_ex hI ay ho.2 α
    have ka : ∀ x : Int32, 0 ≤ x → x < fi r 11 → (∀ v, Rq r rh x v → ¬ (Rq r rh t v ∧ ar r 26 v.toNatClampNeg = 1)) → ρ3 x = ρ x := by
      intro x x0 x1 hx
      refine VC_ag hI g1 ho.2 _ x x0 x1 (Nat.lt_succ_self _) (fun u hu e => ?_)
      have b := Rq_in hI x0 x1 hu
      rw [g2 u b.1.1 b.1.2 e, (hα u).2 (hx u hu)]
    have kb : ∀ (n : Nat) (x : Int32), Rq r rh t x → ar r 26 x.toNatClampNeg = 1 → (ρ3 x).length < n → ρ3 x = ρ (m x) := by
      intro n
      induction n with
      | zero => intro x _ _ h; omega
      | succ n ih =>
        intro x hx ox hl
        have b := Rq_in hI t0 t1 hx
        have nn := hI.2.2.2.1 x b.1.1 b.1.2
        have q := (c1 x hx).1 ox
        by_cases e : ar r 21 x.toNatClampNeg = -1
        · rw [g2 x b.1.1 b.1.2 e, (hα x).1 ⟨hx, ox⟩]
        · have h0 : 0 ≤ ar r 21 x.toNatClampNeg := by have q1 := nn.1; have q2 := b.2.1; clear hI hI' ay hG hD hGP hcl hk0 hK c1 c2 c3 c4 old b0 rr ih g1 g2 ka b nn q hα; grind
          have e1 := (g1.2 x b.1.1 b.1.2).2 h0
          have e2 := (hv.2.2 (m x) (zo2 c0 q.1.1) q.1.2).2 (by rw [q.2.1]; exact h0)
          rw [q.2.1, q.2.2.1, q.2.2.2.1] at e2
          have l := congrArg List.length e1
          rw [Jn_len] at l
          have cl := Rq_cl (r := r) (rh := rh) (x := t) x b.1.1 b.1.2 b.2.1 hx
          have part : ∀ y : Int32, -1 ≤ y → y < fi r 11 → (ρ3 y).length < n → (¬ y = -1 → Rq r rh t (rh y)) → ρ3 y = ρ (cc rh m y) := by
            intro y y0 y1 y2 y3
            unfold cc
            by_cases ey : y = -1
            · rw [if_pos ey, ey, g1.1, hv.2.1]
            · rw [if_neg ey]
              have yy := pz y y0 ey
              have by' := hI.2.2.2.2.1.2 y yy y1
              rw [VC_rh hI g1 yy y1] at y2 ⊢
              by_cases oy : ar r 26 (rh y).toNatClampNeg = 1
              · exact ih _ (y3 ey) oy y2
              · rw [(c1 _ (y3 ey)).2 oy]
                exact ka _ by'.1 by'.2.1 (fun v hv' hp => hcl _ v (y3 ey) oy hv' hp.2)
          rw [e1, e2, part _ nn.2.2.1 nn.2.2.2.1 (by omega) cl.1, part _ nn.2.2.2.2.1 nn.2.2.2.2.2.1 (by omega) cl.2]
    refine ⟨ρ3, ⟨ho.1, g1⟩, fun x hx => ka x (hG x hx).1 (hG x hx).2 (fun v hv' => hGP x v hx hv'), ?_, fun v cl hk => ?_⟩
    · rw [ez, VC_rh hI g1 t0 t1]
      by_cases o : ar r 26 (rh t).toNatClampNeg = 1
      · exact kb _ _ Rq_0 o (Nat.lt_succ_self _)
      · rw [(c1 _ Rq_0).2 o]
        exact ka _ b0.1 b0.2.1 (fun v hv' hp => hcl _ v Rq_0 o hv' hp.2)
    · have q := ((hK v cl).mp hk).1
      exact kb _ v q.1 q.2.2 (Nat.lt_succ_self _)
  · have ch : ∀ w : Int32, ∃ u : Ut, (∀ x, Rq r rh t x → ar r 26 x.toNatClampNeg = 1 → m x = w → u = ρ3 x) ∧ (w < fi r 11 → u = ρ w) := by
      intro w
      by_cases h : ∃ y, (Rq r rh t y ∧ ar r 26 y.toNatClampNeg = 1) ∧ m y = w
      · obtain ⟨y, ⟨y1, y2⟩, y3⟩ := h
        refine ⟨ρ3 y, fun x x1 x2 x3 => ?_, fun hw => ?_⟩
        · rw [c4 y x y1 x1 y2 x2 (by rw [y3, x3])]
        · have q := ((c1 y y1).1 y2).1.1
          rw [y3] at q
          exact absurd (zo3 hw q) irr
      · exact ⟨ρ w, fun x x1 x2 x3 => absurd ⟨x, ⟨x1, x2⟩, x3⟩ h, fun _ => rfl⟩
    obtain ⟨ρ', hr⟩ := Classical.axiomOfChoice ch
    have vn : ∀ x, Rq r rh t x → ar r 26 x.toNatClampNeg = 1 → ρ' (m x) = ρ3 x := fun x hx ox => (hr (m x)).1 x hx ox rfl
    have vo : ∀ w : Int32, w < fi r 11 → ρ' w = ρ w := fun w hw => (hr w).2 hw
    have m1 : (-1 : Int32) < fi r 11 := by clear hI hI' ay hG hD hGP hcl hk0 hK c1 c2 c3 c4 old b0 rr vn vo ch hr; grind
    have part : ∀ y : Int32, -1 ≤ y → y < fi r 11 → (¬ y = -1 → Rq r rh t (rh y)) → ρ3 y = ρ' (cc rh m y) := by
      intro y y0 y1 y3
      unfold cc
      by_cases ey : y = -1
      · rw [if_pos ey, ey, h2.2.1, vo _ m1, h1.2.1]
      · rw [if_neg ey]
        have yy := pz y y0 ey
        have by' := hI.2.2.2.2.1.2 y yy y1
        rw [VC_rh hI h2.2 yy y1]
        by_cases oy : ar r 26 (rh y).toNatClampNeg = 1
        · rw [vn _ (y3 ey) oy]
        · rw [(c1 _ (y3 ey)).2 oy, vo _ by'.2.1]
          exact (hD _ (y3 ey) oy ρ ρ3 h1 h2 (fun u hu => (ha u hu).symm)).symm
    refine ⟨ρ', ⟨by rw [c6]; exact h1.1, by rw [vo _ m1]; exact h1.2.1, fun w w0 w1 => ?_⟩, vo, ?_, fun v cl hk => ?_⟩
    · by_cases hw : w < fi r 11
      · have q := c2 w w0 hw
        have n := hI.2.2.2.1 w w0 hw
        have n' := hI'.2.2.2.1 w w0 w1
        have k := h1.2.2 w w0 hw
        refine ⟨fun e => ?_, fun e => ?_⟩
        · have f0 := n'.2.2.2.2.2.2 e
          have e' : ar r 21 w.toNatClampNeg = -2 := by rw [← q.1.1]; exact e
          have rw' : rh' (ar r' 22 w.toNatClampNeg) = rh' w := ((hI'.2.2.2.2.1.2 w w0 w1).2.2.2.2 e).1
          by_cases hf : ar r' 22 w.toNatClampNeg < fi r 11
          · have q2 := c2 _ f0 hf
            rw [vo _ hw, vo _ hf, VC_rh hI h1.2 w0 hw, VC_rh hI h1.2 f0 hf, ← q.2.2, ← q2.2.2, rw']
          · obtain ⟨x, x1, x2, x3⟩ := c3 _ (Int32.not_lt.mp hf) n'.2.2.2.1
            have nx := (Rq_in hI t0 t1 x1).2.1
            have hm := ((c1 x x1).1 x2).2.1
            rw [x3] at hm
            have r1 := (hI'.2.2.2.2.1.2 _ f0 n'.2.2.2.1).2.2.2.1 (by rw [hm]; exact nx)
            rw [r1, q.2.2] at rw'
            exact absurd (hI.2.2.2.2.1.2 w w0 hw).2.1 (by rw [← rw']; exact hf)
        · have e' : 0 ≤ ar r 21 w.toNatClampNeg := by rw [← q.1.1]; exact e
          rw [q.1.1, q.1.2.1, q.2.1 (fun z => by rw [z] at e'; exact absurd e' (by decide)), vo _ hw, vo _ n.2.2.2.1, vo _ n.2.2.2.2.2.1]
          exact k.2 e'
      · obtain ⟨x, x1, x2, x3⟩ := c3 w (Int32.not_lt.mp hw) w1
        have q := (c1 x x1).1 x2
        have b := Rq_in hI t0 t1 x1
        have n := hI.2.2.2.1 x b.1.1 b.1.2
        have cl := Rq_cl (r := r) (rh := rh) (x := t) x b.1.1 b.1.2 b.2.1 x1
        rw [← x3, q.2.1, q.2.2.1, q.2.2.2.1, vn x x1 x2]
        refine ⟨fun e => absurd e b.2.1, fun e => ?_⟩
        rw [(h2.2.2 x b.1.1 b.1.2).2 e, part _ n.2.2.1 n.2.2.2.1 cl.1, part _ n.2.2.2.2.1 n.2.2.2.2.2.1 cl.2]
    · have q := part t (m1le t0) t1 (fun _ => Rq_0)
      rw [q, ez]
      unfold cc
      rw [if_neg (fun e => by rw [e] at t0; exact absurd t0 (by decide))]
    · have q := ((hK v cl).mp hk).1
      exact vn v q.1 q.2.2
  · obtain ⟨y, y1, y2, y3⟩ := c3 x h.1.1 h.1.2
    have q := (c1 y y1).1 y2
    have h2 := h.2
    rw [← y3, q.2.2.2.2.1] at h2
    by_cases e : ar r 21 y.toNatClampNeg = -1
    · exact ⟨y, y3.symm, (hK y cl).mpr ⟨⟨y1, e, y2⟩, h2⟩⟩
    · rw [hk0 y y1 y2 e] at h2
      exact absurd h2 (by rw [gb_0]; decide)
  · obtain ⟨v, e, hk⟩ := h
    have k := (hK v cl).mp hk
    have q := (c1 v k.1.1).1 k.1.2.2
    rw [e]
    exact ⟨q.1, by rw [q.2.2.2.2.1]; exact k.2⟩
end ZZCOP
