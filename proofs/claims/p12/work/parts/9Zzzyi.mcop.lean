/-! The reference: what a copy means. -/
section ZMCOPF
variable {a : L_} {rI r r' : S_} {rh ta : Int32 → Int32} {N : Int32}
/-- only more terms, only roots bound -/
def OS (r r' : S_) : Prop := fi r 28 ≤ fi r' 28 ∧ ∀ x, vt r x → (ar r' 64 x.toNatClampNeg = ar r 64 x.toNatClampNeg ∨ ar r 64 x.toNatClampNeg = x) ∧ ar r' 65 x.toNatClampNeg = ar r 65 x.toNatClampNeg ∧ ar r' 66 x.toNatClampNeg = ar r 66 x.toNatClampNeg ∧ ar r' 67 x.toNatClampNeg = ar r 67 x.toNatClampNeg
theorem OS_vt (h : OS r r') {x : Int32} (hx : vt r x) : vt r' x := ⟨hx.1, zo3 hx.2 h.1⟩
theorem DM_OS (h : OS r r') {G : Int32 → Prop} {y : Int32} (d : DM r G y) : DM r' G y := fun B h1 h2 h3 => d B (fun x vx => by
  have k := h.2 x vx
  rcases k.1 with z | z
  · rw [← z]; exact h1 x (OS_vt h vx)
  · rw [z]) (fun x vx bx => by
  have k := h.2 x vx
  have m := h2 x (OS_vt h vx) bx
  rw [k.2.2.1, k.2.2.2] at m
  exact m) h3
theorem DM_rc (w : MI a r rh ta N) (cg : CGr r rh) {t v : Int32} (ht : vt r t) (hv : vt r v) (h : DM r (fun x => x = t) v) : zRc (mG r) t (rh v) := by
  refine h (fun y => vt r y → zRc (mG r) t (rh y)) (fun x vx => ?_) (fun x vx bx => ?_) (fun x e _ => by rw [e]; exact m_rc0 w ht) hv
  · have n := w.2.2.2.1 x vx.1 vx.2
    have e : rh (ar r 64 x.toNatClampNeg) = rh x := by
      by_cases q : ar r 64 x.toNatClampNeg = x
      · rw [q]
      · exact ((w.2.2.2.2.1.2 x vx.1 vx.2).2.2.2 q).1
    rw [e]
    exact ⟨fun z _ => z vx, fun z _ => z n.1⟩
  · have l := m_lf w vx
    have hb := bx vx
    have rr := m_rr w vx
    have n := w.2.2.2.1 x vx.1 vx.2
    have hd : (0 ≤ ar r 66 x.toNatClampNeg ∨ 0 ≤ ar r 67 x.toNatClampNeg) → 0 ≤ ar r 65 x.toNatClampNeg := fun q => by
      apply Classical.byContradiction
      intro z
      have k := n.2.2.2.2.1 (Int32.not_le.mp z)
      rcases q with q | q
      · rw [k.1] at q; exact absurd q (by decide)
      · rw [k.2] at q; exact absurd q (by decide)
    refine ⟨fun q _ => ?_, fun q _ => ?_⟩
    · have h0 := hd (Or.inl q)
      have c := cg x vx.1 vx.2 h0
      have lr := lf_rh w (fun x x1 x2 x3 => (cg x x1 x2 x3).1) vx.1 vx.2 h0
      rw [c.2.1 q]
      exact m_rc1 w hb rr.1 rr.2.1 (lr.1.mp q)
    · have h0 := hd (Or.inr q)
      have c := cg x vx.1 vx.2 h0
      have lr := lf_rh w (fun x x1 x2 x3 => (cg x x1 x2 x3).1) vx.1 vx.2 h0
      rw [c.2.2 q]
      exact m_rc2 w hb rr.1 rr.2.1 (lr.2.mp q)
/-- the graph behind: old terms as they were, n copies X i at T + i; P: the part that stands for another's -/
def CGM (r r' : S_) (X : Nat → Int32) (P : Int32 → Int32) (n : Nat) : Prop := (∀ x, vt r x → ar r' 64 x.toNatClampNeg = ar r 64 x.toNatClampNeg ∧ ar r' 65 x.toNatClampNeg = ar r 65 x.toNatClampNeg ∧ ar r' 66 x.toNatClampNeg = ar r 66 x.toNatClampNeg ∧ ar r' 67 x.toNatClampNeg = ar r 67 x.toNatClampNeg) ∧ (fi r' 28).toInt = (fi r 28).toInt + n ∧ ∀ i, i < n → ∀ y : Int32, y.toInt = (fi r 28).toInt + i → ar r' 64 y.toNatClampNeg = y ∧ ar r' 65 y.toNatClampNeg = ar r 65 (X i).toNatClampNeg ∧ ar r' 66 y.toNatClampNeg = P (ar r 66 (X i).toNatClampNeg) ∧ ar r' 67 y.toNatClampNeg = P (ar r 67 (X i).toNatClampNeg)
theorem CGM_VM {X : Nat → Int32} {P : Int32 → Int32} {n : Nat} (c0 : 0 ≤ fi r 28) (h : CGM r r' X P n) {ρ : Int32 → Ut} : VM r' ρ ↔ VM r ρ ∧ ∀ i, i < n → ∀ y : Int32, y.toInt = (fi r 28).toInt + i → 0 ≤ ar r 65 (X i).toNatClampNeg → ρ y = Jn (ar r 65 (X i).toNatClampNeg) (ρ (P (ar r 66 (X i).toNatClampNeg))) (ρ (P (ar r 67 (X i).toNatClampNeg))) := by
  obtain ⟨old, e28, new⟩ := h
  have c0i : 0 ≤ (fi r 28).toInt := by rw [il] at c0; simpa using c0
  constructor
  · rintro ⟨v0, v⟩
    refine ⟨⟨v0, fun x x0 x1 => ?_⟩, fun i hi y hy h0 => ?_⟩
    · have k := old x ⟨x0, x1⟩
      have := v x x0 (by rw [it] at x1 ⊢; omega)
      rw [k.1, k.2.1, k.2.2.1, k.2.2.2] at this
      exact this
    · have k := new i hi y hy
      have := (v y (by rw [il]; simp; omega) (by rw [it]; omega)).2
      rw [k.2.1, k.2.2.1, k.2.2.2] at this
      exact this h0
  · rintro ⟨⟨v0, v⟩, c⟩
    refine ⟨v0, fun x x0 x1 => ?_⟩
    by_cases q : x < fi r 28
    · have k := old x ⟨x0, q⟩
      rw [k.1, k.2.1, k.2.2.1, k.2.2.2]
      exact v x x0 q
    · have q' := Int32.not_lt.mp q
      rw [il] at q'
      rw [it] at x1
      have hi : (x.toInt - (fi r 28).toInt).toNat < n := by omega
      have ey : x.toInt = (fi r 28).toInt + ((x.toInt - (fi r 28).toInt).toNat : Nat) := by omega
      have k := new _ hi x ey
      rw [k.1, k.2.1, k.2.2.1, k.2.2.2]
      exact ⟨rfl, c _ hi x ey⟩
/-- listed ones X, copies T + i, the others that are reached are around -/
theorem CGM_copy {X : Nat → Int32} {P : Int32 → Int32} {n : Nat} {te : Int32} {G : Int32 → Prop} {Kw : Int32 → Nat → Prop} (w : MI a r rh ta N) (cg : CGr r rh) (h : CGM r r' X P n) (c4 : (fi r' 28).toInt ≤ 40000) (vte : vt r te) (vG : ∀ x, G x → vt r x) (hX : ∀ i, i < n → (vt r (X i) ∧ rh (X i) = X i) ∧ zRc (mG r) te (X i) ∧ ¬ zBd (mG r) G (X i)) (dj : ∀ i j, i < n → j < n → X i = X j → i = j) (hP : ∀ t, (t = -1 → P t = -1) ∧ (vt r t → (∀ i, i < n → rh t = X i → (P t).toInt = (fi r 28).toInt + i) ∧ ((∀ i, i < n → ¬ rh t = X i) → P t = rh t))) (hR : ∀ y, zRc (mG r) te y → (∃ i, i < n ∧ y = X i) ∨ zBd (mG r) G y) (hKw : ∀ v c, Kw v c → vt r v ∧ zRc (mG r) te (rh v)) : zCopy G te Kw (fi r 28) (VM r) (P te) (fi r' 28) (VM r') (fun x c => ∃ v, x = P v ∧ Kw v c) ∧ (∀ ρ, VM r' ρ → VM r ρ) ∧ (∀ t, vt r t → 0 ≤ P t ∧ P t < fi r' 28) := by
  have c0 := w.2.2.1.1
  have c0i : 0 ≤ (fi r 28).toInt := by rw [il] at c0; simpa using c0
  have e28 := h.2.1
  have gw := mG_GW w
  have rr := fun {t : Int32} (v : vt r t) => m_rr w v
  have Pin : ∀ t, vt r t → 0 ≤ P t ∧ P t < fi r' 28 := fun t v => by
    by_cases q : ∃ i, i < n ∧ rh t = X i
    · obtain ⟨i, i1, i2⟩ := q
      have := ((hP t).2 v).1 i i1 i2
      exact ⟨by rw [il]; simp; omega, by rw [it]; omega⟩
    · have := ((hP t).2 v).2 (fun i hi e => q ⟨i, hi, e⟩)
      rw [this]
      have k := (rr v).1
      exact ⟨k.1, by have := k.2; rw [it] at this ⊢; omega⟩
  have Prh : ∀ t, vt r t → P (rh t) = P t := fun t v => by
    have k := rr v
    by_cases q : ∃ i, i < n ∧ rh t = X i
    · obtain ⟨i, i1, i2⟩ := q
      have a1 := ((hP t).2 v).1 i i1 i2
      have a2 := ((hP (rh t)).2 k.1).1 i i1 (by rw [k.2.1]; exact i2)
      apply Int32.toInt_inj.mp
      rw [a1, a2]
    · rw [((hP t).2 v).2 (fun i hi e => q ⟨i, hi, e⟩), ((hP (rh t)).2 k.1).2 (fun i hi e => q ⟨i, hi, by rw [← k.2.1]; exact e⟩), k.2.1]
  have mono : ∀ ρ, VM r' ρ → VM r ρ := fun ρ v => ((CGM_VM c0 h).mp v).1
  have notX : ∀ y, zBd (mG r) G y → ∀ i, i < n → ¬ y = X i := fun y hy i hi e => (hX i hi).2.2 (by rw [← e]; exact hy)
  have bdc : ∀ x u, zBd (mG r) G x → zRn (mG r) x → zRc (mG r) x u → zBd (mG r) G u := fun x u ⟨y, y1, y2⟩ hx hu => ⟨y, y1, hu (fun u => zRc (mG r) y u) (by rw [hx.2]; exact y2) (fun z hz sz => ⟨fun q => zRc_1 sz hz q, fun q => zRc_2 sz hz q⟩)⟩
  refine ⟨⟨P, fun v c k => Pin v (hKw v c k).1, fun ρ v' => ?_, fun ρ ρ3 v v3 hg => ?_, fun x c => Iff.rfl⟩, mono, Pin⟩
  · -- from the copy back
    obtain ⟨v, cps⟩ := (CGM_VM c0 h).mp v'
    have zv := (VM_val w cg).mpr v
    obtain ⟨α, hα⟩ := zpick (P := fun u => ∃ i, i < n ∧ u = X i) (f := fun u => ρ (P u)) (g := ρ)
    obtain ⟨ρ3, z3, a3⟩ := zfree gw c0 zv α
    have v3 : VM r ρ3 := (VM_val w cg).mp z3
    have ard : ∀ x, zNx (mG r) x → (∀ u, zRc (mG r) x u → zBd (mG r) G u) → ρ3 x = ρ x := fun x hx hb => (zag gw zv z3 _ x hx (Nat.lt_succ_self _) (fun u hu nh => by
      have hr := zRc_r gw hx hu
      rw [a3 u ⟨hr, nh⟩, (hα u).2 (fun ⟨i, i1, i2⟩ => notX u (hb u hu) i i1 i2)])).symm
    have main : ∀ (m : Nat) (x : Int32), vt r x → zRc (mG r) te (rh x) → (ρ3 x).length < m → ρ3 x = ρ (P x) := by
      intro m
      induction m with
      | zero => intro x _ _ hl; omega
      | succ m ih =>
        intro x vx hx hl
        have k := rr vx
        rcases hR _ hx with ⟨i, i1, i2⟩ | hb
        · have Pt := ((hP x).2 vx).1 i i1 i2
          rw [VM_rh w v3 vx.1 vx.2]
          by_cases h0 : 0 ≤ ar r 65 (rh x).toNatClampNeg
          · have e3 := (v3.2 _ k.1.1 k.1.2).2 h0
            have ec := cps i i1 (P x) Pt (by rw [← i2]; exact h0)
            rw [← i2] at ec
            rw [e3, ec]
            rw [VM_rh w v3 vx.1 vx.2, e3, Jn_len] at hl
            have l := m_lf w k.1
            have part : ∀ t, -1 ≤ t → (0 ≤ t → vt r t) → (0 ≤ t → zRc (mG r) te (rh t)) → (ρ3 t).length < m → ρ3 t = ρ (P t) := fun t t0 t1 t2 t3 => by
              rcases m1c t0 with e | e
              · rw [e, (hP (-1)).1 rfl, v3.1, v.1]
              · exact ih t (t1 e) (t2 e) t3
            rw [part _ l.1.1 l.1.2 (fun q => m_rc1 w hx k.1 k.2.1 q) (by omega), part _ l.2.1 l.2.2 (fun q => m_rc2 w hx k.1 k.2.1 q) (by omega)]
          · rw [a3 _ ⟨(m_rt w k.1).mpr k.2.1, h0⟩, (hα _).1 ⟨i, i1, i2⟩, Prh x vx]
        · rw [((hP x).2 vx).2 (notX _ hb), VM_rh w v3 vx.1 vx.2]
          exact ard _ k.1 (fun u hu => bdc _ u hb ((m_rt w k.1).mpr k.2.1) hu)
    refine ⟨ρ3, v3, fun x hx => ard x (vG x hx) (fun u hu => ⟨x, hx, hu⟩), main _ te vte (m_rc0 w vte) (Nat.lt_succ_self _), fun u c k => main _ u (hKw u c k).1 (hKw u c k).2 (Nat.lt_succ_self _)⟩
  · -- to the copy
    have T4 : (fi r 28).toInt + n ≤ 40000 := by omega
    have ar_e : ∀ y, zBd (mG r) G y → ρ y = ρ3 y := fun y ⟨x, x1, x2⟩ => by
      have vx := vG x x1
      refine (m_rcm w vx (S := fun y => vt r y ∧ ρ y = ρ3 y) ⟨(rr vx).1, by rw [← VM_rh w v vx.1 vx.2, ← VM_rh w v3 vx.1 vx.2]; exact (hg x x1).symm⟩ (fun y vy sy => ?_) x2).2
      have l := m_lf w vy
      have nb := w.2.2.2.1 y vy.1 vy.2
      have hd : (0 ≤ ar r 66 y.toNatClampNeg ∨ 0 ≤ ar r 67 y.toNatClampNeg) → 0 ≤ ar r 65 y.toNatClampNeg := fun q => by
        apply Classical.byContradiction
        intro z
        have k := nb.2.2.2.2.1 (Int32.not_le.mp z)
        rcases q with q | q
        · rw [k.1] at q; exact absurd q (by decide)
        · rw [k.2] at q; exact absurd q (by decide)
      have inj : 0 ≤ ar r 65 y.toNatClampNeg → ρ (ar r 66 y.toNatClampNeg) = ρ3 (ar r 66 y.toNatClampNeg) ∧ ρ (ar r 67 y.toNatClampNeg) = ρ3 (ar r 67 y.toNatClampNeg) := fun q => by
        have e1 := (v.2 y vy.1 vy.2).2 q
        have e2 := (v3.2 y vy.1 vy.2).2 q
        rw [sy.2, e2] at e1
        have := Jn_inj e1
        exact ⟨this.2.1.symm, this.2.2.symm⟩
      refine ⟨fun q => ⟨(rr (l.1.2 q)).1, ?_⟩, fun q => ⟨(rr (l.2.2 q)).1, ?_⟩⟩
      · have vl := l.1.2 q
        rw [← VM_rh w v vl.1 vl.2, ← VM_rh w v3 vl.1 vl.2]
        exact (inj (hd (Or.inl q))).1
      · have vl := l.2.2 q
        rw [← VM_rh w v vl.1 vl.2, ← VM_rh w v3 vl.1 vl.2]
        exact (inj (hd (Or.inr q))).2
    obtain ⟨ρ', hρ⟩ : ∃ ρ' : Int32 → Ut, (∀ x, x < fi r 28 → ρ' x = ρ x) ∧ ∀ i, i < n → ∀ y : Int32, y.toInt = (fi r 28).toInt + i → ρ' y = ρ3 (X i) := by
      refine ⟨fun y => if y < fi r 28 then ρ y else ρ3 (X (y.toInt - (fi r 28).toInt).toNat), fun x hx => if_pos hx, fun i hi y hy => ?_⟩
      have ny : ¬ y < fi r 28 := fun q => by rw [it] at q; omega
      show (if y < fi r 28 then ρ y else ρ3 (X (y.toInt - (fi r 28).toInt).toNat)) = _
      rw [if_neg ny]
      congr 2
      omega
    have P3 : ∀ x, vt r x → zRc (mG r) te (rh x) → ρ' (P x) = ρ3 x := fun x vx hx => by
      have k := rr vx
      rw [VM_rh w v3 vx.1 vx.2]
      rcases hR _ hx with ⟨i, i1, i2⟩ | hb
      · rw [hρ.2 i i1 (P x) (((hP x).2 vx).1 i i1 i2), ← i2]
      · rw [((hP x).2 vx).2 (notX _ hb), hρ.1 _ k.1.2, ar_e _ hb]
    refine ⟨ρ', (CGM_VM c0 h).mpr ⟨VM_loc w (fun x hx => (hρ.1 x hx).symm) v, fun i hi y hy h0 => ?_⟩, hρ.1, P3 te vte (m_rc0 w vte), fun u c k => P3 u (hKw u c k).1 (hKw u c k).2⟩
    have hx := hX i hi
    have l := m_lf w hx.1.1
    have part : ∀ t, -1 ≤ t → (0 ≤ t → vt r t) → (0 ≤ t → zRc (mG r) te (rh t)) → ρ' (P t) = ρ3 t := fun t t0 t1 t2 => by
      rcases m1c t0 with e | e
      · rw [e, (hP (-1)).1 rfl, v3.1, hρ.1 (-1) (by clear hρ hP hX hR hKw; grind)]
        exact v.1
      · exact P3 t (t1 e) (t2 e)
    rw [hρ.2 i hi y hy, part _ l.1.1 l.1.2 (fun q => m_rc1 w hx.2.1 hx.1.1 hx.1.2 q), part _ l.2.1 l.2.2 (fun q => m_rc2 w hx.2.1 hx.1.1 hx.1.2 q)]
    exact (v3.2 _ hx.1.1.1 hx.1.1.2).2 h0
end ZMCOPF
