/-! The reference: new terms, what is reached. -/
section REACH
variable {a : L_} {r r' : S_} {rh ta : Int32 → Int32} {N : Int32}
theorem runify_ok (w : MI a r rh ta N) (hc : fi r 32 = 0 → CGr r rh) {p0 p1 : Int32} (x1 : 0 ≤ p0) (x2 : p0 < fi r 28) (y1 : 0 ≤ p1) (y2 : p1 < fi r 28) {K : S_ → Prop} (hK : ∀ r', UP a r r' p0 p1 → K r') : qM_unify a K r p0 p1 := by
  have l72 : ln a 72 = 200000 := ml w.1 (by decide) (by decide) rfl
  have hN := N_le w
  unfold qM_unify
  refine ⟨vi (by decide) (by rw [l72]; decide), fun r2 e2 => ⟨vi (by decide) (by rw [l72]; decide), fun r4 e4 => ?_⟩⟩
  have e4' : r4 = sA (sA r 72 (upd (ar r 72) ((0 : Int32)).toNatClampNeg p0)) 72 (upd (upd (ar r 72) ((0 : Int32)).toNatClampNeg p0) ((1 : Int32)).toNatClampNeg p1) := by rw [e4, e2]; rfl
  have rd : ∀ k : Int32, 0 ≤ k → ar r4 72 k.toNatClampNeg = if k = 1 then p1 else if k = 0 then p0 else ar r 72 k.toNatClampNeg := fun k k1 => by
    rw [e4', ar_sA, if_pos rfl, updI _ _ (by decide) k1, updI _ _ (by decide) k1]
  have f28 : fi r4 28 = fi r 28 := by rw [e4']; rfl
  have f64 : ar r4 64 = ar r 64 := by rw [e4']; rfl
  have f32 : fi r4 32 = fi r 32 := by rw [e4']; rfl
  have lt2 : ∀ k : Int32, 0 ≤ k → k < 2 → k = 1 ∨ k = 0 := fun k k1 k2 => by clear w hc hK rd; grind
  have m4 : MI a r4 rh ta N := by rw [e4']; exact w
  have c4 : fi r4 32 = 0 → CGr r4 rh := by rw [e4']; exact hc
  have cld : ∀ A, Cld r A → Cld r4 A := by intro A hA; rw [e4']; exact hA
  refine ⟨(3 * ((fi r 28).toInt) + 3).toNat, runify_L (r0 := r) (p0 := p0) (p1 := p1) hK _ r4 rh ta N 2 ⟨m4, by rw [e4']; exact Fr_trans (Fr_sA (by decide)) (Fr_sA (by decide)), ⟨by decide, by decide, by simp; omega, by omega⟩, fun k k1 k2 => ?_, fun A h1 h2 h3 => ⟨cld A h1, fun k k1 k2 => ?_, fun x _ _ _ => by rw [f64]⟩, fun x _ _ => Or.inl (by rw [f64]), fun h => CGp_of m4 (c4 h) _⟩ ?_⟩
  · rw [rd k k1, f28]
    rcases lt2 k k1 k2 with e | e
    · rw [if_pos e]; exact ⟨y1, y2⟩
    · rw [if_neg (by rw [e]; decide), if_pos e]; exact ⟨x1, x2⟩
  · rw [rd k k1]
    rcases lt2 k k1 k2 with e | e
    · rw [if_pos e]; exact h3
    · rw [if_neg (by rw [e]; decide), if_pos e]; exact h2
  · rw [f28]
    simp
    omega
theorem find_ok2 {r0 : S_} (w : MI a r0 rh ta N) (h64 : ∀ y : Int32, 0 ≤ y → y < fi r0 28 → ar r 64 y.toNatClampNeg = ar r0 64 y.toNatClampNeg) {x : Int32} (h1 : 0 ≤ x) (h2 : x < fi r0 28) {K : Int32 → Prop} (hK : K (rh x)) : qM_find a r K x := by
  have w5 := w.2.2.2.2.1
  have key : ∀ (n : Nat) (y : Int32), 0 ≤ y → y < fi r0 28 → rh y = rh x → (¬ ar r0 64 y.toNatClampNeg = y → N.toInt - (ta y).toInt ≤ n) → qM_find_L2 a r (fun v2 => K v2) (n + 1) y := by
    intro n
    induction n with
    | zero =>
      intro y y1 y2 y3 y4
      rw [qM_find_L2, h64 y y1 y2]
      have b := w5.2 y y1 y2
      refine ⟨tin w y1 y2 (by decide) (by decide) rfl, fun g => ?_, fun g => ?_⟩
      · rw [← b.2.2.1 g, y3]; exact hK
      · have q := (b.2.2.2 g).2.2.1
        rw [it] at q
        have := y4 g
        omega
    | succ n ih =>
      intro y y1 y2 y3 y4
      rw [qM_find_L2, h64 y y1 y2]
      have b := w5.2 y y1 y2
      have nb := w.2.2.2.1 y y1 y2
      refine ⟨tin w y1 y2 (by decide) (by decide) rfl, fun g => ?_, fun g => ⟨tin w y1 y2 (by decide) (by decide) rfl, ?_⟩⟩
      · rw [← b.2.2.1 g, y3]; exact hK
      · have q := b.2.2.2 g
        refine ih _ nb.1.1 nb.1.2 (q.1.trans y3) (fun g2 => ?_)
        have q2 := q.2.2.2 g2
        rw [it] at q2
        have := y4 g
        omega
  unfold qM_find
  by_cases g : ar r0 64 x.toNatClampNeg = x
  · exact ⟨1, key 0 x h1 h2 rfl (fun z => absurd g z)⟩
  · have q := (w5.2 x h1 h2).2.2.2 g
    exact ⟨_, key (N.toInt - (ta x).toInt).toNat x h1 h2 rfl (fun _ => by omega)⟩
/-- one term more -/
def NT (r r' : S_) (p0 p1 p2 : Int32) : Prop := fi r' 28 = fi r 28 + 1 ∧ Fr [28] [64, 65, 66, 67, 68, 70, 71] r r' ∧ (∀ x : Int32, 0 ≤ x → x < fi r 28 → ∀ k, ar r' k x.toNatClampNeg = ar r k x.toNatClampNeg) ∧ ar r' 64 (fi r 28).toNatClampNeg = fi r 28 ∧ ar r' 65 (fi r 28).toNatClampNeg = p0 ∧ ar r' 66 (fi r 28).toNatClampNeg = p1 ∧ ar r' 67 (fi r 28).toNatClampNeg = p2 ∧ ar r' 68 (fi r 28).toNatClampNeg = 0 ∧ ar r' 70 (fi r 28).toNatClampNeg = 0 ∧ ar r' 71 (fi r 28).toNatClampNeg = 0
theorem newTerm_ok (hM : ML a) (h0 : 0 ≤ fi r 28) (h1 : (fi r 28).toInt < 40000) {p0 p1 p2 : Int32} {K : Int32 → S_ → Prop} (hK : ∀ r', NT r r' p0 p1 p2 → K (fi r 28) r') : qM_newTerm a K r p0 p1 p2 := by
  have v : ∀ k, 36 ≤ k → k < 89 → ln0 k = 40000 → vp_in (fi r 28) (ln a k) := fun k k1 k2 k3 => vi h0 (by rw [ml hM k1 k2 k3]; exact h1)
  have ne : ∀ x : Int32, 0 ≤ x → x < fi r 28 → ¬ x.toNatClampNeg = (fi r 28).toNatClampNeg := fun x x1 x2 e => by
    have := (i_inj x1 h0).mp e
    rw [this] at x2
    exact irr x2
  unfold qM_newTerm
  refine ⟨v 64 (by decide) (by decide) rfl, fun r2 e2 => ?_⟩
  subst e2
  refine ⟨v 65 (by decide) (by decide) rfl, fun r4 e4 => ?_⟩
  subst e4
  refine ⟨v 66 (by decide) (by decide) rfl, fun r6 e6 => ?_⟩
  subst e6
  refine ⟨v 67 (by decide) (by decide) rfl, fun r8 e8 => ?_⟩
  subst e8
  refine ⟨v 68 (by decide) (by decide) rfl, fun r10 e10 => ?_⟩
  subst e10
  refine ⟨v 70 (by decide) (by decide) rfl, fun r12 e12 => ?_⟩
  subst e12
  refine ⟨v 71 (by decide) (by decide) rfl, fun r14 e14 r15 e15 => ?_⟩
  subst e14
  subst e15
  have e : fi r 28 + 1 - 1 = fi r 28 := by clear hK hM v ne; grind
  have key := hK (sF (sA (sA (sA (sA (sA (sA (sA r 64 (upd (ar r 64) (fi r 28).toNatClampNeg (fi r 28))) 65 (upd (ar r 65) (fi r 28).toNatClampNeg p0)) 66 (upd (ar r 66) (fi r 28).toNatClampNeg p1)) 67 (upd (ar r 67) (fi r 28).toNatClampNeg p2)) 68 (upd (ar r 68) (fi r 28).toNatClampNeg 0)) 70 (upd (ar r 70) (fi r 28).toNatClampNeg 0)) 71 (upd (ar r 71) (fi r 28).toNatClampNeg 0)) 28 (fi r 28 + 1)) ⟨rfl, ?_, fun x x1 x2 k => ?_, ?_, ?_, ?_, ?_, ?_, ?_, ?_⟩
  · show K (fi r 28 + 1 - 1) _
    rw [e]
    exact key
  · exact Fr_trans (Fr_sA (by decide)) (Fr_trans (Fr_sA (by decide)) (Fr_trans (Fr_sA (by decide)) (Fr_trans (Fr_sA (by decide)) (Fr_trans (Fr_sA (by decide)) (Fr_trans (Fr_sA (by decide)) (Fr_trans (Fr_sA (by decide)) (Fr_sF (by decide))))))))
  · have n := ne x x1 x2
    simp only [ar_sF, ar_sA]
    by_cases k71 : k = 71
    · subst k71; simp [pk_un n]
    by_cases k70 : k = 70
    · subst k70; simp [pk_un n]
    by_cases k68 : k = 68
    · subst k68; simp [pk_un n]
    by_cases k67 : k = 67
    · subst k67; simp [pk_un n]
    by_cases k66 : k = 66
    · subst k66; simp [pk_un n]
    by_cases k65 : k = 65
    · subst k65; simp [pk_un n]
    by_cases k64 : k = 64
    · subst k64; simp [pk_un n]
    simp [k64, k65, k66, k67, k68, k70, k71]
  all_goals simp [ar_sF, ar_sA, pk_us]
/-- the terms with one more are terms -/
theorem NT_MI (w : MI a r rh ta N) {p0 p1 p2 : Int32} (h : NT r r' p0 p1 p2) (h1 : (fi r 28).toInt < 40000) (a1 : -1 ≤ p0) (a2 : p0 < fi r 21) (b1 : -1 ≤ p1) (b2 : p1 < fi r 28) (c1 : -1 ≤ p2) (c2 : p2 < fi r 28) (hn : p0 < 0 → p1 = -1 ∧ p2 = -1) (hp : 0 ≤ p0 → (0 ≤ p1 ↔ 0 < ar r 36 p0.toNatClampNeg) ∧ (0 ≤ p2 ↔ 1 < ar r 36 p0.toNatClampNeg)) : MI a r' (fun x => if x = fi r 28 then fi r 28 else rh x) ta N ∧ (fi r' 28).toInt = (fi r 28).toInt + 1 := by
  obtain ⟨hL, hnc, ⟨hc0, hcl⟩, hN, hR, hn0⟩ := w
  obtain ⟨e28, hF, hO, n64, n65, n66, n67, -⟩ := h
  have e21 : fi r' 21 = fi r 21 := hF.1 21 (by decide)
  have e36 : ar r' 36 = ar r 36 := hF.2.1 36 (by decide)
  have hi : (fi r 28 + 1).toInt = (fi r 28).toInt + 1 := by
    rw [il] at hc0
    exact i_add (by simp at hc0 ⊢; omega) (by simp; omega)
  have s0 : 0 ≤ fi r 28 + 1 := by rw [il] at hc0 ⊢; rw [hi]; simp at hc0 ⊢; omega
  have s1 : fi r 28 < fi r 28 + 1 := by rw [it, hi]; omega
  have s2 : ∀ x, x < fi r 28 + 1 → ¬ x = fi r 28 → x < fi r 28 := fun x h e => by
    rw [it] at h ⊢
    rw [ie] at e
    omega
  refine ⟨⟨hL, by rw [e21]; exact hnc, ⟨by rw [e28]; exact s0, by rw [e28]; omega⟩, ?_, ⟨?_, ?_⟩, ?_⟩, by rw [e28]; exact hi⟩
  · rw [e28, e21, e36]
    intro x x1 x2
    by_cases e : x = fi r 28
    · subst e
      rw [n64, n65, n66, n67]
      exact ⟨⟨hc0, s1⟩, ⟨a1, a2⟩, ⟨b1, ltt b2 s1⟩, ⟨c1, ltt c2 s1⟩, hn, hp⟩
    · have x3 := s2 x x2 e
      rw [hO x x1 x3, hO x x1 x3, hO x x1 x3, hO x x1 x3]
      have b := hN x x1 x3
      exact ⟨⟨b.1.1, ltt b.1.2 s1⟩, b.2.1, ⟨b.2.2.1.1, ltt b.2.2.1.2 s1⟩, ⟨b.2.2.2.1.1, ltt b.2.2.2.1.2 s1⟩, b.2.2.2.2⟩
  · have := hR.1
    rw [e28]
    rw [il] at this ⊢
    omega
  · rw [e28]
    intro x x1 x2
    by_cases e : x = fi r 28
    · subst e
      simp only [if_true]
      exact ⟨⟨hc0, s1⟩, n64, fun _ => trivial, fun z => absurd n64 z⟩
    · have x3 := s2 x x2 e
      have b := hR.2 x x1 x3
      have nr : ¬ rh x = fi r 28 := fun z => by have := b.1.2; rw [z] at this; exact irr this
      simp only [if_neg e]
      rw [hO x x1 x3, hO _ b.1.1 b.1.2]
      refine ⟨⟨b.1.1, ltt b.1.2 s1⟩, b.2.1, b.2.2.1, fun z => ?_⟩
      have nb := (hN x x1 x3).1
      have bz := b.2.2.2 z
      have f2 : ¬ ar r 64 x.toNatClampNeg = fi r 28 := fun q => by have := nb.2; rw [q] at this; exact irr this
      rw [if_neg f2]
      refine ⟨bz.1, bz.2.1, bz.2.2.1, fun q => bz.2.2.2 ?_⟩
      rw [hO _ nb.1 nb.2] at q
      exact q
  · rw [hn0, e28]
    unfold nms
    have hcx := i_nat hc0
    have oc : Int32.ofNat (fi r 28).toNatClampNeg = fi r 28 := by
      rw [ie, i_ofn (by omega)]
      omega
    rw [cnt_suc hc0 s1, n64, oc]
    simp
    refine congrArg (fun n : Nat => (n : Int)) (cnt_congr (fun i hi2 => ?_))
    have ei := i_ofn (n := i) (by omega)
    have x1 : 0 ≤ Int32.ofNat i := by rw [il, ei]; simp
    have x3 := i_nat x1
    have x4 : (Int32.ofNat i).toNatClampNeg = i := by omega
    have := hO (Int32.ofNat i) x1 (by rw [it, ei]; omega) 64
    rw [x4] at this
    rw [this]
end REACH
