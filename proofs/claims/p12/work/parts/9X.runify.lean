/-! The reference's unification. -/
section RUNIFY
variable {a : L_} {r r' : S_} {rh ta : Int32 → Int32} {N : Int32}
def Pnd (r : S_) (v : Int32) (p q : Int32) : Prop := ∃ k : Int32, 0 ≤ k ∧ k.toInt + 1 < v.toInt ∧ k.toInt % 2 = 0 ∧ ar r 72 k.toNatClampNeg = p ∧ ar r 72 (k + 1).toNatClampNeg = q
def UJ (a : L_) (r0 r : S_) (rh ta : Int32 → Int32) (N p0 p1 v : Int32) (e : Int) (Ex : Int32 → Int32 → Prop) : Prop := MI a r rh ta N ∧ Fr [32] [64, 72] r0 r ∧ (0 ≤ v.toInt ∧ v.toInt % 2 = 0 ∧ v.toInt + 2 * e ≤ 2 + 2 * N.toInt ∧ 0 ≤ e) ∧ (∀ k : Int32, 0 ≤ k → k < v → 0 ≤ ar r 72 k.toNatClampNeg ∧ ar r 72 k.toNatClampNeg < fi r 28) ∧ (∀ A, Cld r0 A → A p0 → A p1 → Cld r A ∧ (∀ k : Int32, 0 ≤ k → k < v → A (ar r 72 k.toNatClampNeg)) ∧ ∀ x : Int32, 0 ≤ x → x < fi r 28 → ¬ A x → ar r 64 x.toNatClampNeg = ar r0 64 x.toNatClampNeg) ∧ (∀ x : Int32, 0 ≤ x → x < fi r 28 → ar r 64 x.toNatClampNeg = ar r0 64 x.toNatClampNeg ∨ ar r0 64 x.toNatClampNeg = x) ∧ (fi r 32 = 0 → CGp r rh (fun p q => Pnd r v p q ∨ Ex p q))
theorem N_le (w : MI a r rh ta N) : 0 ≤ N.toInt ∧ N.toInt ≤ (fi r 28).toInt ∧ (fi r 28).toInt ≤ 40000 := by
  have h := w.2.2.2.2.1.1
  have h2 := w.2.2.2.2.2
  have h3 := w.2.2.1.2
  rw [il] at h
  exact ⟨by rw [h2]; exact Int.natCast_nonneg _, h, h3⟩
theorem UJ_push {r0 : S_} {p0 p1 v s t : Int32} {e : Int} {Ex Ex2 : Int32 → Int32 → Prop} (w : UJ a r0 r rh ta N p0 p1 v (e + 1) Ex) (he : 0 ≤ e) (s1 : 0 ≤ s) (s2 : s < fi r 28) (t1 : 0 ≤ t) (t2 : t < fi r 28) (hA : ∀ A, Cld r A → (∀ k : Int32, 0 ≤ k → k < v → A (ar r 72 k.toNatClampNeg)) → Cld r0 A → A p0 → A p1 → A s ∧ A t) (hE : ∀ p q, Ex p q → Ex2 p q ∨ (p = s ∧ q = t)) : UJ a r0 (sA (sA r 72 (upd (ar r 72) v.toNatClampNeg s)) 72 (upd (upd (ar r 72) v.toNatClampNeg s) (v + 1).toNatClampNeg t)) rh ta N p0 p1 (v + 2) e Ex2 ∧ (v + 2).toInt = v.toInt + 2 ∧ vp_in v (ln a 72) ∧ vp_in (v + 1) (ln a 72) := by
  obtain ⟨w1, w2, ⟨w31, w32, w33, w34⟩, w4, w5, w6, w7⟩ := w
  have hN := N_le w1
  have l72 : ln a 72 = 200000 := ml w1.1 (by decide) (by decide) rfl
  have v1 : (v + 1).toInt = v.toInt + 1 := i_add (by simp; omega) (by simp; omega)
  have v2 : (v + 2).toInt = v.toInt + 2 := i_add (by simp; omega) (by simp; omega)
  have v0 : 0 ≤ v := by rw [il]; simpa using w31
  have v10 : 0 ≤ v + 1 := by rw [il, v1]; simp; omega
  have rd : ∀ k : Int32, 0 ≤ k → upd (upd (ar r 72) v.toNatClampNeg s) (v + 1).toNatClampNeg t k.toNatClampNeg = if k = v + 1 then t else if k = v then s else ar r 72 k.toNatClampNeg := fun k k1 => by
    rw [updI _ _ v10 k1, updI _ _ v0 k1]
  have lt2 : ∀ k : Int32, k < v + 2 → ¬ k = v + 1 → ¬ k = v → k < v := fun k k1 k2 k3 => by
    rw [it, v2] at k1
    rw [ie, v1] at k2
    rw [ie] at k3
    rw [it]
    omega
  refine ⟨⟨w1, Fr_trans w2 (Fr_trans (Fr_sA (by decide)) (Fr_sA (by decide))), ⟨by omega, by omega, by omega, he⟩, fun k k1 k2 => ?_, fun A h1 h2 h3 => ?_, w6, fun h => ?_⟩, v2, vi v0 (by rw [l72]; omega), vi v10 (by rw [l72]; omega)⟩
  · rw [ar_sA, if_pos rfl, rd k k1]
    split
    · exact ⟨t1, t2⟩
    · split
      · exact ⟨s1, s2⟩
      · rename_i g1 g2
        exact w4 k k1 (lt2 k k2 g1 g2)
  · obtain ⟨q1, q2, q3⟩ := w5 A h1 h2 h3
    have hst := hA A q1 q2 h1 h2 h3
    refine ⟨q1, fun k k1 k2 => ?_, q3⟩
    rw [ar_sA, if_pos rfl, rd k k1]
    split
    · exact hst.2
    · split
      · exact hst.1
      · rename_i g1 g2
        exact q2 k k1 (lt2 k k2 g1 g2)
  · refine CGp_mono (w7 h) (fun E hE1 hs hP p q hpq => ?_)
    have pnew : E s t := hP s t (Or.inl ⟨v, v0, by omega, w32, by rw [ar_sA, if_pos rfl, rd v v0, if_neg (by rw [ie, v1]; omega), if_pos rfl], by rw [ar_sA, if_pos rfl, rd _ v10, if_pos rfl]⟩)
    rcases hpq with ⟨k, k1, k2, k3, k4, k5⟩ | hpq
    · refine hP p q (Or.inl ⟨k, k1, by omega, k3, ?_, ?_⟩)
      · rw [ar_sA, if_pos rfl, rd k k1, if_neg (by rw [ie, v1]; omega), if_neg (by rw [ie]; omega)]
        exact k4
      · have e1 : (k + 1).toInt = k.toInt + 1 := by
          rw [il] at k1
          exact i_add (by simp at k1 ⊢; omega) (by simp; omega)
        have k10 : 0 ≤ k + 1 := by rw [il, e1]; rw [il] at k1; simp at k1 ⊢; omega
        rw [ar_sA, if_pos rfl, rd _ k10, if_neg (by rw [ie, e1, v1]; omega), if_neg (by rw [ie, e1]; omega)]
        exact k5
    · rcases hE p q hpq with h9 | ⟨h9, h10⟩
      · exact hP p q (Or.inr h9)
      · rw [h9, h10]; exact pnew
/-- a root is set to stand for another one -/
theorem UJ_merge {r0 : S_} {p0 p1 v p q x y : Int32} {Ex2 : Int32 → Int32 → Prop} {f : Int32} {e : Int} (w : UJ a r0 r rh ta N p0 p1 v 0 (fun _ _ => False)) (hv : 2 ≤ v.toInt) (ep : ar r 72 (v - 2).toNatClampNeg = p) (eq : ar r 72 (v - 2 + 1).toNatClampNeg = q) (hxy : (x = rh p ∧ y = rh q) ∨ (x = rh q ∧ y = rh p)) (hne : ¬ x = y) (he : 0 ≤ e ∧ e ≤ 2) (hf : f = 0 → fi r 32 = 0 ∧ (0 ≤ ar r 65 x.toNatClampNeg → ar r 65 x.toNatClampNeg = ar r 65 y.toNatClampNeg ∧ (0 ≤ ar r 66 x.toNatClampNeg → Ex2 (ar r 66 x.toNatClampNeg) (ar r 66 y.toNatClampNeg)) ∧ (0 ≤ ar r 67 x.toNatClampNeg → Ex2 (ar r 67 x.toNatClampNeg) (ar r 67 y.toNatClampNeg)))) : UJ a r0 (sA (sF r 32 f) 64 (upd (ar r 64) x.toNatClampNeg y)) (fun z => if rh z = x then y else rh z) (fun z => if z = x then N else ta z) (N + 1) p0 p1 (v - 2) e Ex2 ∧ (N + 1).toInt = N.toInt + 1 ∧ (v - 2).toInt = v.toInt - 2 := by
  obtain ⟨w1, w2, ⟨w31, w32, w33, w34⟩, w4, w5, w6, w7⟩ := w
  have hN := N_le w1
  have d2 : (v - 2).toInt = v.toInt - 2 := i_sub (by simp; omega) (by simp; omega)
  have d1 : (v - 2 + 1).toInt = v.toInt - 1 := by
    rw [i_add (by rw [d2]; simp; omega) (by rw [d2]; simp; omega), d2]
    simp
    omega
  have k0 : 0 ≤ v - 2 := by rw [il, d2]; simp; omega
  have k1 : 0 ≤ v - 2 + 1 := by rw [il, d1]; simp; omega
  have bp := w4 (v - 2) k0 (by rw [it, d2]; omega)
  have bq := w4 (v - 2 + 1) k1 (by rw [it, d1]; omega)
  rw [ep] at bp
  rw [eq] at bq
  have rp := w1.2.2.2.2.1.2 p bp.1 bp.2
  have rq := w1.2.2.2.2.1.2 q bq.1 bq.2
  have hx : (0 ≤ x ∧ x < fi r 28) ∧ ar r 64 x.toNatClampNeg = x := by
    rcases hxy with ⟨e1, e2⟩ | ⟨e1, e2⟩
    · rw [e1]; exact ⟨rp.1, rp.2.1⟩
    · rw [e1]; exact ⟨rq.1, rq.2.1⟩
  have hy : (0 ≤ y ∧ y < fi r 28) ∧ ar r 64 y.toNatClampNeg = y := by
    rcases hxy with ⟨e1, e2⟩ | ⟨e1, e2⟩
    · rw [e2]; exact ⟨rq.1, rq.2.1⟩
    · rw [e2]; exact ⟨rp.1, rp.2.1⟩
  have m := merge_MI w1 hx.1.1 hx.1.2 hx.2 hy.1.1 hy.1.2 hy.2 hne
  refine ⟨⟨m.1, Fr_trans w2 (Fr_trans (Fr_sF (by decide)) (Fr_sA (by decide))), ⟨by omega, by omega, by rw [m.2, d2]; omega, he.1⟩, fun k q1 q2 => w4 k q1 ?_, fun A h1 h2 h3 => ?_, fun z z1 z2 => ?_, fun h => ?_⟩, m.2, d2⟩
  · rw [it, d2] at q2
    rw [it]
    omega
  · obtain ⟨q1, q2, q3⟩ := w5 A h1 h2 h3
    have ap : A p := by rw [← ep]; exact q2 _ k0 (by rw [it, d2]; omega)
    have aq : A q := by rw [← eq]; exact q2 _ k1 (by rw [it, d1]; omega)
    have arp := Cld_rh w1 q1 bp.1 bp.2 ap
    have arq := Cld_rh w1 q1 bq.1 bq.2 aq
    have ax : A x ∧ A y := by
      rcases hxy with ⟨e1, e2⟩ | ⟨e1, e2⟩
      · rw [e1, e2]; exact ⟨arp, arq⟩
      · rw [e1, e2]; exact ⟨arq, arp⟩
    refine ⟨fun z z1 z2 z3 => ?_, fun k g1 g2 => q2 k g1 ?_, fun z z1 z2 z3 => ?_⟩
    · have b := q1 z z1 z2 z3
      refine ⟨?_, b.2⟩
      show A (upd (ar r 64) x.toNatClampNeg y z.toNatClampNeg)
      rw [updI _ _ hx.1.1 z1]
      split
      · exact ax.2
      · exact b.1
    · rw [it, d2] at g2
      rw [it]
      omega
    · show upd (ar r 64) x.toNatClampNeg y z.toNatClampNeg = ar r0 64 z.toNatClampNeg
      rw [updI _ _ hx.1.1 z1, if_neg (fun e => z3 (by rw [e]; exact ax.1))]
      exact q3 z z1 z2 z3
  · show upd (ar r 64) x.toNatClampNeg y z.toNatClampNeg = ar r0 64 z.toNatClampNeg ∨ ar r0 64 z.toNatClampNeg = z
    rw [updI _ _ hx.1.1 z1]
    split
    · rename_i g
      right
      rcases w6 z z1 z2 with h9 | h9
      · rw [← h9, g]; exact hx.2
      · exact h9
    · exact w6 z z1 z2
  · have h' : f = 0 := h
    obtain ⟨h0, hh⟩ := hf h'
    have key := CGp_merge (Pd2 := fun s t => Pnd r (v - 2) s t ∨ Ex2 s t) (p := p) (q := q) w1 (w7 h0) hx.1.1 hx.1.2 hx.2 hy.1.1 hy.1.2 bp.1 bp.2 ?_ ?_ ?_
    · exact key
    · rcases hxy with ⟨e1, e2⟩ | ⟨e1, e2⟩
      · exact Or.inl ⟨e1.symm, bq.1, bq.2, e2.symm⟩
      · exact Or.inr ⟨e2.symm, bq.1, bq.2, e1.symm⟩
    · intro s t hst
      rcases hst with ⟨k, g1, g2, g3, g4, g5⟩ | hst
      · by_cases e : k.toInt = v.toInt - 2
        · left
          have e' : k = v - 2 := by rw [ie, d2]; exact e
          rw [← g4, ← g5, e']
          exact ⟨ep, eq⟩
        · right
          left
          exact ⟨k, g1, by omega, g3, g4, g5⟩
      · exact hst.elim
    · intro h9
      obtain ⟨i1, i2, i3⟩ := hh h9
      exact ⟨i1, fun g => Or.inr (i2 g), fun g => Or.inr (i3 g)⟩
/-- what unification comes to -/
def UP (a : L_) (r0 r : S_) (p0 p1 : Int32) : Prop := ∃ rh ta N, MI a r rh ta N ∧ Fr [32] [64, 72] r0 r ∧ (∀ A, Cld r0 A → A p0 → A p1 → Cld r A ∧ ∀ x : Int32, 0 ≤ x → x < fi r 28 → ¬ A x → ar r 64 x.toNatClampNeg = ar r0 64 x.toNatClampNeg) ∧ (∀ x : Int32, 0 ≤ x → x < fi r 28 → ar r 64 x.toNatClampNeg = ar r0 64 x.toNatClampNeg ∨ ar r0 64 x.toNatClampNeg = x) ∧ (fi r 32 = 0 → CGr r rh)
theorem UJ_nil {r0 : S_} {p0 p1 v : Int32} {e : Int} {Ex : Int32 → Int32 → Prop} (w : UJ a r0 r rh ta N p0 p1 v e Ex) (hE : ∀ p q, ¬ Ex p q) : UJ a r0 r rh ta N p0 p1 v 0 (fun _ _ => False) := by
  obtain ⟨w1, w2, ⟨w31, w32, w33, w34⟩, w4, w5, w6, w7⟩ := w
  refine ⟨w1, w2, ⟨w31, w32, by omega, by omega⟩, w4, w5, w6, fun h => CGp_mono (w7 h) (fun E _ _ hP p q hpq => ?_)⟩
  rcases hpq with h9 | h9
  · exact hP p q (Or.inl h9)
  · exact (hE p q h9).elim
theorem runify_L {r0 : S_} {p0 p1 : Int32} {KX : S_ → Prop} (hK : ∀ r, UP a r0 r p0 p1 → KX r) : ∀ (n : Nat) (r : S_) (rh ta : Int32 → Int32) (N v : Int32), UJ a r0 r rh ta N p0 p1 v 0 (fun _ _ => False) → 3 * ((fi r 28).toInt - N.toInt) + v.toInt < n → qM_unify_L16 a KX n r v := by
  intro n
  induction n with
  | zero =>
    intro r rh ta N v w hm
    have hN := N_le w.1
    have := w.2.2.1.1
    omega
  | succ n ih =>
    intro r rh ta N v w hm
    have w' := w
    obtain ⟨w1, w2, ⟨w31, w32, w33, w34⟩, w4, w5, w6, w7⟩ := w
    have hN := N_le w1
    have l72 : ln a 72 = 200000 := ml w1.1 (by decide) (by decide) rfl
    have fin : (v ≤ 0 ∨ ¬ fi r 32 = 0) → KX r := by
      intro h
      refine hK r ⟨rh, ta, N, w1, w2, fun A h1 h2 h3 => ⟨(w5 A h1 h2 h3).1, (w5 A h1 h2 h3).2.2⟩, w6, fun h0 => CGr_of w1 (CGp_mono (w7 h0) (fun E _ _ _ p q hpq => ?_))⟩
      rcases h with h | h
      · rw [il] at h
        simp at h
        rcases hpq with ⟨k, k1, k2, -⟩ | hpq
        · rw [il] at k1
          simp at k1
          omega
        · exact hpq.elim
      · exact absurd h0 h
    rw [qM_unify_L16]
    refine ⟨fun g => fin (Or.inl g), fun g => ⟨fun g2 => fin (Or.inr g2), fun g2 => ?_⟩⟩
    have hv : 2 ≤ v.toInt := by
      have g3 : 0 < v := Int32.not_le.mp g
      rw [it] at g3
      simp at g3
      omega
    have d2 : (v - 2).toInt = v.toInt - 2 := i_sub (by simp; omega) (by simp; omega)
    have d1 : (v - 2 + 1).toInt = v.toInt - 1 := by
      rw [i_add (by rw [d2]; simp; omega) (by rw [d2]; simp; omega), d2]
      simp
      omega
    have k0 : 0 ≤ v - 2 := by rw [il, d2]; simp; omega
    have k1 : 0 ≤ v - 2 + 1 := by rw [il, d1]; simp; omega
    have bp := w4 (v - 2) k0 (by rw [it, d2]; omega)
    have bq := w4 (v - 2 + 1) k1 (by rw [it, d1]; omega)
    have rp := w1.2.2.2.2.1.2 _ bp.1 bp.2
    have rq := w1.2.2.2.2.1.2 _ bq.1 bq.2
    refine ⟨vi k0 (by rw [l72]; omega), find_ok w1 bp.1 bp.2 ⟨vi k1 (by rw [l72]; omega), find_ok w1 bq.1 bq.2 ?_⟩⟩
    have t64 : ∀ z : Int32, 0 ≤ z → z < fi r 28 → vp_in z (ln a 64) := fun z z1 z2 => tin w1 z1 z2 (by decide) (by decide) rfl
    have t65 : ∀ z : Int32, 0 ≤ z → z < fi r 28 → vp_in z (ln a 65) := fun z z1 z2 => tin w1 z1 z2 (by decide) (by decide) rfl
    have t66 : ∀ z : Int32, 0 ≤ z → z < fi r 28 → vp_in z (ln a 66) := fun z z1 z2 => tin w1 z1 z2 (by decide) (by decide) rfl
    have t67 : ∀ z : Int32, 0 ≤ z → z < fi r 28 → vp_in z (ln a 67) := fun z z1 z2 => tin w1 z1 z2 (by decide) (by decide) rfl
    obtain ⟨x, ex⟩ : ∃ x, x = rh (ar r 72 (v - 2).toNatClampNeg) := ⟨_, rfl⟩
    obtain ⟨y, ey⟩ : ∃ y, y = rh (ar r 72 (v - 2 + 1).toNatClampNeg) := ⟨_, rfl⟩
    rw [← ex, ← ey]
    rw [← ex] at rp
    rw [← ey] at rq
    have same : x = y → qM_unify_L16 a KX n r (v - 2) := by
      intro e
      refine ih r rh ta N (v - 2) ⟨w1, w2, ⟨by omega, by omega, by omega, by omega⟩, fun k q1 q2 => w4 k q1 ?_, fun A h1 h2 h3 => ?_, w6, fun h => CGp_mono (w7 h) (fun E hE hs hP p q hpq => ?_)⟩ (by omega)
      · rw [it, d2] at q2
        rw [it]
        omega
      · obtain ⟨q1, q2, q3⟩ := w5 A h1 h2 h3
        refine ⟨q1, fun k g1 g2 => q2 k g1 ?_, q3⟩
        rw [it, d2] at g2
        rw [it]
        omega
      · rcases hpq with ⟨k, g1, g2, g3, g4, g5⟩ | hpq
        · by_cases e9 : k.toInt = v.toInt - 2
          · have e' : k = v - 2 := by rw [ie, d2]; exact e9
            have e1 := E_rh w1 hE hs bp.1 bp.2
            have e2 := E_rh w1 hE hs bq.1 bq.2
            rw [← ex] at e1
            rw [← ey, ← e] at e2
            rw [← g4, ← g5, e']
            exact hE.2.2 _ _ _ e1 (hE.2.1 _ _ e2)
          · exact hP p q (Or.inl ⟨k, g1, by omega, g3, g4, g5⟩)
        · exact hpq.elim
    have j115 : ¬ x = y → 0 ≤ ar r 65 x.toNatClampNeg → 0 ≤ ar r 65 y.toNatClampNeg → qM_unify_J115 a (qM_unify_L16 a KX n) KX r (v - 2) x y := by
      intro hne hx hy
      unfold qM_unify_J115
      refine ⟨fun z => absurd z hne, fun _ => ⟨t65 x rp.1.1 rp.1.2, t65 y rq.1.1 rq.1.2, fun hh => ?_, fun hh => ?_⟩⟩
      · unfold qM_unify_J145
        refine ⟨zb0, fun r17 e17 => ⟨t64 x rp.1.1 rp.1.2, fun r20 e20 => ?_⟩⟩
        subst e17
        have e20' : r20 = sA (sF r 32 0) 64 (upd (ar r 64) x.toNatClampNeg y) := e20
        obtain ⟨m1, m2, m3⟩ := UJ_merge (f := 0) (e := 2) (Ex2 := fun s t => (0 ≤ ar r 66 x.toNatClampNeg ∧ s = ar r 66 x.toNatClampNeg ∧ t = ar r 66 y.toNatClampNeg) ∨ (0 ≤ ar r 67 x.toNatClampNeg ∧ s = ar r 67 x.toNatClampNeg ∧ t = ar r 67 y.toNatClampNeg)) w' hv rfl rfl (Or.inl ⟨ex, ey⟩) hne (by omega) (fun _ => ⟨g2, fun _ => ⟨hh, fun g => Or.inl ⟨g, rfl, rfl⟩, fun g => Or.inr ⟨g, rfl, rfl⟩⟩⟩)
        rw [← e20'] at m1
        have f32 : fi r20 32 = 0 := by rw [e20']; rfl
        have f28 : fi r20 28 = fi r 28 := by rw [e20']; rfl
        have f65 : ar r20 65 = ar r 65 := by rw [e20']; rfl
        have f66 : ar r20 66 = ar r 66 := by rw [e20']; rfl
        have f67 : ar r20 67 = ar r 67 := by rw [e20']; rfl
        have f36 : ar r20 36 = ar r 36 := by rw [e20']; rfl
        have f64x : ar r20 64 x.toNatClampNeg = y := by rw [e20', ar_sA, if_pos rfl, pk_us]
        have nx := w1.2.2.2.1 x rp.1.1 rp.1.2
        have ny := w1.2.2.2.1 y rq.1.1 rq.1.2
        have sx := nx.2.2.2.2.2 hx
        have sy := ny.2.2.2.2.2 hy
        rw [← hh] at sy
        refine ⟨fun _ => ⟨t65 x rp.1.1 rp.1.2, vi2 (by rw [f65]; exact hx) (by rw [f65]; exact nx.2.1.2) (by rw [ml (n := 8) w1.1 (by decide) (by decide) rfl]; have := w1.2.1.2; rw [il] at this; simpa using this), ?_⟩, fun z => absurd f32 z⟩
        rw [f65, f36]
        have rcc : ∀ (r2 : S_) (v2 : Int32), fi r2 28 = fi r 28 → UJ a r0 r2 (fun z => if rh z = x then y else rh z) (fun z => if z = x then N else ta z) (N + 1) p0 p1 v2 0 (fun _ _ => False) → v2.toInt ≤ v.toInt + 2 → qM_unify_L16 a KX n r2 v2 := by
          intro r2 v2 h28 u1 u2
          refine ih r2 _ _ _ v2 u1 ?_
          rw [h28, m2]
          omega
        -- the second parts
        have j219 : ∀ (r2 : S_) (v2 : Int32) (e : Int), fi r2 28 = fi r 28 → ar r2 67 = ar r 67 → 0 ≤ e → (∀ A, Cld r2 A → A x → A (ar r 67 x.toNatClampNeg) ∨ ¬ 0 ≤ ar r 67 x.toNatClampNeg) → UJ a r0 r2 (fun z => if rh z = x then y else rh z) (fun z => if z = x then N else ta z) (N + 1) p0 p1 v2 (e + 1) (fun s t => 0 ≤ ar r 67 x.toNatClampNeg ∧ s = ar r 67 x.toNatClampNeg ∧ t = ar r 67 y.toNatClampNeg) → (∀ A, Cld r0 A → A p0 → A p1 → A x ∧ A y) → v2.toInt ≤ v.toInt → qM_unify_J219 a (qM_unify_L16 a KX n) KX r2 v2 x y (ar r 36 (ar r 65 x.toNatClampNeg).toNatClampNeg) := by
          intro r2 v2 e h28 h67 he hcl u1 hax hv2
          unfold qM_unify_J219 qM_unify_J257
          refine ⟨fun g => ?_, fun g => ?_⟩
          · have g' : ¬ 0 ≤ ar r 67 x.toNatClampNeg := fun z => by
              have := sx.2.mp z
              clear ih hK w' w1 w2 w4 w5 w6 w7 u1 rcc same m1 fin hax hcl
              grind
            exact rcc r2 v2 h28 (UJ_nil u1 (fun p q z => g' z.1)) (by omega)
          · have g1 : 1 < ar r 36 (ar r 65 x.toNatClampNeg).toNatClampNeg := Int32.not_le.mp g
            have gx := sx.2.mpr g1
            have gy := sy.2.mpr g1
            obtain ⟨u2, u3, u4, u5⟩ := UJ_push (Ex2 := fun _ _ => False) u1 he gx (by rw [h28]; exact nx.2.2.2.1.2) gy (by rw [h28]; exact ny.2.2.2.1.2) (fun A q1 q2 q3 q4 q5 => by
              have ha := hax A q3 q4 q5
              have bx := (q1 x rp.1.1 (by rw [h28]; exact rp.1.2) ha.1).2.2
              have by' := (q1 y rq.1.1 (by rw [h28]; exact rq.1.2) ha.2).2.2
              rw [h67] at bx by'
              exact ⟨bx gx, by' gy⟩) (fun p q z => Or.inr z.2)
            refine ⟨t67 x rp.1.1 rp.1.2, u4, fun r28 e28 => ⟨t67 y rq.1.1 rq.1.2, u5, fun r31 e31 => ?_⟩⟩
            have e31' : r31 = sA (sA r2 72 (upd (ar r2 72) v2.toNatClampNeg (ar r 67 x.toNatClampNeg))) 72 (upd (upd (ar r2 72) v2.toNatClampNeg (ar r 67 x.toNatClampNeg)) (v2 + 1).toNatClampNeg (ar r 67 y.toNatClampNeg)) := by
              rw [e31, e28, h67]
              rw [show ar (sA r2 72 (upd (ar r2 72) v2.toNatClampNeg (ar r 67 x.toNatClampNeg))) 67 = ar r2 67 from rfl, h67]
              rfl
            rw [e31']
            exact rcc _ (v2 + 2) h28 (UJ_nil u2 (fun _ _ z => z)) (by omega)
        have hax : ∀ A, Cld r0 A → A p0 → A p1 → A x ∧ A y := by
          intro A h1 h2 h3
          obtain ⟨q1, q2, q3⟩ := w5 A h1 h2 h3
          have ap := Cld_rh w1 q1 bp.1 bp.2 (q2 _ k0 (by rw [it, d2]; omega))
          have aq := Cld_rh w1 q1 bq.1 bq.2 (q2 _ k1 (by rw [it, d1]; omega))
          rw [← ex] at ap
          rw [← ey] at aq
          exact ⟨ap, aq⟩
        unfold qM_unify_J180
        refine ⟨fun g => ?_, fun g => ?_⟩
        · have g' : ¬ 0 ≤ ar r 66 x.toNatClampNeg := fun z => by
            have := sx.1.mp z
            clear ih hK w' w1 w2 w4 w5 w6 w7 rcc same m1 fin hax j219
            grind
          refine j219 r20 (v - 2) 0 f28 f67 (by omega) (fun A h1 h2 => ?_) ?_ hax (by omega)
          · by_cases g9 : 0 ≤ ar r 67 x.toNatClampNeg
            · left
              have := (h1 x rp.1.1 (by rw [f28]; exact rp.1.2) h2).2.2
              rw [f67] at this
              exact this g9
            · exact Or.inr g9
          · obtain ⟨o1, o2, ⟨o31, o32, o33, o34⟩, o4, o5, o6, o7⟩ := m1
            refine ⟨o1, o2, ⟨o31, o32, by omega, by omega⟩, o4, o5, o6, fun h => CGp_mono (o7 h) (fun E _ _ hP p q hpq => ?_)⟩
            rcases hpq with h9 | h9 | h9
            · exact hP p q (Or.inl h9)
            · exact absurd h9.1 g'
            · exact hP p q (Or.inr h9)
        · have g1 : 0 < ar r 36 (ar r 65 x.toNatClampNeg).toNatClampNeg := Int32.not_le.mp g
          have gx := sx.1.mpr g1
          have gy := sy.1.mpr g1
          obtain ⟨u2, u3, u4, u5⟩ := UJ_push (e := 1) (Ex2 := fun s t => 0 ≤ ar r 67 x.toNatClampNeg ∧ s = ar r 67 x.toNatClampNeg ∧ t = ar r 67 y.toNatClampNeg) m1 (by omega) gx (by rw [f28]; exact nx.2.2.1.2) gy (by rw [f28]; exact ny.2.2.1.2) (fun A q1 q2 q3 q4 q5 => by
            have ha := hax A q3 q4 q5
            have bx := (q1 x rp.1.1 (by rw [f28]; exact rp.1.2) ha.1).2.1
            have by' := (q1 y rq.1.1 (by rw [f28]; exact rq.1.2) ha.2).2.1
            rw [f66] at bx by'
            exact ⟨bx gx, by' gy⟩) (fun p q z => by
              rcases z with z | z
              · exact Or.inr z.2
              · exact Or.inl z)
          refine ⟨t66 x rp.1.1 rp.1.2, u4, fun r34 e34 => ⟨t66 y rq.1.1 rq.1.2, u5, fun r37 e37 => ?_⟩⟩
          have e37' : r37 = sA (sA r20 72 (upd (ar r20 72) (v - 2).toNatClampNeg (ar r 66 x.toNatClampNeg))) 72 (upd (upd (ar r20 72) (v - 2).toNatClampNeg (ar r 66 x.toNatClampNeg)) (v - 2 + 1).toNatClampNeg (ar r 66 y.toNatClampNeg)) := by
            rw [e37, e34, f66]
            rw [show ar (sA r20 72 (upd (ar r20 72) (v - 2).toNatClampNeg (ar r 66 x.toNatClampNeg))) 66 = ar r20 66 from rfl, f66]
            rfl
          rw [e37']
          refine j219 _ (v - 2 + 2) 0 f28 f67 (by omega) (fun A h1 h2 => ?_) u2 hax (by omega)
          by_cases g9 : 0 ≤ ar r 67 x.toNatClampNeg
          · left
            have := (h1 x rp.1.1 (by show x < fi r20 28; rw [f28]; exact rp.1.2) h2).2.2
            have this' : 0 ≤ ar r20 67 x.toNatClampNeg → A (ar r20 67 x.toNatClampNeg) := this
            rw [f67] at this'
            exact this' g9
          · exact Or.inr g9
      · unfold qM_unify_J145
        refine ⟨zb1, fun r17 e17 => ⟨t64 x rp.1.1 rp.1.2, fun r20 e20 => ?_⟩⟩
        subst e17
        have e20' : r20 = sA (sF r 32 1) 64 (upd (ar r 64) x.toNatClampNeg y) := e20
        obtain ⟨m1, m2, m3⟩ := UJ_merge (f := 1) (e := 0) (Ex2 := fun _ _ => False) w' hv rfl rfl (Or.inl ⟨ex, ey⟩) hne (by omega) (fun z => absurd z (by decide))
        rw [← e20'] at m1
        have f32 : fi r20 32 = 1 := by rw [e20']; rfl
        have f28 : fi r20 28 = fi r 28 := by rw [e20']; rfl
        refine ⟨fun z => absurd (f32.symm.trans z) (by decide), fun _ => ?_⟩
        unfold qM_unify_J180 qM_unify_J219 qM_unify_J257
        refine ⟨fun _ => ⟨fun _ => ih r20 _ _ _ (v - 2) m1 (by rw [f28, m2]; omega), fun z => absurd (by decide) z⟩, fun z => absurd (by decide) z⟩
    have j86 : (x = y ∨ 0 ≤ ar r 65 x.toNatClampNeg) → qM_unify_J86 a (qM_unify_L16 a KX n) KX r (v - 2) x y := by
      intro h
      unfold qM_unify_J86
      refine ⟨fun e => ?_, fun hne => ⟨t65 y rq.1.1 rq.1.2, fun hy => ?_, fun hy => ⟨t64 y rq.1.1 rq.1.2, fun r41 e41 => ?_⟩⟩⟩
      · unfold qM_unify_J115 qM_unify_J257
        exact ⟨fun _ => same e, fun z => absurd e z⟩
      · rcases h with h | h
        · exact absurd h hne
        · exact j115 hne h hy
      · obtain ⟨m1, m2, m3⟩ := UJ_merge (f := 0) (e := 0) (Ex2 := fun _ _ => False) w' hv rfl rfl (Or.inr ⟨ey, ex⟩) (fun z => hne z.symm) (by omega) (fun _ => ⟨g2, fun z => absurd z hy⟩)
        unfold qM_unify_J257
        have e41' : r41 = sA (sF r 32 0) 64 (upd (ar r 64) y.toNatClampNeg x) := by
          rw [e41]
          congr 1
          obtain ⟨r1, r2, r3⟩ := r
          unfold sF
          congr 1
          funext j
          by_cases ej : j = 32
          · rw [if_pos ej, ej]; exact g2
          · rw [if_neg ej]
        rw [e41']
        exact ih _ _ _ _ (v - 2) m1 (by show 3 * ((fi r 28).toInt - (N + 1).toInt) + (v - 2).toInt < n; omega)
    refine ⟨fun e => j86 (Or.inl e), fun hne => ⟨t65 x rp.1.1 rp.1.2, fun hx => j86 (Or.inr hx), fun hx => ⟨t64 x rp.1.1 rp.1.2, fun r45 e45 => ?_⟩⟩⟩
    obtain ⟨m1, m2, m3⟩ := UJ_merge (f := 0) (e := 0) (Ex2 := fun _ _ => False) w' hv rfl rfl (Or.inl ⟨ex, ey⟩) hne (by omega) (fun _ => ⟨g2, fun z => absurd z hx⟩)
    unfold qM_unify_J257
    have e45' : r45 = sA (sF r 32 0) 64 (upd (ar r 64) x.toNatClampNeg y) := by
      rw [e45]
      congr 1
      obtain ⟨r1, r2, r3⟩ := r
      unfold sF
      congr 1
      funext j
      by_cases ej : j = 32
      · rw [if_pos ej, ej]; exact g2
      · rw [if_neg ej]
    rw [e45']
    exact ih _ _ _ _ (v - 2) m1 (by show 3 * ((fi r 28).toInt - (N + 1).toInt) + (v - 2).toInt < n; omega)
end RUNIFY
