/-! Unification in the class's graph: safe. -/
section UNIFY
variable {a : L_} {r r' : S_} {rh ta : Int32 → Int32} {N : Int32}
theorem move_GI (hI : GI a r rh ta N) {x y : Int32} (x1 : 0 ≤ x) (x2 : x < fi r 11) (x3 : ¬ ar r 21 x.toNatClampNeg = -2) (y1 : 0 ≤ y) (y2 : y < fi r 11) (y3 : ¬ ar r 21 y.toNatClampNeg = -2) (hxy : ¬ x = y) : ∃ rh2 ta2 N2, GI a (sA (sA r 21 (upd (ar r 21) x.toNatClampNeg (-2))) 22 (upd (ar r 22) x.toNatClampNeg y)) rh2 ta2 N2 := by
  obtain ⟨hL, hc0, hcl, hN, hR, hn⟩ := hI
  have hcx := i_nat hc0
  have hnx := i_nat x1
  have hny := i_nat y1
  have c4 : (fi r 11).toInt ≤ 4096 := by have := hL.2.2.2.2.2.2.2.2.2.2.2; omega
  have x2' := x2
  have y2' := y2
  rw [it] at x2' y2'
  have m1 : nmv (upd (ar r 21) x.toNatClampNeg (-2)) (fi r 11) = nmv (ar r 21) (fi r 11) + 1 := by
    unfold nmv
    refine cnt_more (i := x.toNatClampNeg) (by omega) (by simp [x3]) (by simp [pk_us]) (fun j _ hj => by rw [pk_un hj])
  have m2 : nmv (upd (ar r 21) x.toNatClampNeg (-2)) (fi r 11) < (fi r 11).toNatClampNeg := by
    unfold nmv
    refine cnt_lt (i := y.toNatClampNeg) (by omega) ?_
    rw [updI _ _ x1 y1, if_neg (fun e => hxy e.symm)]
    simp [y3]
  have n1 : (N + 1).toInt = N.toInt + 1 := i_add (by simp; omega) (by simp; omega)
  have n2 : 0 ≤ N := by rw [il, hn]; simp
  have n3 : N + 1 ≤ fi r 11 := by rw [il, n1]; omega
  have n4 : N < N + 1 := by rw [it, n1]; omega
  refine ⟨fun z => if rh z = x then y else rh z, fun z => if z = x then N else ta z, N + 1, hL, hc0, hcl, ?_, ⟨n3, ?_⟩, ?_⟩
  · intro z z1 z2
    have b := hN z z1 z2
    show -2 ≤ upd (ar r 21) x.toNatClampNeg (-2) z.toNatClampNeg ∧ upd (ar r 21) x.toNatClampNeg (-2) z.toNatClampNeg < 8 ∧ -1 ≤ upd (ar r 22) x.toNatClampNeg y z.toNatClampNeg ∧ upd (ar r 22) x.toNatClampNeg y z.toNatClampNeg < fi r 11 ∧ -1 ≤ ar r 23 z.toNatClampNeg ∧ ar r 23 z.toNatClampNeg < fi r 11 ∧ (upd (ar r 21) x.toNatClampNeg (-2) z.toNatClampNeg = -2 → 0 ≤ upd (ar r 22) x.toNatClampNeg y z.toNatClampNeg)
    rw [updI _ _ x1 z1, updI _ _ x1 z1]
    by_cases e : z = x
    · rw [if_pos e, if_pos e]
      exact ⟨by decide, by decide, by clear hN hR b; grind, y2, b.2.2.2.2.1, b.2.2.2.2.2.1, fun _ => y1⟩
    · rw [if_neg e, if_neg e]
      exact b
  · intro z z1 z2
    have b := hR.2 z z1 z2
    have bx := hR.2 x x1 x2
    have by' := hR.2 y y1 y2
    have ex := bx.2.2.2.1 x3
    have ey := by'.2.2.2.1 y3
    show 0 ≤ (if rh z = x then y else rh z) ∧ (if rh z = x then y else rh z) < fi r 11 ∧ ¬ upd (ar r 21) x.toNatClampNeg (-2) (if rh z = x then y else rh z).toNatClampNeg = -2 ∧ (¬ upd (ar r 21) x.toNatClampNeg (-2) z.toNatClampNeg = -2 → (if rh z = x then y else rh z) = z) ∧ (upd (ar r 21) x.toNatClampNeg (-2) z.toNatClampNeg = -2 → (if rh (upd (ar r 22) x.toNatClampNeg y z.toNatClampNeg) = x then y else rh (upd (ar r 22) x.toNatClampNeg y z.toNatClampNeg)) = (if rh z = x then y else rh z) ∧ 0 ≤ (if z = x then N else ta z) ∧ (if z = x then N else ta z) < N + 1 ∧ (upd (ar r 21) x.toNatClampNeg (-2) (upd (ar r 22) x.toNatClampNeg y z.toNatClampNeg).toNatClampNeg = -2 → (if z = x then N else ta z) < (if upd (ar r 22) x.toNatClampNeg y z.toNatClampNeg = x then N else ta (upd (ar r 22) x.toNatClampNeg y z.toNatClampNeg))))
    have t1 : 0 ≤ (if rh z = x then y else rh z) ∧ (if rh z = x then y else rh z) < fi r 11 := by
      split
      · exact ⟨y1, y2⟩
      · exact ⟨b.1, b.2.1⟩
    refine ⟨t1.1, t1.2, ?_, ?_, ?_⟩
    · rw [updI _ _ x1 t1.1]
      by_cases e : rh z = x
      · rw [if_pos e, if_neg (fun q => hxy q.symm)]
        exact y3
      · rw [if_neg e, if_neg e]
        exact b.2.2.1
    · rw [updI _ _ x1 z1]
      intro g
      by_cases e : z = x
      · rw [if_pos e] at g
        exact absurd rfl g
      · rw [if_neg e] at g
        have ez := b.2.2.2.1 g
        rw [ez, if_neg e]
    · rw [updI _ _ x1 z1, updI _ _ x1 z1]
      intro g
      by_cases e : z = x
      · rw [if_pos e, if_pos e]
        subst e
        rw [ey, if_neg (fun q => hxy q.symm), ex, if_pos rfl]
        refine ⟨rfl, n2, n4, fun g2 => ?_⟩
        rw [updI _ _ x1 y1, if_neg (fun q => hxy q.symm)] at g2
        exact absurd g2 y3
      · rw [if_neg e] at g
        rw [if_neg e, if_neg e]
        have bz := b.2.2.2.2 g
        have nz := hN z z1 z2
        have fz := nz.2.2.2.2.2.2 g
        rw [bz.1]
        refine ⟨rfl, bz.2.1, ltt bz.2.2.1 n4, fun g2 => ?_⟩
        by_cases e2 : ar r 22 z.toNatClampNeg = x
        · rw [if_pos e2]
          exact bz.2.2.1
        · rw [if_neg e2]
          rw [updI _ _ x1 fz, if_neg e2] at g2
          exact bz.2.2.2 g2
  · rw [n1]
    show N.toInt + 1 = nmv (upd (ar r 21) x.toNatClampNeg (-2)) (fi r 11)
    rw [m1]
    omega
/-- with the stack's entries nodes -/
def UG (a : L_) (r : S_) (rh ta : Int32 → Int32) (N : Int32) : Prop := GI a r rh ta N ∧ 0 ≤ fi r 14 ∧ (fi r 14).toInt ≤ ln a 31 ∧ ∀ k, 0 ≤ k → k < fi r 14 → 0 ≤ ar r 31 k.toNatClampNeg ∧ ar r 31 k.toNatClampNeg < fi r 11
theorem push_U {y : Int32} (w : UG a r rh ta N) (y1 : 0 ≤ y) (y2 : y < fi r 11) {K : S_ → Prop} (hK : ∀ r', UG a r' rh ta N → Fr [14] [31] r r' → K r') : qG_push a K r y := by
  obtain ⟨w1, w2, w3, w4⟩ := w
  have hl : ln a 31 ≤ 8196 := by
    have e1 := w1.1.2.2.2.2.2.2.2.2.2.1
    have e2 := w1.1.2.2.2.2.2.2.2.2.2.2.2
    omega
  have e := i_ofn (n := ln a 31) (by omega)
  have g1 : (fi r 14).toInt < ln a 31 → K (sF (sA r 31 (upd (ar r 31) (fi r 14).toNatClampNeg y)) 14 (fi r 14 + 1)) := by
    intro g
    have hi : (fi r 14 + 1).toInt = (fi r 14).toInt + 1 := i_add (by simp; rw [il] at w2; simp at w2; omega) (by simp; omega)
    refine hK _ ⟨w1, ?_, ?_, fun k k1 k2 => ?_⟩ (Fr_trans (Fr_sA (by decide)) (Fr_sF (by decide)))
    · show 0 ≤ fi r 14 + 1
      rw [il, hi]
      rw [il] at w2
      simp at w2 ⊢
      omega
    · show (fi r 14 + 1).toInt ≤ _
      omega
    · show 0 ≤ upd (ar r 31) (fi r 14).toNatClampNeg y k.toNatClampNeg ∧ upd (ar r 31) (fi r 14).toNatClampNeg y k.toNatClampNeg < fi r 11
      rw [updI _ _ w2 k1]
      have k3 : k < fi r 14 + 1 := k2
      by_cases e : k = fi r 14
      · rw [if_pos e]; exact ⟨y1, y2⟩
      · rw [if_neg e]
        refine w4 k k1 ?_
        rw [it] at k3 ⊢
        rw [ie] at e
        omega
  unfold qG_push
  constructor
  · intro g
    first
      | (exact hK r ⟨w1, w2, w3, w4⟩ (Fr_refl r))
      | (refine ⟨vi w2 (by rw [it] at g; omega), ?_⟩; intro r3 e3; subst e3; intro r4 e4; subst e4; exact g1 (by rw [it] at g; omega))
  · intro g
    first
      | (exact hK r ⟨w1, w2, w3, w4⟩ (Fr_refl r))
      | (refine ⟨vi w2 (by rw [it] at g; omega), ?_⟩; intro r3 e3; subst e3; intro r4 e4; subst e4; exact g1 (by rw [it] at g; omega))
      | (refine ⟨vi w2 (by rw [il] at g; omega), ?_⟩; intro r3 e3; subst e3; intro r4 e4; subst e4; exact g1 (by rw [il] at g; omega))
theorem pushPair_ok {x y : Int32} (w : UG a r rh ta N) (x1 : -1 ≤ x) (x2 : x < fi r 11) (y1 : -1 ≤ y) (y2 : y < fi r 11) {K : S_ → Prop} (hK : ∀ r', UG a r' rh ta N → Fr [14] [31] r r' → K r') : qG_pushPair a K r x y := by
  unfold qG_pushPair
  refine ⟨fun _ => hK r w (Fr_refl r), fun g => ⟨fun _ => hK r w (Fr_refl r), fun g2 => ?_⟩⟩
  have p1 : 0 ≤ x := by clear w hK; grind
  have p2 : 0 ≤ y := by clear w hK; grind
  refine push_U w p1 x2 (fun r1 q1 q2 => push_U q1 p2 ?_ (fun r2 q3 q4 => hK r2 q3 (Fr_trans q2 q4)))
  rw [q2.1 11 (by decide)]
  exact y2
theorem move_ok {x y : Int32} (w : UG a r rh ta N) (x1 : 0 ≤ x) (x2 : x < fi r 11) (x3 : ¬ ar r 21 x.toNatClampNeg = -2) (y1 : 0 ≤ y) (y2 : y < fi r 11) (y3 : ¬ ar r 21 y.toNatClampNeg = -2) (hxy : ¬ x = y) {K : S_ → Prop} (hK : ∀ r' rh ta N, UG a r' rh ta N → Fr [14, 15] [21, 22, 31] r r' → K r') : qG_move a K r x y := by
  obtain ⟨w1, w2, w3, w4⟩ := w
  obtain ⟨rh2, ta2, N2, g⟩ := move_GI w1 x1 x2 x3 y1 y2 y3 hxy
  unfold qG_move
  refine ⟨vi2 x1 x2 w1.2.2.1, fun r2 e2 => ⟨vi2 x1 x2 (by rw [w1.1.1]; exact w1.2.2.1), fun r4 e4 => ?_⟩⟩
  subst e2
  subst e4
  exact hK _ rh2 ta2 N2 ⟨g, w2, w3, w4⟩ (Fr_trans (Fr_sA (by decide)) (Fr_sA (by decide)))
theorem isVar_ok {x : Int32} (w : GI a r rh ta N) (x1 : 0 ≤ x) (x2 : x < fi r 11) {K : Int32 → Prop} (h0 : ¬ ar r 21 x.toNatClampNeg = -1 → K 0) (h1 : ar r 21 x.toNatClampNeg = -1 → K 1) : qG_isVariable a r K x := by
  unfold qG_isVariable
  exact ⟨vi2 x1 x2 w.2.2.1, fun g => ⟨zb0, h0 g⟩, fun g => ⟨zb1, h1 g⟩⟩
theorem unifyTops_ok {x y : Int32} (w : UG a r rh ta N) (x1 : 0 ≤ x) (x2 : x < fi r 11) (x3 : ¬ ar r 21 x.toNatClampNeg = -2) (y1 : 0 ≤ y) (y2 : y < fi r 11) (y3 : ¬ ar r 21 y.toNatClampNeg = -2) {K : S_ → Prop} (hK : ∀ r' rh ta N, UG a r' rh ta N → Fr [14, 15] [21, 22, 31] r r' → K r') : qG_unifyTops a K r x y := by
  have w1 := w.1
  have nx := w1.2.2.2.1 x x1 x2
  have ny := w1.2.2.2.1 y y1 y2
  have l21 : ∀ z, 0 ≤ z → z < fi r 11 → vp_in z (ln a 21) := fun z z1 z2 => vi2 z1 z2 w1.2.2.1
  have l22 : ∀ z, 0 ≤ z → z < fi r 11 → vp_in z (ln a 22) := fun z z1 z2 => vi2 z1 z2 (by rw [w1.1.1]; exact w1.2.2.1)
  have l23 : ∀ z, 0 ≤ z → z < fi r 11 → vp_in z (ln a 23) := fun z z1 z2 => vi2 z1 z2 (by rw [w1.1.2.1]; exact w1.2.2.1)
  unfold qG_unifyTops
  refine ⟨fun hxy => ?_, fun _ => hK r rh ta N w (Fr_refl r)⟩
  refine isVar_ok w1 x1 x2 (fun g _ => ⟨fun _ => ?_, fun z => absurd rfl z⟩) (fun g _ => ⟨fun z => absurd z (by decide), fun _ => move_ok w x1 x2 x3 y1 y2 y3 hxy hK⟩)
  refine isVar_ok w1 y1 y2 (fun g _ => ⟨fun _ => ?_, fun z => absurd rfl z⟩) (fun g _ => ⟨fun z => absurd z (by decide), fun _ => move_ok w y1 y2 y3 x1 x2 x3 (fun e => hxy e.symm) hK⟩)
  refine ⟨l21 x x1 x2, l21 y y1 y2, fun g => ⟨l23 x x1 x2, l23 y y1 y2, ?_⟩, fun g => ⟨zb1, fun r16 e16 => ?_⟩⟩
  · refine pushPair_ok w nx.2.2.2.2.1 nx.2.2.2.2.2.1 ny.2.2.2.2.1 ny.2.2.2.2.2.1 (fun r1 q1 q2 => ⟨l22 x x1 x2, l22 y y1 y2, ?_⟩)
    have e11 : fi r1 11 = fi r 11 := q2.1 11 (by decide)
    have e21 : ar r1 21 = ar r 21 := q2.2.1 21 (by decide)
    have nx1 := q1.1.2.2.2.1 x x1 (by rw [e11]; exact x2)
    have ny1 := q1.1.2.2.2.1 y y1 (by rw [e11]; exact y2)
    refine pushPair_ok q1 nx1.2.2.1 nx1.2.2.2.1 ny1.2.2.1 ny1.2.2.2.1 (fun r2 q3 q4 => ?_)
    have f11 : fi r2 11 = fi r 11 := (q4.1 11 (by decide)).trans e11
    have f21 : ar r2 21 = ar r 21 := (q4.2.1 21 (by decide)).trans e21
    refine move_ok q3 x1 (by rw [f11]; exact x2) (by rw [f21]; exact x3) y1 (by rw [f11]; exact y2) (by rw [f21]; exact y3) hxy (fun r3 rh3 ta3 N3 q5 q6 => hK r3 rh3 ta3 N3 q5 ?_)
    exact Fr_trans (Fr_mono (Fr_trans q2 q4) (by decide) (by decide)) q6
  · subst e16
    exact hK _ rh ta N w (Fr_sF (by decide))
theorem unify_L {r0 : S_} {KX : S_ → Prop} (hK : ∀ r' rh ta N, UG a r' rh ta N → Fr [14, 15] [21, 22, 31] r0 r' → KX r') : ∀ (n : Nat) (r : S_) (rh ta : Int32 → Int32) (N v : Int32), UG a r rh ta N → Fr [14, 15] [21, 22, 31] r0 r → 0 ≤ v → 1000000 - v.toInt < n → qG_unify_L13 a KX n r v ∨ 1000000 < v.toInt := by
  intro n
  induction n with
  | zero =>
    intro r rh ta N v w hF h0 hm
    right
    omega
  | succ n ih =>
    intro r rh ta N v w hF h0 hm
    by_cases hv : 1000000 < v.toInt
    · exact Or.inr hv
    left
    rw [qG_unify_L13]
    refine ⟨fun _ => hK r rh ta N w hF, fun g => ⟨fun _ => hK r rh ta N w hF, fun g2 r5 e5 => ?_⟩⟩
    obtain ⟨w1, w2, w3, w4⟩ := w
    have g3 : 1 < fi r 14 := Int32.not_le.mp g
    have hd : (fi r 14 - 2).toInt = (fi r 14).toInt - 2 := by
      have := ir (fi r 14)
      rw [it] at g3
      exact i_sub (by simp at g3 ⊢; omega) (by simp at g3 ⊢; omega)
    have g4 : 1 < (fi r 14).toInt := by rw [it] at g3; simpa using g3
    have hd1 : (fi r 14 - 2 + 1).toInt = (fi r 14).toInt - 1 := by
      rw [i_add (by rw [hd]; simp; omega) (by rw [hd]; simp; have := ir (fi r 14); omega), hd]
      simp
      omega
    have hl : ln a 31 ≤ 8196 := by
      have e1 := w1.1.2.2.2.2.2.2.2.2.2.1
      have e2 := w1.1.2.2.2.2.2.2.2.2.2.2.2
      omega
    have k0 : 0 ≤ fi r 14 - 2 := by rw [il, hd]; simp; omega
    have k1 : fi r 14 - 2 < fi r 14 := by rw [it, hd]; omega
    have k2 : 0 ≤ fi r 14 - 2 + 1 := by rw [il, hd1]; simp; omega
    have k3 : fi r 14 - 2 + 1 < fi r 14 := by rw [it, hd1]; omega
    have s0 := w4 _ k0 k1
    have s1 := w4 _ k2 k3
    have v3 : (v + 1).toInt = v.toInt + 1 := i_inc (y := 1000000) (Int32.not_le.mp g2)
    have v4 : v < 1000000 := Int32.not_le.mp g2
    subst e5
    simp only [fi_sF, fi_sA, ar_sF, ar_sA, la_sF, la_sA, reduceIte, Nat.reduceEqDiff]
    refine ⟨vi k0 (by rw [hd]; omega), ?_⟩
    refine settled_ok (r := sF r 14 (fi r 14 - 2)) w1 s0.1 s0.2 (fun f f1 f2 => ?_)
    simp only [fi_sF, fi_sA, ar_sF, ar_sA, la_sF, la_sA, reduceIte, Nat.reduceEqDiff]
    refine ⟨vi k2 (by rw [hd1]; omega), ?_⟩
    refine settled_ok f1 s1.1 s1.2 (fun f3 f4 f5 => ?_)
    have r0' := w1.2.2.2.2.1.2 _ s0.1 s0.2
    have r1' := w1.2.2.2.2.1.2 _ s1.1 s1.2
    refine unifyTops_ok (rh := rh) (ta := ta) (N := N) ⟨f4, k0, ?_, fun k q1 q2 => w4 k q1 ?_⟩ r0'.1 r0'.2.1 r0'.2.2.1 r1'.1 r1'.2.1 r1'.2.2.1 (fun r2 rh2 ta2 N2 q1 q2 => ?_)
    · show (fi r 14 - 2).toInt ≤ _
      rw [hd]; omega
    · exact ltt (show k < fi r 14 - 2 from q2) k1
    · have v5 : 0 ≤ v + 1 := by rw [il, v3]; rw [il] at h0; simp at h0 ⊢; omega
      have fr : Fr [14, 15] [21, 22, 31] r0 r2 := Fr_trans hF (Fr_trans (Fr_sF (by decide)) (Fr_trans (Fr_sA (by decide)) (Fr_trans (Fr_sA (by decide)) q2)))
      rcases ih r2 rh2 ta2 N2 (v + 1) q1 fr v5 (by omega) with t | t
      · exact t
      · rw [it, show (1000000 : Int32).toInt = 1000000 from rfl] at v4
        omega
theorem unify_ok {x y : Int32} (w : GI a r rh ta N) (x1 : 0 ≤ x) (x2 : x < fi r 11) (y1 : 0 ≤ y) (y2 : y < fi r 11) {K : S_ → Prop} (hK : ∀ r' rh ta N, GI a r' rh ta N → Fr [14, 15] [21, 22, 31] r r' → K r') : qG_unify a K r x y := by
  unfold qG_unify
  intro r1 e1
  have u1 : UG a r1 rh ta N := by
    subst e1
    refine ⟨w, by show (0 : Int32) ≤ 0; decide, ?_, fun k k1 k2 => (nl0 k1 (show k < 0 from k2)).elim⟩
    show (0 : Int32).toInt ≤ _
    simp
  have f1 : Fr [14, 15] [21, 22, 31] r r1 := by rw [e1]; exact Fr_sF (by decide)
  have e11 : fi r1 11 = fi r 11 := by rw [e1]; rfl
  refine pushPair_ok u1 (by clear w hK u1; grind) (by rw [e11]; exact x2) (by clear w hK u1; grind) (by rw [e11]; exact y2) (fun r2 q1 q2 => ⟨1000001, ?_⟩)
  rcases unify_L (a := a) (r0 := r) (KX := K) (fun r' rh ta N k1 k2 => hK r' rh ta N k1.1 k2) 1000001 r2 rh ta N 0 q1 (Fr_trans f1 (Fr_mono q2 (by decide) (by decide))) (by decide) (by simp) with t | t
  · exact t
  · simp at t
end UNIFY
