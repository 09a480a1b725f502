/-! Unification in the class: what it comes to. -/
section ZCUNI
variable {a : L_} {r r' : S_} {rh ta : Int32 → Int32} {N : Int32}
def pd (r : S_) (ρ : Int32 → Ut) : Prop := ∀ j : Nat, 2 * j + 1 < (fi r 14).toNatClampNeg → ρ (ar r 31 (2 * j)) = ρ (ar r 31 (2 * j + 1))
theorem ws_push {y : Int32} (h1 : 0 ≤ fi r 14) (h2 : (fi r 14).toInt < ln a 31) (h3 : ln a 31 < 100000) {K : S_ → Prop} (hK : K (sF (sA r 31 (upd (ar r 31) (fi r 14).toNatClampNeg y)) 14 (fi r 14 + 1))) : wG_push a K r y :=
  wq_G_push (K := fun r' => r' = sF (sA r 31 (upd (ar r 31) (fi r 14).toNatClampNeg y)) 14 (fi r 14 + 1)) (K2 := fun _ => True) (fun r' h _ => by rw [h]; exact hK) (push_ok h1 h2 h3 rfl) (wa_G_push (fun _ => trivial))
/-- a pair more -/
def pp (r : S_) (x y : Int32) : S_ := sF (sA (sF (sA r 31 (upd (ar r 31) (fi r 14).toNatClampNeg x)) 14 (fi r 14 + 1)) 31 (upd (upd (ar r 31) (fi r 14).toNatClampNeg x) (fi r 14 + 1).toNatClampNeg y)) 14 (fi r 14 + 1 + 1)
theorem pp_n (h0 : 0 ≤ fi r 14) (hb : (fi r 14).toInt ≤ 100000) : (fi r 14 + 1).toInt = (fi r 14).toInt + 1 ∧ (fi r 14 + 1 + 1).toInt = (fi r 14).toInt + 2 ∧ 0 ≤ fi r 14 + 1 ∧ 0 ≤ fi r 14 + 1 + 1 := by
  rw [il] at h0
  simp at h0
  have h1 : (fi r 14 + 1).toInt = (fi r 14).toInt + 1 := i_add (by simp; omega) (by simp; omega)
  have h2 : (fi r 14 + 1 + 1).toInt = (fi r 14).toInt + 2 := by
    rw [i_add (by rw [h1]; simp; omega) (by rw [h1]; simp; omega), h1]
    simp
    omega
  refine ⟨h1, h2, ?_, ?_⟩
  · rw [il, h1]; simp; omega
  · rw [il, h2]; simp; omega
theorem pp_pd {x y : Int32} {ρ : Int32 → Ut} (h0 : 0 ≤ fi r 14) (hb : (fi r 14).toInt ≤ 100000) (he : (fi r 14).toInt % 2 = 0) : pd (pp r x y) ρ ↔ pd r ρ ∧ ρ x = ρ y := by
  obtain ⟨n1, n2, n3, n4⟩ := pp_n h0 hb
  have m0 := i_nat h0
  have m1 := i_nat n3
  have m2 := i_nat n4
  have f14 : fi (pp r x y) 14 = fi r 14 + 1 + 1 := rfl
  have a31 : ar (pp r x y) 31 = upd (upd (ar r 31) (fi r 14).toNatClampNeg x) (fi r 14 + 1).toNatClampNeg y := rfl
  have e2 : (fi r 14 + 1 + 1).toNatClampNeg = (fi r 14).toNatClampNeg + 2 := by omega
  have e1 : (fi r 14 + 1).toNatClampNeg = (fi r 14).toNatClampNeg + 1 := by omega
  have ev : (fi r 14).toNatClampNeg % 2 = 0 := by omega
  unfold pd
  rw [f14, a31, e2, e1]
  constructor
  · intro h
    refine ⟨fun j hj => ?_, ?_⟩
    · have k := h j (by omega)
      rw [pk_un (by omega), pk_un (by omega), pk_un (by omega), pk_un (by omega)] at k
      exact k
    · have k := h ((fi r 14).toNatClampNeg / 2) (by omega)
      have q1 : 2 * ((fi r 14).toNatClampNeg / 2) = (fi r 14).toNatClampNeg := by omega
      rw [q1, pk_us, pk_un (by omega), pk_us] at k
      exact k
  · rintro ⟨h1, h2⟩ j hj
    by_cases e : 2 * j = (fi r 14).toNatClampNeg
    · rw [e, pk_us, pk_un (by omega), pk_us]
      exact h2
    · rw [pk_un (by omega), pk_un (by omega), pk_un (by omega), pk_un (by omega)]
      exact h1 j (by omega)
theorem pp_UG {x y : Int32} (w : UG a r rh ta N) (hc : (fi r 14).toInt + 2 ≤ ln a 31) (x0 : 0 ≤ x) (x1 : x < fi r 11) (y0 : 0 ≤ y) (y1 : y < fi r 11) : UG a (pp r x y) rh ta N ∧ (fi (pp r x y) 14).toInt = (fi r 14).toInt + 2 := by
  obtain ⟨w1, w2, w3, w4⟩ := w
  have hl : ln a 31 ≤ 8196 := by
    have e1 := w1.1.2.2.2.2.2.2.2.2.2.1
    have e2 := w1.1.2.2.2.2.2.2.2.2.2.2.2
    omega
  obtain ⟨n1, n2, n3, n4⟩ := pp_n w2 (by omega)
  refine ⟨⟨w1, n4, ?_, fun k k0 k1 => ?_⟩, n2⟩
  · show (fi r 14 + 1 + 1).toInt ≤ _
    omega
  · have k1' : k < fi r 14 + 1 + 1 := k1
    show 0 ≤ upd (upd (ar r 31) (fi r 14).toNatClampNeg x) (fi r 14 + 1).toNatClampNeg y k.toNatClampNeg ∧ upd (upd (ar r 31) (fi r 14).toNatClampNeg x) (fi r 14 + 1).toNatClampNeg y k.toNatClampNeg < fi r 11
    rw [updI _ _ n3 k0, updI _ _ w2 k0]
    by_cases e1 : k = fi r 14 + 1
    · rw [if_pos e1]; exact ⟨y0, y1⟩
    · rw [if_neg e1]
      by_cases e2 : k = fi r 14
      · rw [if_pos e2]; exact ⟨x0, x1⟩
      · rw [if_neg e2]
        refine w4 k k0 ?_
        rw [it] at k1' ⊢
        rw [ie] at e1 e2
        omega
theorem ws_pair {x y : Int32} (w : UG a r rh ta N) (hc : (fi r 14).toInt + 2 ≤ ln a 31) {K : S_ → Prop} (h0 : x = -1 ∨ y = -1 → K r) (h1 : ¬ x = -1 → ¬ y = -1 → K (pp r x y)) : wG_pushPair a K r x y := by
  obtain ⟨w1, w2, w3, w4⟩ := w
  have hl : ln a 31 ≤ 8196 := by
    have e1 := w1.1.2.2.2.2.2.2.2.2.2.1
    have e2 := w1.1.2.2.2.2.2.2.2.2.2.2.2
    omega
  obtain ⟨n1, n2, n3, n4⟩ := pp_n w2 (by omega)
  unfold wG_pushPair
  refine ⟨fun e => h0 (Or.inl e), fun e => ⟨fun e2 => h0 (Or.inr e2), fun e2 => ?_⟩⟩
  refine ws_push w2 (by omega) (by omega) ?_
  refine ws_push (r := sF (sA r 31 (upd (ar r 31) (fi r 14).toNatClampNeg x)) 14 (fi r 14 + 1)) n3 ?_ (by omega) (h1 e e2)
  show (fi r 14 + 1).toInt < _
  omega
def mv (r : S_) (x y : Int32) : S_ := sA (sA r 21 (upd (ar r 21) x.toNatClampNeg (-2))) 22 (upd (ar r 22) x.toNatClampNeg y)
theorem move_GIx (hI : GI a r rh ta N) {x y : Int32} (x1 : 0 ≤ x) (x2 : x < fi r 11) (x3 : ¬ ar r 21 x.toNatClampNeg = -2) (y1 : 0 ≤ y) (y2 : y < fi r 11) (y3 : ¬ ar r 21 y.toNatClampNeg = -2) (hxy : ¬ x = y) : GI a (mv r x y) (fun z => if rh z = x then y else rh z) (fun z => if z = x then N else ta z) (N + 1) := by
  obtain ⟨hL, hc0, hcl, hN, hR, hn⟩ := hI
  have hcx := i_nat hc0
  have hnx := i_nat x1
  have hny := i_nat y1
  have c4 : (fi r 11).toInt ≤ 4096 := by have := hL.2.2.2.2.2.2.2.2.2.2.2; omega
  have x2' := x2
  have y2' := y2
  rw [it] at x2' y2'
  have m1 : nmv (upd (ar r 21) x.toNatClampNeg (-2)) (fi r 11) = nmv (ar r 21) (fi r 11) + 1 := by
    unfold nmv
    refine cnt_more (i := x.toNatClampNeg) (by omega) (by simp [x3]) (by simp [pk_us]) (fun j _ hj => by rw [pk_un hj])
  have m2 : nmv (upd (ar r 21) x.toNatClampNeg (-2)) (fi r 11) < (fi r 11).toNatClampNeg := by
    unfold nmv
    refine cnt_lt (i := y.toNatClampNeg) (by omega) ?_
    rw [updI _ _ x1 y1, if_neg (fun e => hxy e.symm)]
    simp [y3]
  have n1 : (N + 1).toInt = N.toInt + 1 := i_add (by simp; omega) (by simp; omega)
  have n2 : 0 ≤ N := by rw [il, hn]; simp
  have n3 : N + 1 ≤ fi r 11 := by rw [il, n1]; omega
  have n4 : N < N + 1 := by rw [it, n1]; omega
  refine ⟨hL, hc0, hcl, ?_, ⟨n3, ?_⟩, ?_⟩
  · intro z z1 z2
    have b := hN z z1 z2
    show -2 ≤ upd (ar r 21) x.toNatClampNeg (-2) z.toNatClampNeg ∧ upd (ar r 21) x.toNatClampNeg (-2) z.toNatClampNeg < 8 ∧ -1 ≤ upd (ar r 22) x.toNatClampNeg y z.toNatClampNeg ∧ upd (ar r 22) x.toNatClampNeg y z.toNatClampNeg < fi r 11 ∧ -1 ≤ ar r 23 z.toNatClampNeg ∧ ar r 23 z.toNatClampNeg < fi r 11 ∧ (upd (ar r 21) x.toNatClampNeg (-2) z.toNatClampNeg = -2 → 0 ≤ upd (ar r 22) x.toNatClampNeg y z.toNatClampNeg)
    rw [updI _ _ x1 z1, updI _ _ x1 z1]
    by_cases e : z = x
    · rw [if_pos e, if_pos e]
      exact ⟨by decide, by decide, by clear hN hR b; grind, y2, b.2.2.2.2.1, b.2.2.2.2.2.1, fun _ => y1⟩
    · rw [if_neg e, if_neg e]
      exact b
  · intro z z1 z2
    have b := hR.2 z z1 z2
    have bx := hR.2 x x1 x2
    have by' := hR.2 y y1 y2
    have ex := bx.2.2.2.1 x3
    have ey := by'.2.2.2.1 y3
    show 0 ≤ (if rh z = x then y else rh z) ∧ (if rh z = x then y else rh z) < fi r 11 ∧ ¬ upd (ar r 21) x.toNatClampNeg (-2) (if rh z = x then y else rh z).toNatClampNeg = -2 ∧ (¬ upd (ar r 21) x.toNatClampNeg (-2) z.toNatClampNeg = -2 → (if rh z = x then y else rh z) = z) ∧ (upd (ar r 21) x.toNatClampNeg (-2) z.toNatClampNeg = -2 → (if rh (upd (ar r 22) x.toNatClampNeg y z.toNatClampNeg) = x then y else rh (upd (ar r 22) x.toNatClampNeg y z.toNatClampNeg)) = (if rh z = x then y else rh z) ∧ 0 ≤ (if z = x then N else ta z) ∧ (if z = x then N else ta z) < N + 1 ∧ (upd (ar r 21) x.toNatClampNeg (-2) (upd (ar r 22) x.toNatClampNeg y z.toNatClampNeg).toNatClampNeg = -2 → (if z = x then N else ta z) < (if upd (ar r 22) x.toNatClampNeg y z.toNatClampNeg = x then N else ta (upd (ar r 22) x.toNatClampNeg y z.toNatClampNeg))))
    have t1 : 0 ≤ (if rh z = x then y else rh z) ∧ (if rh z = x then y else rh z) < fi r 11 := by
      split
      · exact ⟨y1, y2⟩
      · exact ⟨b.1, b.2.1⟩
    refine ⟨t1.1, t1.2, ?_, ?_, ?_⟩
    · rw [updI _ _ x1 t1.1]
      by_cases e : rh z = x
      · rw [if_pos e, if_neg (fun q => hxy q.symm)]
        exact y3
      · rw [if_neg e, if_neg e]
        exact b.2.2.1
    · rw [updI _ _ x1 z1]
      intro g
      by_cases e : z = x
      · rw [if_pos e] at g
        exact absurd rfl g
      · rw [if_neg e] at g
        have ez := b.2.2.2.1 g
        rw [ez, if_neg e]
    · rw [updI _ _ x1 z1, updI _ _ x1 z1]
      intro g
      by_cases e : z = x
      · rw [if_pos e, if_pos e]
        subst e
        rw [ey, if_neg (fun q => hxy q.symm), ex, if_pos rfl]
        refine ⟨rfl, n2, n4, fun g2 => ?_⟩
        rw [updI _ _ x1 y1, if_neg (fun q => hxy q.symm)] at g2
        exact absurd g2 y3
      · rw [if_neg e] at g
        rw [if_neg e, if_neg e]
        have bz := b.2.2.2.2 g
        have nz := hN z z1 z2
        have fz := nz.2.2.2.2.2.2 g
        rw [bz.1]
        refine ⟨rfl, bz.2.1, ltt bz.2.2.1 n4, fun g2 => ?_⟩
        by_cases e2 : ar r 22 z.toNatClampNeg = x
        · rw [if_pos e2]
          exact bz.2.2.1
        · rw [if_neg e2]
          rw [updI _ _ x1 fz, if_neg e2] at g2
          exact bz.2.2.2 g2
  · rw [n1]
    show N.toInt + 1 = nmv (upd (ar r 21) x.toNatClampNeg (-2)) (fi r 11)
    rw [m1]
    omega
theorem mv_N (hI : GI a r rh ta N) {x y : Int32} (x0 : 0 ≤ x) (x1 : x < fi r 11) (x2 : ¬ ar r 21 x.toNatClampNeg = -2) {rh2 ta2 : Int32 → Int32} {N2 : Int32} (h2 : GI a (mv r x y) rh2 ta2 N2) : N2.toInt = N.toInt + 1 := by
  have e1 := hI.2.2.2.2.2
  have e2 : N2.toInt = nmv (upd (ar r 21) x.toNatClampNeg (-2)) (fi r 11) := h2.2.2.2.2.2
  have hcx := i_nat hI.2.1
  have hnx := i_nat x0
  have m1 : nmv (upd (ar r 21) x.toNatClampNeg (-2)) (fi r 11) = nmv (ar r 21) (fi r 11) + 1 := by
    unfold nmv
    refine cnt_more (i := x.toNatClampNeg) (by rw [it] at x1; omega) (by simp [x2]) (by simp [pk_us]) (fun j _ hj => by rw [pk_un hj])
  omega
theorem mv_VC {x y : Int32} (x0 : 0 ≤ x) (x1 : x < fi r 11) {ρ : Int32 → Ut} : VC (mv r x y) ρ ↔ ρ x = ρ y ∧ ρ (-1) = [] ∧ ∀ z : Int32, 0 ≤ z → z < fi r 11 → ¬ z = x → (ar r 21 z.toNatClampNeg = -2 → ρ z = ρ (ar r 22 z.toNatClampNeg)) ∧ (0 ≤ ar r 21 z.toNatClampNeg → ρ z = Jn (ar r 21 z.toNatClampNeg) (ρ (ar r 22 z.toNatClampNeg)) (ρ (ar r 23 z.toNatClampNeg))) := by
  have e21 : ar (mv r x y) 21 = upd (ar r 21) x.toNatClampNeg (-2) := rfl
  have e22 : ar (mv r x y) 22 = upd (ar r 22) x.toNatClampNeg y := rfl
  constructor
  · rintro ⟨h1, h2⟩
    refine ⟨?_, h1, fun z z0 z1 hz => ?_⟩
    · have k := (h2 x x0 x1).1
      rw [e21, e22, updI _ _ x0 x0, updI _ _ x0 x0, if_pos rfl, if_pos rfl] at k
      exact k rfl
    · have k := h2 z z0 z1
      rw [e21, e22, updI _ _ x0 z0, updI _ _ x0 z0, if_neg hz, if_neg hz] at k
      exact k
  · rintro ⟨h0, h1, h2⟩
    refine ⟨h1, fun z z0 z1 => ?_⟩
    rw [e21, e22, updI _ _ x0 z0, updI _ _ x0 z0]
    by_cases hz : z = x
    · rw [if_pos hz, if_pos hz, hz]
      exact ⟨fun _ => h0, fun h => absurd h (by decide)⟩
    · rw [if_neg hz, if_neg hz]
      exact h2 z z0 z1 hz
theorem mv_AY {x y : Int32} (x0 : 0 ≤ x) (h : AYc r) : AYc (mv r x y) := by
  intro z z0 z1
  show (0 ≤ upd (ar r 21) x.toNatClampNeg (-2) z.toNatClampNeg → (¬ upd (ar r 22) x.toNatClampNeg y z.toNatClampNeg = -1 ↔ 0 < ar r 0 (upd (ar r 21) x.toNatClampNeg (-2) z.toNatClampNeg).toNatClampNeg) ∧ (¬ ar r 23 z.toNatClampNeg = -1 ↔ 1 < ar r 0 (upd (ar r 21) x.toNatClampNeg (-2) z.toNatClampNeg).toNatClampNeg)) ∧ (upd (ar r 21) x.toNatClampNeg (-2) z.toNatClampNeg = -1 → upd (ar r 22) x.toNatClampNeg y z.toNatClampNeg = -1 ∧ ar r 23 z.toNatClampNeg = -1)
  rw [updI _ _ x0 z0, updI _ _ x0 z0]
  by_cases hz : z = x
  · rw [if_pos hz, if_pos hz]
    exact ⟨fun h => absurd h (by decide), fun h => absurd h (by decide)⟩
  · rw [if_neg hz, if_neg hz]
    exact h z z0 z1
/-- closed sets of roots, and what stays outside them -/
def Cr (r : S_) (rh : Int32 → Int32) (D : Int32 → Prop) : Prop := ∀ z : Int32, 0 ≤ z → z < fi r 11 → ¬ ar r 21 z.toNatClampNeg = -2 → D z → (¬ ar r 22 z.toNatClampNeg = -1 → D (rh (ar r 22 z.toNatClampNeg))) ∧ (¬ ar r 23 z.toNatClampNeg = -1 → D (rh (ar r 23 z.toNatClampNeg)))
def SD (r : S_) (rh : Int32 → Int32) (D : Int32 → Prop) : Prop := ∀ k : Int32, 0 ≤ k → k < fi r 14 → D (rh (ar r 31 k.toNatClampNeg))
def UFr (r r' : S_) (rh rh' : Int32 → Int32) (D : Int32 → Prop) : Prop := (∀ z : Int32, 0 ≤ z → z < fi r 11 → rh' z = rh z ∨ (D (rh z) ∧ D (rh' z))) ∧ (∀ z : Int32, 0 ≤ z → z < fi r 11 → ¬ ar r' 21 z.toNatClampNeg = -2 → ar r' 21 z.toNatClampNeg = ar r 21 z.toNatClampNeg ∧ ar r' 22 z.toNatClampNeg = ar r 22 z.toNatClampNeg) ∧ ∀ z : Int32, 0 ≤ z → z < fi r 11 → ¬ D z → ¬ ar r 21 z.toNatClampNeg = -2 → ¬ ar r' 21 z.toNatClampNeg = -2
theorem UFr_refl {D : Int32 → Prop} : UFr r r rh rh D := ⟨fun _ _ _ => Or.inl rfl, fun _ _ _ _ => ⟨rfl, rfl⟩, fun _ _ _ _ h => h⟩
theorem UFr_trans {r2 : S_} {rh2 rh3 : Int32 → Int32} {D : Int32 → Prop} (h11 : fi r' 11 = fi r 11) (u : UFr r r' rh rh2 D) (u2 : UFr r' r2 rh2 rh3 D) : UFr r r2 rh rh3 D := by
  refine ⟨fun z z0 z1 => ?_, fun z z0 z1 h => ?_, fun z z0 z1 h h2 => u2.2.2 z z0 (by rw [h11]; exact z1) h (u.2.2 z z0 z1 h h2)⟩
  · rcases u.1 z z0 z1 with k | k
    · rcases u2.1 z z0 (by rw [h11]; exact z1) with q | q
      · exact Or.inl (q.trans k)
      · rw [k] at q
        exact Or.inr q
    · rcases u2.1 z z0 (by rw [h11]; exact z1) with q | q
      · rw [← q] at k
        exact Or.inr k
      · exact Or.inr ⟨k.1, q.2⟩
  · have k2 := u2.2.1 z z0 (by rw [h11]; exact z1) h
    have h' : ¬ ar r' 21 z.toNatClampNeg = -2 := by rw [← k2.1]; exact h
    have k1 := u.2.1 z z0 z1 h'
    exact ⟨k2.1.trans k1.1, k2.2.trans k1.2⟩
theorem Cr_UF {rh2 : Int32 → Int32} {D : Int32 → Prop} (hN : GN (fi r 11) (ar r 21) (ar r 22) (ar r 23)) (h11 : fi r' 11 = fi r 11) (h23 : ar r' 23 = ar r 23) (u : UFr r r' rh rh2 D) (c : Cr r rh D) : Cr r' rh2 D := by
  intro z z0 z1 h d
  rw [h11] at z1
  have k := u.2.1 z z0 z1 h
  have h' : ¬ ar r 21 z.toNatClampNeg = -2 := by rw [← k.1]; exact h
  have q := c z z0 z1 h' d
  have b := hN z z0 z1
  rw [k.2, h23]
  refine ⟨fun e => ?_, fun e => ?_⟩
  · have p0 : 0 ≤ ar r 22 z.toNatClampNeg := by have := b.2.2.1; clear hN u c k q b; grind
    rcases u.1 _ p0 b.2.2.2.1 with m | m
    · rw [m]; exact q.1 e
    · exact m.2
  · have p0 : 0 ≤ ar r 23 z.toNatClampNeg := by have := b.2.2.2.2.1; clear hN u c k q b; grind
    rcases u.1 _ p0 b.2.2.2.2.2.1 with m | m
    · rw [m]; exact q.2 e
    · exact m.2
theorem UFr_mv {x y : Int32} {D : Int32 → Prop} (x0 : 0 ≤ x) (dx : D x) (dy : D y) : UFr r (mv r x y) rh (fun z => if rh z = x then y else rh z) D := by
  refine ⟨fun z _ _ => ?_, fun z z0 z1 h => ?_, fun z z0 z1 h h2 => ?_⟩
  · by_cases e : rh z = x
    · simp only [e, if_pos]
      exact Or.inr ⟨dx, dy⟩
    · simp only [e, if_false]
      exact Or.inl trivial
  · have h' : ¬ upd (ar r 21) x.toNatClampNeg (-2) z.toNatClampNeg = -2 := h
    show upd (ar r 21) x.toNatClampNeg (-2) z.toNatClampNeg = _ ∧ upd (ar r 22) x.toNatClampNeg y z.toNatClampNeg = _
    rw [updI _ _ x0 z0] at h' ⊢
    rw [updI _ _ x0 z0]
    by_cases e : z = x
    · rw [if_pos e] at h'
      exact absurd rfl h'
    · rw [if_neg e, if_neg e]
      exact ⟨rfl, rfl⟩
  · show ¬ upd (ar r 21) x.toNatClampNeg (-2) z.toNatClampNeg = -2
    rw [updI _ _ x0 z0, if_neg (fun e => h (by rw [e]; exact dx))]
    exact h2
theorem SD_mv {x y : Int32} {D : Int32 → Prop} (sd : SD r rh D) (dy : D y) : SD (mv r x y) (fun z => if rh z = x then y else rh z) D := by
  intro k k0 k1
  show D (if rh (ar r 31 k.toNatClampNeg) = x then y else rh (ar r 31 k.toNatClampNeg))
  split
  · exact dy
  · exact sd k k0 k1
theorem ws_move {x y : Int32} (w : UG a r rh ta N) (x1 : 0 ≤ x) (x2 : x < fi r 11) (x3 : ¬ ar r 21 x.toNatClampNeg = -2) (y1 : 0 ≤ y) (y2 : y < fi r 11) (y3 : ¬ ar r 21 y.toNatClampNeg = -2) (hxy : ¬ x = y) {K : S_ → Prop} (hK : ∀ ta2 N2, UG a (mv r x y) (fun z => if rh z = x then y else rh z) ta2 N2 → N2.toInt = N.toInt + 1 → K (mv r x y)) : wG_move a K r x y := by
  obtain ⟨w1, w2, w3, w4⟩ := w
  have g := move_GIx w1 x1 x2 x3 y1 y2 y3 hxy
  have hn := mv_N (y := y) w1 x1 x2 x3 g
  unfold wG_move
  intro _ r2 e2 _ r4 e4
  subst e2
  subst e4
  exact hK _ _ ⟨g, w2, w3, w4⟩ hn
theorem n_lt2 (hI : GI a r rh ta N) {x y : Int32} (x1 : 0 ≤ x) (x2 : x < fi r 11) (x3 : ¬ ar r 21 x.toNatClampNeg = -2) (y1 : 0 ≤ y) (y2 : y < fi r 11) (y3 : ¬ ar r 21 y.toNatClampNeg = -2) (hxy : ¬ x = y) : N.toInt + 2 ≤ (fi r 11).toInt := by
  obtain ⟨rh2, ta2, N2, g⟩ := move_GI hI x1 x2 x3 y1 y2 y3 hxy
  have hn := mv_N (y := y) hI x1 x2 x3 g
  have e2 : N2.toInt = nmv (upd (ar r 21) x.toNatClampNeg (-2)) (fi r 11) := g.2.2.2.2.2
  have m2 : nmv (upd (ar r 21) x.toNatClampNeg (-2)) (fi r 11) < (fi r 11).toNatClampNeg := by
    have hny := i_nat y1
    have hcx := i_nat hI.2.1
    rw [it] at y2
    unfold nmv
    refine cnt_lt (i := y.toNatClampNeg) (by omega) ?_
    rw [updI _ _ x1 y1, if_neg (fun e => hxy e.symm)]
    simp [y3]
  have := i_nat hI.2.1
  omega
theorem SD_pp {x y : Int32} {D : Int32 → Prop} (h0 : 0 ≤ fi r 14) (hb : (fi r 14).toInt ≤ 100000) (sd : SD r rh D) (dx : D (rh x)) (dy : D (rh y)) : SD (pp r x y) rh D := by
  obtain ⟨n1, n2, n3, n4⟩ := pp_n h0 hb
  intro k k0 k1
  have k1' : k < fi r 14 + 1 + 1 := k1
  show D (rh (upd (upd (ar r 31) (fi r 14).toNatClampNeg x) (fi r 14 + 1).toNatClampNeg y k.toNatClampNeg))
  rw [updI _ _ n3 k0, updI _ _ h0 k0]
  by_cases e1 : k = fi r 14 + 1
  · rw [if_pos e1]; exact dy
  · rw [if_neg e1]
    by_cases e2 : k = fi r 14
    · rw [if_pos e2]; exact dx
    · rw [if_neg e2]
      refine sd k k0 ?_
      rw [it] at k1' ⊢
      rw [ie] at e1 e2
      omega
def TopP (a : L_) (r r' : S_) (rh : Int32 → Int32) (N : Int32) (x y : Int32) : Prop := ∃ rh' ta' N', UG a r' rh' ta' N' ∧ (∀ D, Cr r rh D → SD r rh D → D x → D y → SD r' rh' D ∧ UFr r r' rh rh' D) ∧ AYc r' ∧ (fi r' 14).toInt % 2 = 0 ∧ (fi r' 14).toInt ≤ 2 + 2 * N'.toInt ∧ (fi r' 14).toInt + 4 * N.toInt ≤ (fi r 14).toInt + 4 * N'.toInt ∧ Fr [14, 15] [21, 22, 31] r r' ∧ (fi r' 15 = 0 → fi r 15 = 0 ∧ ∀ ρ, (VC r' ρ ∧ pd r' ρ) ↔ (VC r ρ ∧ pd r ρ ∧ ρ x = ρ y)) ∧ (¬ fi r' 15 = 0 → ¬ fi r 15 = 0 ∨ ∀ ρ, ¬ (VC r ρ ∧ ρ x = ρ y))
theorem TopP_mv {x y : Int32} (w : UG a r rh ta N) (ay : AYc r) (he : (fi r 14).toInt % 2 = 0) (hh : (fi r 14).toInt ≤ 2 * N.toInt) (x1 : 0 ≤ x) (x2 : x < fi r 11) (hv : ar r 21 x.toNatClampNeg = -1) {ta2 : Int32 → Int32} {N2 : Int32} (g : UG a (mv r x y) (fun z => if rh z = x then y else rh z) ta2 N2) (hn : N2.toInt = N.toInt + 1) : TopP a r (mv r x y) rh N x y := by
  refine ⟨_, ta2, N2, g, fun D _ sd dx dy => ⟨SD_mv sd dy, UFr_mv x1 dx dy⟩, mv_AY x1 ay, he, ?_, ?_, Fr_trans (Fr_sA (by decide)) (Fr_sA (by decide)), fun h => ⟨h, fun ρ => ?_⟩, fun h => Or.inl h⟩
  · show (fi r 14).toInt ≤ _
    omega
  · show (fi r 14).toInt + _ ≤ _
    omega
  · rw [mv_VC x1 x2]
    have ep : pd (mv r x y) ρ = pd r ρ := rfl
    rw [ep]
    constructor
    · rintro ⟨⟨h1, h2, h3⟩, h4⟩
      refine ⟨⟨h2, fun z z0 z1 => ?_⟩, h4, h1⟩
      by_cases hz : z = x
      · rw [hz, hv]
        exact ⟨fun h => absurd h (by decide), fun h => absurd h (by decide)⟩
      · exact h3 z z0 z1 hz
    · rintro ⟨⟨h2, h3⟩, h4, h1⟩
      exact ⟨⟨h1, h2, fun z z0 z1 _ => h3 z z0 z1⟩, h4⟩
theorem TopP_sw {x y : Int32} (h : TopP a r r' rh N x y) : TopP a r r' rh N y x := by
  obtain ⟨rh', ta', N', h1, hD, h2, h3, h4, h5, h6, h7, h8⟩ := h
  refine ⟨rh', ta', N', h1, fun D c1 c2 c3 c4 => hD D c1 c2 c4 c3, h2, h3, h4, h5, h6, fun z => ⟨(h7 z).1, fun ρ => ?_⟩, fun z => ?_⟩
  · rw [(h7 z).2 ρ]
    exact ⟨fun ⟨k1, k2, k3⟩ => ⟨k1, k2, k3.symm⟩, fun ⟨k1, k2, k3⟩ => ⟨k1, k2, k3.symm⟩⟩
  · rcases h8 z with k | k
    · exact Or.inl k
    · exact Or.inr (fun ρ ⟨q1, q2⟩ => k ρ ⟨q1, q2.symm⟩)
theorem ws_tops {x y : Int32} (w : UG a r rh ta N) (ay : AYc r) (he : (fi r 14).toInt % 2 = 0) (hh : (fi r 14).toInt ≤ 2 * N.toInt) (x1 : 0 ≤ x) (x2 : x < fi r 11) (x3 : ¬ ar r 21 x.toNatClampNeg = -2) (y1 : 0 ≤ y) (y2 : y < fi r 11) (y3 : ¬ ar r 21 y.toNatClampNeg = -2) {K : S_ → Prop} (hK : ∀ r', TopP a r r' rh N x y → K r') : wG_unifyTops a K r x y := by
  have w1 := w.1
  have hN := w1.2.2.2.1
  have nx := hN x x1 x2
  have ny := hN y y1 y2
  unfold wG_unifyTops
  refine ⟨fun hxy => ?_, fun hxy => ?_⟩
  · have hl : ln a 31 = 2 * ln a 21 + 4 := w1.1.2.2.2.2.2.2.2.2.2.1
    have hcl := w1.2.2.1
    have n2 := n_lt2 w1 x1 x2 x3 y1 y2 y3 hxy
    unfold wG_isVariable
    refine fun _ => ⟨fun vx _ _ => ⟨fun _ _ => ⟨fun vy _ _ => ⟨fun _ _ _ => ?_, fun z => absurd rfl z⟩, fun vy _ _ => ⟨fun z => absurd z (by decide), fun _ => ?_⟩⟩, fun z => absurd rfl z⟩, fun vx _ _ => ⟨fun z => absurd z (by decide), fun _ => ?_⟩⟩
    · have px : 0 ≤ ar r 21 x.toNatClampNeg := by have b := nx.1; clear w w1 hN nx ny hK; grind
      have py : 0 ≤ ar r 21 y.toNatClampNeg := by have b := ny.1; clear w w1 hN nx ny hK; grind
      refine ⟨fun eh _ _ => ?_, fun eh _ r16 e16 => ?_⟩
      · have ax := (ay x x1 x2).1 px
        have ay' := (ay y y1 y2).1 py
        rw [← eh] at ay'
        -- behind both pairs
        have fin : ∀ r2, UG a r2 rh ta N → (∀ D, Cr r rh D → SD r rh D → D x → D y → SD r2 rh D) → AYc r2 → Fr [14] [31] r r2 → (fi r2 14).toInt % 2 = 0 → (fi r2 14).toInt ≤ (fi r 14).toInt + 4 → (∀ ρ, ρ (-1) = [] → (pd r2 ρ ↔ pd r ρ ∧ ρ (ar r 23 x.toNatClampNeg) = ρ (ar r 23 y.toNatClampNeg) ∧ ρ (ar r 22 x.toNatClampNeg) = ρ (ar r 22 y.toNatClampNeg))) → wG_move a (fun r15 => K r15) r2 x y := by
          intro r2 u2 hsd ay2 F2 ev le sem
          have f11 : fi r2 11 = fi r 11 := F2.1 11 (by decide)
          have f15 : fi r2 15 = fi r 15 := F2.1 15 (by decide)
          have e21 : ar r2 21 = ar r 21 := F2.2.1 21 (by decide)
          have e22 : ar r2 22 = ar r 22 := F2.2.1 22 (by decide)
          have e23 : ar r2 23 = ar r 23 := F2.2.1 23 (by decide)
          refine ws_move u2 x1 (by rw [f11]; exact x2) (by rw [e21]; exact x3) y1 (by rw [f11]; exact y2) (by rw [e21]; exact y3) hxy (fun ta2 N2 g hn => hK _ ⟨_, ta2, N2, g, fun D c1 c2 c3 c4 => ⟨SD_mv (hsd D c1 c2 c3 c4) c4, ?_⟩, mv_AY x1 ay2, ev, ?_, ?_, ?_, fun h => ⟨?_, fun ρ => ?_⟩, fun h => Or.inl ?_⟩)
          · refine UFr_trans (r' := r2) f11 (⟨fun _ _ _ => Or.inl rfl, fun z z0 z1 _ => ⟨by rw [e21], by rw [e22]⟩, fun z _ _ _ h => by rw [e21]; exact h⟩ : UFr r r2 rh rh D) (UFr_mv x1 c3 c4)
          · show (fi r2 14).toInt ≤ _
            omega
          · show (fi r2 14).toInt + _ ≤ _
            omega
          · exact Fr_trans (Fr_mono F2 (by decide) (by decide)) (Fr_trans (Fr_sA (by decide)) (Fr_sA (by decide)))
          · rw [← f15]; exact h
          · have ep : pd (mv r2 x y) ρ = pd r2 ρ := rfl
            rw [ep, mv_VC x1 (by rw [f11]; exact x2), f11, e21, e22, e23]
            constructor
            · rintro ⟨⟨h1, h2, h3⟩, h4⟩
              obtain ⟨k1, k2, k3⟩ := (sem ρ h2).mp h4
              refine ⟨⟨h2, fun z z0 z1 => ?_⟩, k1, h1⟩
              by_cases hz : z = x
              · subst hz
                refine ⟨fun h => absurd h x3, fun _ => ?_⟩
                rw [k2, k3, eh, h1]
                exact (h3 y y1 y2 (fun e => hxy e.symm)).2 py
              · exact h3 z z0 z1 hz
            · rintro ⟨⟨h2, h3⟩, h4, h1⟩
              have q1 := (h3 x x1 x2).2 px
              have q2 := (h3 y y1 y2).2 py
              rw [h1, q2] at q1
              obtain ⟨_, q3, q4⟩ := Jn_inj q1
              exact ⟨⟨h1, h2, fun z z0 z1 _ => h3 z z0 z1⟩, (sem ρ h2).mpr ⟨h4, q4.symm, q3.symm⟩⟩
          · rw [← f15]; exact h
        have h4096 : ln a 21 ≤ 4096 := w1.1.2.2.2.2.2.2.2.2.2.2.2
        have hb : (fi r 14).toInt ≤ 100000 := by omega
        refine ws_pair w (by omega) (fun hs => ?_) (fun hs1 hs2 => ?_)
        · have es : ar r 23 x.toNatClampNeg = -1 ∧ ar r 23 y.toNatClampNeg = -1 := by
            have q1 := ax.2
            have q2 := ay'.2
            rcases hs with h | h
            · exact ⟨h, Classical.byContradiction (fun z => (q1.mpr (q2.mp z)) h)⟩
            · exact ⟨Classical.byContradiction (fun z => (q2.mpr (q1.mp z)) h), h⟩
          intro _ _
          refine ws_pair w (by omega) (fun hf => ?_) (fun hf1 hf2 => ?_)
          · have ef : ar r 22 x.toNatClampNeg = -1 ∧ ar r 22 y.toNatClampNeg = -1 := by
              have q1 := ax.1
              have q2 := ay'.1
              rcases hf with h | h
              · exact ⟨h, Classical.byContradiction (fun z => (q1.mpr (q2.mp z)) h)⟩
              · exact ⟨Classical.byContradiction (fun z => (q2.mpr (q1.mp z)) h), h⟩
            exact fin r w (fun D _ c2 _ _ => c2) ay (Fr_refl r) he (by omega) (fun ρ _ => by rw [es.1, es.2, ef.1, ef.2]; exact ⟨fun h => ⟨h, rfl, rfl⟩, fun h => h.1⟩)
          · have u := pp_UG w (x := ar r 22 x.toNatClampNeg) (y := ar r 22 y.toNatClampNeg) (by omega) (by have b := nx.2.2.1; clear w w1 hN nx ny hK fin; grind) nx.2.2.2.1 (by have b := ny.2.2.1; clear w w1 hN nx ny hK fin; grind) ny.2.2.2.1
            refine fin _ u.1 (fun D c1 c2 c3 c4 => SD_pp w.2.1 hb c2 ((c1 x x1 x2 x3 c3).1 hf1) ((c1 y y1 y2 y3 c4).1 hf2)) ay (Fr_trans (Fr_sA (by decide)) (Fr_trans (Fr_sF (by decide)) (Fr_trans (Fr_sA (by decide)) (Fr_sF (by decide))))) (by rw [u.2]; omega) (by rw [u.2]; omega) (fun ρ _ => ?_)
            rw [pp_pd w.2.1 hb he, es.1, es.2]
            exact ⟨fun h => ⟨h.1, rfl, h.2⟩, fun h => ⟨h.1, h.2.2⟩⟩
        · have u := pp_UG w (x := ar r 23 x.toNatClampNeg) (y := ar r 23 y.toNatClampNeg) (by omega) (by have b := nx.2.2.2.2.1; clear w w1 hN nx ny hK fin; grind) nx.2.2.2.2.2.1 (by have b := ny.2.2.2.2.1; clear w w1 hN nx ny hK fin; grind) ny.2.2.2.2.2.1
          have F1 : Fr [14] [31] r (pp r (ar r 23 x.toNatClampNeg) (ar r 23 y.toNatClampNeg)) := Fr_trans (Fr_sA (by decide)) (Fr_trans (Fr_sF (by decide)) (Fr_trans (Fr_sA (by decide)) (Fr_sF (by decide))))
          intro _ _
          have e22 : ar (pp r (ar r 23 x.toNatClampNeg) (ar r 23 y.toNatClampNeg)) 22 = ar r 22 := rfl
          rw [e22]
          refine ws_pair u.1 (by rw [u.2]; omega) (fun hf => ?_) (fun hf1 hf2 => ?_)
          · have ef : ar r 22 x.toNatClampNeg = -1 ∧ ar r 22 y.toNatClampNeg = -1 := by
              have q1 := ax.1
              have q2 := ay'.1
              rcases hf with h | h
              · exact ⟨h, Classical.byContradiction (fun z => (q1.mpr (q2.mp z)) h)⟩
              · exact ⟨Classical.byContradiction (fun z => (q2.mpr (q1.mp z)) h), h⟩
            refine fin _ u.1 (fun D c1 c2 c3 c4 => SD_pp w.2.1 hb c2 ((c1 x x1 x2 x3 c3).2 hs1) ((c1 y y1 y2 y3 c4).2 hs2)) ay F1 (by rw [u.2]; omega) (by rw [u.2]; omega) (fun ρ _ => ?_)
            rw [pp_pd w.2.1 hb he, ef.1, ef.2]
            exact ⟨fun h => ⟨h.1, h.2, rfl⟩, fun h => ⟨h.1, h.2.1⟩⟩
          · have u2 := pp_UG u.1 (x := ar r 22 x.toNatClampNeg) (y := ar r 22 y.toNatClampNeg) (by rw [u.2]; omega) (by have b := nx.2.2.1; clear w w1 hN nx ny hK fin u; grind) nx.2.2.2.1 (by have b := ny.2.2.1; clear w w1 hN nx ny hK fin u; grind) ny.2.2.2.1
            refine fin _ u2.1 (fun D c1 c2 c3 c4 => SD_pp u.1.2.1 (by rw [u.2]; omega) (SD_pp w.2.1 hb c2 ((c1 x x1 x2 x3 c3).2 hs1) ((c1 y y1 y2 y3 c4).2 hs2)) ((c1 x x1 x2 x3 c3).1 hf1) ((c1 y y1 y2 y3 c4).1 hf2)) ay (Fr_trans F1 (Fr_trans (Fr_sA (by decide)) (Fr_trans (Fr_sF (by decide)) (Fr_trans (Fr_sA (by decide)) (Fr_sF (by decide)))))) (by rw [u2.2, u.2]; omega) (by rw [u2.2, u.2]; omega) (fun ρ _ => ?_)
            rw [pp_pd u.1.2.1 (by rw [u.2]; omega) (by rw [u.2]; omega), pp_pd w.2.1 hb he]
            exact ⟨fun h => ⟨h.1.1, h.1.2, h.2⟩, fun h => ⟨⟨h.1, h.2.1⟩, h.2.2⟩⟩
      · subst e16
        refine hK _ ⟨rh, ta, N, w, fun D _ c2 _ _ => ⟨c2, UFr_refl⟩, ay, he, ?_, Int.le_refl _, Fr_sF (by decide), fun h => absurd (show (1 : Int32) = 0 from h) (by decide), fun _ => Or.inr (fun ρ ⟨v, e⟩ => ?_)⟩
        · show (fi r 14).toInt ≤ _
          omega
        · rw [(v.2 x x1 x2).2 px, (v.2 y y1 y2).2 py] at e
          exact eh (Jn_inj e).1
    · exact ws_move w y1 y2 y3 x1 x2 x3 (fun e => hxy e.symm) (fun ta2 N2 g hn => hK _ (TopP_sw (TopP_mv w ay he hh y1 y2 vy g hn)))
    · exact ws_move w x1 x2 x3 y1 y2 y3 hxy (fun ta2 N2 g hn => hK _ (TopP_mv w ay he hh x1 x2 vx g hn))
  · refine hK r ⟨rh, ta, N, w, fun D _ c2 _ _ => ⟨c2, UFr_refl⟩, ay, he, by omega, Int.le_refl _, Fr_refl r, fun h => ⟨h, fun ρ => ?_⟩, fun h => Or.inl h⟩
    rw [hxy]
    exact ⟨fun h => ⟨h.1, h.2, rfl⟩, fun h => ⟨h.1, h.2.1⟩⟩
/-- after unifying x and y -/
def UniP (r r' : S_) (x y : Int32) : Prop := (fi r' 15 = 0 → fi r 15 = 0 ∧ ∀ ρ, VC r' ρ ↔ VC r ρ ∧ ρ x = ρ y) ∧ (¬ fi r' 15 = 0 → ¬ fi r 15 = 0 ∨ ∀ ρ, ¬ (VC r ρ ∧ ρ x = ρ y))
theorem ws_uni_L {r0 : S_} {rh0 : Int32 → Int32} {x0 y0 : Int32} {KX : S_ → Prop} (hK : ∀ r' rh ta N, GI a r' rh ta N → AYc r' → Fr [14, 15] [21, 22, 31] r0 r' → UniP r0 r' x0 y0 → (∀ D, Cr r0 rh0 D → D (rh0 x0) → D (rh0 y0) → UFr r0 r' rh0 rh D) → KX r') : ∀ (n : Nat) (r : S_) (rh ta : Int32 → Int32) (N v : Int32), UG a r rh ta N → (∀ D, Cr r0 rh0 D → D (rh0 x0) → D (rh0 y0) → Cr r rh D ∧ SD r rh D ∧ UFr r0 r rh0 rh D) → AYc r → Fr [14, 15] [21, 22, 31] r0 r → (fi r 14).toInt % 2 = 0 → (fi r 14).toInt ≤ 2 + 2 * N.toInt → 0 ≤ v.toInt → 2 * v.toInt + (fi r 14).toInt ≤ 2 + 4 * N.toInt → (fi r 15 = 0 → fi r0 15 = 0 ∧ ∀ ρ, (VC r ρ ∧ pd r ρ) ↔ (VC r0 ρ ∧ ρ x0 = ρ y0)) → (¬ fi r 15 = 0 → ¬ fi r0 15 = 0 ∨ ∀ ρ, ¬ (VC r0 ρ ∧ ρ x0 = ρ y0)) → wG_unify_L13 a KX n r v := by
  intro n
  induction n with
  | zero => intro r rh ta N v _ _ _ _ _ _ _ _ _ _; trivial
  | succ n ih =>
    intro r rh ta N v w hDD ay hF he hh hv hm s1 s2
    rw [wG_unify_L13]
    obtain ⟨w1, w2, w3, w4⟩ := w
    have hc0 := w1.2.1
    have hcl := w1.2.2.1
    have hl4 : ln a 21 ≤ 4096 := w1.1.2.2.2.2.2.2.2.2.2.2.2
    have hNc : N.toInt ≤ (fi r 11).toInt := by have := w1.2.2.2.2.1.1; rw [il] at this; exact this
    have h140 : 0 ≤ (fi r 14).toInt := by rw [il] at w2; simpa using w2
    refine ⟨fun g => ?_, fun g => ⟨fun g2 => ?_, fun g2 r5 e5 => ?_⟩⟩
    · refine hK r rh ta N w1 ay hF ⟨fun h => ⟨(s1 h).1, fun ρ => ?_⟩, s2⟩ (fun D c1 c2 c3 => (hDD D c1 c2 c3).2.2)
      rw [← (s1 h).2 ρ]
      have g0 : (fi r 14).toInt ≤ 1 := by rw [il] at g; simpa using g
      have m0 := i_nat w2
      refine ⟨fun h => ⟨h, fun j hj => ?_⟩, fun h => h.1⟩
      omega
    · exfalso
      rw [il, show (1000000 : Int32).toInt = 1000000 from rfl] at g2
      omega
    · have g3 : 1 < fi r 14 := Int32.not_le.mp g
      have hd : (fi r 14 - 2).toInt = (fi r 14).toInt - 2 := by
        rw [it] at g3
        exact i_sub (by simp at g3 ⊢; omega) (by simp at g3 ⊢; omega)
      have g4 : 1 < (fi r 14).toInt := by rw [it] at g3; simpa using g3
      have hd1 : (fi r 14 - 2 + 1).toInt = (fi r 14).toInt - 1 := by
        rw [i_add (by rw [hd]; simp; omega) (by rw [hd]; simp; omega), hd]
        simp
        omega
      have k0 : 0 ≤ fi r 14 - 2 := by rw [il, hd]; simp; omega
      have k1 : fi r 14 - 2 < fi r 14 := by rw [it, hd]; omega
      have k2 : 0 ≤ fi r 14 - 2 + 1 := by rw [il, hd1]; simp; omega
      have k3 : fi r 14 - 2 + 1 < fi r 14 := by rw [it, hd1]; omega
      have q0 := w4 _ k0 k1
      have q1 := w4 _ k2 k3
      have v3 : (v + 1).toInt = v.toInt + 1 := i_inc (y := 1000000) (Int32.not_le.mp g2)
      subst e5
      simp only [fi_sF, fi_sA, ar_sF, ar_sA, la_sF, la_sA, reduceIte, Nat.reduceEqDiff]
      intro _
      refine ws_settled (r := sF r 14 (fi r 14 - 2)) w1 q0.1 q0.2 (fun f f1 f2 => ?_)
      simp only [fi_sF, fi_sA, ar_sF, ar_sA, la_sF, la_sA, reduceIte, Nat.reduceEqDiff]
      intro _
      refine ws_settled f1 q1.1 q1.2 (fun f3 f4 f5 => ?_)
      have r0' := w1.2.2.2.2.1.2 _ q0.1 q0.2
      have r1' := w1.2.2.2.2.1.2 _ q1.1 q1.2
      have e22 : sA (sA (sF r 14 (fi r 14 - 2)) 22 f) 22 f3 = sA (sF r 14 (fi r 14 - 2)) 22 f3 := sA_sA _ _ _ _
      have f6 : FS (fi r 11) (ar r 21) (ar r 22) f3 := fun x x1 x2 x3 => (f5 x x1 x2 x3).trans (f2 x x1 x2 x3)
      rw [e22] at f4 ⊢
      have ay2 : AYc (sA (sF r 14 (fi r 14 - 2)) 22 f3) := AYc_22 (r := sF r 14 (fi r 14 - 2)) f6 ay
      refine ws_tops (rh := rh) (ta := ta) (N := N) ⟨f4, k0, ?_, fun k q1 q2 => w4 k q1 ?_⟩ ay2 ?_ ?_ r0'.1 r0'.2.1 r0'.2.2.1 r1'.1 r1'.2.1 r1'.2.2.1 (fun r2 hT => ?_)
      · show (fi r 14 - 2).toInt ≤ _
        rw [hd]; omega
      · exact ltt (show k < fi r 14 - 2 from q2) k1
      · show (fi r 14 - 2).toInt % 2 = 0
        rw [hd]; omega
      · show (fi r 14 - 2).toInt ≤ _
        rw [hd]; omega
      · obtain ⟨rh2, ta2, N2, u1, uD, u2, u3, u4, u5, u6, u7, u8⟩ := hT
        have f14 : fi (sA (sF r 14 (fi r 14 - 2)) 22 f3) 14 = fi r 14 - 2 := rfl
        have f15 : fi (sA (sF r 14 (fi r 14 - 2)) 22 f3) 15 = fi r 15 := rfl
        rw [f14, hd] at u5
        rw [f15] at u7 u8
        have fr : Fr [14, 15] [21, 22, 31] r0 r2 := Fr_trans hF (Fr_trans (Fr_sF (by decide)) (Fr_trans (Fr_sA (by decide)) u6))
        -- what the popped pair says
        have pop : ∀ ρ, (VC (sA (sF r 14 (fi r 14 - 2)) 22 f3) ρ ∧ pd (sA (sF r 14 (fi r 14 - 2)) 22 f3) ρ ∧ ρ (rh (ar r 31 (fi r 14 - 2).toNatClampNeg)) = ρ (rh (ar r 31 (fi r 14 - 2 + 1).toNatClampNeg))) ↔ (VC r ρ ∧ pd r ρ) := by
          intro ρ
          have ev : VC (sA (sF r 14 (fi r 14 - 2)) 22 f3) ρ ↔ VC r ρ := VC_22 (r := sF r 14 (fi r 14 - 2)) w1 f4 f6
          rw [ev]
          have m0 := i_nat w2
          have m1 := i_nat k0
          have m2 := i_nat k2
          have z1 : (fi r 14 - 2).toNatClampNeg = (fi r 14).toNatClampNeg - 2 := by omega
          have z2 : (fi r 14 - 2 + 1).toNatClampNeg = (fi r 14).toNatClampNeg - 2 + 1 := by omega
          have zz : 2 ≤ (fi r 14).toNatClampNeg ∧ (fi r 14).toNatClampNeg % 2 = 0 := by omega
          constructor
          · rintro ⟨h1, h2, h3⟩
            refine ⟨h1, fun j hj => ?_⟩
            by_cases e : 2 * j + 2 = (fi r 14).toNatClampNeg
            · have e3 : 2 * j = (fi r 14 - 2).toNatClampNeg := by omega
              have e4 : 2 * j + 1 = (fi r 14 - 2 + 1).toNatClampNeg := by omega
              rw [e4, e3]
              rw [VC_rh w1 h1 q0.1 q0.2, VC_rh w1 h1 q1.1 q1.2]
              exact h3
            · refine h2 j ?_
              show 2 * j + 1 < (fi r 14 - 2).toNatClampNeg
              omega
          · rintro ⟨h1, h2⟩
            refine ⟨h1, fun j hj => h2 j ?_, ?_⟩
            · have hj' : 2 * j + 1 < (fi r 14 - 2).toNatClampNeg := hj
              omega
            · rw [← VC_rh w1 h1 q0.1 q0.2, ← VC_rh w1 h1 q1.1 q1.2]
              have := h2 (((fi r 14).toNatClampNeg - 2) / 2) (by omega)
              have e5 : 2 * (((fi r 14).toNatClampNeg - 2) / 2) = (fi r 14).toNatClampNeg - 2 := by omega
              rw [e5] at this
              rw [z1, z2]
              exact this
        have dd : ∀ D, Cr r0 rh0 D → D (rh0 x0) → D (rh0 y0) → Cr r2 rh2 D ∧ SD r2 rh2 D ∧ UFr r0 r2 rh0 rh2 D := by
          intro D c1 c2 c3
          obtain ⟨d1, d2, d3⟩ := hDD D c1 c2 c3
          have g1 : Cr (sA (sF r 14 (fi r 14 - 2)) 22 f3) rh D := by
            intro z z0 z1 z2 z3
            have k := d1 z z0 z1 z2 z3
            have q : f3 z.toNatClampNeg = ar r 22 z.toNatClampNeg := f6 z z0 z1 z2
            show (¬ f3 z.toNatClampNeg = -1 → D (rh (f3 z.toNatClampNeg))) ∧ _
            rw [q]
            exact k
          have g2 : SD (sA (sF r 14 (fi r 14 - 2)) 22 f3) rh D := fun k q1 q2 => d2 k q1 (ltt (show k < fi r 14 - 2 from q2) k1)
          have d4 := uD D g1 g2 (d2 _ k0 k1) (d2 _ k2 k3)
          have u0 : UFr r (sA (sF r 14 (fi r 14 - 2)) 22 f3) rh rh D := ⟨fun _ _ _ => Or.inl rfl, fun z z0 z1 z2 => ⟨rfl, f6 z z0 z1 z2⟩, fun _ _ _ _ h => h⟩
          have e11 : fi r2 11 = fi r 11 := u6.1 11 (by decide)
          have e23 : ar r2 23 = ar r 23 := u6.2.1 23 (by decide)
          have d5 := UFr_trans (r := r) (r' := sA (sF r 14 (fi r 14 - 2)) 22 f3) (show fi (sA (sF r 14 (fi r 14 - 2)) 22 f3) 11 = fi r 11 from rfl) u0 d4.2
          exact ⟨Cr_UF w1.2.2.2.1 e11 e23 d5 d1, d4.1, UFr_trans (r' := r) (hF.1 11 (by decide)) d3 d5⟩
        refine ih r2 rh2 ta2 N2 (v + 1) u1 dd u2 fr u3 u4 (by omega) (by omega) (fun h => ?_) (fun h => ?_)
        · obtain ⟨g5, g6⟩ := u7 h
          refine ⟨(s1 g5).1, fun ρ => ?_⟩
          rw [g6 ρ, pop ρ]
          exact (s1 g5).2 ρ
        · by_cases h15 : fi r 15 = 0
          · rcases u8 h with k | k
            · exact absurd h15 k
            · refine Or.inr (fun ρ hρ => k ρ ?_)
              have := (pop ρ).mpr (((s1 h15).2 ρ).mpr hρ)
              exact ⟨this.1, this.2.2⟩
          · exact s2 h15
theorem ws_unify {x y : Int32} (w : GI a r rh ta N) (ay : AYc r) (x1 : 0 ≤ x) (x2 : x < fi r 11) (y1 : 0 ≤ y) (y2 : y < fi r 11) {K : S_ → Prop} (hK : ∀ r' rh2 ta N, GI a r' rh2 ta N → AYc r' → Fr [14, 15] [21, 22, 31] r r' → UniP r r' x y → (∀ D, Cr r rh D → D (rh x) → D (rh y) → UFr r r' rh rh2 D) → K r') : wG_unify a K r x y := by
  unfold wG_unify
  intro r1 e1
  have u1 : UG a r1 rh ta N := by
    subst e1
    refine ⟨w, by show (0 : Int32) ≤ 0; decide, ?_, fun k k1 k2 => (nl0 k1 (show k < 0 from k2)).elim⟩
    show (0 : Int32).toInt ≤ _
    simp
  have h14 : fi r1 14 = 0 := by rw [e1]; rfl
  have f11 : fi r1 11 = fi r 11 := by rw [e1]; rfl
  have f15 : fi r1 15 = fi r 15 := by rw [e1]; rfl
  have hl : ln a 31 = 2 * ln a 21 + 4 := w.1.2.2.2.2.2.2.2.2.2.1
  have ay1 : AYc r1 := by rw [e1]; exact ay
  have nx : ∀ z : Int32, 0 ≤ z → ¬ z = -1 := fun z z0 z1 => by rw [z1] at z0; exact absurd z0 (by decide)
  have N0 : 0 ≤ N.toInt := by rw [w.2.2.2.2.2]; omega
  refine ws_pair u1 (by rw [h14]; simp; omega) (fun h => absurd h (by rintro (h | h); exact nx x x1 h; exact nx y y1 h)) (fun _ _ n => ?_)
  have u := pp_UG u1 (x := x) (y := y) (by rw [h14]; simp; omega) x1 (by rw [f11]; exact x2) y1 (by rw [f11]; exact y2)
  have z14 : (fi r1 14).toInt = 0 := by rw [h14]; rfl
  have sem : ∀ ρ, (VC (pp r1 x y) ρ ∧ pd (pp r1 x y) ρ) ↔ (VC r ρ ∧ ρ x = ρ y) := by
    intro ρ
    rw [pp_pd u1.2.1 (by omega) (by omega)]
    have ev : VC (pp r1 x y) ρ ↔ VC r ρ := by rw [e1]; exact Iff.rfl
    rw [ev]
    refine ⟨fun h => ⟨h.1, h.2.2⟩, fun h => ⟨h.1, fun j hj => ?_, h.2⟩⟩
    rw [h14] at hj
    exact absurd hj (by simp)
  refine ws_uni_L (r0 := r) (rh0 := rh) (x0 := x) (y0 := y) hK n (pp r1 x y) rh ta N 0 u.1 (fun D c1 c2 c3 => ⟨by rw [e1]; exact c1, SD_pp u1.2.1 (by omega) (fun k k0 k1 => by rw [h14] at k1; exact (nl0 k0 k1).elim) c2 c3, by rw [e1]; exact UFr_refl⟩) ay1 ?_ (by rw [u.2]; omega) (by rw [u.2]; omega) (by simp) (by rw [u.2]; simp; omega) (fun h => ⟨by rw [← f15]; exact h, sem⟩) (fun h => Or.inl (by rw [← f15]; exact h))
  rw [e1]
  exact Fr_trans (Fr_sF (by decide)) (Fr_trans (Fr_sA (by decide)) (Fr_trans (Fr_sF (by decide)) (Fr_trans (Fr_sA (by decide)) (Fr_sF (by decide)))))
end ZCUNI
