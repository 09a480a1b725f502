/-! What is told of a type: safe. -/
section TOLD
def TL (l : Nat → Nat) : Prop := l 33 = l 32 ∧ l 34 = l 32 ∧ l 35 = l 32 ∧ l 89 = l 32 ∧ l 32 ≤ 8192
def sz (r : S_) (x : Int32) : Int := if x = -1 then 0 else (la r 0 x.toNatClampNeg).toInt
/-- the told type: parts before wholes, sizes -/
def TD0 (l : Nat → Nat) (r : S_) : Prop := TL l ∧ (0 ≤ fi r 16 ∧ (fi r 16).toInt ≤ l 32) ∧ ∀ j, 0 ≤ j → j < fi r 16 → (-1 ≤ ar r 33 j.toNatClampNeg ∧ ar r 33 j.toNatClampNeg < j) ∧ (-1 ≤ ar r 34 j.toNatClampNeg ∧ ar r 34 j.toNatClampNeg < j) ∧ 1 ≤ (la r 0 j.toNatClampNeg).toInt ∧ (la r 0 j.toNatClampNeg).toInt ≤ 1099511627776 ∧ (la r 0 j.toNatClampNeg).toInt ≤ 1 + sz r (ar r 33 j.toNatClampNeg) + sz r (ar r 34 j.toNatClampNeg)
def TD (l : Nat → Nat) (r : S_) : Prop := TD0 l r ∧ 0 ≤ fi r 17 ∧ (fi r 17).toInt ≤ (fi r 16).toInt
theorem sizeOf_ok {l : Nat → Nat} {r : S_} (w : TD0 l r) {x : Int32} (x1 : -1 ≤ x) (x2 : x < fi r 16) {K : Int64 → Prop} (hK : ∀ z, z.toInt = sz r x → 0 ≤ z.toInt → z.toInt ≤ 1099511627776 → K z) : qD_sizeOf (A0 l) r K x := by
  unfold qD_sizeOf
  obtain ⟨⟨t1, t2, t3, t4, t5⟩, ⟨c1, c2⟩, hj⟩ := w
  refine ⟨fun g => ?_, fun g => ?_⟩
  · have x3 : 0 ≤ x := by clear hj hK; grind
    have b := hj x x3 x2
    refine ⟨vi2 x3 x2 (by show (fi r 16).toInt ≤ l 89; rw [t4]; exact c2), hK _ ?_ (by omega) b.2.2.2.1⟩
    unfold sz
    rw [if_neg g]
  · refine hK 0 ?_ (by decide) (by decide)
    unfold sz
    rw [if_pos g]
    rfl
abbrev Ftd (r r' : S_) : Prop := (∀ k, k ∉ [16, 17, 18, 19] → fi r' k = fi r k) ∧ ∀ k, k ∉ [32, 33, 34, 35] → ar r' k = ar r k
theorem l_add {x y : Int64} (h1 : 0 ≤ x.toInt + y.toInt) (h2 : x.toInt + y.toInt ≤ 9000000000000) : (x + y).toInt = x.toInt + y.toInt := by
  rw [Int64.toInt_add]
  simp [Int.bmod]
  omega
theorem l_lt (x y : Int64) : x < y ↔ x.toInt < y.toInt := Int64.lt_iff_toInt_lt
theorem addBuilt_ok {l : Nat → Nat} {r : S_} (w : TD0 l r) {p0 x y : Int32} (hlt : (fi r 16).toInt < l 32) (x1 : -1 ≤ x) (x2 : x < fi r 16) (y1 : -1 ≤ y) (y2 : y < fi r 16) {K : S_ → Prop} (hK : ∀ r', TD0 l r' → Ftd r r' → (fi r' 16).toInt = (fi r 16).toInt + 1 → fi r' 17 = fi r 17 → K r') : qD_addBuilt (A0 l) K r p0 x y := by
  have w' := w
  obtain ⟨⟨t1, t2, t3, t4, t5⟩, ⟨c1, c2⟩, hj⟩ := w
  have eo := i_ofn (n := l 32) (by omega)
  have hi : (fi r 16 + 1).toInt = (fi r 16).toInt + 1 := by
    rw [il] at c1
    exact i_add (by simp at c1 ⊢; omega) (by simp; omega)
  have vi' : ∀ k, l k = l 32 → vp_in (fi r 16) (l k) := fun k hk => vi c1 (by rw [hk]; exact hlt)
  unfold qD_addBuilt
  refine ⟨fun g => ?_, fun g => ⟨vi' 32 rfl, fun r3 e3 => ?_⟩⟩
  · have g' : (Int32.ofNat (l 32)) ≤ fi r 16 := g
    rw [il] at g'
    omega
  · subst e3
    refine ⟨vi' 33 t1, fun r5 e5 => ?_⟩
    subst e5
    refine ⟨vi' 34 t2, fun r7 e7 => ?_⟩
    subst e7
    have szo : ∀ u, -1 ≤ u → u < fi r 16 → (∀ (Q : S_ → Prop) (K2 : Int64 → Prop), (∀ z : Int64, z.toInt = sz r u → 0 ≤ z.toInt → z.toInt ≤ 1099511627776 → K2 z) → qD_sizeOf (A0 l) (sA (sA (sA r 32 (upd (ar r 32) (fi r 16).toNatClampNeg p0)) 33 (upd (ar r 33) (fi r 16).toNatClampNeg x)) 34 (upd (ar r 34) (fi r 16).toNatClampNeg y)) K2 u) := fun u u1 u2 Q K2 h => sizeOf_ok w' u1 u2 h
    refine szo x x1 x2 (fun _ => True) _ (fun z8 q1 q2 q3 => szo y y1 y2 (fun _ => True) _ (fun z9 q4 q5 q6 => ⟨vi' 89 t4, fun r11 e11 r12 e12 => ?_⟩))
    subst e11
    subst e12
    show K (sF (sL (sA (sA (sA r 32 (upd (ar r 32) (fi r 16).toNatClampNeg p0)) 33 (upd (ar r 33) (fi r 16).toNatClampNeg x)) 34 (upd (ar r 34) (fi r 16).toNatClampNeg y)) 0 (vp_updL (la r 0) (fi r 16).toNatClampNeg (if 1099511627776 < ((1 + z8) + z9) then (1099511627776 : Int64) else ((1 + z8) + z9)))) 16 (fi r 16 + 1))
    have s1 : (1 + z8).toInt = 1 + z8.toInt := l_add (by simp; omega) (by simp; omega)
    have s2 : ((1 + z8) + z9).toInt = 1 + z8.toInt + z9.toInt := by rw [l_add (by rw [s1]; omega) (by rw [s1]; omega), s1]
    have s3 : (if 1099511627776 < ((1 + z8) + z9) then (1099511627776 : Int64) else ((1 + z8) + z9)).toInt = if 1099511627776 < 1 + z8.toInt + z9.toInt then 1099511627776 else 1 + z8.toInt + z9.toInt := by
      by_cases e : 1099511627776 < ((1 + z8) + z9)
      · have e' := e
        rw [l_lt, s2] at e'
        rw [if_pos e, if_pos (by simpa using e')]
        rfl
      · have e' := e
        rw [l_lt, s2] at e'
        rw [if_neg e, if_neg (by simpa using e'), s2]
    refine hK _ ⟨⟨t1, t2, t3, t4, t5⟩, ⟨?_, ?_⟩, fun j j1 j2 => ?_⟩ ⟨fun k hk => ?_, fun k hk => ?_⟩ hi rfl
    · show 0 ≤ fi r 16 + 1
      rw [il] at c1 ⊢
      rw [hi]
      simp at c1 ⊢
      omega
    · show (fi r 16 + 1).toInt ≤ l 32
      omega
    · have j3 : j < fi r 16 + 1 := j2
      have szr : ∀ u, -1 ≤ u → u < fi r 16 → sz (sF (sL (sA (sA (sA r 32 (upd (ar r 32) (fi r 16).toNatClampNeg p0)) 33 (upd (ar r 33) (fi r 16).toNatClampNeg x)) 34 (upd (ar r 34) (fi r 16).toNatClampNeg y)) 0 (vp_updL (la r 0) (fi r 16).toNatClampNeg (if 1099511627776 < ((1 + z8) + z9) then (1099511627776 : Int64) else ((1 + z8) + z9)))) 16 (fi r 16 + 1)) u = sz r u := by
        intro u u1 u2
        unfold sz
        by_cases e : u = -1
        · rw [if_pos e, if_pos e]
        · rw [if_neg e, if_neg e]
          show (vp_updL (la r 0) (fi r 16).toNatClampNeg _ u.toNatClampNeg).toInt = _
          have u0 : 0 ≤ u := by clear hj hK szo w'; grind
          rw [pk_uLn (fun e2 => by have := (i_inj u0 c1).mp e2; rw [this] at u2; exact irr u2)]
      show (-1 ≤ upd (ar r 33) (fi r 16).toNatClampNeg x j.toNatClampNeg ∧ upd (ar r 33) (fi r 16).toNatClampNeg x j.toNatClampNeg < j) ∧ (-1 ≤ upd (ar r 34) (fi r 16).toNatClampNeg y j.toNatClampNeg ∧ upd (ar r 34) (fi r 16).toNatClampNeg y j.toNatClampNeg < j) ∧ 1 ≤ (vp_updL (la r 0) (fi r 16).toNatClampNeg (if 1099511627776 < ((1 + z8) + z9) then (1099511627776 : Int64) else ((1 + z8) + z9)) j.toNatClampNeg).toInt ∧ (vp_updL (la r 0) (fi r 16).toNatClampNeg (if 1099511627776 < ((1 + z8) + z9) then (1099511627776 : Int64) else ((1 + z8) + z9)) j.toNatClampNeg).toInt ≤ 1099511627776 ∧ (vp_updL (la r 0) (fi r 16).toNatClampNeg (if 1099511627776 < ((1 + z8) + z9) then (1099511627776 : Int64) else ((1 + z8) + z9)) j.toNatClampNeg).toInt ≤ 1 + sz _ (upd (ar r 33) (fi r 16).toNatClampNeg x j.toNatClampNeg) + sz _ (upd (ar r 34) (fi r 16).toNatClampNeg y j.toNatClampNeg)
      rw [updI _ _ c1 j1, updI _ _ c1 j1]
      by_cases e : j = fi r 16
      · rw [if_pos e, if_pos e, e, pk_uLs, s3, szr x x1 x2, szr y y1 y2, ← q1, ← q4]
        refine ⟨⟨x1, x2⟩, ⟨y1, y2⟩, ?_, ?_, ?_⟩ <;> split <;> omega
      · have j4 : j < fi r 16 := by clear hj hK szo w' szr; grind
        have b := hj j j1 j4
        rw [if_neg e, if_neg e, pk_uLn (fun e2 => e ((i_inj j1 c1).mp e2)), szr _ b.1.1 (ltt b.1.2 j4), szr _ b.2.1.1 (ltt b.2.1.2 j4)]
        exact b
    · simp at hk
      simp [fi_sF, fi_sL, fi_sA, hk]
    · simp at hk
      simp [ar_sF, ar_sL, ar_sA, hk]
theorem addVariable_ok {l : Nat → Nat} {r : S_} (w : TD l r) {p0 : Int32} (hlt : (fi r 16).toInt < l 32) {K : S_ → Prop} (hK : ∀ r', TD l r' → Ftd r r' → (fi r' 16).toInt = (fi r 16).toInt + 1 → K r') : qD_addVariable (A0 l) K r p0 := by
  have w' := w
  obtain ⟨⟨⟨t1, t2, t3, t4, t5⟩, ⟨c1, c2⟩, hj⟩, d1, d2⟩ := w
  have eo := i_ofn (n := l 35) (by omega)
  have hi : (fi r 17 + 1).toInt = (fi r 17).toInt + 1 := by
    rw [il] at d1
    exact i_add (by simp at d1 ⊢; omega) (by simp; omega)
  unfold qD_addVariable
  refine ⟨fun g => ?_, fun g => ⟨vi d1 (by show (fi r 17).toInt < l 35; rw [t3]; omega), fun r3 e3 r4 e4 => ?_⟩⟩
  · have g' : (Int32.ofNat (l 35)) ≤ fi r 17 := g
    rw [il, eo, t3] at g'
    omega
  · subst e3
    subst e4
    refine bitCount_ok (fun z5 r6 e6 => ?_)
    subst e6
    refine addBuilt_ok (r := sF (sF (sA r 35 (upd (ar r 35) (fi r 17).toNatClampNeg p0)) 17 (fi r 17 + 1)) 18 (fi r 18 + z5)) w'.1 hlt (by decide) ?_ (by decide) ?_ (fun r' q1 q2 q3 q4 => ?_)
    · show (-1 : Int32) < fi r 16
      clear hj hK w'; grind
    · show (-1 : Int32) < fi r 16
      clear hj hK w'; grind
    · have q4' : fi r' 17 = fi r 17 + 1 := q4
      have q3' : (fi r' 16).toInt = (fi r 16).toInt + 1 := q3
      refine hK r' ⟨q1, ?_, ?_⟩ ⟨fun k hk => ?_, fun k hk => ?_⟩ q3
      · rw [q4', il, hi]
        rw [il] at d1
        simp at d1 ⊢
        omega
      · rw [q4', hi]
        omega
      · rw [q2.1 k hk]
        simp at hk
        simp [fi_sF, fi_sA, hk]
      · rw [q2.2 k hk]
        simp at hk
        simp [ar_sF, ar_sA, hk]
end TOLD
