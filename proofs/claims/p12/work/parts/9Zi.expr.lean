/-! Calls on both sides: expression, the whole. -/
section EXPR2
def np (r : S_) (k x y z : Int32) : Int32 := if k = 1 then ar r 16 y.toNatClampNeg else if k = 2 then ar r 16 x.toNatClampNeg + ar r 16 y.toNatClampNeg else if k = 3 then ar r 16 y.toNatClampNeg + ar r 16 z.toNatClampNeg else 0
def nc (r : S_) (k x y z : Int32) : Int32 := if 25 < 1 + np r k x y z then 25 else 1 + np r k x y z
def cE (r : S_) (k x y z n : Int32) : S_ := sF (sA (sA (sA (sA (sA r 12 (upd (ar r 12) (fi r 4).toNatClampNeg k)) 13 (upd (ar r 13) (fi r 4).toNatClampNeg x)) 14 (upd (ar r 14) (fi r 4).toNatClampNeg y)) 15 (upd (ar r 15) (fi r 4).toNatClampNeg z)) 16 (upd (ar r 16) (fi r 4).toNatClampNeg n)) 4 (fi r 4 + 1)
def addE (r : S_) (k x y z n : Int32) : S_ := sF (sA (sA (sA (sA (sA (sF (cE r k x y z n) 20 0) 45 (upd (ar r 12) (fi r 4).toNatClampNeg k)) 46 (upd (ar r 13) (fi r 4).toNatClampNeg x)) 47 (upd (ar r 14) (fi r 4).toNatClampNeg y)) 48 (upd (ar r 15) (fi r 4).toNatClampNeg z)) 49 (upd (ar r 16) (fi r 4).toNatClampNeg n)) 25 (fi r 4 + 1)
theorem nd_in {l : Nat → Nat} {r : S_} (w : ET l r) {x : Int32} (hx : exOK r x) : 1 ≤ (ar r 16 x.toNatClampNeg).toInt ∧ (ar r 16 x.toNatClampNeg).toInt ≤ 25 := by
  have b := (w.2.2 x hx.1 hx.2).1
  rw [il, il] at b
  simpa using b
theorem np_v {l : Nat → Nat} {r : S_} (w : ET l r) {k x y z : Int32} (h : fine r k x y z) : 0 ≤ (np r k x y z).toInt ∧ (np r k x y z).toInt ≤ 50 ∧ (1 + np r k x y z).toInt = 1 + (np r k x y z).toInt ∧ (k = 1 → (np r k x y z).toInt = (ar r 16 y.toNatClampNeg).toInt) ∧ (k = 2 → (np r k x y z).toInt = (ar r 16 x.toNatClampNeg).toInt + (ar r 16 y.toNatClampNeg).toInt) ∧ (k = 3 → (np r k x y z).toInt = (ar r 16 y.toNatClampNeg).toInt + (ar r 16 z.toNatClampNeg).toInt) := by
  have base : (0 ≤ (np r k x y z).toInt ∧ (np r k x y z).toInt ≤ 50) ∧ (k = 1 → (np r k x y z).toInt = (ar r 16 y.toNatClampNeg).toInt) ∧ (k = 2 → (np r k x y z).toInt = (ar r 16 x.toNatClampNeg).toInt + (ar r 16 y.toNatClampNeg).toInt) ∧ (k = 3 → (np r k x y z).toInt = (ar r 16 y.toNatClampNeg).toInt + (ar r 16 z.toNatClampNeg).toInt) := by
    unfold np
    rcases h with ⟨e, h⟩ | ⟨e, h⟩ | ⟨e, h⟩ | ⟨e, h⟩ | ⟨e, h⟩ | ⟨e, h⟩
    · rw [if_neg (by rw [e]; decide), if_neg (by rw [e]; decide), if_neg (by rw [e]; decide)]
      exact ⟨by decide, fun z => absurd (e.symm.trans z) (by decide), fun z => absurd (e.symm.trans z) (by decide), fun z => absurd (e.symm.trans z) (by decide)⟩
    · have b := nd_in w h.2
      rw [if_pos e]
      exact ⟨by omega, fun _ => rfl, fun z => absurd (e.symm.trans z) (by decide), fun z => absurd (e.symm.trans z) (by decide)⟩
    · have b := nd_in w h.1
      have c := nd_in w h.2
      have s : (ar r 16 x.toNatClampNeg + ar r 16 y.toNatClampNeg).toInt = (ar r 16 x.toNatClampNeg).toInt + (ar r 16 y.toNatClampNeg).toInt := i_add (by omega) (by omega)
      rw [if_neg (by rw [e]; decide), if_pos e, s]
      exact ⟨by omega, fun z => absurd (e.symm.trans z) (by decide), fun _ => rfl, fun z => absurd (e.symm.trans z) (by decide)⟩
    · have b := nd_in w h.2.1
      have c := nd_in w h.2.2
      have s : (ar r 16 y.toNatClampNeg + ar r 16 z.toNatClampNeg).toInt = (ar r 16 y.toNatClampNeg).toInt + (ar r 16 z.toNatClampNeg).toInt := i_add (by omega) (by omega)
      rw [if_neg (by rw [e]; decide), if_neg (by rw [e]; decide), if_pos e, s]
      exact ⟨by omega, fun z => absurd (e.symm.trans z) (by decide), fun z => absurd (e.symm.trans z) (by decide), fun _ => rfl⟩
    · rw [if_neg (by rw [e]; decide), if_neg (by rw [e]; decide), if_neg (by rw [e]; decide)]
      exact ⟨by decide, fun z => absurd (e.symm.trans z) (by decide), fun z => absurd (e.symm.trans z) (by decide), fun z => absurd (e.symm.trans z) (by decide)⟩
    · rw [if_neg (by rw [e]; decide), if_neg (by rw [e]; decide), if_neg (by rw [e]; decide)]
      exact ⟨by decide, fun z => absurd (e.symm.trans z) (by decide), fun z => absurd (e.symm.trans z) (by decide), fun z => absurd (e.symm.trans z) (by decide)⟩
  exact ⟨base.1.1, base.1.2, i_add (by have := base.1; simp; omega) (by have := base.1; simp; omega), base.2⟩
theorem addE_INV {l : Nat → Nat} {r : S_} {k x y z : Int32} (h : INV l r) (hc : fi r 4 < 120) (hf : fine r k x y z) : INV l (addE r k x y z (nc r k x y z)) := by
  obtain ⟨⟨c1, c2, c3, ⟨t1, t2, t3⟩, c5, c6⟩, q, m, la, kq, wq, mq, sq⟩ := h
  have hv := np_v t3 hf
  obtain ⟨⟨w1, w1b⟩, w2, w3⟩ := t3
  have kn : KND (addE r k x y z (nc r k x y z)) := by
    refine ⟨?_, la.1.2.2.2.2⟩
    intro e g0 g1
    have e4 : fi (addE r k x y z (nc r k x y z)) 4 = fi r 4 + 1 := rfl
    have a12 : ar (addE r k x y z (nc r k x y z)) 12 = upd (ar r 12) (fi r 4).toNatClampNeg k := rfl
    have i4 := i_inc hc
    rw [e4] at g1
    rw [a12, updI _ _ w1 g0]
    split
    · rcases hf with ⟨g, _⟩ | ⟨g, _⟩ | ⟨g, _⟩ | ⟨g, _⟩ | ⟨g, _⟩ | ⟨g, _⟩ <;> rw [g] <;> decide
    · rename_i ne
      refine la.1.2.2.2.1 e g0 ?_
      rw [it, i4] at g1
      rw [ie] at ne
      rw [it]
      omega
  refine ⟨⟨c1, c2, c3, ⟨t1, t2, ?_⟩, c5, c6⟩, ⟨q.1, q.2.1, q.2.2.1, q.2.2.2.1, rfl, rfl, rfl, rfl, rfl, rfl⟩, m, ⟨⟨la.1.1, la.1.2.1, la.1.2.2.1, kn⟩, la.2⟩, kq, wq, mq, sq⟩
  obtain ⟨n, en⟩ : ∃ n, n = nc r k x y z := ⟨_, rfl⟩
  rw [← en]
  have nv : (1 ≤ n.toInt ∧ n.toInt ≤ 25) ∧ (n.toInt ≤ 24 → n.toInt = 1 + (np r k x y z).toInt) := by
    rw [en]
    unfold nc
    split
    · exact ⟨by decide, fun z => absurd z (by decide)⟩
    · rename_i g
      rw [it, hv.2.2.1] at g
      rw [hv.2.2.1]
      simp at g
      exact ⟨by omega, fun _ => rfl⟩
  have e4 : fi (addE r k x y z n) 4 = fi r 4 + 1 := rfl
  have e1 : fi (addE r k x y z n) 1 = fi r 1 := rfl
  have e2 : fi (addE r k x y z n) 2 = fi r 2 := rfl
  have a5 : ar (addE r k x y z n) 5 = ar r 5 := rfl
  have a8 : ar (addE r k x y z n) 8 = ar r 8 := rfl
  have a12 : ar (addE r k x y z n) 12 = upd (ar r 12) (fi r 4).toNatClampNeg k := rfl
  have a13 : ar (addE r k x y z n) 13 = upd (ar r 13) (fi r 4).toNatClampNeg x := rfl
  have a14 : ar (addE r k x y z n) 14 = upd (ar r 14) (fi r 4).toNatClampNeg y := rfl
  have a15 : ar (addE r k x y z n) 15 = upd (ar r 15) (fi r 4).toNatClampNeg z := rfl
  have a16 : ar (addE r k x y z n) 16 = upd (ar r 16) (fi r 4).toNatClampNeg n := rfl
  have ex : ∀ u, exOK r u → upd (ar r 16) (fi r 4).toNatClampNeg n u.toNatClampNeg = ar r 16 u.toNatClampNeg := fun u hu => by
    rw [updI _ _ w1 hu.1, if_neg (fun z => by have := hu.2; rw [z] at this; exact irr this)]
  unfold ET
  rw [e4, e1, e2, a5, a8, a12, a13, a14, a15, a16]
  refine ⟨⟨by clear c1 c2 c3 t1 t2 c5 c6 q m la kq wq mq sq w3 hf hv en nv ex; grind, by clear c1 c2 c3 t1 t2 c5 c6 q m la kq wq mq sq w3 hf hv en nv ex; grind⟩, w2, fun e g1 g2 => ?_⟩
  by_cases e9 : e = fi r 4
  · subst e9
    rw [pk_us, pk_us, pk_us, pk_us, pk_us]
    have le24 : n ≤ 24 → n.toInt = 1 + (np r k x y z).toInt := fun g => nv.2 (by rw [il] at g; simpa using g)
    refine ⟨⟨by rw [il]; simpa using nv.1.1, by rw [il]; simpa using nv.1.2⟩, fun g => ?_, fun g => ?_, fun g => ?_, fun g => ?_, fun g => ?_⟩
    · have f : nmOK x ∧ exOK r y := by unfold fine at hf; rw [g] at hf; simpa using hf
      rw [ex y f.2]
      exact ⟨f.2, fun z => by rw [le24 z, hv.2.2.2.1 g]⟩
    · have f : exOK r x ∧ exOK r y := by unfold fine at hf; rw [g] at hf; simpa using hf
      rw [ex x f.1, ex y f.2]
      exact ⟨f.1, f.2, fun z => by rw [le24 z, hv.2.2.2.2.1 g]; omega⟩
    · have f : nmOK x ∧ exOK r y ∧ exOK r z := by unfold fine at hf; rw [g] at hf; simpa using hf
      rw [ex y f.2.1, ex z f.2.2]
      exact ⟨f.2.1, f.2.2, fun z => by rw [le24 z, hv.2.2.2.2.2 g]; omega⟩
    · have f : (0 ≤ x ∧ x < fi r 2) ∧ ¬ ar r 8 x.toNatClampNeg = -1 := by unfold fine at hf; rw [g] at hf; simpa using hf
      rcases mq x f.1.1 f.1.2 with e | e
      · exact absurd e f.2
      · exact ⟨f.1, e.1, e.2⟩
    · have f : 0 ≤ x ∧ x < fi r 1 := by unfold fine at hf; rw [g] at hf; simpa using hf
      exact f
  · have g3 : e < fi r 4 := by clear c1 c2 c3 t1 t2 c5 c6 q m la kq wq mq sq w3 hf hv en nv ex; grind
    obtain ⟨b0, b1, b2, b3, b4, b5⟩ := w3 e g1 g3
    rw [updI _ _ w1 g1, if_neg e9, updI _ _ w1 g1, if_neg e9, updI _ _ w1 g1, if_neg e9, updI _ _ w1 g1, if_neg e9, updI _ _ w1 g1, if_neg e9]
    have exl : ∀ u, 0 ≤ u → u < e → upd (ar r 16) (fi r 4).toNatClampNeg n u.toNatClampNeg = ar r 16 u.toNatClampNeg := fun u u1 u2 => ex u ⟨u1, ltt u2 g3⟩
    refine ⟨b0, fun g => ?_, fun g => ?_, fun g => ?_, b4, b5⟩
    · have b := b1 g
      rw [exl _ b.1.1 b.1.2]
      exact b
    · have b := b2 g
      rw [exl _ b.1.1 b.1.2, exl _ b.2.1.1 b.2.1.2]
      exact b
    · have b := b3 g
      rw [exl _ b.1.1 b.1.2, exl _ b.2.1.1 b.2.1.2]
      exact b
theorem add_ok {ad l : Nat → Nat} {r : S_} {k x y z : Int32} (w : ET l r) (hf : fine r k x y z) {K : Int32 → S_ → Prop} (h1 : fi r 4 < 120 → K (fi r 4) (cE r k x y z (nc r k x y z))) (h2 : fi r 4 = 120 → K (-3) r) : qE_add (ad, l) K r k x y z := by
  obtain ⟨⟨w1, w1b⟩, ⟨l12, l13, l14, l15, l16⟩, w3⟩ := w
  have w' : ET l r := ⟨⟨w1, w1b⟩, ⟨l12, l13, l14, l15, l16⟩, w3⟩
  unfold qE_add
  refine ⟨fun hc => ?_, fun hc => h2 (by clear w3 w' hf h1 h2; grind)⟩
  have v120 : ∀ q, l q = 120 → vp_in (fi r 4) (l q) := fun q hq => vi2 w1 hc (by rw [hq]; decide)
  refine ⟨v120 12 l12, fun r3 e3 => ?_⟩
  subst e3
  refine ⟨v120 13 l13, fun r5 e5 => ?_⟩
  subst e5
  refine ⟨v120 14 l14, fun r7 e7 => ?_⟩
  subst e7
  refine ⟨v120 15 l15, fun r9 e9 => ?_⟩
  have r9_12 : ar r9 12 (fi r 4).toNatClampNeg = k := by rw [e9]; show upd (ar r 12) (fi r 4).toNatClampNeg k (fi r 4).toNatClampNeg = k; rw [pk_us]
  have r9_13 : ar r9 13 (fi r 4).toNatClampNeg = x := by rw [e9]; show upd (ar r 13) (fi r 4).toNatClampNeg x (fi r 4).toNatClampNeg = x; rw [pk_us]
  have r9_14 : ar r9 14 (fi r 4).toNatClampNeg = y := by rw [e9]; show upd (ar r 14) (fi r 4).toNatClampNeg y (fi r 4).toNatClampNeg = y; rw [pk_us]
  have r9_15 : ar r9 15 (fi r 4).toNatClampNeg = z := by rw [e9]; show upd (ar r 15) (fi r 4).toNatClampNeg z (fi r 4).toNatClampNeg = z; rw [pk_us]
  have r9_16 : ar r9 16 = ar r 16 := by rw [e9]; rfl
  have r9_4 : fi r9 4 = fi r 4 := by rw [e9]; rfl
  have fin : vp_in (fi r9 4) (l 16) ∧ ∀ r12 : S_, r12 = sA r9 16 (upd (ar r9 16) (fi r9 4).toNatClampNeg (if 25 < (1 + np r k x y z) then 25 else (1 + np r k x y z))) → ∀ r13 : S_, r13 = sF r12 4 ((fi r12 4) + 1) → K ((fi r13 4) - 1) r13 := by
    refine ⟨by rw [r9_4]; exact v120 16 l16, fun r12 e12 r13 e13 => ?_⟩
    have e13' : r13 = cE r k x y z (nc r k x y z) := by
      rw [e13, e12, r9_16, r9_4, e9]
      rfl
    rw [e13']
    have e : fi (cE r k x y z (nc r k x y z)) 4 - 1 = fi r 4 := by
      show fi r 4 + 1 - 1 = fi r 4
      clear w3 w' hf h1 h2 e9 e12 e13 e13' r9_12 r9_13 r9_14 r9_15 r9_16 r9_4; grind
    rw [e]
    exact h1 hc
  have vx : ∀ u, exOK r u → vp_in u (l 16) := fun u hu => vi2 hu.1 hu.2 (by rw [l16]; rw [il] at w1b; simpa using w1b)
  unfold qE_nodesOfParts
  rw [r9_4, r9_12, r9_13, r9_14, r9_15, r9_16]
  rw [r9_4] at fin
  have h12 : vp_in (fi r 4) (ln (ad, l) 12) := v120 12 l12
  have h13 : vp_in (fi r 4) (ln (ad, l) 13) := v120 13 l13
  have h14 : vp_in (fi r 4) (ln (ad, l) 14) := v120 14 l14
  have h15 : vp_in (fi r 4) (ln (ad, l) 15) := v120 15 l15
  rw [r9_16] at fin
  refine ⟨h12, fun g => ?_, fun g => ?_, fun g => ?_, fun g => ?_⟩
  · have f : nmOK x ∧ exOK r y := by unfold fine at hf; rw [g] at hf; simpa using hf
    have e : np r k x y z = ar r 16 y.toNatClampNeg := by unfold np; rw [if_pos g]
    rw [e] at fin
    exact ⟨h14, vx y f.2, fin⟩
  · have f : exOK r x ∧ exOK r y := by unfold fine at hf; rw [g] at hf; simpa using hf
    have e : np r k x y z = ar r 16 x.toNatClampNeg + ar r 16 y.toNatClampNeg := by unfold np; rw [if_neg (by rw [g]; decide), if_pos g]
    rw [e] at fin
    exact ⟨h13, vx x f.1, h14, vx y f.2, fin⟩
  · have f : nmOK x ∧ exOK r y ∧ exOK r z := by unfold fine at hf; rw [g] at hf; simpa using hf
    have e : np r k x y z = ar r 16 y.toNatClampNeg + ar r 16 z.toNatClampNeg := by unfold np; rw [if_neg (by rw [g]; decide), if_neg (by rw [g]; decide), if_pos g]
    rw [e] at fin
    exact ⟨h14, vx y f.2.1, h15, vx z f.2.2, fin⟩
  · have e : np r k x y z = 0 := by
      unfold np
      rw [if_neg (fun q => by rw [q] at g; revert g; decide), if_neg (fun q => by rw [q] at g; revert g; decide), if_neg (fun q => by rw [q] at g; revert g; decide)]
    rw [e] at fin
    exact fin
theorem Fm_cE {r : S_} {k x y z n : Int32} : Fm r (cE r k x y z n) := by
  refine ⟨fun j hj => ?_, fun j hj => ?_⟩
  · unfold cE
    rw [fi_sF, if_neg (by omega)]
    rfl
  · unfold cE
    rw [ar_sF, ar_sA, if_neg (by omega), ar_sA, if_neg (by omega), ar_sA, if_neg (by omega), ar_sA, if_neg (by omega), ar_sA, if_neg (by omega)]
theorem assoc1 {a b : Int32} : 1 + a + b = 1 + (a + b) := by grind
/-- the reference adds it too -/
theorem madd_ok {ad l : Nat → Nat} {r r1 : S_} {k x y z : Int32} (h : INV l r) (hF : Fm r r1) (hf : fine r k x y z) {K : Int32 → S_ → Prop} (h1 : fi r 4 < 120 → K (fi r 4) (sF (sA (sA (sA (sA (sA (sF r1 20 0) 45 (upd (ar r 12) (fi r 4).toNatClampNeg k)) 46 (upd (ar r 13) (fi r 4).toNatClampNeg x)) 47 (upd (ar r 14) (fi r 4).toNatClampNeg y)) 48 (upd (ar r 15) (fi r 4).toNatClampNeg z)) 49 (upd (ar r 16) (fi r 4).toNatClampNeg (nc r k x y z))) 25 (fi r 4 + 1))) (h2 : fi r 4 = 120 → K (-3) (sF r1 20 0)) : qM_expression_J136 (ad, l) K (sF r1 20 0) k x y z := by
  obtain ⟨⟨c1, c2, c3, ⟨t1, t2, t3⟩, c5, c6⟩, q, m, la⟩ := h
  have hv := np_v t3 hf
  obtain ⟨⟨w1, w1b⟩, -, w3⟩ := t3
  obtain ⟨q25, q45, q46, q47, q48, q49⟩ := q.2.2.2.2
  have ll : ∀ q, 45 ≤ q → q < 50 → l q = 120 := fun q a b => by
    have hq : q = 45 ∨ q = 46 ∨ q = 47 ∨ q = 48 ∨ q = 49 := by omega
    rcases hq with e | e | e | e | e <;> (subst e; exact ml (n := 120) m (by decide) (by decide) rfl)
  obtain ⟨R, eR⟩ : ∃ R, R = sF r1 20 0 := ⟨_, rfl⟩
  rw [← eR] at h1 h2 ⊢
  have e25 : fi R 25 = fi r 4 := by rw [eR]; exact (hF.1 25 (by omega)).trans q25
  have e45 : ar R 45 = ar r 12 := by rw [eR]; exact (hF.2 45 (by omega)).trans q45
  have e46 : ar R 46 = ar r 13 := by rw [eR]; exact (hF.2 46 (by omega)).trans q46
  have e47 : ar R 47 = ar r 14 := by rw [eR]; exact (hF.2 47 (by omega)).trans q47
  have e48 : ar R 48 = ar r 15 := by rw [eR]; exact (hF.2 48 (by omega)).trans q48
  have e49 : ar R 49 = ar r 16 := by rw [eR]; exact (hF.2 49 (by omega)).trans q49
  unfold qM_expression_J136 qM_expression_J141
  rw [e25]
  refine ⟨fun _ => ⟨fun hc => ?_, fun hc => h2 hc⟩, fun z => absurd z (by decide)⟩
  have hc' : fi r 4 < 120 := by clear c1 c2 c3 t1 t2 c5 c6 q m la w3 h1 h2 hf hv ll hF; grind
  have vv : ∀ q, 45 ≤ q → q < 50 → vp_in (fi r 4) (ln (ad, l) q) := fun q a b => vi2 w1 hc' (by show (120 : Int32).toInt ≤ l q; rw [ll q a b]; decide)
  have vx : ∀ u, exOK r u → vp_in u (ln (ad, l) 49) := fun u hu => vi2 hu.1 hu.2 (by show (fi r 4).toInt ≤ l 49; rw [ll 49 (by omega) (by omega)]; rw [il] at w1b; simpa using w1b)
  refine ⟨vv 45 (by omega) (by omega), fun r11 e11 => ⟨vv 46 (by omega) (by omega), fun r13 e13 => ⟨vv 47 (by omega) (by omega), fun r15 e15 => ⟨vv 48 (by omega) (by omega), fun r17 e17 => ?_⟩⟩⟩⟩
  have x46 : ar r11 46 = ar r 13 := by rw [e11, ar_sA, if_neg (by decide)]; exact e46
  have x47 : ar r13 47 = ar r 14 := by rw [e13, ar_sA, if_neg (by decide), e11, ar_sA, if_neg (by decide)]; exact e47
  have x48 : ar r15 48 = ar r 15 := by rw [e15, ar_sA, if_neg (by decide), e13, ar_sA, if_neg (by decide), e11, ar_sA, if_neg (by decide)]; exact e48
  have x49 : ar r17 49 = ar r 16 := by rw [e17, ar_sA, if_neg (by decide), e15, ar_sA, if_neg (by decide), e13, ar_sA, if_neg (by decide), e11, ar_sA, if_neg (by decide)]; exact e49
  have f17 : fi r17 25 = fi r 4 := by rw [e17, fi_sA, e15, fi_sA, e13, fi_sA, e11, fi_sA]; exact e25
  have fin : ∀ v7 : Int32, v7 = 1 + np r k x y z → qM_expression_J270 (ad, l) K r17 (fi r 4) v7 := by
    intro v7 e7
    have last : ∀ n : Int32, n = nc r k x y z → qM_expression_J290 (ad, l) K r17 (fi r 4) n (fi r 4) := by
      intro n en
      unfold qM_expression_J290
      refine ⟨vv 49 (by omega) (by omega), fun r23 e23 r24 e24 => ?_⟩
      have e24' : r24 = sF (sA (sA (sA (sA (sA R 45 (upd (ar r 12) (fi r 4).toNatClampNeg k)) 46 (upd (ar r 13) (fi r 4).toNatClampNeg x)) 47 (upd (ar r 14) (fi r 4).toNatClampNeg y)) 48 (upd (ar r 15) (fi r 4).toNatClampNeg z)) 49 (upd (ar r 16) (fi r 4).toNatClampNeg (nc r k x y z))) 25 (fi r 4 + 1) := by
        have f23 : fi r23 25 = fi r 4 := by rw [e23, fi_sA]; exact f17
        rw [e24, f23, e23, x49, en, e17, x48, e15, x47, e13, x46, e11, e45]
      rw [e24']
      exact h1 hc'
    unfold qM_expression_J270
    rw [e7]
    refine ⟨fun g => last _ ?_, fun g => last _ ?_⟩
    · unfold nc
      rw [if_neg (by rw [Int32.not_lt]; exact g)]
    · unfold nc
      rw [if_pos (Int32.not_le.mp g)]
  refine ⟨fun g1 => ⟨fun g2 => ⟨fun g3 => fin 1 ?_, fun g3 => ?_⟩, fun g2 => ?_⟩, fun g1 => ?_⟩
  · unfold np
    rw [if_neg g1, if_neg g2, if_neg g3]
    rfl
  · have f : nmOK x ∧ exOK r y ∧ exOK r z := by unfold fine at hf; rw [g3] at hf; simpa using hf
    refine ⟨vx y f.2.1, vx z f.2.2, fun z27 e27 => fin z27 ?_⟩
    rw [e27, x49]
    unfold np
    rw [if_neg g1, if_neg g2, if_pos g3, assoc1]
  · have f : exOK r x ∧ exOK r y := by unfold fine at hf; rw [g2] at hf; simpa using hf
    refine ⟨vx x f.1, vx y f.2, fun z27 e27 => fin z27 ?_⟩
    rw [e27, x49]
    unfold np
    rw [if_neg g1, if_pos g2, assoc1]
  · have f : nmOK x ∧ exOK r y := by unfold fine at hf; rw [g1] at hf; simpa using hf
    refine ⟨vx y f.2, fin _ ?_⟩
    rw [x49]
    unfold np
    rw [if_pos g1]
theorem expression_pair {ad l : Nat → Nat} {r : S_} {k x y z : Int32} (h : INV l r) {K : S_ → Prop} (hK : ∀ r', INV l r' → kp r' = kp r → K r') : qI_expression (ad, l) (fun z1 r1 => qM_expression (ad, l) (fun z2 r2 => z1 = z2 ∧ K r2) r1 k x y z) r k x y z := by
  have t3 : ET l r := h.1.2.2.2.1.2.2
  unfold qI_expression
  refine mayStand_ok h (fun hf => ⟨fun _ => ?_, fun z => absurd z (by decide)⟩) (fun hf => ⟨fun z => absurd rfl z, fun _ => ?_⟩)
  · refine add_ok t3 hf (fun hc => ?_) (fun hc => ?_)
    · refine mexpr_ok h Fm_cE (fun _ => madd_ok h Fm_cE hf (fun _ => ⟨rfl, ?_⟩) (fun hc2 => ?_)) (fun q => absurd hf q)
      · exact hK _ (addE_INV h hc hf) rfl
      · rw [hc2] at hc
        exact absurd hc (by decide)
    · exact mexpr_ok h (Fm_refl r) (fun _ => madd_ok h (Fm_refl r) hf (fun hc2 => by rw [hc] at hc2; exact absurd hc2 (by decide)) (fun _ => ⟨rfl, hK _ (INV_20 h) rfl⟩)) (fun q => absurd hf q)
  · refine mexpr_ok h (Fm_refl r) (fun q => absurd q hf) (fun _ => ?_)
    unfold qM_expression_J140 qM_expression_J141
    exact ⟨fun z => absurd rfl z, fun _ => ⟨rfl, hK _ (INV_20 h) rfl⟩⟩
end EXPR2
