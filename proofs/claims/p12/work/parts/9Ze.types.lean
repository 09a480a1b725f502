/-! Calls on both sides: variable, type. -/
section TYPES
theorem rkeep_found {ad l : Nat → Nat} {r : S_} {hd x y s t : Int32} (h : INV l r) (t0 : 0 ≤ t) (ht : t < fi r 1) (hm : mat r hd x y t) (hf : ∀ u : Int32, 0 ≤ u → u < t → ¬ mat r hd x y u) {K : Int32 → S_ → Prop} (hK : K t (sF r 20 0)) : qM_keepType (ad, l) K (sF r 20 0) hd x y s := by
  obtain ⟨⟨c1, c2, c3, ⟨t1, t2, t3⟩, c5, c6⟩, q, m, la⟩ := h
  unfold qM_keepType
  refine rsearch_ok (r := sF r 20 0) (show ML (ad, l) from m) (TQ_20 q) t1.1.2.2.1 t1.1.2.2.2 (fun u u0 u1 u2 u3 => ?_) (fun z => absurd hm (z t t0 ht))
  have e : t = u := mat_one t0 u0 hm hf u2 u3
  rw [← e]
  exact hK
theorem rkeep_full {ad l : Nat → Nat} {r : S_} {hd x y s : Int32} (h : INV l r) (hno : ∀ u : Int32, 0 ≤ u → u < fi r 1 → ¬ mat r hd x y u) (hf : fi r 1 = 60 ∨ ¬ s ≤ 16) {K : Int32 → S_ → Prop} (hK : K (-3) (sF r 20 0)) : qM_keepType (ad, l) K (sF r 20 0) hd x y s := by
  obtain ⟨⟨c1, c2, c3, ⟨t1, t2, t3⟩, c5, c6⟩, q, m, la⟩ := h
  unfold qM_keepType
  refine rsearch_ok (r := sF r 20 0) (show ML (ad, l) from m) (TQ_20 q) t1.1.2.2.1 t1.1.2.2.2 (fun u u0 u1 u2 u3 => absurd u2 (hno u u0 u1)) (fun z => ⟨fun _ => hK, fun g => ⟨fun g2 => ?_, fun _ => hK⟩⟩)
  rcases hf with e | e
  · exact absurd (show fi (sF r 20 0) 22 = 60 from q.2.1.1.trans e) g
  · exact absurd g2 e
/-- the class's state behind a keeping -/
def cT (r : S_) (h x y s b : Int32) : S_ := sF (sA (sA (sA (sA (sA r 1 (upd (ar r 1) (fi r 1).toNatClampNeg h)) 2 (upd (ar r 2) (fi r 1).toNatClampNeg x)) 3 (upd (ar r 3) (fi r 1).toNatClampNeg y)) 4 (upd (ar r 4) (fi r 1).toNatClampNeg s)) 5 (upd (ar r 5) (fi r 1).toNatClampNeg b)) 1 (fi r 1 + 1)
theorem tkeep_ok {ad l : Nat → Nat} {r : S_} {hd x y s b : Int32} (t1 : TT l r) {K : Int32 → S_ → Prop} (h1 : fi r 1 < 60 → K (fi r 1) (cT r hd x y s b)) (h2 : fi r 1 = 60 → K (-3) r) : qT_keep (ad, l) K r hd x y s b := by
  obtain ⟨⟨f1, f2, f3, f4⟩, ⟨l0, l1, l2, l3, l4, l5, l20⟩, -⟩ := t1
  unfold qT_keep
  refine ⟨fun hc => ?_, fun hc => h2 (by clear h1 h2; grind)⟩
  have v60 : ∀ k, l k = 60 → vp_in (fi r 1) (l k) := fun k hk => vi2 f3 hc (by rw [hk]; decide)
  refine ⟨v60 1 l1, fun r3 e3 => ?_⟩
  subst e3
  refine ⟨v60 2 l2, fun r5 e5 => ?_⟩
  subst e5
  refine ⟨v60 3 l3, fun r7 e7 => ?_⟩
  subst e7
  refine ⟨v60 4 l4, fun r9 e9 => ?_⟩
  subst e9
  refine ⟨v60 5 l5, fun r11 e11 r12 e12 => ?_⟩
  subst e11
  subst e12
  have e9 : fi r 1 + 1 - 1 = fi r 1 := by clear h1 h2; grind
  have := h1 hc
  rw [← e9] at this
  exact this
theorem variable_pair {ad l : Nat → Nat} {r : S_} {p : Int32} (h : INV l r) {K : S_ → Prop} (hK : ∀ r', INV l r' → kp r' = kp r → K r') : qI_variable (ad, l) (fun z r1 => qM_variable (ad, l) (fun z2 r2 => z = z2 ∧ K r2) r1 p) r p := by
  have t1 : TT l r := h.1.2.2.2.1.1
  have f3 := t1.1.2.2.1
  have bad : (p < 0 ∨ 7 < p) → qM_variable (ad, l) (fun z2 r2 => -1 = z2 ∧ K r2) r p := by
    intro g
    unfold qM_variable
    intro r1 e1
    subst e1
    exact rin_ok (fun _ => ⟨fun _ => ⟨rfl, hK _ (INV_20 h) rfl⟩, fun z => absurd rfl z⟩) (fun g1 g2 => absurd g (by clear h t1 hK; grind))
  unfold qI_variable
  refine ⟨fun g => bad (Or.inl g), fun g => ⟨fun g2 => ?_, fun g2 => bad (Or.inr (by clear h t1 hK bad; grind))⟩⟩
  have g1 : 0 ≤ p := by clear h t1 hK bad; grind
  have pv := v8 g1 g2
  have mv : ∀ (z : Int32) (r1 : S_), qM_keepType (ad, l) (fun z2 r2 => z = z2 ∧ K r2) (sF r1 20 0) (-1 - p) (-1) (-1) 1 → qM_variable (ad, l) (fun z2 r2 => z = z2 ∧ K r2) r1 p := by
    intro z r1 hk
    unfold qM_variable
    intro r2 e2
    subst e2
    exact rin_ok (fun g4 => absurd g4 (by clear h t1 hK bad hk; grind)) (fun _ _ => ⟨fun z => absurd z (by decide), fun _ => hk⟩)
  unfold qT_addVariable
  refine search_ok t1 (fun t a1 a2 a3 a4 => ⟨fun z => absurd a1 (by rw [z]; decide), fun _ => mv _ _ (rkeep_found h a1 a2 a3 a4 ⟨rfl, hK _ (INV_20 h) rfl⟩)⟩) (fun hno => ⟨fun _ => tkeep_ok t1 (fun hc => ?_) (fun hc => mv _ _ (rkeep_full h hno (Or.inl hc) ⟨rfl, hK _ (INV_20 h) rfl⟩)), fun z => absurd rfl z⟩)
  have hT : TT l (addT r (-1 - p) (-1) (-1) 1 (1 <<< (p &&& 31))) := addT_TT t1 hc (by rcases pv with e | e | e | e | e | e | e | e <;> (rw [e]; decide)) ⟨by decide, by clear h t1 hK bad mv hno; grind⟩ ⟨by decide, by clear h t1 hK bad mv hno; grind⟩ (by decide) (fun z => absurd rfl z) (fun z => absurd rfl z) (fun _ => ⟨rfl, rfl⟩) (fun z => Or.inl (by rcases pv with e | e | e | e | e | e | e | e <;> (rw [e] at z ⊢; first | rfl | exact absurd (by decide) z)))
  exact mv _ _ (rkeep_new h hc (by decide) hT hno ⟨rfl, hK _ (addT_INV h hc hT hno ⟨by decide, by clear h t1 hK bad mv hno hT; grind⟩ ⟨by decide, by clear h t1 hK bad mv hno hT; grind⟩ rfl (by rcases pv with e | e | e | e | e | e | e | e <;> (rw [e]; rfl)) (fun z => absurd z (by rcases pv with e | e | e | e | e | e | e | e <;> (rw [e]; decide)))) rfl⟩)
theorem Fm_refl (r : S_) : Fm r r := ⟨fun _ _ => rfl, fun _ _ => rfl⟩
theorem Fm_cT {r : S_} {h x y s b : Int32} : Fm r (cT r h x y s b) := by
  refine ⟨fun k hk => ?_, fun k hk => ?_⟩
  · unfold cT
    rw [fi_sF, if_neg (by omega)]
    rfl
  · unfold cT
    rw [ar_sF, ar_sA, if_neg (by omega), ar_sA, if_neg (by omega), ar_sA, if_neg (by omega), ar_sA, if_neg (by omega), ar_sA, if_neg (by omega)]
theorem szP_in {l : Nat → Nat} {r : S_} (t1 : TT l r) {x : Int32} (x1 : -1 ≤ x) (x2 : x < fi r 1) : 0 ≤ (szP r x).toInt ∧ (szP r x).toInt ≤ 16 ∧ (¬ x = -1 → 1 ≤ (szP r x).toInt) := by
  unfold szP
  by_cases e : x = -1
  · rw [if_pos e]
    exact ⟨by decide, by decide, fun z => absurd e z⟩
  · rw [if_neg e]
    have b := (t1.2.2.2 x (by clear t1; grind) x2).2.2.2.1
    rw [il, il] at b
    simp at b
    exact ⟨by omega, by omega, fun _ => by omega⟩
theorem addBuilt_pair {ad l : Nat → Nat} {r : S_} {c x y : Int32} (h : INV l r) (c1 : 0 ≤ c) (c2 : c < fi r 0) (x1 : -1 ≤ x) (x2 : x < fi r 1) (y1 : -1 ≤ y) (y2 : y < fi r 1) (ha : aryP r c x y) {K : Int32 → S_ → Prop} {Q : S_ → Prop} (hQ : ∀ r', INV l r' → kp r' = kp r → Q r') (hK : ∀ (z : Int32) (r1 : S_), Fm r r1 → qM_keepType (ad, l) (fun z2 r2 => z = z2 ∧ Q r2) (sF r1 20 0) c x y (1 + szP r x + szP r y) → K z r1) : qT_addBuilt (ad, l) K r c x y := by
  have t1 : TT l r := h.1.2.2.2.1.1
  obtain ⟨⟨f1, f2, f3, f4⟩, ⟨l0, l1, l2, l3, l4, l5, l20⟩, -⟩ := t1
  have t1 : TT l r := h.1.2.2.2.1.1
  have sx := szP_in t1 x1 x2
  have sy := szP_in t1 y1 y2
  have k1 : (1 + szP r x).toInt = 1 + (szP r x).toInt := i_add (by simp; omega) (by simp; omega)
  have k2 : (1 + szP r x + szP r y).toInt = 1 + (szP r x).toInt + (szP r y).toInt := by rw [i_add (by rw [k1]; omega) (by rw [k1]; omega), k1]
  have v60 : ∀ z, 0 ≤ z → z < fi r 1 → ∀ k, l k = 60 → vp_in z (l k) := fun z z1 z2 k hk => vi2 z1 z2 (by rw [hk]; rw [il] at f4; simpa using f4)
  have nx : ¬ x = -1 → 0 ≤ x := fun z => by clear h t1 hQ hK v60; grind
  have ny : ¬ y = -1 → 0 ≤ y := fun z => by clear h t1 hQ hK v60; grind
  unfold qT_addBuilt
  refine search_ok t1 (fun t a1 a2 a3 a4 => ⟨fun z => absurd a1 (by rw [z]; decide), fun _ => hK _ _ (Fm_refl r) (rkeep_found h a1 a2 a3 a4 ⟨rfl, hQ _ (INV_20 h) rfl⟩)⟩) (fun hno => ⟨fun _ => ?_, fun z => absurd rfl z⟩)
  have j83 : qT_addBuilt_J83 (ad, l) K r c x y (1 + szP r x + szP r y) (btP r y) (btP r x) := by
    unfold qT_addBuilt_J83
    refine ⟨fun hs => tkeep_ok t1 (fun hc => ?_) (fun hc => hK _ _ (Fm_refl r) (rkeep_full h hno (Or.inl hc) ⟨rfl, hQ _ (INV_20 h) rfl⟩)), fun hs => hK _ _ (Fm_refl r) (rkeep_full h hno (Or.inr hs) ⟨rfl, hQ _ (INV_20 h) rfl⟩)⟩
    have lt : ∀ (u v : Int32), u.toInt < v.toInt → u < v := fun u v huv => by rw [it]; exact huv
    have hT : TT l (addT r c x y (1 + szP r x + szP r y) (btP r x ||| btP r y)) := addT_TT t1 hc ⟨by clear h t1 hQ hK v60 hno; grind, by clear h t1 hQ hK v60 hno; grind⟩ ⟨x1, x2⟩ ⟨y1, y2⟩ ⟨by rw [il, k2]; simp; omega, hs⟩ (fun g => lt _ _ (by rw [k2]; have := sx.2.2 g; unfold szP at *; rw [if_neg g] at *; omega)) (fun g => lt _ _ (by rw [k2]; have := sy.2.2 g; unfold szP at *; rw [if_neg g] at *; omega)) (fun z => absurd c1 (fun q => nl0 q z)) (fun z => ?_)
    · exact hK _ _ Fm_cT (rkeep_new h hc hs hT hno ⟨rfl, hQ _ (addT_INV h hc hT hno ⟨x1, x2⟩ ⟨y1, y2⟩ k2 (by rw [if_neg (fun z => nl0 c1 z)]) ha) rfl⟩)
    · right
      have hor : ¬ btP r x &&& 1 = 0 ∨ ¬ btP r y &&& 1 = 0 := by
        by_cases e : btP r x &&& 1 = 0
        · right
          intro e2
          apply z
          have : (btP r x ||| btP r y) &&& 1 = (btP r x &&& 1) ||| (btP r y &&& 1) := by
            apply Int32.toBitVec_inj.mp
            simp [BitVec.and_or_distrib_right]
          rw [this, e, e2]
          rfl
        · exact Or.inl e
      rcases hor with e | e
      · left
        unfold btP at e
        by_cases g : x = -1
        · rw [if_pos g] at e
          exact absurd rfl e
        · rw [if_neg g] at e
          exact ⟨g, e⟩
      · right
        unfold btP at e
        by_cases g : y = -1
        · rw [if_pos g] at e
          exact absurd rfl e
        · rw [if_neg g] at e
          exact ⟨g, e⟩
  have j68 : qT_addBuilt_J68 (ad, l) K r c x y (1 + szP r x + szP r y) (btP r x) := by
    unfold qT_addBuilt_J68
    refine ⟨fun g => ⟨v60 y (ny g) y2 5 l5, ?_⟩, fun g => ?_⟩
    · have e : btP r y = ar r 5 y.toNatClampNeg := by unfold btP; rw [if_neg g]
      rw [← e]; exact j83
    · have e : btP r y = 0 := by unfold btP; rw [if_pos g]
      rw [← e]; exact j83
  have j50 : qT_addBuilt_J50 (ad, l) K r c x y (szP r y) (1 + szP r x) := by
    unfold qT_addBuilt_J50
    refine ⟨fun g => ⟨v60 x (nx g) x2 5 l5, ?_⟩, fun g => ?_⟩
    · have e : btP r x = ar r 5 x.toNatClampNeg := by unfold btP; rw [if_neg g]
      rw [← e]; exact j68
    · have e : btP r x = 0 := by unfold btP; rw [if_pos g]
      rw [← e]; exact j68
  have j34 : qT_addBuilt_J34 (ad, l) K r c x y (szP r x) 1 := by
    unfold qT_addBuilt_J34
    refine ⟨fun g => ⟨v60 y (ny g) y2 4 l4, ?_⟩, fun g => ?_⟩
    · have e : szP r y = ar r 4 y.toNatClampNeg := by unfold szP; rw [if_neg g]
      rw [← e]; exact j50
    · have e : szP r y = 0 := by unfold szP; rw [if_pos g]
      rw [← e]; exact j50
  refine ⟨fun g => ⟨v60 x (nx g) x2 4 l4, ?_⟩, fun g => ?_⟩
  · have e : szP r x = ar r 4 x.toNatClampNeg := by unfold szP; rw [if_neg g]
    rw [← e]; exact j34
  · have e : szP r x = 0 := by unfold szP; rw [if_pos g]
    rw [← e]; exact j34
end TYPES
