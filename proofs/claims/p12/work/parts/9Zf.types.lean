/-! Calls on both sides: type, class0, how many there are. -/
section TYPES2
theorem dec1 {x y : Int32} (h : 0 ≤ y) (h2 : y ≤ 1000000) : ¬ y - 1 < x ↔ x < y := by grind
/-- an index below a count, as the reference asks -/
theorem rin_ix {a : L_} {r : S_} {x c : Int32} (hc : 0 ≤ c) (hc2 : c ≤ 1000000) {K : Int32 → Prop} (h0 : ¬ (0 ≤ x ∧ x < c) → K 0) (h1 : 0 ≤ x → x < c → K 1) : qM_in a r (fun z => zb z → K z) x 0 (c - 1) := by
  refine rin_ok (fun g => h0 (fun z => ?_)) (fun g1 g2 => h1 (by clear h0 h1; grind) ((dec1 hc hc2).mp g2))
  rcases g with g | g
  · exact nl0 z.1 g
  · exact absurd g ((dec1 hc hc2).mpr z.2)
theorem hasT_ok {a : L_} {r : S_} {x : Int32} {K : Int32 → Prop} (h0 : ¬ (0 ≤ x ∧ x < fi r 1) → K 0) (h1 : 0 ≤ x → x < fi r 1 → K 1) : qT_hasType a r (fun z => zb z → K z) x := by
  unfold qT_hasType
  exact ⟨fun g => ⟨zb0, fun _ => h0 (fun z => nl0 z.1 g)⟩, fun g => ⟨fun g2 => ⟨zb0, fun _ => h0 (fun z => by have := z.2; clear h0 h1; grind)⟩, fun g2 => ⟨zb1, fun _ => h1 (by clear h0 h1; grind) (Int32.not_le.mp g2)⟩⟩⟩
theorem hasC_ok {a : L_} {r : S_} {x : Int32} {K : Int32 → Prop} (h0 : ¬ (0 ≤ x ∧ x < fi r 0) → K 0) (h1 : 0 ≤ x → x < fi r 0 → K 1) : qT_hasConstructor a r (fun z => zb z → K z) x := by
  unfold qT_hasConstructor
  exact ⟨fun g => ⟨zb0, fun _ => h0 (fun z => nl0 z.1 g)⟩, fun g => ⟨fun g2 => ⟨zb0, fun _ => h0 (fun z => by have := z.2; clear h0 h1; grind)⟩, fun g2 => ⟨zb1, fun _ => h1 (by clear h0 h1; grind) (Int32.not_le.mp g2)⟩⟩⟩
theorem hasK_ok {a : L_} {r : S_} {x : Int32} {K : Int32 → Prop} (h0 : ¬ (0 ≤ x ∧ x < fi r 2) → K 0) (h1 : 0 ≤ x → x < fi r 2 → K 1) : qK_hasClass a r (fun z => zb z → K z) x := by
  unfold qK_hasClass
  exact ⟨fun g => ⟨zb0, fun _ => h0 (fun z => nl0 z.1 g)⟩, fun g => ⟨fun g2 => ⟨zb0, fun _ => h0 (fun z => by have := z.2; clear h0 h1; grind)⟩, fun g2 => ⟨zb1, fun _ => h1 (by clear h0 h1; grind) (Int32.not_le.mp g2)⟩⟩⟩
theorem risK_ok {a : L_} {r : S_} {x c : Int32} (hc : fi r 23 = c) {K : Int32 → Prop} (h0 : ¬ (0 ≤ x ∧ x < c) → K 0) (h1 : 0 ≤ x → x < c → K 1) : qM_isClass a r (fun z => zb z → K z) x := by
  unfold qM_isClass
  rw [hc]
  exact ⟨fun g => ⟨zb0, fun _ => h0 (fun z => nl0 z.1 g)⟩, fun g => ⟨fun g2 => ⟨zb0, fun _ => h0 (fun z => by have := z.2; clear h0 h1; grind)⟩, fun g2 => ⟨zb1, fun _ => h1 (by clear h0 h1; grind) (Int32.not_le.mp g2)⟩⟩⟩
/-- the reference's type, where constructor and parts are there -/
theorem mtype_good {ad l : Nat → Nat} {r r1 : S_} {c x y : Int32} (h : INV l r) (hF : Fm r r1) (c1 : 0 ≤ c) (c2 : c < fi r 0) (hx : 0 < ar r 0 c.toNatClampNeg → 0 ≤ x ∧ x < fi r 1) (hy : 1 < ar r 0 c.toNatClampNeg → 0 ≤ y ∧ y < fi r 1) {K : Int32 → S_ → Prop} (hk : qM_keepType (ad, l) K (sF r1 20 0) c (if ar r 0 c.toNatClampNeg ≤ 0 then -1 else x) (if ar r 0 c.toNatClampNeg ≤ 1 then -1 else y) (1 + szP r (if ar r 0 c.toNatClampNeg ≤ 0 then -1 else x) + szP r (if ar r 0 c.toNatClampNeg ≤ 1 then -1 else y))) : qM_type (ad, l) K r1 c x y := by
  obtain ⟨⟨g1, g2, g3, ⟨t1, t2, t3⟩, g5, g6⟩, q, m, la⟩ := h
  obtain ⟨⟨f1, f2, f3, f4⟩, -, wc, -⟩ := t1
  have e21 : fi (sF r1 20 0) 21 = fi r 0 := (hF.1 21 (by omega)).trans q.1.1
  have e22 : fi (sF r1 20 0) 22 = fi r 1 := (hF.1 22 (by omega)).trans q.2.1.1
  have e36 : ar (sF r1 20 0) 36 = ar r 0 := (hF.2 36 (by omega)).trans q.1.2
  have e40 : ar (sF r1 20 0) 40 = ar r 4 := (hF.2 40 (by omega)).trans q.2.1.2.2.2.2
  have l36 : l 36 = 8 := ml (n := 8) m (by decide) (by decide) rfl
  have l40 : l 40 = 60 := ml (n := 60) m (by decide) (by decide) rfl
  have v40 : ∀ z, 0 ≤ z → z < fi r 1 → vp_in z (l 40) := fun z z1 z2 => vi2 z1 z2 (by rw [l40]; rw [il] at f4; simpa using f4)
  obtain ⟨n, en⟩ : ∃ n, n = ar r 0 c.toNatClampNeg := ⟨_, rfl⟩
  rw [← en] at hk hx hy
  have f0 : 0 ≤ fi r 0 := by clear g1 g2 g3 t2 t3 g5 g6 q m la hk wc hF; grind
  have f8 : fi r 0 ≤ 1000000 := by clear g1 g2 g3 t2 t3 g5 g6 q m la hk wc hF; grind
  have f60 : fi r 1 ≤ 1000000 := by clear g1 g2 g3 t2 t3 g5 g6 q m la hk wc hF; grind
  have j118 : ∀ s : Int32, s = 1 + szP r (if n ≤ 0 then -1 else x) + szP r (if n ≤ 1 then -1 else y) → qM_type_J118 (ad, l) K (sF r1 20 0) y n s (if n ≤ 0 then -1 else x) c := by
    intro s es
    rw [← es] at hk
    unfold qM_type_J118 qM_type_J129
    refine ⟨fun g => ?_, fun g => ?_⟩
    · rw [if_pos g] at hk; exact hk
    · rw [if_neg g] at hk; exact hk
  have j103 : ∀ u0 u1 : Int32, u1 + u0 = 1 + szP r (if n ≤ 0 then -1 else x) + szP r (if n ≤ 1 then -1 else y) → qM_type_J103 (ad, l) K (sF r1 20 0) c x y n u0 u1 := by
    intro u0 u1 es
    have j := j118 _ es
    unfold qM_type_J103
    refine ⟨fun g => ?_, fun g => ?_⟩
    · rw [if_pos g] at j; exact j
    · rw [if_neg g] at j; exact j
  have s1 : ∀ z, szP r z = if z = -1 then 0 else ar r 4 z.toNatClampNeg := fun _ => rfl
  have j86 : ∀ u0 : Int32, u0 = szP r (if n ≤ 0 then -1 else x) → qM_type_J86 (ad, l) K (sF r1 20 0) c x y n u0 1 := by
    intro u0 e0
    unfold qM_type_J86
    refine ⟨fun g => j103 _ _ ?_, fun g => ?_⟩
    · rw [e0, if_pos g, s1 (-1), if_pos rfl]
    · have hy' := hy (Int32.not_le.mp g)
      refine ⟨v40 y hy'.1 hy'.2, j103 _ _ ?_⟩
      have sy : szP r y = ar r 4 y.toNatClampNeg := by rw [s1 y, if_neg (fun z => by have := hy'.1; rw [z] at this; exact absurd this (by decide))]
      rw [e0, if_neg g, e40, sy]
  have j70 : qM_type_J70 (ad, l) K (sF r1 20 0) c x y n := by
    unfold qM_type_J70
    refine ⟨fun g => j86 _ ?_, fun g => ?_⟩
    · rw [if_pos g, s1 (-1), if_pos rfl]
    · have hx' := hx (Int32.not_le.mp g)
      refine ⟨v40 x hx'.1 hx'.2, j86 _ ?_⟩
      have sx : szP r x = ar r 4 x.toNatClampNeg := by rw [s1 x, if_neg (fun z => by have := hx'.1; rw [z] at this; exact absurd this (by decide))]
      rw [if_neg g, e40, sx]
  have j48 : qM_type_J48 (ad, l) K (sF r1 20 0) c x y n := by
    unfold qM_type_J48
    rw [e22]
    refine ⟨fun _ => j70, fun g => rin_ix f3 f60 (fun z => absurd (hy (Int32.not_le.mp g)) z) (fun _ _ => ⟨fun _ => j70, fun z => absurd z (by decide)⟩)⟩
  unfold qM_type
  intro r2 e2
  subst e2
  rw [e21, e36, ← en, e22]
  refine rin_ix f0 f8 (fun z => absurd ⟨c1, c2⟩ z) (fun _ _ => ⟨fun _ => ⟨vi2 c1 c2 (by show (fi r 0).toInt ≤ l 36; rw [l36]; rw [il] at f2; simpa using f2), fun _ => j48, fun g => rin_ix f3 f60 (fun z => absurd (hx (Int32.not_le.mp g)) z) (fun _ _ => ⟨fun z => absurd z (by decide), fun _ => j48⟩)⟩, fun z => absurd z (by decide)⟩)
theorem mtype_bad {ad l : Nat → Nat} {r : S_} {c x y : Int32} (h : INV l r) (hb : ¬ (0 ≤ c ∧ c < fi r 0) ∨ (0 < ar r 0 c.toNatClampNeg ∧ ¬ (0 ≤ x ∧ x < fi r 1)) ∨ (1 < ar r 0 c.toNatClampNeg ∧ ¬ (0 ≤ y ∧ y < fi r 1))) {K : Int32 → S_ → Prop} (hk : K (-1) (sF r 20 0)) : qM_type (ad, l) K r c x y := by
  obtain ⟨⟨g1, g2, g3, ⟨t1, t2, t3⟩, g5, g6⟩, q, m, la⟩ := h
  obtain ⟨⟨f1, f2, f3, f4⟩, -, wc, -⟩ := t1
  have e21 : fi (sF r 20 0) 21 = fi r 0 := q.1.1
  have e22 : fi (sF r 20 0) 22 = fi r 1 := q.2.1.1
  have e36 : ar (sF r 20 0) 36 = ar r 0 := q.1.2
  have l36 : l 36 = 8 := ml (n := 8) m (by decide) (by decide) rfl
  have f0 : 0 ≤ fi r 0 := by clear g1 g2 g3 t2 t3 g5 g6 q m la hk wc; grind
  have f8 : fi r 0 ≤ 1000000 := by clear g1 g2 g3 t2 t3 g5 g6 q m la hk wc; grind
  have f60 : fi r 1 ≤ 1000000 := by clear g1 g2 g3 t2 t3 g5 g6 q m la hk wc; grind
  have j48 : 0 ≤ c ∧ c < fi r 0 → (0 < ar r 0 c.toNatClampNeg → 0 ≤ x ∧ x < fi r 1) → qM_type_J48 (ad, l) K (sF r 20 0) c x y (ar r 0 c.toNatClampNeg) := by
    intro hc hx
    have hy : 1 < ar r 0 c.toNatClampNeg ∧ ¬ (0 ≤ y ∧ y < fi r 1) := by
      rcases hb with z | z | z
      · exact absurd hc z
      · exact absurd (hx z.1) z.2
      · exact z
    unfold qM_type_J48
    rw [e22]
    exact ⟨fun g => absurd hy.1 (by clear g1 g2 g3 t2 t3 g5 g6 q m la hk wc hb hx hy; grind), fun g => rin_ix f3 f60 (fun z => ⟨fun z => absurd rfl z, fun _ => hk⟩) (fun z1 z2 => absurd ⟨z1, z2⟩ hy.2)⟩
  unfold qM_type
  intro r2 e2
  subst e2
  rw [e21, e36, e22]
  refine rin_ix f0 f8 (fun z => ⟨fun z => absurd rfl z, fun _ => hk⟩) (fun z1 z2 => ⟨fun _ => ⟨vi2 z1 z2 (by show (fi r 0).toInt ≤ l 36; rw [l36]; rw [il] at f2; simpa using f2), fun g => j48 ⟨z1, z2⟩ (fun gg => absurd g (by rw [Int32.not_le]; exact gg)), fun g => rin_ix f3 f60 (fun z => ⟨fun _ => hk, fun z => absurd rfl z⟩) (fun x1 x2 => ⟨fun z => absurd z (by decide), fun _ => j48 ⟨z1, z2⟩ (fun _ => ⟨x1, x2⟩)⟩)⟩, fun z => absurd z (by decide)⟩)
theorem type_pair {ad l : Nat → Nat} {r : S_} {c x y : Int32} (h : INV l r) {K : S_ → Prop} (hK : ∀ r', INV l r' → kp r' = kp r → K r') : qI_type (ad, l) (fun z r1 => qM_type (ad, l) (fun z2 r2 => z = z2 ∧ K r2) r1 c x y) r c x y := by
  have t1 : TT l r := h.1.2.2.2.1.1
  have f2 := t1.1.2.1
  have f3 := t1.1.2.2.1
  have l0 := t1.2.1.1
  have bad : (¬ (0 ≤ c ∧ c < fi r 0) ∨ (0 < ar r 0 c.toNatClampNeg ∧ ¬ (0 ≤ x ∧ x < fi r 1)) ∨ (1 < ar r 0 c.toNatClampNeg ∧ ¬ (0 ≤ y ∧ y < fi r 1))) → qM_type (ad, l) (fun z2 r2 => -1 = z2 ∧ K r2) r c x y := fun hb => mtype_bad h hb ⟨rfl, hK _ (INV_20 h) rfl⟩
  unfold qI_type
  refine hasC_ok (fun z => ⟨fun z => absurd rfl z, fun _ => bad (Or.inl z)⟩) (fun c1 c2 => ⟨fun _ => ?_, fun z => absurd z (by decide)⟩)
  unfold qT_partsOf
  refine ⟨vi2 c1 c2 (by show (fi r 0).toInt ≤ l 0; rw [l0]; rw [il] at f2; simpa using f2), ?_⟩
  have good : (0 < ar r 0 c.toNatClampNeg → 0 ≤ x ∧ x < fi r 1) → (1 < ar r 0 c.toNatClampNeg → 0 ≤ y ∧ y < fi r 1) → qI_type_J58 (ad, l) (fun z r1 => qM_type (ad, l) (fun z2 r2 => z = z2 ∧ K r2) r1 c x y) r c x y (ar r 0 c.toNatClampNeg) := by
    intro hx hy
    have ha : aryP r c (if ar r 0 c.toNatClampNeg ≤ 0 then -1 else x) (if ar r 0 c.toNatClampNeg ≤ 1 then -1 else y) := fun _ => by
      refine ⟨c2, ⟨fun z => ?_, fun z => ?_⟩, ⟨fun z => ?_, fun z => ?_⟩⟩
      · split at z
        · exact absurd z (by decide)
        · rename_i g; exact Int32.not_le.mp g
      · rw [if_neg (Int32.not_le.mpr z)]
        exact (hx z).1
      · split at z
        · exact absurd z (by decide)
        · rename_i g; exact Int32.not_le.mp g
      · rw [if_neg (Int32.not_le.mpr z)]
        exact (hy z).1
    have b := addBuilt_pair (ad := ad) (x := if ar r 0 c.toNatClampNeg ≤ 0 then -1 else x) (y := if ar r 0 c.toNatClampNeg ≤ 1 then -1 else y) h c1 c2 (by split; decide; rename_i g; have := hx (Int32.not_le.mp g); clear h t1 bad hK hx hy; grind) (by split; clear h t1 bad hK hx hy; grind; rename_i g; exact (hx (Int32.not_le.mp g)).2) (by split; decide; rename_i g; have := hy (Int32.not_le.mp g); clear h t1 bad hK hx hy; grind) (by split; clear h t1 bad hK hx hy; grind; rename_i g; exact (hy (Int32.not_le.mp g)).2) ha (Q := K) hK (K := fun z r1 => qM_type (ad, l) (fun z2 r2 => z = z2 ∧ K r2) r1 c x y) (fun z r1 hF hk => mtype_good h hF c1 c2 hx hy hk)
    unfold qI_type_J58 qI_type_J73 qI_type_J84
    refine ⟨fun g => ⟨fun g2 => ?_, fun g2 => ?_⟩, fun g => ⟨fun g2 => ?_, fun g2 => ?_⟩⟩
    · rw [if_pos g, if_pos g2] at b; exact b
    · exact absurd g (by clear h t1 bad hK hx hy b; grind)
    · rw [if_neg g, if_pos g2] at b; exact b
    · rw [if_neg g, if_neg g2] at b; exact b
  have j39 : (0 < ar r 0 c.toNatClampNeg → 0 ≤ x ∧ x < fi r 1) → qI_type_J39 (ad, l) (fun z r1 => qM_type (ad, l) (fun z2 r2 => z = z2 ∧ K r2) r1 c x y) r c x y (ar r 0 c.toNatClampNeg) := by
    intro hx
    unfold qI_type_J39
    exact ⟨fun g => good hx (fun g2 => absurd g (by clear h t1 bad hK hx good; grind)), fun g => hasT_ok (fun z => ⟨fun z => absurd rfl z, fun _ => bad (Or.inr (Or.inr ⟨Int32.not_le.mp g, z⟩))⟩) (fun y1 y2 => ⟨fun _ => good hx (fun _ => ⟨y1, y2⟩), fun z => absurd z (by decide)⟩)⟩
  exact ⟨fun g => j39 (fun g2 => absurd g (by clear h t1 bad hK good j39; grind)), fun g => hasT_ok (fun z => ⟨fun _ => bad (Or.inr (Or.inl ⟨Int32.not_le.mp g, z⟩)), fun z => absurd rfl z⟩) (fun x1 x2 => ⟨fun z => absurd z (by decide), fun _ => j39 (fun _ => ⟨x1, x2⟩)⟩)⟩
theorem counts_pair {ad l : Nat → Nat} {r : S_} (h : INV l r) {K : S_ → Prop} (hK : ∀ r', INV l r' → kp r' = kp r → K r') : qI_types (ad, l) r (fun z => qM_types (ad, l) (fun z2 r2 => z = z2 ∧ K r2) r) ∧ qI_classes (ad, l) r (fun z => qM_classes (ad, l) (fun z2 r2 => z = z2 ∧ K r2) r) ∧ qI_expressions (ad, l) r (fun z => qM_expressions (ad, l) (fun z2 r2 => z = z2 ∧ K r2) r) := by
  have q := h.2.1
  refine ⟨?_, ?_, ?_⟩
  · unfold qI_types qM_types
    intro r1 e1
    subst e1
    exact ⟨q.2.1.1.symm, hK _ (INV_20 h) rfl⟩
  · unfold qI_classes qM_classes
    intro r1 e1
    subst e1
    exact ⟨q.2.2.1.1.symm, hK _ (INV_20 h) rfl⟩
  · unfold qI_expressions qM_expressions
    intro r1 e1
    subst e1
    exact ⟨q.2.2.2.2.1.symm, hK _ (INV_20 h) rfl⟩
end TYPES2
