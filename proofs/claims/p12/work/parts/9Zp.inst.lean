/-! Calls on both sides: instance, the pair. -/
section INST3
theorem only_0 {n : Int32} : only 0 n := fun i _ h => by rw [gb_0] at h; exact absurd h (by decide)
theorem inst61 {ad l : Nat → Nat} {r r1 : S_} {c k x y X Y : Int32} (h : INV l r) (e23 : fi r1 23 = fi r 2) (e41 : ar r1 41 = ar r 6) (e86 : ar r1 86 = ar r 86) (e43 : ar r1 43 = ar r 10) (e44 : ar r1 44 = ar r 11) (c0 : 0 ≤ c) (c1 : c < fi r 2) (k0 : 0 ≤ k) (k1 : k < 8) {K : Int32 → S_ → Prop} (hb : ¬ (only x (fi r 2) ∧ only y (fi r 2)) → K (-1) r1) (hn : only x (fi r 2) → only y (fi r 2) → ¬ fitsP r c k X Y → K (-2) r1) (hy : only x (fi r 2) → only y (fi r 2) → fitsP r c k X Y → qM_instance_J179 (ad, l) K r1 X Y (8 * c + k)) : qM_instance_J61 (ad, l) K r1 c k x y X Y := by
  obtain ⟨⟨-, -, -, ⟨-, w2, -⟩, -⟩, q, m, -, kq, ⟨-, wq⟩, -⟩ := h
  obtain ⟨n0, n8, -⟩ := w2
  obtain ⟨-, -, -, ⟨-, q42, q43, q44⟩, -⟩ := q
  have c8 : c < 8 := by clear kq hb hn hy q42 wq; grind
  have s1 := sl_in c0 c8 k0 k1
  have l41 : l 41 = 8 := ml (n := 8) m (by decide) (by decide) rfl
  have l86 : l 86 = 64 := ml (n := 64) m (by decide) (by decide) rfl
  have l43 : l 43 = 64 := ml (n := 64) m (by decide) (by decide) rfl
  have l44 : l 44 = 64 := ml (n := 64) m (by decide) (by decide) rfl
  have v8c : vp_in c (ln (ad, l) 41) := vi2 c0 c8 (by show (8 : Int32).toInt ≤ l 41; rw [l41]; decide)
  have v64 : ∀ (u : Int32) q, l q = 64 → 0 ≤ u → u < 64 → vp_in u (ln (ad, l) q) := fun u q hq u0 u1 => vi2 u0 u1 (by show (64 : Int32).toInt ≤ l q; rw [hq]; decide)
  unfold qM_instance_J61
  rw [e23, e41, e86, e43, e44]
  refine ⟨fun z => hb (fun o => z ((only_m n0 n8).mpr o.1)), fun ox => ⟨fun oy => ?_, fun z => hb (fun o => z ((only_m n0 n8).mpr o.2))⟩⟩
  replace ox := (only_m n0 n8).mp ox
  replace oy := (only_m n0 n8).mp oy
  have z9 := (q42 _ s1.1.1 s1.1.2).2
  refine ⟨v8c, v64 _ 86 l86 s1.1.1 s1.1.2, fun z => hn ox oy (fun f => z (z9.mpr f.1)), fun z => ⟨v8c, fun z6 => hy ox oy ⟨z9.mp z, Or.inl ?_⟩, fun z6 => ?_⟩⟩
  · have b := (kq c c0 c1).1.1
    clear kq hb hn hy q42 wq
    grind
  have p0 : 0 ≤ ar r 6 c.toNatClampNeg := Int32.not_lt.mp z6
  have p8 : ar r 6 c.toNatClampNeg < 8 := ltt (kq c c0 c1).1.2 c8
  have p1 : ¬ ar r 6 c.toNatClampNeg = -1 := fun z => by rw [z] at p0; exact absurd p0 (by decide)
  have s2 := sl_in p0 p8 k0 k1
  have y9 := (q42 _ s2.1.1 s2.1.2).2
  have b := (wq _ _ p0 p8 k0 k1).2.2
  rw [q43, q44] at b
  have kk : ∀ {P : Prop}, (ar r 6 c.toNatClampNeg = -1 ∨ P) → P := fun h => h.resolve_left p1
  refine ⟨v64 _ 86 l86 s2.1.1 s2.1.2, fun e => hn ox oy (fun f => (kk f.2).1 (y9.mp e)), fun e => ⟨v64 _ 43 l43 s2.1.1 s2.1.2, ?_⟩⟩
  refine covers_ok (r0 := r) (r := r1) (show ML (ad, l) from m) kq n0 n8 e41 e23 b.1 (fun hx => ⟨fun z => absurd z (by decide), fun _ => ⟨v64 _ 44 l44 s2.1.1 s2.1.2, ?_⟩⟩) (fun hx => ⟨fun _ => hn ox oy (fun f => hx (kk f.2).2.1), fun z => absurd rfl z⟩)
  exact covers_ok (r0 := r) (r := r1) (show ML (ad, l) from m) kq n0 n8 e41 e23 b.2 (fun hyy => ⟨fun _ => hy ox oy ⟨z9.mp z, Or.inr ⟨fun q => e (y9.mpr q), hx, hyy⟩⟩, fun z => absurd z (by decide)⟩) (fun hyy => ⟨fun z => absurd rfl z, fun _ => hn ox oy (fun f => hyy (kk f.2).2.2)⟩)
theorem instance_pair {ad l : Nat → Nat} {r : S_} {c k x y : Int32} (h : INV l r) {K : S_ → Prop} (hK : ∀ r', INV l r' → kp r' = kp r → K r') : qI_instance (ad, l) (fun z r1 => qM_instance (ad, l) (fun z2 r2 => z = z2 ∧ K r2) r1 c k x y) r c k x y := by
  have h' := h
  obtain ⟨⟨g1, g2, g3, ⟨w1, w2, w3⟩, g5, g6⟩, q, m, la, kq, wq, mq, sq⟩ := h
  have f1 := w1.1.1
  have f2 := w1.1.2.1
  have n0 := w2.1
  have n8 := w2.2.1
  have l9 : l 9 = 64 := w2.2.2.2.2.2.1
  have l10 : l 10 = 64 := w2.2.2.2.2.2.2.1
  have l11 : l 11 = 64 := w2.2.2.2.2.2.2.2
  have l0 : l 0 = 8 := w1.2.1.1
  obtain ⟨⟨q21, q36⟩, -, ⟨q23, q41, -⟩, ⟨q24, q42, q43, q44⟩, -⟩ := q
  have l36 : l 36 = 8 := ml (n := 8) m (by decide) (by decide) rfl
  have l86 : l 86 = 64 := ml (n := 64) m (by decide) (by decide) rfl
  have l43 : l 43 = 64 := ml (n := 64) m (by decide) (by decide) rfl
  have l44 : l 44 = 64 := ml (n := 64) m (by decide) (by decide) rfl
  have v64 : ∀ (u : Int32) q, l q = 64 → 0 ≤ u → u < 64 → vp_in u (ln (ad, l) q) := fun u q hq u0 u1 => vi2 u0 u1 (by show (64 : Int32).toInt ≤ l q; rw [hq]; decide)
  have f00 : 0 ≤ fi r 0 := by clear h' g1 g2 g3 w1 w2 w3 g5 g6 m la kq wq mq sq hK q42; grind
  have f0m : fi r 0 ≤ 1000000 := by clear h' g1 g2 g3 w1 w2 w3 g5 g6 m la kq wq mq sq hK q42; grind
  have k8 : k < fi r 0 → k < 8 := fun _ => by clear h' g1 g2 g3 w1 w2 w3 g5 g6 m la kq wq mq sq hK q42; grind
  have c8 : c < fi r 2 → c < 8 := fun _ => by clear h' g1 g2 g3 w1 w2 w3 g5 g6 m la kq wq mq sq hK q42; grind
  obtain ⟨X, eX⟩ : ∃ X, X = if ar r 0 k.toNatClampNeg ≤ 0 then 0 else x := ⟨_, rfl⟩
  obtain ⟨Y, eY⟩ : ∃ Y, Y = if ar r 0 k.toNatClampNeg ≤ 1 then 0 else y := ⟨_, rfl⟩
  have mth : ∀ (r1 : S_) (Q : Int32 → S_ → Prop), Fm r r1 → (¬ (0 ≤ c ∧ c < fi r 2) ∨ ¬ (0 ≤ k ∧ k < fi r 0) ∨ ¬ (only x (fi r 2) ∧ only y (fi r 2)) → Q (-1) (sF r1 20 0)) → (0 ≤ c → c < fi r 2 → 0 ≤ k → k < fi r 0 → only x (fi r 2) → only y (fi r 2) → ¬ fitsP r c k X Y → Q (-2) (sF r1 20 0)) → (0 ≤ c → c < fi r 2 → 0 ≤ k → k < fi r 0 → only x (fi r 2) → only y (fi r 2) → fitsP r c k X Y → qM_instance_J179 (ad, l) Q (sF r1 20 0) X Y (8 * c + k)) → qM_instance (ad, l) Q r1 c k x y := by
    intro r1 Q hF hb hn hy
    unfold qM_instance
    intro r2 e2
    have e21 : fi r2 21 = fi r 0 := by rw [e2]; exact (hF.1 21 (by omega)).trans q21
    have e23 : fi r2 23 = fi r 2 := by rw [e2]; exact (hF.1 23 (by omega)).trans q23
    have e36 : ar r2 36 = ar r 0 := by rw [e2]; exact (hF.2 36 (by omega)).trans q36
    have e41 : ar r2 41 = ar r 6 := by rw [e2]; exact (hF.2 41 (by omega)).trans q41
    have e86 : ar r2 86 = ar r 86 := by rw [e2]; exact hF.2 86 (by omega)
    have e43 : ar r2 43 = ar r 10 := by rw [e2]; exact (hF.2 43 (by omega)).trans q43
    have e44 : ar r2 44 = ar r 11 := by rw [e2]; exact (hF.2 44 (by omega)).trans q44
    rw [← e2] at hb hn hy
    rw [e21, e36]
    refine risK_ok e23 (fun z => ⟨fun _ => hb (Or.inl z), fun z => absurd rfl z⟩) (fun c0 c1 => ⟨fun z => absurd z (by decide), fun _ => rin_ix f00 f0m (fun z => ⟨fun z => absurd rfl z, fun _ => hb (Or.inr (Or.inl z))⟩) (fun k0 k1 => ⟨fun _ => ?_, fun z => absurd z (by decide)⟩)⟩)
    have fin : qM_instance_J61 (ad, l) Q r2 c k x y X Y := inst61 h' e23 e41 e86 e43 e44 c0 c1 k0 (k8 k1) (fun z => hb (Or.inr (Or.inr z))) (hn c0 c1 k0 k1) (hy c0 c1 k0 k1)
    have j47 : qM_instance_J47 (ad, l) Q r2 c k x y (ar r 0 k.toNatClampNeg) X := by
      unfold qM_instance_J47
      refine ⟨fun z => ?_, fun z => ?_⟩
      · rw [eY, if_pos z] at fin
        exact fin
      · rw [eY, if_neg z] at fin
        exact fin
    refine ⟨vi2 k0 (k8 k1) (by show (8 : Int32).toInt ≤ l 36; rw [l36]; decide), fun z => ?_, fun z => ?_⟩
    · rw [eX, if_pos z] at j47
      exact j47
    · rw [eX, if_neg z] at j47
      exact j47
  have bad : (¬ (0 ≤ c ∧ c < fi r 2) ∨ ¬ (0 ≤ k ∧ k < fi r 0) ∨ ¬ (only x (fi r 2) ∧ only y (fi r 2))) → qM_instance (ad, l) (fun z2 r2 => -1 = z2 ∧ K r2) r c k x y := fun hb => by
    refine mth r _ (Fm_refl r) (fun _ => ⟨rfl, hK _ (INV_20 h') rfl⟩) (fun c0 c1 k0 k1 ox oy _ => ?_) (fun c0 c1 k0 k1 ox oy _ => ?_)
    all_goals
      rcases hb with z | z | z
      · exact absurd ⟨c0, c1⟩ z
      · exact absurd ⟨k0, k1⟩ z
      · exact absurd ⟨ox, oy⟩ z
  unfold qI_instance
  refine hasK_ok (fun z => ⟨fun _ => bad (Or.inl z), fun z => absurd rfl z⟩) (fun c0 c1 => ⟨fun z => absurd z (by decide), fun _ => hasC_ok (fun z => ⟨fun z => absurd rfl z, fun _ => bad (Or.inr (Or.inl z))⟩) (fun k0 k1 => ⟨fun _ => ?_, fun z => absurd z (by decide)⟩)⟩)
  refine areK_ok n0 n8 (fun ox => ⟨fun z => absurd z (by decide), fun _ => ?_⟩) (fun ox => ⟨fun _ => bad (Or.inr (Or.inr (fun z => ox z.1))), fun z => absurd rfl z⟩)
  refine areK_ok n0 n8 (fun oy => ⟨fun _ => ?_, fun z => absurd z (by decide)⟩) (fun oy => ⟨fun z => absurd rfl z, fun _ => bad (Or.inr (Or.inr (fun z => oy z.2)))⟩)
  have s1 := sl_in c0 (c8 c1) k0 (k8 k1)
  have add : qI_instance_J87 (ad, l) (fun z r1 => qM_instance (ad, l) (fun z2 r2 => z = z2 ∧ K r2) r1 c k x y) r Y X k c := by
    unfold qI_instance_J87 qK_addInstance
    refine fits_ok h' c0 c1 k0 (k8 k1) (fun hf => ⟨fun _ => ?_, fun z => absurd z (by decide)⟩) (fun hf => ⟨fun z => absurd rfl z, fun _ => ?_⟩)
    · unfold qK_slot
      dsimp only
      rw [Int32.mul_comm c 8]
      refine ⟨v64 _ 9 l9 s1.1.1 s1.1.2, fun r5 e5 => ⟨v64 _ 10 l10 s1.1.1 s1.1.2, fun r7 e7 => ⟨v64 _ 11 l11 s1.1.1 s1.1.2, fun r9 e9 r10 e10 => ?_⟩⟩⟩
      have er : r10 = cI r (8 * c + k) X Y := by
        rw [e10, e9, e7, e5]
        rfl
      have e3 : fi r10 3 = fi r 3 + 1 := by rw [er]; rfl
      rw [e3, er]
      refine mth _ _ Fm_cI (fun z => ?_) (fun _ _ _ _ _ _ z => absurd hf z) (fun _ _ _ _ _ _ _ => ?_)
      · rcases z with z | z | z
        · exact absurd ⟨c0, c1⟩ z
        · exact absurd ⟨k0, k1⟩ z
        · exact absurd ⟨ox, oy⟩ z
      · unfold qM_instance_J179
        refine ⟨v64 _ 86 l86 s1.1.1 s1.1.2, fun r17 e17 => ⟨v64 _ 43 l43 s1.1.1 s1.1.2, fun r19 e19 => ⟨v64 _ 44 l44 s1.1.1 s1.1.2, fun r21 e21 r22 e22 => ?_⟩⟩⟩
        have er2 : r22 = addI r (8 * c + k) X Y := by
          have a43 : ar (sF (cI r (8 * c + k) X Y) 20 0) 43 = ar r 10 := q43
          have a44 : ar (sF (cI r (8 * c + k) X Y) 20 0) 44 = ar r 11 := q44
          have a86 : ar (sF (cI r (8 * c + k) X Y) 20 0) 86 = ar r 86 := rfl
          have a24 : fi (sF (cI r (8 * c + k) X Y) 20 0) 24 = fi r 3 := q24
          have b24 : fi r21 24 = fi r 3 := by rw [e21, e19, e17]; exact a24
          have b44 : ar r19 44 = ar r 11 := by rw [e19, e17]; exact a44
          have b43 : ar r17 43 = ar r 10 := by rw [e17]; exact a43
          rw [e22, b24, e21, b44, e19, b43, e17, a86]
          rfl
        have e24 : fi r22 24 = fi r 3 + 1 := by rw [er2]; rfl
        rw [e24]
        refine ⟨rfl, ?_⟩
        rw [er2]
        refine hK _ (addI_INV h' c0 (c8 c1) k0 k1 hf.1 (fun z => ?_) (fun z => ?_) ?_ ?_) rfl
        · rw [eX] at z
          split at z
          · exact absurd rfl z
          · rename_i z'
            exact Int32.not_le.mp z'
        · rw [eY] at z
          split at z
          · exact absurd rfl z
          · rename_i z'
            exact Int32.not_le.mp z'
        · rw [eX]
          split
          · exact only_0
          · exact ox
        · rw [eY]
          split
          · exact only_0
          · exact oy
    · refine mth _ _ (Fm_refl r) (fun z => ?_) (fun _ _ _ _ _ _ _ => ⟨rfl, hK _ (INV_20 h') rfl⟩) (fun _ _ _ _ _ _ z => absurd z hf)
      rcases z with z | z | z
      · exact absurd ⟨c0, c1⟩ z
      · exact absurd ⟨k0, k1⟩ z
      · exact absurd ⟨ox, oy⟩ z
  have j75 : qI_instance_J75 (ad, l) (fun z r1 => qM_instance (ad, l) (fun z2 r2 => z = z2 ∧ K r2) r1 c k x y) r y (ar r 0 k.toNatClampNeg) X k c := by
    unfold qI_instance_J75
    refine ⟨fun z => ?_, fun z => ?_⟩
    · rw [eY, if_pos z] at add
      exact add
    · rw [eY, if_neg z] at add
      exact add
  unfold qT_partsOf
  refine ⟨vi2 k0 (k8 k1) (by show (8 : Int32).toInt ≤ l 0; rw [l0]; decide), fun z => ?_, fun z => ?_⟩
  · rw [eX, if_pos z] at j75
    exact j75
  · rw [eX, if_neg z] at j75
    exact j75
end INST3
