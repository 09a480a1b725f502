/-! Copying a type in the class's graph. -/
section COPY
theorem Ol_trans {r1 r2 r3 : S_} (h : Ol r1 r2) (hc : fi r1 11 ≤ fi r2 11) (h2 : Ol r2 r3) : Ol r1 r3 := fun x x1 x2 k k1 k2 => (h2 x x1 (by clear h h2; grind) k k1 k2).trans (h x x1 x2 k k1 k2)
/-- beside the nodes the lengths that stay -/
def FG (l l' : Nat → Nat) : Prop := FL l l' ∧ l' 32 = l 32 ∧ l' 33 = l 33 ∧ l' 34 = l 34 ∧ l' 35 = l 35 ∧ l' 89 = l 89
theorem FG_refl (l : Nat → Nat) : FG l l := ⟨FL_refl l, rfl, rfl, rfl, rfl, rfl⟩
theorem FG_trans {l l1 l2 : Nat → Nat} (h : FG l l1) (h2 : FG l1 l2) : FG l l2 := ⟨FL_trans h.1 h2.1, h2.2.1.trans h.2.1, h2.2.2.1.trans h.2.2.1, h2.2.2.2.1.trans h.2.2.2.1, h2.2.2.2.2.1.trans h.2.2.2.2.1, h2.2.2.2.2.2.trans h.2.2.2.2.2⟩
abbrev Fcp (r r' : S_) : Prop := Fr [11, 12, 13, 14, 15] [21, 22, 23, 24, 25, 26, 27, 28, 29, 30, 31] r r'
/-- what each round of a copy keeps: c0, o, U, od: count, how many are ordered, which are visited, their order, when the copy began -/
def CI (l : Nat → Nat) (r : S_) (rh ta : Int32 → Int32) (N : Int32) (c0 o : Int32) (U : Int32 → Prop) (od : Int32 → Int32) : Prop := GI (A0 l) r rh ta N ∧ PL l ∧ VB r ∧ c0 ≤ fi r 11 ∧ fi r 12 = o ∧ 0 ≤ o ∧ o ≤ c0 ∧ (∀ k, 0 ≤ k → k < o → ar r 30 k.toNatClampNeg = od k ∧ 0 ≤ od k ∧ od k < c0 ∧ U (od k)) ∧ (∀ x, 0 ≤ x → x < c0 → U x → ¬ ar r 21 x.toNatClampNeg = -2 ∧ 0 ≤ ar r 29 x.toNatClampNeg ∧ ar r 29 x.toNatClampNeg < fi r 11 ∧ (¬ ar r 22 x.toNatClampNeg = -1 → U (rh (ar r 22 x.toNatClampNeg)) ∧ 0 ≤ rh (ar r 22 x.toNatClampNeg) ∧ rh (ar r 22 x.toNatClampNeg) < c0) ∧ (¬ ar r 23 x.toNatClampNeg = -1 → U (rh (ar r 23 x.toNatClampNeg)) ∧ 0 ≤ rh (ar r 23 x.toNatClampNeg) ∧ rh (ar r 23 x.toNatClampNeg) < c0) ∧ ar r 22 x.toNatClampNeg < c0 ∧ ar r 23 x.toNatClampNeg < c0)
theorem CI_22 {l : Nat → Nat} {r : S_} {rh ta : Int32 → Int32} {N c0 o : Int32} {U : Int32 → Prop} {od : Int32 → Int32} (w : CI l r rh ta N c0 o U od) {f : Nat → Int32} (h1 : GI (A0 l) (sA r 22 f) rh ta N) (h2 : FS (fi r 11) (ar r 21) (ar r 22) f) : CI l (sA r 22 f) rh ta N c0 o U od := by
  obtain ⟨w1, w2, w3, w4, w5, w6, w7, w8, w9⟩ := w
  refine ⟨h1, w2, w3, w4, w5, w6, w7, w8, fun x x1 x2 x3 => ?_⟩
  have b := w9 x x1 x2 x3
  have e : ar (sA r 22 f) 22 x.toNatClampNeg = ar r 22 x.toNatClampNeg := h2 x x1 (by clear w1 w3 w8 w9 h1 h2 b; grind) b.1
  rw [e]
  exact b
theorem valueOf_D {l : Nat → Nat} {r : S_} {rh ta : Int32 → Int32} {N : Int32} {p0 : Int32} (hI : GI (A0 l) r rh ta N) (h1 : -1 ≤ p0) (h2 : p0 < fi r 11) : ∃ z r', ((p0 = -1 ∧ z = -1 ∧ r' = r) ∨ (¬ p0 = -1 ∧ z = ar r 29 (rh p0).toNatClampNeg ∧ ∃ f, r' = sA r 22 f ∧ GI (A0 l) (sA r 22 f) rh ta N ∧ FS (fi r 11) (ar r 21) (ar r 22) f)) ∧ ∀ ad (K : Int32 → S_ → Prop), K z r' → qG_valueOf (ad, l) K r p0 := by
  have hd : Det (fun ad (K0 : Int32 × S_ → Prop) => qG_valueOf (ad, l) (fun z r => K0 (z, r)) r p0) := det_qG_valueOf (fun z r => fun ad K h => ⟨(z, r), h, fun _ _ h => h⟩)
  obtain ⟨z, r', h3, h4⟩ := D1 (P := fun z r' => (p0 = -1 ∧ z = -1 ∧ r' = r) ∨ (¬ p0 = -1 ∧ z = ar r 29 (rh p0).toNatClampNeg ∧ ∃ f, r' = sA r 22 f ∧ GI (A0 l) (sA r 22 f) rh ta N ∧ FS (fi r 11) (ar r 21) (ar r 22) f)) hd (valueOf_ok hI h1 h2 (fun e => Or.inl ⟨e, rfl, rfl⟩) (fun e f k1 k2 => Or.inr ⟨e, rfl, f, rfl, k1, k2⟩))
  exact ⟨z, r', h3, fun ad K hk => h4 ad K hk⟩
theorem walk_D {l : Nat → Nat} {r : S_} {rh ta rk : Int32 → Int32} {N : Int32} {acy : Prop} {p0 : Int32} (w : PW (A0 l) r rh ta N acy rk) (h1 : 0 ≤ p0) (h2 : p0 < fi r 11) : ∃ r', (PW (A0 l) r' rh ta N acy rk ∧ Fw r r' ∧ ar r' 28 (rh p0).toNatClampNeg = fi r' 13) ∧ ∀ ad (K : S_ → Prop), K r' → qG_walk (ad, l) K r p0 := by
  have hd : Det (fun ad (K0 : S_ → Prop) => qG_walk (ad, l) (fun r => K0 r) r p0) := det_qG_walk (fun r => fun ad K h => ⟨r, h, fun _ _ h => h⟩)
  obtain ⟨r', h3, h4⟩ := D1r hd (walk_ok w h1 h2 (fun r' k1 k2 k3 => ⟨k1, k2, k3⟩ : ∀ r', _ → _ → _ → (PW (A0 l) r' rh ta N acy rk ∧ Fw r r' ∧ ar r' 28 (rh p0).toNatClampNeg = fi r' 13)))
  exact ⟨r', h3, fun ad K hk => h4 ad K hk⟩
theorem copy_L {c0 o : Int32} {U : Int32 → Prop} {od : Int32 → Int32} {p0 : Int32} (p1 : 0 ≤ p0) (p2 : p0 < c0) : ∀ (m : Nat) (l : Nat → Nat) (r : S_) (rh ta : Int32 → Int32) (N i : Int32), CI l r rh ta N c0 o U od → U (rh p0) → rh p0 < c0 → 0 ≤ i → i ≤ o → o.toInt - i.toInt = m → ∃ (z : Int32) (l' : Nat → Nat) (r' : S_) (k s : Nat), (((∃ rh ta N, GI (A0 l') r' rh ta N) ∧ PL l' ∧ VB r' ∧ Fcp r r' ∧ fi r 11 ≤ fi r' 11 ∧ 0 ≤ z ∧ z < fi r' 11 ∧ FG l l') ∧ fi r' 13 = fi r 13) ∧ k + pC l' ≤ pC l ∧ s + pS l' ≤ pS l ∧ ∀ (ad : Nat → Nat) (K : Int32 → L_ → S_ → Prop), (∀ ad', fx (ad, l) (ad', l') → K z (ad', l') r') → qG_copyOf_L11 (fun a r kc ks v1 => qG_valueOf a (fun z29 r30 => K z29 a r30) r v1) (m + 1) (ad, l) r k s p0 i := by
  intro m
  induction m with
  | zero =>
    intro l r rh ta N i w u1 u2 i1 i2 hm
    obtain ⟨w1, w2, w3, w4, w5, w6, w7, w8, w9⟩ := w
    have hp2 : p0 < fi r 11 := by clear w1 w3 w8 w9; grind
    obtain ⟨z, r', h3, h4⟩ := valueOf_D w1 (p0 := p0) (by clear w1 w3 w8 w9; grind) hp2
    rcases h3 with ⟨e, -, -⟩ | ⟨e, ez, f, er, g1, g2⟩
    · exact absurd p1 (by rw [e]; decide)
    · have rp := w1.2.2.2.2.1.2 p0 p1 hp2
      have b := w9 _ rp.1 u2 u1
      refine ⟨z, l, r', 0, 0, ⟨⟨⟨rh, ta, N, by rw [er]; exact g1⟩, w2, by rw [er]; exact w3, by rw [er]; exact Fr_sA (by decide), by rw [er]; exact Int32.le_refl _, by rw [ez]; exact b.2.1, by rw [ez, er]; exact b.2.2.1, FG_refl l⟩, by rw [er]; rfl⟩, by omega, by omega, fun ad K hK => ?_⟩
      rw [qG_copyOf_L11]
      refine ⟨fun _ => h4 ad _ (hK ad (fx_refl _)), fun g => ?_⟩
      have : i < o := by rw [← w5]; exact Int32.not_le.mp g
      rw [it] at this
      omega
  | succ m ih =>
    intro l r rh ta N i w u1 u2 i1 i2 hm
    have w' := w
    obtain ⟨w1, w2, w3, w4, w5, w6, w7, w8, w9⟩ := w
    have hlt : i < o := by rw [it]; omega
    have hi := i_inc hlt
    have c1 : 0 ≤ i + 1 := by clear w1 w3 w8 w9 w' ih; grind
    have c2 : i + 1 ≤ o := by clear w1 w3 w8 w9 w' ih; grind
    obtain ⟨o1, o2, o3, o4⟩ := w8 i i1 hlt
    have hc : ∀ x, x < c0 → x < fi r 11 := fun x hx => by clear w1 w3 w8 w9 w' ih; grind
    have b := w9 _ o2 o3 o4
    have nb := w1.2.2.2.1 _ o2 (hc _ o3)
    have hL : l 22 = l 21 ∧ l 23 = l 21 ∧ l 24 = l 21 ∧ l 25 = l 21 ∧ l 26 = l 21 ∧ l 27 = l 21 ∧ l 28 = l 21 ∧ l 29 = l 21 ∧ l 30 = l 21 ∧ l 31 = 2 * l 21 + 4 ∧ 64 ≤ l 21 ∧ l 21 ≤ 4096 := w1.1
    have hcl : (fi r 11).toInt ≤ l 21 := w1.2.2.1
    have v30 : vp_in i (l 30) := by
      refine vi i1 ?_
      have h9 := hlt
      have h8 := w7
      have h7 := w4
      rw [it] at h9
      rw [il] at h8 h7
      omega
    have vod : ∀ k, l k = l 21 → vp_in (od i) (l k) := fun k hk => vi2 o2 (hc _ o3) (by rw [hk]; exact hcl)
    have g12 : ¬ fi r 12 ≤ i := by rw [w5, Int32.not_le]; exact hlt
    by_cases ho : ar r 26 (od i).toNatClampNeg = 1
    · obtain ⟨z1, r1, h3, h4⟩ := valueOf_D w1 nb.2.2.1 nb.2.2.2.1
      have st1 : CI l r1 rh ta N c0 o U od ∧ Fcp r r1 ∧ fi r1 11 = fi r 11 ∧ fi r1 13 = fi r 13 ∧ ar r1 23 = ar r 23 ∧ ar r1 21 = ar r 21 ∧ ar r1 26 = ar r 26 ∧ -1 ≤ z1 ∧ (z1 < fi r 11 ∨ z1 = -1) := by
        rcases h3 with ⟨e, ez, er⟩ | ⟨e, ez, f, er, g1, g2⟩
        · subst er
          exact ⟨w', Fr_refl _, rfl, rfl, rfl, rfl, rfl, by rw [ez]; decide, Or.inr ez⟩
        · subst er
          have bb := b.2.2.2.1 e
          have bv := w9 _ bb.2.1 bb.2.2 bb.1
          exact ⟨CI_22 w' g1 g2, Fr_sA (by decide), rfl, rfl, rfl, rfl, rfl, by rw [ez]; have := bv.2.1; clear w1 w3 w8 w9 w' ih g1 g2 b bb; grind, Or.inl (by rw [ez]; exact bv.2.2.1)⟩
      obtain ⟨s1, s2, s3, s4, s5, s6, s7, s8, s9⟩ := st1
      have b1 := s1.2.2.2.2.2.2.2.2 _ o2 o3 o4
      have nb1 := s1.1.2.2.2.1 _ o2 (by rw [s3]; exact hc _ o3)
      obtain ⟨z2, r2, h5, h6⟩ := valueOf_D s1.1 nb1.2.2.2.2.1 nb1.2.2.2.2.2.1
      have st2 : CI l r2 rh ta N c0 o U od ∧ Fcp r1 r2 ∧ fi r2 11 = fi r 11 ∧ fi r2 13 = fi r 13 ∧ ar r2 21 = ar r 21 ∧ -1 ≤ z2 ∧ (z2 < fi r 11 ∨ z2 = -1) := by
        rcases h5 with ⟨e, ez, er⟩ | ⟨e, ez, f, er, g1, g2⟩
        · subst er
          exact ⟨s1, Fr_refl _, s3, s4, s6, by rw [ez]; decide, Or.inr ez⟩
        · subst er
          have bb := b1.2.2.2.2.1 e
          have bv := s1.2.2.2.2.2.2.2.2 _ bb.2.1 bb.2.2 bb.1
          exact ⟨CI_22 s1 g1 g2, Fr_sA (by decide), s3, s4, s6, by rw [ez]; have := bv.2.1; clear w1 w3 w8 w9 w' ih g1 g2 b bb s1; grind, Or.inl (by rw [ez, ← s3]; exact bv.2.2.1)⟩
      obtain ⟨t1, t2, t3, t4, t5, t6, t7⟩ := st2
      have hh : -1 ≤ ar r 21 (od i).toNatClampNeg := by
        have q1 := nb.1
        have q2 := b.1
        clear w1 w3 w8 w9 w' ih s1 t1 nb b b1 nb1 hc hL
        grind
      obtain ⟨z3, l3, r3, k3, s3', np, cc, cs, h7⟩ := newNode_D t1.1 t1.2.1 t1.2.2.1 (p0 := ar r 21 (od i).toNatClampNeg) (p1 := z1) (p2 := z2) hh nb.2.1 s8 (by rw [t3]; exact s9) t6 (by rw [t3]; exact t7)
      obtain ⟨rh3, n1, n2, n3, n4, n5, n6, n7, n8, n9, n10, n11⟩ := np
      obtain ⟨t11, t12, t13, t14, t15, t16, t17, t18, t19⟩ := t1
      have e12 : fi r3 12 = fi r2 12 := n5.1 12 (by decide)
      have hc2 : ∀ x, x < c0 → x < fi r2 11 := fun x hx => by rw [t3]; exact hc x hx
      have c03 : c0 ≤ fi r3 11 := by clear w1 w3 w8 w9 w' ih s1 t11 t18 t19 nb b b1 nb1 hc hL hc2 n1 n2 n5 n6; grind
      have hod2 : od i < fi r2 11 := hc2 _ o3
      have hod3 : od i < fi r3 11 := by clear w1 w3 w8 w9 w' ih s1 t11 t18 t19 nb b b1 nb1 hc hL hc2 n1 n2 n5 n6; grind
      have hL3 : l3 22 = l3 21 ∧ l3 23 = l3 21 ∧ l3 24 = l3 21 ∧ l3 25 = l3 21 ∧ l3 26 = l3 21 ∧ l3 27 = l3 21 ∧ l3 28 = l3 21 ∧ l3 29 = l3 21 ∧ l3 30 = l3 21 ∧ l3 31 = 2 * l3 21 + 4 ∧ 64 ≤ l3 21 ∧ l3 21 ≤ 4096 := n1.1
      have hcl3 : (fi r3 11).toInt ≤ l3 21 := n1.2.2.1
      have st4 : ∀ v, CI l3 (sA (sA r3 29 (upd (ar r3 29) (od i).toNatClampNeg z3)) 24 v) rh3 ta N c0 o U od := by
        intro v
        refine ⟨n1, n3, n4, c03, e12.trans t15, w6, w7, fun k k1 k2 => ?_, fun x x1 x2 x3 => ?_⟩
        · have q := t18 k k1 k2
          refine ⟨?_, q.2⟩
          show ar r3 30 k.toNatClampNeg = od k
          have k3 : k < fi r2 11 := by clear w1 w3 w8 w9 w' ih s1 t11 t18 t19 nb b b1 nb1 hc hL hc2 n1 n2 n5 n6 q; grind
          rw [n6 k k1 k3 30 (by omega) (by omega)]
          exact q.1
        · have q := t19 x x1 x2 x3
          have x4 := hc2 x x2
          have e21 : ar r3 21 x.toNatClampNeg = ar r2 21 x.toNatClampNeg := n6 x x1 x4 21 (by omega) (by omega)
          have e22 : ar r3 22 x.toNatClampNeg = ar r2 22 x.toNatClampNeg := n6 x x1 x4 22 (by omega) (by omega)
          have e23 : ar r3 23 x.toNatClampNeg = ar r2 23 x.toNatClampNeg := n6 x x1 x4 23 (by omega) (by omega)
          have e29 : ar r3 29 x.toNatClampNeg = ar r2 29 x.toNatClampNeg := n6 x x1 x4 29 (by omega) (by omega)
          have nx := t11.2.2.2.1 x x1 x4
          show ¬ ar r3 21 x.toNatClampNeg = -2 ∧ 0 ≤ upd (ar r3 29) (od i).toNatClampNeg z3 x.toNatClampNeg ∧ upd (ar r3 29) (od i).toNatClampNeg z3 x.toNatClampNeg < fi r3 11 ∧ (¬ ar r3 22 x.toNatClampNeg = -1 → U (rh3 (ar r3 22 x.toNatClampNeg)) ∧ 0 ≤ rh3 (ar r3 22 x.toNatClampNeg) ∧ rh3 (ar r3 22 x.toNatClampNeg) < c0) ∧ (¬ ar r3 23 x.toNatClampNeg = -1 → U (rh3 (ar r3 23 x.toNatClampNeg)) ∧ 0 ≤ rh3 (ar r3 23 x.toNatClampNeg) ∧ rh3 (ar r3 23 x.toNatClampNeg) < c0) ∧ ar r3 22 x.toNatClampNeg < c0 ∧ ar r3 23 x.toNatClampNeg < c0
          rw [e21, e22, e23, updI _ _ o2 x1, e29]
          refine ⟨q.1, ?_, ?_, fun g => ?_, fun g => ?_, q.2.2.2.2.2.1, q.2.2.2.2.2.2⟩
          · split
            · exact n8
            · exact q.2.1
          · split
            · exact n9
            · have := q.2.2.1
              clear w1 w3 w8 w9 w' ih s1 t11 t18 t19 nb b b1 nb1 hc hL hc2 n1 n2 n5 n6 q nx
              grind
          · have g0 : 0 ≤ ar r2 22 x.toNatClampNeg := by
              have := nx.2.2.1
              clear w1 w3 w8 w9 w' ih s1 t11 t18 t19 nb b b1 nb1 hc hL hc2 n1 n2 n5 n6 q nx
              grind
            rw [n2 _ g0 nx.2.2.2.1]
            exact q.2.2.2.1 g
          · have g0 : 0 ≤ ar r2 23 x.toNatClampNeg := by
              have := nx.2.2.2.2.1
              clear w1 w3 w8 w9 w' ih s1 t11 t18 t19 nb b b1 nb1 hc hL hc2 n1 n2 n5 n6 q nx
              grind
            rw [n2 _ g0 nx.2.2.2.2.2.1]
            exact q.2.2.2.2.1 g
      have rp3 : rh3 p0 = rh p0 := n2 p0 p1 (hc2 _ p2)
      obtain ⟨z, l', r', k, s, ⟨⟨q1, q2, q3, q4, q5, q6, q7, q8⟩, q9⟩, dc, ds, h8⟩ := ih l3 _ rh3 ta N (i + 1) (st4 (upd (ar r3 24) z3.toNatClampNeg ((ar r3 24 z3.toNatClampNeg) ||| (ar r3 25 (od i).toNatClampNeg)))) (by rw [rp3]; exact u1) (by rw [rp3]; exact u2) c1 c2 (by omega)
      have fr3 : Fcp r r3 := Fr_trans (Fr_trans s2 t2) (Fr_mono n5 (by decide) (by decide))
      refine ⟨z, l', r', k3 + k, s3' + s, ⟨⟨q1, q2, q3, Fr_trans (Fr_trans fr3 (Fr_trans (Fr_sA (by decide)) (Fr_sA (by decide)))) q4, ?_, q6, q7, FG_trans ⟨n10, n11⟩ q8⟩, ?_⟩, by omega, by omega, fun ad K hK => ?_⟩
      · have q5' : fi r3 11 ≤ fi r' 11 := q5
        clear w1 w3 w8 w9 w' ih s1 t11 t18 t19 nb b b1 nb1 hc hL hc2 n1 n2 n5 n6 h8 q4
        grind
      · exact q9.trans ((n5.1 13 (by decide)).trans t4)
      · rw [qG_copyOf_L11]
        refine ⟨fun z => absurd z g12, fun _ => ?_⟩
        rw [o1]
        refine ⟨v30, vod 26 hL.2.2.2.2.1, fun z => absurd ho z, fun _ => ⟨vod 21 rfl, vod 22 hL.1, ?_⟩⟩
        refine h4 ad _ ⟨vod 23 hL.2.1, ?_⟩
        rw [s5]
        rw [s5] at h6
        refine h6 ad _ ⟨k3, s3', k, s, rfl, rfl, ?_⟩
        refine h7 ad _ (fun ad1 f1 _ => ⟨vi2 o2 hod3 (by show (fi r3 11).toInt ≤ l3 29; rw [hL3.2.2.2.2.2.2.2.1]; exact hcl3), fun r22 e22 => ?_⟩)
        subst e22
        have v24 : vp_in z3 (l3 24) := vi2 n8 n9 (by show (fi r3 11).toInt ≤ l3 24; rw [hL3.2.2.1]; exact hcl3)
        refine ⟨v24, vi2 o2 hod3 (by show (fi r3 11).toInt ≤ l3 25; rw [hL3.2.2.2.1]; exact hcl3), v24, fun r26 e26 => ?_⟩
        subst e26
        exact h8 ad1 K (fun ad' f2 => hK ad' (fx_trans f1 f2))
    · obtain ⟨z, l', r', k, s, hp, dc, ds, h8⟩ := ih l r rh ta N (i + 1) w' u1 u2 c1 c2 (by omega)
      refine ⟨z, l', r', k, s, hp, dc, ds, fun ad K hK => ?_⟩
      rw [qG_copyOf_L11]
      refine ⟨fun z => absurd z g12, fun _ => ?_⟩
      rw [o1]
      exact ⟨v30, vod 26 hL.2.2.2.2.1, fun _ => h8 ad K hK, fun z => absurd z ho⟩
end COPY
