/-! The reference's typing: the nodes of an expression, the loop. -/
section SPREAD2
variable {a : L_} {r : S_} {l ad : Nat → Nat} {rI : S_}
theorem SPI_step {r0 r' : S_} {M : Int} {v : Int32} (h : SPI r0 r M v) (hv : v < fi r 26) (F : Fr [26] [50, 51, 52, 53, 54, 59] r r') (le : fi r 26 ≤ fi r' 26) (old : ∀ k : Int32, 0 ≤ k → k < fi r 26 → (∀ j, ¬ j = 53 → ¬ j = 54 → ar r' j k.toNatClampNeg = ar r j k.toNatClampNeg) ∧ (¬ k = v → ar r' 53 k.toNatClampNeg = ar r 53 k.toNatClampNeg ∧ ar r' 54 k.toNatClampNeg = ar r 54 k.toNatClampNeg)) (new : ∀ k : Int32, fi r 26 ≤ k → k < fi r' 26 → (0 ≤ ar r' 50 k.toNatClampNeg ∧ ar r' 50 k.toNatClampNeg < fi r 25) ∧ ar r' 59 k.toNatClampNeg = 0 ∧ ar r' 51 k.toNatClampNeg = v) (kv : KD r' v (fi r' 26)) (hs : sm (gv r' (v.toNatClampNeg + 1)) (fi r' 26).toNatClampNeg = sm (gv r' (v.toNatClampNeg + 1)) (fi r 26).toNatClampNeg + (szn r (ar r 50 v.toNatClampNeg) - 1)) : SPI r0 r' M (v + 1) := by
  obtain ⟨h1, h2, h3, h4, h5, h6, h7⟩ := h
  obtain ⟨p1, p2, p3⟩ := inc_le h3.1 hv
  have c0 : 0 ≤ fi r 26 := Int32.le_trans h3.1 h3.2.1
  have c0' : 0 ≤ fi r' 26 := Int32.le_trans c0 le
  have e1 := i_nat h3.1
  have e2 := i_nat p1
  have e3 := i_nat c0
  have e4 := i_nat c0'
  have le' := le
  rw [il] at le'
  have hv' := hv
  rw [it] at hv'
  have aE : ∀ k, ¬ k = 50 → ¬ k = 51 → ¬ k = 52 → ¬ k = 53 → ¬ k = 54 → ¬ k = 59 → ar r' k = ar r k := fun k k1 k2 k3 k4 k5 k6 => F.2.1 k (by simp [k1, k2, k3, k4, k5, k6])
  have e49 := aE 49 (by decide) (by decide) (by decide) (by decide) (by decide) (by decide)
  have e45 := aE 45 (by decide) (by decide) (by decide) (by decide) (by decide) (by decide)
  have f25 : fi r' 25 = fi r 25 := F.1 25 (by decide)
  have up : ∀ k : Int32, k < fi r 26 → k < fi r' 26 := fun k hk => by rw [it] at hk ⊢; omega
  have kde : ∀ k : Int32, 0 ≤ k → k < fi r 26 → kd r' k = kd r k := fun k k0 k1 => by
    unfold kd
    rw [e45, (old k k0 k1).1 50 (by decide) (by decide)]
  refine ⟨Fr_trans h1 F, ETr_eq h2 (F.1 1 (by decide)) f25 (aE 42 (by decide) (by decide) (by decide) (by decide) (by decide) (by decide)) e45 (aE 46 (by decide) (by decide) (by decide) (by decide) (by decide) (by decide)) (aE 47 (by decide) (by decide) (by decide) (by decide) (by decide) (by decide)) (aE 48 (by decide) (by decide) (by decide) (by decide) (by decide) (by decide)) e49, ⟨p1, Int32.le_trans p2 le, by have := h3.2.2; omega⟩, fun k k0 k1 => ?_, fun k k0 k1 => ?_, ?_, ?_⟩
  · rw [f25]
    by_cases g : k < fi r 26
    · have o := (old k k0 g).1
      rw [o 50 (by decide) (by decide), o 59 (by decide) (by decide), o 51 (by decide) (by decide)]
      exact h4 k k0 g
    · have n := new k (Int32.not_lt.mp g) k1
      rw [n.2.2]
      refine ⟨n.1, n.2.1, Or.inr ⟨h3.1, ?_⟩⟩
      have g' := Int32.not_lt.mp g
      rw [il] at g'
      rw [it]
      omega
  · by_cases e : k = v
    · rw [e]; exact kv
    · have kv' : k < v := by
        rw [it, p3] at k1
        rw [ie] at e
        rw [it]
        omega
      have kc : k < fi r 26 := ltt kv' hv
      have b := h5 k k0 kv'
      have o := (old k k0 kc).2 e
      unfold KD
      rw [kde k k0 kc, o.1, o.2]
      have kp : ∀ f : Int32, (k < f ∧ f < fi r 26) → ar r' 51 f.toNatClampNeg = ar r 51 f.toNatClampNeg ∧ ar r' 52 f.toNatClampNeg = ar r 52 f.toNatClampNeg := fun f hf => by
        have f0 : 0 ≤ f := by
          have z := hf.1
          rw [it] at z
          rw [il] at k0 ⊢
          simp at k0 ⊢
          omega
        have o := (old f f0 hf.2).1
        exact ⟨o 51 (by decide) (by decide), o 52 (by decide) (by decide)⟩
      refine ⟨fun g => ?_, fun g => ?_⟩
      · have q := b.1 g
        exact ⟨⟨q.1.1, up _ q.1.2⟩, by rw [(kp _ q.1).1]; exact q.2⟩
      · obtain ⟨q1, q2, q3, q4, q5⟩ := b.2 g
        refine ⟨⟨q1.1, up _ q1.2⟩, ⟨q2.1, up _ q2.2⟩, q3, ?_, ?_⟩
        · rw [(kp _ q1).1, (kp _ q2).1]; exact q4
        · rw [(kp _ q1).2, (kp _ q2).2]; exact q5
  · have ev : (v + 1).toNatClampNeg = v.toNatClampNeg + 1 := by omega
    rw [ev, hs]
    have k := sm_upd (f := gv r v.toNatClampNeg) (g := gv r' (v.toNatClampNeg + 1)) (n := (fi r 26).toNatClampNeg) (i := v.toNatClampNeg) (by omega) (fun j hj hne => by
      unfold gv
      obtain ⟨x, x1, x2, x3⟩ := nat_i (j := j) (n := fi r 26) (by omega)
      have o := (old x x1 x2).1 50 (by decide) (by decide)
      rw [x3] at o
      by_cases g : j < v.toNatClampNeg
      · rw [if_pos g, if_pos (by omega)]
      · rw [if_neg g, if_neg (by omega)]
        unfold szn
        rw [o, e49])
    have g1 : gv r' (v.toNatClampNeg + 1) v.toNatClampNeg = 1 := by unfold gv; rw [if_pos (by omega)]
    have g2 : gv r v.toNatClampNeg v.toNatClampNeg = szn r (ar r 50 v.toNatClampNeg) := by unfold gv; rw [if_neg (by omega)]
    rw [k, g1, g2]
    omega
  · have z0 : (0 : Int32) < fi r 26 := by
      have := h3.2.2
      rw [it]
      simp
      omega
    rw [(old 0 (by decide) z0).1 51 (by decide) (by decide)]
    exact h7
theorem spr_one {r0 r1 r2 : S_} {M : Int} {v e1 : Int32} (h : SPI r0 r M v) (hM24 : M ≤ 24) (hv : v < fi r 26) (hk : kd r v = 1) (he : e1 = ar r 47 (ar r 50 v.toNatClampNeg).toNatClampNeg) (h1 : AN r r1 e1 v 0) (e2 : r2 = sA r1 53 (upd (ar r1 53) v.toNatClampNeg (fi r 26))) : SPI r0 r2 M (v + 1) := by
  have hlen := SPI_len h
  have h' := h
  obtain ⟨g1, g2, g3, g4, g5, g6, g7⟩ := h
  obtain ⟨n1, n2, n3, n4, n5, n6, n7⟩ := h1
  have c0 : 0 ≤ fi r 26 := Int32.le_trans g3.1 g3.2.1
  have i26 : (fi r 26 + 1).toInt = (fi r 26).toInt + 1 := i_add (by have := g3.2.2; simp; omega) (by have := hlen.1; simp; omega)
  have f26 : fi r2 26 = fi r 26 + 1 := by rw [e2]; exact n2
  have c1 : 0 ≤ fi r 26 + 1 := by rw [il, i26]; have := g3.2.2; simp; omega
  have en : (fi r 26 + 1).toNatClampNeg = (fi r 26).toNatClampNeg + 1 := by
    have q1 := i_nat c0
    have q2 := i_nat c1
    omega
  have lt1 : fi r 26 < fi r 26 + 1 := by rw [it, i26]; omega
  have ne : ∀ k : Int32, k < fi r 26 → ¬ k = fi r 26 := fun k hk e => by rw [e, it] at hk; omega
  have a2 : ∀ j, ¬ j = 53 → ar r2 j = ar r1 j := fun j hj => by rw [e2, ar_sA, if_neg hj]
  have a53 : ar r2 53 = upd (ar r1 53) v.toNatClampNeg (fi r 26) := by rw [e2, ar_sA, if_pos rfl]
  have x0 := g4 v g3.1 hv
  have x1 := g2.2 _ x0.1.1 x0.1.2
  have hk' : ar r 45 (ar r 50 v.toNatClampNeg).toNatClampNeg = 1 := hk
  have x2 := x1.2.2.1 hk'
  have sz := hlen.2 v (Int32.le_refl _) hv
  have szv : szn r (ar r 50 v.toNatClampNeg) = 1 + szn r e1 := by
    rw [he]
    refine x2.2 ?_
    have := g3.2.2
    unfold szn at sz
    omega
  refine SPI_step h' hv (by rw [e2]; exact Fr_trans n1 (Fr_sA (by decide))) (by rw [f26]; rw [il, i26]; omega) (fun k k0 k1 => ⟨fun j j1 j2 => by rw [a2 j j1, n3 k k0 (ne k k1) j], fun kv => ⟨?_, ?_⟩⟩) (fun k k1 k2 => ?_) ⟨fun _ => ⟨⟨?_, ?_⟩, ?_⟩, fun z => ?_⟩ ?_
  · rw [a53, updI _ _ g3.1 k0, if_neg kv, n3 k k0 (ne k k1) 53]
  · rw [a2 54 (by decide), n3 k k0 (ne k k1) 54]
  · have e : k = fi r 26 := by
      rw [f26, it, i26] at k2
      rw [il] at k1
      rw [ie]
      omega
    rw [e, a2 50 (by decide), a2 59 (by decide), a2 51 (by decide), n4, n7, n5, he]
    exact ⟨x2.1, rfl, rfl⟩
  · rw [a53, pk_us]; exact hv
  · rw [a53, pk_us, f26]; exact lt1
  · rw [a53, pk_us, a2 51 (by decide)]; exact n5
  · exfalso
    have k : kd r2 v = kd r v := by
      unfold kd
      rw [a2 50 (by decide), n3 v g3.1 (ne v hv) 50, a2 45 (by decide), n1.2.1 45 (by decide)]
    rw [k, hk] at z
    exact z.elim (fun y => absurd y (by decide)) (fun y => absurd y (by decide))
  · rw [f26, en, sm]
    have q1 := i_nat c0
    have q3 := i_nat g3.1
    rw [it] at hv
    have e : gv r2 (v.toNatClampNeg + 1) (fi r 26).toNatClampNeg = szn r e1 := by
      unfold gv szn
      rw [if_neg (by omega), a2 50 (by decide), n4, a2 49 (by decide), n1.2.1 49 (by decide)]
    rw [e, szv]
    omega
theorem spr_two {r0 r1 r2 r3 r4 : S_} {M : Int} {v e1 e3 : Int32} (h : SPI r0 r M v) (hM24 : M ≤ 24) (hv : v < fi r 26) (hk : (kd r v = 2 ∧ e1 = ar r 46 (ar r 50 v.toNatClampNeg).toNatClampNeg ∧ e3 = ar r 47 (ar r 50 v.toNatClampNeg).toNatClampNeg) ∨ (kd r v = 3 ∧ e1 = ar r 47 (ar r 50 v.toNatClampNeg).toNatClampNeg ∧ e3 = ar r 48 (ar r 50 v.toNatClampNeg).toNatClampNeg)) (h1 : AN r r1 e1 v 0) (e2 : r2 = sA r1 53 (upd (ar r1 53) v.toNatClampNeg (fi r 26))) (h3 : AN r2 r3 e3 v 1) (e4 : r4 = sA r3 54 (upd (ar r3 54) v.toNatClampNeg (fi r2 26))) : SPI r0 r4 M (v + 1) := by
  have hlen := SPI_len h
  have h' := h
  obtain ⟨g1, g2, g3, g4, g5, g6, g7⟩ := h
  obtain ⟨n1, n2, n3, n4, n5, n6, n7⟩ := h1
  obtain ⟨m1, m2, m3, m4, m5, m6, m7⟩ := h3
  have c0 : 0 ≤ fi r 26 := Int32.le_trans g3.1 g3.2.1
  have cp := g3.2.2
  have i26 : (fi r 26 + 1).toInt = (fi r 26).toInt + 1 := i_add (by simp; omega) (by have := hlen.1; simp; omega)
  have f2 : fi r2 26 = fi r 26 + 1 := by rw [e2]; exact n2
  rw [f2] at m2 m3 m4 m5 m6 m7 e4
  have i27 : (fi r 26 + 1 + 1).toInt = (fi r 26).toInt + 2 := by
    rw [i_add (by rw [i26]; simp; omega) (by rw [i26]; have := hlen.1; simp; omega), i26]
    simp
    omega
  have f26 : fi r4 26 = fi r 26 + 1 + 1 := by rw [e4]; exact m2
  have c1 : 0 ≤ fi r 26 + 1 := by rw [il, i26]; simp; omega
  have c2 : 0 ≤ fi r 26 + 1 + 1 := by rw [il, i27]; simp; omega
  have en : (fi r 26 + 1 + 1).toNatClampNeg = (fi r 26).toNatClampNeg + 1 + 1 ∧ (fi r 26 + 1).toNatClampNeg = (fi r 26).toNatClampNeg + 1 := by
    have q1 := i_nat c0
    have q2 := i_nat c1
    have q3 := i_nat c2
    omega
  have ne : ∀ k : Int32, k < fi r 26 → ¬ k = fi r 26 ∧ ¬ k = fi r 26 + 1 := fun k hk => by
    rw [it] at hk
    rw [ie, ie, i26]
    omega
  have nc : ¬ fi r 26 = fi r 26 + 1 := by rw [ie, i26]; omega
  have a2 : ∀ j, ¬ j = 53 → ar r2 j = ar r1 j := fun j hj => by rw [e2, ar_sA, if_neg hj]
  have a53 : ar r2 53 = upd (ar r1 53) v.toNatClampNeg (fi r 26) := by rw [e2, ar_sA, if_pos rfl]
  have a4 : ∀ j, ¬ j = 54 → ar r4 j = ar r3 j := fun j hj => by rw [e4, ar_sA, if_neg hj]
  have a54 : ar r4 54 = upd (ar r3 54) v.toNatClampNeg (fi r 26 + 1) := by rw [e4, ar_sA, if_pos rfl]
  have v53 : ar r4 53 v.toNatClampNeg = fi r 26 := by rw [a4 53 (by decide), m3 v g3.1 (ne v hv).2 53, a53, pk_us]
  have v54 : ar r4 54 v.toNatClampNeg = fi r 26 + 1 := by rw [a54, pk_us]
  -- the first new node
  have o1 : ∀ j, ¬ j = 53 → ¬ j = 54 → ar r4 j (fi r 26).toNatClampNeg = ar r1 j (fi r 26).toNatClampNeg := fun j j1 j2 => by rw [a4 j j2, m3 _ c0 nc j, a2 j j1]
  have x0 := g4 v g3.1 hv
  have x1 := g2.2 _ x0.1.1 x0.1.2
  have sz := hlen.2 v (Int32.le_refl _) hv
  have kids : ((0 ≤ e1 ∧ e1 < fi r 25) ∧ (0 ≤ e3 ∧ e3 < fi r 25)) ∧ szn r (ar r 50 v.toNatClampNeg) = 1 + szn r e1 + szn r e3 := by
    have s24 : (ar r 49 (ar r 50 v.toNatClampNeg).toNatClampNeg).toInt ≤ 24 := by
      unfold szn at sz
      omega
    rcases hk with ⟨k1, k2, k3⟩ | ⟨k1, k2, k3⟩
    · have q := x1.2.2.2.1 k1
      rw [k2, k3]
      exact ⟨⟨q.1, q.2.1⟩, q.2.2 s24⟩
    · have q := x1.2.2.2.2.1 k1
      rw [k2, k3]
      exact ⟨⟨q.1, q.2.1⟩, q.2.2 s24⟩
  have k4 : kd r4 v = kd r v := by
    unfold kd
    rw [a4 50 (by decide), m3 v g3.1 (ne v hv).2 50, a2 50 (by decide), n3 v g3.1 (ne v hv).1 50, a4 45 (by decide), m1.2.1 45 (by decide), a2 45 (by decide), n1.2.1 45 (by decide)]
  refine SPI_step h' hv (by rw [e4]; exact Fr_trans n1 (Fr_trans (by rw [e2]; exact Fr_sA (by decide)) (Fr_trans m1 (Fr_sA (by decide))))) (by rw [f26, il, i27]; omega) (fun k k0 k1 => ⟨fun j j1 j2 => by rw [a4 j j2, m3 k k0 (ne k k1).2 j, a2 j j1, n3 k k0 (ne k k1).1 j], fun kv => ⟨?_, ?_⟩⟩) (fun k k1 k2 => ?_) ⟨fun z => ?_, fun _ => ⟨⟨?_, ?_⟩, ⟨?_, ?_⟩, ?_, ⟨?_, ?_⟩, ?_, ?_⟩⟩ ?_
  · rw [a4 53 (by decide), m3 k k0 (ne k k1).2 53, a53, updI _ _ g3.1 k0, if_neg kv, n3 k k0 (ne k k1).1 53]
  · rw [a54, updI _ _ g3.1 k0, if_neg kv, m3 k k0 (ne k k1).2 54, a2 54 (by decide), n3 k k0 (ne k k1).1 54]
  · by_cases e : k = fi r 26
    · rw [e, o1 50 (by decide) (by decide), o1 59 (by decide) (by decide), o1 51 (by decide) (by decide), n4, n7, n5]
      exact ⟨kids.1.1, rfl, rfl⟩
    · have e' : k = fi r 26 + 1 := by
        rw [f26, it, i27] at k2
        rw [il] at k1
        rw [ie] at e ⊢
        rw [i26]
        omega
      rw [e', a4 50 (by decide), a4 59 (by decide), a4 51 (by decide), m4, m7, m5]
      exact ⟨kids.1.2, rfl, rfl⟩
  · exfalso
    rw [k4] at z
    rcases hk with ⟨y, _⟩ | ⟨y, _⟩ <;> rw [y] at z <;> exact absurd z (by decide)
  · rw [v53]; exact hv
  · rw [v53, f26, it, i27]; omega
  · rw [v54, it, i26]; rw [it] at hv; omega
  · rw [v54, f26, it, i27, i26]; omega
  · rw [v53, v54]; exact nc
  · rw [v53, o1 51 (by decide) (by decide)]; exact n5
  · rw [v54, a4 51 (by decide)]; exact m5
  · rw [v53, o1 52 (by decide) (by decide)]; exact n6
  · rw [v54, a4 52 (by decide)]; exact m6
  · rw [f26, en.1, sm, sm]
    have q1 := i_nat c0
    have q3 := i_nat g3.1
    rw [it] at hv
    have e49 : ar r4 49 = ar r 49 := by rw [a4 49 (by decide), m1.2.1 49 (by decide), a2 49 (by decide), n1.2.1 49 (by decide)]
    have s1 : gv r4 (v.toNatClampNeg + 1) (fi r 26).toNatClampNeg = szn r e1 := by
      unfold gv szn
      rw [if_neg (by omega), o1 50 (by decide) (by decide), n4, e49]
    have s2 : gv r4 (v.toNatClampNeg + 1) ((fi r 26).toNatClampNeg + 1) = szn r e3 := by
      unfold gv szn
      rw [if_neg (by omega), ← en.2, a4 50 (by decide), m4, e49]
    rw [s1, s2, kids.2]
    omega
theorem spread_L {r0 : S_} {M : Int} (hM : ML a) (hM24 : M ≤ 24) {KX : S_ → Prop} (hK : ∀ r, SPI r0 r M (fi r 26) → KX r) : ∀ (n : Nat) (r : S_) (v : Int32), SPI r0 r M v → M - v.toInt < n → qM_spread_L15 a KX n r v := by
  intro n
  induction n with
  | zero =>
    intro r v h hn
    have hlen := SPI_len h
    have h3 := h.2.2.1.2.1
    rw [il] at h3
    omega
  | succ n ih =>
    intro r v h hn
    have hlen := SPI_len h
    have h' := h
    obtain ⟨g1, g2, g3, g4, g5, g6, g7⟩ := h
    rw [qM_spread_L15]
    refine ⟨fun g => hK r ?_, fun g => ?_⟩
    · have e : v = fi r 26 := by
        have k := g3.2.1
        rw [il] at g k
        rw [ie]
        omega
      rw [e] at h'
      exact h'
    · have hv := Int32.not_le.mp g
      obtain ⟨p1, p2, p3⟩ := inc_le g3.1 hv
      have c0 : 0 ≤ fi r 26 := Int32.le_trans g3.1 g3.2.1
      have i25 : ∀ k, 36 ≤ k → k < 89 → ln0 k = 25 → vp_in v (ln a k) := fun k k1 k2 k3 => vi2 g3.1 hv (by rw [ml hM k1 k2 k3]; omega)
      have x0 := g4 v g3.1 hv
      have x1 := g2.2 _ x0.1.1 x0.1.2
      have f120 := g2.1.2
      rw [il] at f120
      have e120 : ∀ k, 36 ≤ k → k < 89 → ln0 k = 120 → vp_in (ar r 50 v.toNatClampNeg) (ln a k) := fun k k1 k2 k3 => vi2 x0.1.1 x0.1.2 (by rw [ml hM k1 k2 k3]; simpa using f120)
      have sz := hlen.2 v (Int32.le_refl _) hv
      unfold qM_spread_J165
      have nx : ∀ r2, SPI r0 r2 M (v + 1) → qM_spread_L15 a KX n r2 (v + 1) := fun r2 h2 => ih r2 _ h2 (by omega)
      have two : ∀ (e1 e3 : Int32) (j : Nat), ((kd r v = 2 ∧ e1 = ar r 46 (ar r 50 v.toNatClampNeg).toNatClampNeg ∧ e3 = ar r 47 (ar r 50 v.toNatClampNeg).toNatClampNeg) ∨ (kd r v = 3 ∧ e1 = ar r 47 (ar r 50 v.toNatClampNeg).toNatClampNeg ∧ e3 = ar r 48 (ar r 50 v.toNatClampNeg).toNatClampNeg)) → (fi r 26).toInt + 2 ≤ M := fun e1 e3 j hk => by
        have s24 : (ar r 49 (ar r 50 v.toNatClampNeg).toNatClampNeg).toInt ≤ 24 := by
          have := g3.2.2
          unfold szn at sz
          omega
        unfold szn at sz
        rcases hk with ⟨k1, k2, k3⟩ | ⟨k1, k2, k3⟩
        · have q := x1.2.2.2.1 k1
          have z := q.2.2 s24
          have z1 := (g2.2 _ q.1.1 q.1.2).1
          have z2 := (g2.2 _ q.2.1.1 q.2.1.2).1
          omega
        · have q := x1.2.2.2.2.1 k1
          have z := q.2.2 s24
          have z1 := (g2.2 _ q.1.1 q.1.2).1
          have z2 := (g2.2 _ q.2.1.1 q.2.1.2).1
          omega
      refine ⟨i25 50 (by decide) (by decide) rfl, e120 45 (by decide) (by decide) rfl, fun k1 => ⟨e120 45 (by decide) (by decide) rfl, fun k2 => ⟨e120 45 (by decide) (by decide) rfl, fun k3 => nx r (SPI_leaf h' hv ⟨k1, k2, k3⟩), fun k3 => ?_⟩, fun k2 => ?_⟩, fun k1 => ?_⟩
      · have hk : (kd r v = 2 ∧ ar r 47 (ar r 50 v.toNatClampNeg).toNatClampNeg = ar r 46 (ar r 50 v.toNatClampNeg).toNatClampNeg ∧ ar r 48 (ar r 50 v.toNatClampNeg).toNatClampNeg = ar r 47 (ar r 50 v.toNatClampNeg).toNatClampNeg) ∨ (kd r v = 3 ∧ ar r 47 (ar r 50 v.toNatClampNeg).toNatClampNeg = ar r 47 (ar r 50 v.toNatClampNeg).toNatClampNeg ∧ ar r 48 (ar r 50 v.toNatClampNeg).toNatClampNeg = ar r 48 (ar r 50 v.toNatClampNeg).toNatClampNeg) := Or.inr ⟨k3, rfl, rfl⟩
        have hr := two _ _ 0 hk
        refine ⟨e120 47 (by decide) (by decide) rfl, addNode_ok hM c0 (by omega) (fun r1 h1 => ⟨i25 53 (by decide) (by decide) rfl, fun r2 e2 => ⟨e120 48 (by decide) (by decide) rfl, ?_⟩⟩)⟩
        have f2 : fi r2 26 = fi r 26 + 1 := by rw [e2]; exact h1.2.1
        have i26 : (fi r 26 + 1).toInt = (fi r 26).toInt + 1 := i_add (by have := g3.2.2; simp; omega) (by simp; omega)
        have e48 : ar r2 48 = ar r 48 := by rw [e2]; exact h1.1.2.1 48 (by decide)
        rw [e48]
        exact addNode_ok hM (by rw [f2, il, i26]; have := g3.2.2; simp; omega) (by rw [f2, i26]; omega) (fun r3 h3 => ⟨i25 54 (by decide) (by decide) rfl, fun r4 e4 => nx r4 (spr_two h' hM24 hv hk h1 e2 h3 e4)⟩)
      · have hk : (kd r v = 2 ∧ ar r 46 (ar r 50 v.toNatClampNeg).toNatClampNeg = ar r 46 (ar r 50 v.toNatClampNeg).toNatClampNeg ∧ ar r 47 (ar r 50 v.toNatClampNeg).toNatClampNeg = ar r 47 (ar r 50 v.toNatClampNeg).toNatClampNeg) ∨ (kd r v = 3 ∧ ar r 46 (ar r 50 v.toNatClampNeg).toNatClampNeg = ar r 47 (ar r 50 v.toNatClampNeg).toNatClampNeg ∧ ar r 47 (ar r 50 v.toNatClampNeg).toNatClampNeg = ar r 48 (ar r 50 v.toNatClampNeg).toNatClampNeg) := Or.inl ⟨k2, rfl, rfl⟩
        have hr := two _ _ 0 hk
        refine ⟨e120 46 (by decide) (by decide) rfl, addNode_ok hM c0 (by omega) (fun r1 h1 => ⟨i25 53 (by decide) (by decide) rfl, fun r2 e2 => ⟨e120 47 (by decide) (by decide) rfl, ?_⟩⟩)⟩
        have f2 : fi r2 26 = fi r 26 + 1 := by rw [e2]; exact h1.2.1
        have i26 : (fi r 26 + 1).toInt = (fi r 26).toInt + 1 := i_add (by have := g3.2.2; simp; omega) (by simp; omega)
        have e47 : ar r2 47 = ar r 47 := by rw [e2]; exact h1.1.2.1 47 (by decide)
        rw [e47]
        exact addNode_ok hM (by rw [f2, il, i26]; have := g3.2.2; simp; omega) (by rw [f2, i26]; omega) (fun r3 h3 => ⟨i25 54 (by decide) (by decide) rfl, fun r4 e4 => nx r4 (spr_two h' hM24 hv hk h1 e2 h3 e4)⟩)
      · refine ⟨e120 47 (by decide) (by decide) rfl, addNode_ok hM c0 (by have := hlen.1; omega) (fun r1 h1 => ⟨i25 53 (by decide) (by decide) rfl, fun r2 e2 => nx r2 (spr_one h' hM24 hv k1 rfl h1 e2)⟩)⟩
end SPREAD2
