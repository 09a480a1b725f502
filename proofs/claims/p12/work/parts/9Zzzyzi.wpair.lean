/-! Calls on both sides: wants, want; their answers agree. -/
section ZWPAIR
variable {ad l : Nat → Nat} {r : S_} {p q : Int32}
theorem wantsT_pair (h : INV l r) (hT : TAG r) {K : S_ → Prop} (hK : ∀ r', INV l r' → kp r' = kp r → K r') : qI_wants (ad, l) r (fun z => qM_wants (ad, l) (fun z2 r2 => z = z2 ∧ K r2) r) := by
  unfold qI_wants qM_wants qD_wantCount
  intro r1 e1
  rw [e1]
  exact ⟨hT.2, hK _ (INV_20 h) rfl⟩
theorem dec_i {v : Int32} (h0 : 0 ≤ v) (nz : ¬ v = 0) : 0 ≤ v + -1 ∧ v.toNatClampNeg = (v + -1).toNatClampNeg + 1 := by
  have n3 := i_nat h0
  have hp : 0 < v.toInt := by
    rw [ie] at nz
    rw [il] at h0
    simp at nz h0
    omega
  have d1 : (v + -1).toInt = v.toInt - 1 := by
    have mx : v.toInt ≤ 2147483647 := Int32.toInt_le _
    rw [i_add (by simp; omega) (by simp; omega)]
    simp
    omega
  have c0 : 0 ≤ v + -1 := by rw [il, d1]; simp; omega
  have n4 := i_nat c0
  exact ⟨c0, by omega⟩
theorem wantAt_val (w : TD l r) {K : Int32 → Prop} {x : Nat × Int32} (p0 : 0 ≤ p) (hx : (WF (fun i c => gb (ar r 35 i) c) 0 (fi r 17).toNatClampNeg)[p.toNatClampNeg]? = some x) (hK : ∀ z, ((¬ q = 0) → z = x.2) → ((q = 0) → z = Int32.ofNat x.1) → K z) : qD_wantAt (ad, l) r K p q := by
  obtain ⟨⟨⟨t1, t2, t3, t4, t5⟩, ⟨c1, c2⟩, -⟩, d1, d2⟩ := w
  have h46 : ((¬ q = 0) → K x.2) ∧ ((q = 0) → K (Int32.ofNat x.1)) := ⟨fun z => hK _ (fun _ => rfl) (fun z2 => absurd z2 z), fun z => hK _ (fun z2 => absurd z z2) (fun _ => rfl)⟩
  have inner : ∀ (KX67 : Int32 → Int32 → Int32 → Prop) (T : List (Nat × Int32)) (v4 : Int32), 0 ≤ v4 → v4 < fi r 17 → (∀ v3 : Int32, 0 ≤ v3 → T[v3.toNatClampNeg]? = some x → KX67 q v3 v4) → ∀ (n : Nat) (v3 v5 : Int32), 0 ≤ v3 → 0 ≤ v5 → v5 ≤ 8 → 8 - v5.toInt < n → (blk (fun c => gb (ar r 35 v4.toNatClampNeg) c) v4 v5.toNatClampNeg (8 - v5.toNatClampNeg) ++ T)[v3.toNatClampNeg]? = some x → qD_wantAt_L17 (ad, l) r (fun v2 v4 v5 => ((¬ v2 = 0) → K v4) ∧ ((v2 = 0) → K v5)) KX67 n q v3 v4 v5 := by
    intro KX67 T v4 a1 a2 h67 n
    induction n with
    | zero => intro v3 v5 _ k1 k2 k3; rw [il] at k2; simp at k2; omega
    | succ n ih =>
      intro v3 v5 k0 k1 k2 k3 hb
      have n5 := i_nat k1
      rw [qD_wantAt_L17]
      refine ⟨fun ge => h67 v3 k0 ?_, fun g => ?_⟩
      · have e8 : v5.toNatClampNeg = 8 := by
          rw [il] at ge k2
          simp at ge k2
          omega
        rw [e8, Nat.sub_self, blk, List.nil_append] at hb
        exact hb
      have g1 : v5 < 8 := Int32.not_le.mp g
      have hi := i_inc g1
      have g1' := g1
      rw [it] at g1'
      simp at g1'
      have e0 : 0 ≤ v5 + 1 := by rw [il, hi]; simp; omega
      have e1 : v5 + 1 ≤ 8 := by rw [il, hi]; simp; omega
      have e2 : 8 - (v5 + 1).toInt < n := by rw [hi]; omega
      have n6 := i_nat e0
      have sn : (v5 + 1).toNatClampNeg = v5.toNatClampNeg + 1 := by omega
      have k8 : 8 - v5.toNatClampNeg = (8 - (v5 + 1).toNatClampNeg) + 1 := by omega
      rw [k8, blk, ← sn, List.append_assoc] at hb
      have bc := bt_c (v := ar r 35 v4.toNatClampNeg) k1 g1
      unfold qD_wantAt_J61
      refine ⟨vi2 a1 a2 (by show (fi r 17).toInt ≤ l 35; rw [t3]; omega), fun yb => ?_, fun nb => ?_⟩
      · have yt : gb (ar r 35 v4.toNatClampNeg) v5.toNatClampNeg = true := by
          cases hg : gb (ar r 35 v4.toNatClampNeg) v5.toNatClampNeg with
          | true => rfl
          | false => exact absurd (bc.mpr hg) yb
        rw [if_pos yt] at hb
        refine ⟨fun nz => ?_, fun z => ?_⟩
        · obtain ⟨c0, e3⟩ := dec_i k0 nz
          refine ih (v3 + -1) (v5 + 1) c0 e0 e1 e2 ?_
          rw [e3, List.cons_append, List.nil_append, List.getElem?_cons_succ] at hb
          exact hb
        · have z3 : v3.toNatClampNeg = 0 := by rw [z]; decide
          rw [z3, List.cons_append, List.nil_append, List.getElem?_cons_zero] at hb
          have ex : (v5.toNatClampNeg, v4) = x := Option.some.inj hb
          rw [← ex] at h46
          have e5 := ix_o k1
          refine ⟨h46.1, fun z => ?_⟩
          have := h46.2 z
          rw [e5] at this
          exact this
      · rw [if_neg (by rw [bc.mp nb]; decide), List.nil_append] at hb
        exact ih v3 (v5 + 1) k0 e0 e1 e2 hb
  have key : ∀ (n : Nat) (v3 v4 : Int32), 0 ≤ v3 → 0 ≤ v4 → v4 ≤ fi r 17 → (fi r 17).toInt - v4.toInt < n → (WF (fun i c => gb (ar r 35 i) c) v4.toNatClampNeg ((fi r 17).toNatClampNeg - v4.toNatClampNeg))[v3.toNatClampNeg]? = some x → qD_wantAt_L5 (ad, l) r (fun v2 v4 v5 => ((¬ v2 = 0) → K v4) ∧ ((v2 = 0) → K v5)) (K (-1)) n q v3 v4 := by
    intro n
    induction n with
    | zero => intro v3 v4 _ k1 k2 k3; rw [il] at k2; omega
    | succ n ih =>
      intro v3 v4 k0 k1 k2 k3 hb
      have n4 := i_nat k1
      have n17 := i_nat d1
      rw [qD_wantAt_L5]
      refine ⟨fun ge => ?_, fun g => ?_⟩
      · rw [il] at ge k2
        have e : (fi r 17).toNatClampNeg - v4.toNatClampNeg = 0 := by omega
        rw [e, WF] at hb
        exact absurd hb (by simp)
      have g1 : v4 < fi r 17 := Int32.not_le.mp g
      have hi := i_inc g1
      have g1' := g1
      rw [it] at g1'
      have e0 : 0 ≤ v4 + 1 := by rw [il] at k1 ⊢; rw [hi]; simp at k1 ⊢; omega
      have e1 : v4 + 1 ≤ fi r 17 := by rw [il, hi]; omega
      have n5 := i_nat e0
      have sn : (v4 + 1).toNatClampNeg = v4.toNatClampNeg + 1 := by omega
      have k : (fi r 17).toNatClampNeg - v4.toNatClampNeg = ((fi r 17).toNatClampNeg - (v4 + 1).toNatClampNeg) + 1 := by omega
      rw [k, WF, ← sn, ix_o k1] at hb
      have z0 : ((0 : Int32)).toNatClampNeg = 0 := by decide
      exact ⟨9, inner (fun v2 v3 v4 => qD_wantAt_L5 (ad, l) r (fun v2 v4 v5 => ((¬ v2 = 0) → K v4) ∧ ((v2 = 0) → K v5)) (K (-1)) n v2 v3 (v4 + 1)) (WF (fun i c => gb (ar r 35 i) c) (v4 + 1).toNatClampNeg ((fi r 17).toNatClampNeg - (v4 + 1).toNatClampNeg)) v4 k1 g1 (fun v3 c0 hT => ih v3 (v4 + 1) c0 e0 e1 (by rw [hi]; omega) hT) 9 v3 0 k0 (by decide) (by decide) (by decide) (by rw [z0, Nat.sub_zero]; exact hb)⟩
  have c0 := i_nat d1
  have z0 : ((0 : Int32)).toNatClampNeg = 0 := by decide
  unfold qD_wantAt
  exact ⟨(fi r 17).toNatClampNeg + 1, key _ _ _ p0 (by decide) d1 (by simp; omega) (by rw [z0, Nat.sub_zero]; exact hx)⟩
theorem wantT_pair (h : INV l r) (hT : TAG r) {K : S_ → Prop} (hK : ∀ r', INV l r' → kp r' = kp r → K r') : qI_want (ad, l) r (fun z => qM_want (ad, l) (fun z2 r2 => z = z2 ∧ K r2) r p q) p q := by
  have fin : K (sF r 20 0) := hK _ (INV_20 h) rfl
  have m := h.2.2.1
  obtain ⟨⟨a1, a2, -⟩, -⟩ := h.2.2.2.1
  have l81 : l 81 = 20000 := ml (n := 20000) m (by decide) (by decide) rfl
  have l82 : l 82 = 20000 := ml (n := 20000) m (by decide) (by decide) rfl
  have a3 : fi r 38 ≤ 1000000 := by clear h m hT; grind
  have a4 : (fi r 38).toInt ≤ 20000 := by rw [il] at a2; simpa using a2
  have G : ∀ z : Int32, ((¬ (0 ≤ p ∧ p < fi r 38) ∨ (q < 0 ∨ 1 < q)) → z = -1) → (0 ≤ p → p < fi r 38 → ¬ q < 0 → ¬ 1 < q → (¬ q = 0 → z = ar r 82 p.toNatClampNeg) ∧ (q = 0 → z = ar r 81 p.toNatClampNeg)) → qM_want (ad, l) (fun z2 r2 => z = z2 ∧ K r2) r p q := fun z hb hg => by
    unfold qM_want qM_want_J28
    intro r1 e1
    subst e1
    refine rin_ix (r := sF r 20 0) (c := fi (sF r 20 0) 38) a1 a3 (fun z => ⟨fun _ => ⟨hb (Or.inl z), fin⟩, fun z => absurd rfl z⟩) (fun p0 p1 => ⟨fun z => absurd z (by decide), fun _ => rin_ok (fun z => ⟨fun z => absurd rfl z, fun _ => ⟨hb (Or.inr z), fin⟩⟩) (fun q0 q1 => ⟨fun _ => ⟨fun z => ⟨?_, (hg p0 p1 q0 q1).1 z, fin⟩, fun z => ⟨?_, (hg p0 p1 q0 q1).2 z, fin⟩⟩, fun z => absurd z (by decide)⟩)⟩)
    · exact vi2 p0 p1 (by show (fi r 38).toInt ≤ l 82; rw [l82]; exact a4)
    · exact vi2 p0 p1 (by show (fi r 38).toInt ≤ l 81; rw [l81]; exact a4)
  obtain ⟨⟨t38, tl, ti⟩, t18⟩ := hT
  unfold qI_want qD_wantCount
  rw [t18]
  refine ⟨fun z => G _ (fun _ => rfl) (fun p0 => absurd z (Int32.not_lt.mpr p0)), fun z => ⟨fun z2 => G _ (fun _ => rfl) (fun _ p1 => absurd z2 (Int32.not_le.mpr p1)), fun z2 => ⟨fun z3 => G _ (fun _ => rfl) (fun _ _ q0 => absurd z3 q0), fun z3 => ⟨fun z4 => ?_, fun z4 => G _ (fun _ => rfl) (fun _ _ _ q1 => absurd (Int32.not_lt.mp q1) z4)⟩⟩⟩⟩
  have p0 := Int32.not_lt.mp z
  have p1 := Int32.not_le.mp z2
  have np := i_nat p0
  have oL := ofNs (n := (WF (fun i c => gb (ar r 35 i) c) 0 (fi r 17).toNatClampNeg).length) (by omega)
  have hl : p.toNatClampNeg < (WF (fun i c => gb (ar r 35 i) c) 0 (fi r 17).toNatClampNeg).length := by
    rw [it, t38, oL.1] at p1
    omega
  have tp := ti p.toNatClampNeg hl
  refine wantAt_val h.1.2.2.2.2.1 p0 (List.getElem?_eq_getElem hl) (fun w w1 w2 => G w (fun hb => ?_) (fun _ _ _ _ => ⟨fun n => ?_, fun y => ?_⟩))
  · rcases hb with hb | hb | hb
    · exact absurd ⟨p0, p1⟩ hb
    · exact absurd hb z3
    · exact absurd z4 (Int32.not_le.mpr hb)
  · rw [w1 n, tp.2]
  · rw [w2 y, tp.1]
theorem TAG_kp {r2 : S_} (h : TAG r) (e : kp r2 = kp r) : TAG r2 := by
  have e17 : fi r2 17 = fi r 17 := congrArg (fun x => x.2.2.2.2.1) e
  have e18 : fi r2 18 = fi r 18 := congrArg (fun x => x.2.2.2.2.2.1) e
  have e38 : fi r2 38 = fi r 38 := congrArg (fun x => x.2.2.2.2.2.2.1) e
  have e35 : ar r2 35 = ar r 35 := congrArg (fun x => x.2.2.2.2.2.2.2.1) e
  have e81 : ar r2 81 = ar r 81 := congrArg (fun x => x.2.2.2.2.2.2.2.2.1) e
  have e82 : ar r2 82 = ar r 82 := congrArg (fun x => x.2.2.2.2.2.2.2.2.2) e
  unfold TAG TL2 at h ⊢
  rw [e17, e18, e35, e38, e81, e82]
  exact h
theorem TAG0 : TAG r0 := by
  have z : (fi r0 17).toNatClampNeg = 0 := by rw [fz 17 (by decide)]; decide
  unfold TAG TL2
  rw [z]
  exact ⟨⟨by rw [fz 38 (by decide)]; rfl, Nat.zero_le _, fun i hi => absurd hi (Nat.not_lt_zero _)⟩, by rw [fz 18 (by decide), fz 38 (by decide)]⟩
end ZWPAIR
