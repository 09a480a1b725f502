/-! The reference: the last type is kept: numbers and wants. -/
section KEEP2
variable {a : L_} {r : S_} {rh ta : Int32 → Int32} {N : Int32}
theorem cM_mark {x mk c : Int32} (x0 : 0 ≤ x) (x1 : x < c) (h : ¬ ar r 68 x.toNatClampNeg = mk) : cM (sA r 68 (upd (ar r 68) x.toNatClampNeg mk)) mk c = cM r mk c + 1 := by
  unfold cM
  rw [ar_sA, if_pos rfl]
  exact cnt_more (i := x.toNatClampNeg) (nl x0 x1) (by simpa using h) (by rw [pk_us]; simp) (fun j _ hj => by rw [pk_un hj])
def NB (r0 r : S_) (C : Int32 → Prop) (v : Int32) (d : Int) : Prop := Fr [36] [68, 72, 83] r0 r ∧ (∀ i, i < v.toNatClampNeg → C (ar r 72 i)) ∧ (0 ≤ v.toInt ∧ v.toInt + d ≤ 1 + (cM r (fi r0 29) (fi r0 28) : Int))
theorem NB_push {r0 : S_} {C : Int32 → Prop} {v y : Int32} {d : Int} (hM : ML a) (c0 : 0 ≤ fi r0 28) (h28 : (fi r0 28).toInt ≤ 40000) (h : NB r0 r C v (d + 1)) (hd : 0 ≤ d) (hy : C y) : NB r0 (sA r 72 (upd (ar r 72) v.toNatClampNeg y)) C (v + 1) d ∧ vp_in v (ln a 72) ∧ (v + 1).toInt = v.toInt + 1 ∧ cM (sA r 72 (upd (ar r 72) v.toNatClampNeg y)) (fi r0 29) (fi r0 28) = cM r (fi r0 29) (fi r0 28) := by
  obtain ⟨F, h2, h30, h3⟩ := h
  have cl := cM_le (r := r0) c0 (q := r) (mk := fi r0 29)
  have v0 : 0 ≤ v := by rw [il]; simpa using h30
  have v1 : (v + 1).toInt = v.toInt + 1 := i_add (by simp; omega) (by simp; omega)
  have v10 : 0 ≤ v + 1 := by rw [il, v1]; simp; omega
  have sv : (v + 1).toNatClampNeg = v.toNatClampNeg + 1 := by
    have e1 := i_nat v0
    have e2 := i_nat v10
    omega
  refine ⟨⟨Fr_trans F (Fr_sA (by decide)), fun i hi => ?_, by omega, ?_⟩, vi v0 (by rw [ml (n := 200000) hM (by decide) (by decide) rfl]; omega), v1, cM_72⟩
  · rw [ar_sA, if_pos rfl]
    rw [sv] at hi
    by_cases e : i = v.toNatClampNeg
    · rw [e, pk_us]; exact hy
    · rw [pk_un e]; exact h2 i (by omega)
  · rw [cM_72, v1]
    omega
theorem num_L27 {r0 : S_} {C : Int32 → Prop} (hM : ML a) (c0 : 0 ≤ fi r0 28) (h28 : (fi r0 28).toInt ≤ 40000) (cc : CC r0 C) (hC : ∀ x, C x → vt r0 x) {KX : S_ → Prop} (hK : ∀ r, Fr [36] [68, 72, 83] r0 r → KX r) : ∀ (n : Nat) (r : S_) (v : Int32), NB r0 r C v 0 → 2 * ((fi r0 28).toInt - cM r (fi r0 29) (fi r0 28)) + v.toInt < n → qM_number_L27 a KX n r v := by
  intro n
  induction n with
  | zero =>
    intro r v h hn
    have cl := cM_le (r := r0) c0 (q := r) (mk := fi r0 29)
    have := h.2.2.1
    omega
  | succ n ih =>
    intro r v h hn
    have cl := cM_le (r := r0) c0 (q := r) (mk := fi r0 29)
    have h' := h
    obtain ⟨F, h2, h30, h3⟩ := h
    have e29 : fi r 29 = fi r0 29 := F.1 29 (by decide)
    rw [qM_number_L27, e29]
    refine ⟨fun _ => hK r F, fun g => ?_⟩
    have hv : 0 < v.toInt := by
      have g3 : 0 < v := Int32.not_le.mp g
      rw [it] at g3
      simpa using g3
    have hd : (v + -1).toInt = v.toInt - 1 := by
      rw [i_add (by simp; omega) (by simp; omega)]
      simp
      omega
    have d0 : 0 ≤ v + -1 := by rw [il, hd]; simp; omega
    have v0 : 0 ≤ v := by rw [il]; simp; omega
    have dn : (v + -1).toNatClampNeg < v.toNatClampNeg := by
      have e1 := i_nat d0
      have e2 := i_nat v0
      omega
    obtain ⟨x, ex⟩ : ∃ x, x = ar r 72 (v + -1).toNatClampNeg := ⟨_, rfl⟩
    have Cx : C x := by rw [ex]; exact h2 _ dn
    have vx := hC x Cx
    have c := cc x Cx
    rw [← ex]
    have tx : ∀ k, 36 ≤ k → k < 89 → ln0 k = 40000 → vp_in x (ln a k) := fun k k1 k2 k3 => vi2 vx.1 vx.2 (by rw [ml hM k1 k2 k3]; exact h28)
    have wk : ∀ i, i < (v + -1).toNatClampNeg → C (ar r 72 i) := fun i hi => h2 i (by omega)
    unfold qM_number_J141
    refine ⟨vi d0 (by rw [ml (n := 200000) hM (by decide) (by decide) rfl]; omega), tx 68 (by decide) (by decide) rfl, fun _ => ih r _ ⟨F, wk, by omega, by omega⟩ (by omega), fun gm => ⟨tx 68 (by decide) (by decide) rfl, fun r10 e10 => ?_⟩⟩
    have m10 : cM r10 (fi r0 29) (fi r0 28) = cM r (fi r0 29) (fi r0 28) + 1 := by rw [e10]; exact cM_mark vx.1 vx.2 gm
    have F10 : Fr [36] [68, 72, 83] r0 r10 := by rw [e10]; exact Fr_trans F (Fr_sA (by decide))
    have a10 : ar r10 72 = ar r 72 := by rw [e10]; rfl
    have B10 : NB r0 r10 C (v + -1) 2 := ⟨F10, by rw [a10]; exact wk, by omega, by rw [m10, hd]; omega⟩
    have j93 : ∀ r2 : S_, NB r0 r2 C (v + -1) 2 → cM r2 (fi r0 29) (fi r0 28) = cM r (fi r0 29) (fi r0 28) + 1 → qM_number_J93 a (qM_number_L27 a KX n) KX r2 (v + -1) x := fun r2 B2 m2 => by
      have e78 : ∀ q : S_, Fr [36] [68, 72, 83] r0 q → ar q 78 = ar r0 78 := fun q Fq => Fq.2.1 78 (by decide)
      have e79 : ar r2 79 = ar r0 79 := B2.1.2.1 79 (by decide)
      have j117 : ∀ (q : S_) (u : Int32), NB r0 q C u 1 → cM q (fi r0 29) (fi r0 28) = cM r (fi r0 29) (fi r0 28) + 1 → u.toInt ≤ v.toInt → qM_number_J117 a (qM_number_L27 a KX n) KX q u x := fun q u Bq mq uq => by
        unfold qM_number_J117 qM_number_J141
        rw [e78 q Bq.1]
        refine ⟨tx 78 (by decide) (by decide) rfl, fun _ => ih q u ⟨Bq.1, Bq.2.1, Bq.2.2.1, by have := Bq.2.2.2; omega⟩ (by rw [mq]; omega), fun g1 => ⟨tx 78 (by decide) (by decide) rfl, ?_⟩⟩
        obtain ⟨P1, P2, P3, P4⟩ := NB_push (a := a) (d := 0) hM c0 h28 Bq (by omega) (c.2.1.2 (Int32.not_lt.mp g1))
        refine ⟨P2, fun r19 e19 => ?_⟩
        rw [e19]
        exact ih _ _ P1 (by rw [P3, P4, mq]; omega)
      unfold qM_number_J93
      rw [e79]
      refine ⟨tx 79 (by decide) (by decide) rfl, fun _ => j117 r2 _ ⟨B2.1, B2.2.1, B2.2.2.1, by have := B2.2.2.2; omega⟩ m2 (by omega), fun g1 => ⟨tx 79 (by decide) (by decide) rfl, ?_⟩⟩
      obtain ⟨P1, P2, P3, P4⟩ := NB_push (a := a) (d := 1) hM c0 h28 B2 (by omega) (c.2.2.1.2 (Int32.not_lt.mp g1))
      refine ⟨P2, fun r22 e22 => ?_⟩
      rw [e22]
      exact j117 _ _ P1 (by rw [P4]; exact m2) (by rw [P3]; omega)
    refine ⟨tx 77 (by decide) (by decide) rfl, fun _ => j93 r10 B10 m10, fun _ => ⟨tx 83 (by decide) (by decide) rfl, fun r24 e24 r25 e25 => ?_⟩⟩
    have e68 : ar r25 68 = ar r10 68 := by rw [e25, e24]; rfl
    have m25 : cM r25 (fi r0 29) (fi r0 28) = cM r10 (fi r0 29) (fi r0 28) := by unfold cM; rw [e68]
    refine j93 r25 ⟨?_, ?_, B10.2.2.1, by rw [m25]; exact B10.2.2.2⟩ (by rw [m25]; exact m10)
    · rw [e25, e24]
      exact Fr_trans F10 (Fr_trans (Fr_sA (by decide)) (Fr_sF (by decide)))
    · have e72 : ar r25 72 = ar r10 72 := by rw [e25, e24]; rfl
      rw [e72]
      exact B10.2.1
theorem num_L146 {r0 : S_} (hM : ML a) (h28 : (fi r0 28).toInt ≤ 40000) (h0 : 0 ≤ fi r0 30) (h30 : (fi r0 30).toInt ≤ 40000) (hv : ∀ i, i < (fi r0 30).toNatClampNeg → vt r0 (ar r0 73 i)) {KX : S_ → Prop} (hK : ∀ r, Fr [] [77] r0 r → KX r) : ∀ (n : Nat) (r : S_) (v : Int32), Fr [] [77] r0 r → 0 ≤ v → v ≤ fi r0 30 → (fi r0 30).toInt - v.toInt < n → qM_number_L146 a KX n r v := by
  intro n
  induction n with
  | zero =>
    intro r v _ _ h1 h
    rw [il] at h1
    omega
  | succ n ih =>
    intro r v F v0 h1 h
    have e30 : fi r 30 = fi r0 30 := F.1 30 List.not_mem_nil
    have e73 : ar r 73 = ar r0 73 := F.2.1 73 (by decide)
    rw [qM_number_L146, e30, e73]
    refine ⟨fun _ => hK r F, fun g => ?_⟩
    have g' := Int32.not_le.mp g
    obtain ⟨p1, p2, p3⟩ := inc_le v0 g'
    have vx := hv _ (nl v0 g')
    have tx : ∀ k, 36 ≤ k → k < 89 → ln0 k = 40000 → vp_in (ar r0 73 v.toNatClampNeg) (ln a k) := fun k k1 k2 k3 => vi2 vx.1 vx.2 (by rw [ml hM k1 k2 k3]; exact h28)
    have i73 : vp_in v (ln a 73) := vi2 v0 g' (by rw [ml (n := 40000) hM (by decide) (by decide) rfl]; exact h30)
    have j205 : ∀ u0 : Int32, qM_number_J205 a (qM_number_L146 a KX n) KX r v u0 (ar r0 73 v.toNatClampNeg) := fun u0 => by
      unfold qM_number_J205
      refine ⟨tx 77 (by decide) (by decide) rfl, fun r34 e34 => ?_⟩
      rw [e34]
      exact ih _ _ (Fr_trans F (Fr_sA (by decide))) p1 p2 (by omega)
    exact ⟨i73, i73, tx 77 (by decide) (by decide) rfl, fun _ => ⟨i73, tx 77 (by decide) (by decide) rfl, j205 _⟩, fun _ => ⟨i73, tx 83 (by decide) (by decide) rfl, j205 _⟩⟩
theorem number_ok {C : Int32 → Prop} (hM : ML a) (c0 : 0 ≤ fi r 28) (h28 : (fi r 28).toInt ≤ 40000) (h0 : 0 ≤ fi r 30) (h30 : (fi r 30).toInt ≤ 40000) (hv : ∀ i, i < (fi r 30).toNatClampNeg → vt r (ar r 73 i)) (cc : CC r C) (hC : ∀ x, C x → vt r x) (rt : C (fi r 37)) {K : S_ → Prop} (hK : ∀ r', Fr [29, 36] [68, 72, 77, 83] r r' → K r') : qM_number a K r := by
  unfold qM_number
  intro r1 e1 r2 e2
  refine ⟨vi (by decide) (by rw [ml (n := 200000) hM (by decide) (by decide) rfl]; decide), fun r4 e4 => ?_⟩
  have F4 : Fr [29, 36] [72] r r4 := by rw [e4, e2, e1]; exact Fr_trans (Fr_sF (by decide)) (Fr_trans (Fr_sF (by decide)) (Fr_sA (by decide)))
  have e37 : fi r2 37 = fi r 37 := by rw [e2, e1]; rfl
  have w0 : ar r4 72 0 = fi r 37 := by
    have e : ar r4 72 = upd (ar r2 72) ((0 : Int32)).toNatClampNeg (fi r2 37) := by rw [e4]; rfl
    rw [e, ← e37]
    exact pk_us
  have f28 : fi r4 28 = fi r 28 := F4.1 28 (by decide)
  have f30 : fi r4 30 = fi r 30 := F4.1 30 (by decide)
  have e73 : ar r4 73 = ar r 73 := F4.2.1 73 (by decide)
  have v4 : ∀ x, vt r4 x ↔ vt r x := fun x => vt_eq f28
  have cc4 : CC r4 C := by
    unfold CC
    rw [F4.2.1 78 (by decide), F4.2.1 79 (by decide)]
    exact cc
  have hv4 : ∀ i, i < (fi r4 30).toNatClampNeg → vt r4 (ar r4 73 i) := fun i hi => by
    rw [f30] at hi
    rw [e73]
    exact (v4 _).mpr (hv i hi)
  refine ⟨(2 * ((fi r4 28).toInt - cM r4 (fi r4 29) (fi r4 28)) + 1).toNat + 1, num_L27 (C := C) hM (by rw [f28]; exact c0) (by rw [f28]; exact h28) cc4 (fun x hx => (v4 x).mpr (hC x hx)) (fun r5 F5 => ?_) _ r4 1 ⟨Fr_refl _, fun i hi => ?_, by decide, ?_⟩ ?_⟩
  · have f5 : fi r5 30 = fi r4 30 := F5.1 30 (by decide)
    refine ⟨(fi r5 30).toInt.toNat + 1, num_L146 (r0 := r5) hM (by rw [F5.1 28 (by decide), f28]; exact h28) (by rw [f5, f30]; exact h0) (by rw [f5, f30]; exact h30) (fun i hi => ?_) (fun r6 F6 => hK r6 (Fr_trans (Fr_mono F4 (by decide) (by decide)) (Fr_trans (Fr_mono F5 (by decide) (by decide)) (Fr_mono F6 (by decide) (by decide))))) _ r5 0 (Fr_refl _) (Int32.le_refl _) (by rw [f5, f30]; exact h0) (fu (by rw [f5, f30]; exact h0))⟩
    rw [f5] at hi
    rw [F5.2.1 73 (by decide)]
    exact (vt_eq (F5.1 28 (by decide))).mpr (hv4 i hi)
  · have e : i = 0 := by
      have : ((1 : Int32)).toNatClampNeg = 1 := by decide
      omega
    rw [e, w0]
    exact rt
  · show (1 : Int) + 0 ≤ _
    omega
  · have z : (1 : Int32).toInt = 1 := rfl
    rw [z]
    omega
theorem kp_L339 {r0 : S_} {v2 v3 v4 : Int32} (hM : ML a) (h23 : 0 ≤ fi r0 23 ∧ fi r0 23 ≤ 8) (w0 : 0 ≤ fi r0 38) (w1 : (fi r0 38).toInt + 8 ≤ 20000) {KX : S_ → Int32 → Int32 → Prop} (hK : ∀ r, Fr [38] [81, 82] r0 r → (fi r0 38 ≤ fi r 38 ∧ (fi r 38).toInt ≤ (fi r0 38).toInt + (if v4 = 0 then 0 else 8)) → KX r v2 v3) : ∀ (n : Nat) (r : S_) (v5 : Int32), Fr [38] [81, 82] r0 r → (fi r0 38 ≤ fi r 38 ∧ (fi r 38).toInt ≤ (fi r0 38).toInt + (if v4 = 0 then 0 else v5.toInt)) → 0 ≤ v5 → v5 ≤ fi r0 23 → (fi r0 23).toInt - v5.toInt < n → qM_keep_L339 a KX n r v2 v3 v4 v5 := by
  have h8 := h23.2
  rw [il] at h8
  simp at h8
  have w0' := w0
  rw [il] at w0'
  simp at w0'
  intro n
  induction n with
  | zero =>
    intro r v5 _ _ _ h1 h
    rw [il] at h1
    omega
  | succ n ih =>
    intro r v5 F hw v0 h1 h
    have v0' := v0
    rw [il] at v0'
    simp at v0'
    have h1' := h1
    rw [il] at h1'
    have hw1 := hw.1
    rw [il] at hw1
    have hw2 := hw.2
    rw [qM_keep_L339, F.1 23 (by decide)]
    refine ⟨fun _ => hK r F ⟨hw.1, ?_⟩, fun g => ?_⟩
    · split
      · rename_i e; rw [if_pos e] at hw2; exact hw2
      · rename_i e; rw [if_neg e] at hw2; omega
    · have g' := Int32.not_le.mp g
      obtain ⟨p1, p2, p3⟩ := inc_le v0 g'
      unfold qM_keep_J390
      refine ⟨fun _ => ih r _ F ⟨hw.1, ?_⟩ p1 p2 (by omega), fun gb1 => ?_⟩
      · split
        · rename_i e; rw [if_pos e] at hw2; exact hw2
        · rename_i e; rw [if_neg e] at hw2; omega
      · have v58 : v5 < 8 := by
          rw [it] at g' ⊢
          simp
          omega
        have ne : ¬ v4 = 0 := fun e => by
          have k := (bt_m v0 v58).mp gb1
          rw [e, gb_0] at k
          exact absurd k (by decide)
        rw [if_neg ne] at hw2
        have v7 : v5.toInt < 8 := by
          rw [it] at v58
          simpa using v58
        have r38 : 0 ≤ fi r 38 := by rw [il]; simp; omega
        have i20 : ∀ k, 36 ≤ k → k < 89 → ln0 k = 20000 → vp_in (fi r 38) (ln a k) := fun k k1 k2 k3 => vi r38 (by rw [ml hM k1 k2 k3]; omega)
        refine ⟨i20 81 (by decide) (by decide) rfl, fun r59 e59 => ?_⟩
        subst e59
        refine ⟨i20 82 (by decide) (by decide) rfl, fun r61 e61 r62 e62 => ?_⟩
        have n1 : (fi r 38 + 1).toInt = (fi r 38).toInt + 1 := i_add (by simp; omega) (by simp; omega)
        have f62 : fi r62 38 = fi r 38 + 1 := by rw [e62, e61]; rfl
        refine ih r62 _ ?_ ⟨?_, ?_⟩ p1 p2 (by omega)
        · rw [e62, e61]
          exact Fr_trans F (Fr_trans (Fr_sA (by decide)) (Fr_trans (Fr_sA (by decide)) (Fr_sF (by decide))))
        · rw [f62, il, n1]; omega
        · rw [f62, n1, if_neg ne]; omega
theorem cnt_dis {p q : Nat → Bool} : ∀ n, (∀ i, i < n → p i = true → q i = true → False) → cnt p n + cnt q n ≤ n := by
  intro n
  induction n with
  | zero => intro _; exact Nat.le_refl _
  | succ n ih =>
    intro h
    have k := ih (fun i hi => h i (by omega))
    rw [cnt, cnt]
    by_cases e : p n = true
    · by_cases e2 : q n = true
      · exact (h n (by omega) e e2).elim
      · rw [if_pos e, if_neg e2]; omega
    · rw [if_neg e]
      split <;> omega
theorem cnt_up {p : Nat → Bool} : ∀ m n, m ≤ n → cnt p m ≤ cnt p n := fun m n h => by
  induction n with
  | zero => rw [Nat.le_zero.mp h]; exact Nat.le_refl _
  | succ n ih =>
    by_cases e : m = n + 1
    · rw [e]; exact Nat.le_refl _
    · have k := ih (by omega)
      rw [cnt]
      omega
theorem cnt_sum {p q s : Nat → Bool} : ∀ n, (∀ i, i < n → p i = true → q i = true → False) → (∀ i, i < n → p i = true ∨ q i = true → s i = true) → cnt p n + cnt q n ≤ cnt s n := by
  intro n
  induction n with
  | zero => intro _ _; exact Nat.le_refl _
  | succ n ih =>
    intro h h2
    have k := ih (fun i hi => h i (by omega)) (fun i hi => h2 i (by omega))
    rw [cnt, cnt, cnt]
    by_cases e : p n = true
    · by_cases e2 : q n = true
      · exact (h n (by omega) e e2).elim
      · rw [if_pos e, if_neg e2, if_pos (h2 n (by omega) (Or.inl e))]; omega
    · rw [if_neg e]
      by_cases e2 : q n = true
      · rw [if_pos e2, if_pos (h2 n (by omega) (Or.inr e2))]; omega
      · rw [if_neg e2]; omega
end KEEP2
