/-! The reference: copies of kept types. -/
section CSTAT
variable {a : L_} {r : S_} {rh ta : Int32 → Int32} {N : Int32}
/-- the tables of types are equal on both sides -/
def TYQ (l : Nat → Nat) (r : S_) : Prop := TT l r ∧ SQ r ∧ (fi r 21 = fi r 0 ∧ ar r 36 = ar r 0) ∧ ar r 37 = ar r 1 ∧ ar r 38 = ar r 2 ∧ ar r 39 = ar r 3
theorem TYQ_of {l : Nat → Nat} {rI : S_} (h : INV l rI) (F : Fr FFl AAl rI r) : TYQ l r := by
  have f0 := F.1 0 (by decide)
  have f1 := F.1 1 (by decide)
  have f21 := F.1 21 (by decide)
  have a0 := F.2.1 0 (by decide)
  have a1 := F.2.1 1 (by decide)
  have a2 := F.2.1 2 (by decide)
  have a3 := F.2.1 3 (by decide)
  have a4 := F.2.1 4 (by decide)
  have a5 := F.2.1 5 (by decide)
  obtain ⟨hcr, htq, hML, hlast, hkq, hwq, hmtq, hsq⟩ := h
  refine ⟨?_, ?_, ⟨by rw [f21, f0]; exact htq.1.1, ?_⟩, ?_, ?_, ?_⟩
  · unfold TT
    rw [f0, f1, a0, a1, a2, a3, a4, a5]
    exact hcr.2.2.2.1.1
  · unfold SQ szP btP aryP
    rw [f0, f1, a0, a1, a2, a3, a4, a5]
    exact hsq
  · rw [F.2.1 36 (by decide), a0]; exact htq.1.2
  · rw [F.2.1 37 (by decide), a1]; exact htq.2.1.2.1
  · rw [F.2.1 38 (by decide), a2]; exact htq.2.1.2.2.1
  · rw [F.2.1 39 (by decide), a3]; exact htq.2.1.2.2.2.1
theorem cnt_sm {mk : Nat → Int32} : ∀ n, (cnt (fun i => decide (¬ mk i = 0)) n : Int) = sm (fun j => if mk j = 0 then 0 else 1) n := by
  intro n
  induction n with
  | zero => rfl
  | succ n ih =>
    rw [cnt, sm]
    by_cases e : mk n = 0
    · simp only [e, not_true_eq_false, decide_false, if_true]
      simpa using ih
    · simp only [e, not_false_eq_true, decide_true, if_true, if_false]
      omega
theorem st16 {l : Nat → Nat} {r0 : S_} {t : Int32} (w : TT l r0) (sq : SQ r0) (t0 : 0 ≤ t) (t1 : t < fi r0 1) (h : SP r0 r t) : cnt (fun i => decide (¬ ar r 88 i = 0)) 60 ≤ 16 := by
  have key := h.2.2.2.2.2 (fun _ => 1) (fun i => if i < (fi r0 1).toNatClampNeg then (ar r0 4 i).toInt else 0) ⟨fun i => ?_, fun k k0 k1 => ?_⟩
  · have e : sm (ww (fun _ => 1) (fun i => if i < (fi r0 1).toNatClampNeg then (ar r0 4 i).toInt else 0) (ar r 88) (-1)) 60 = sm (fun j => if ar r 88 j = 0 then 0 else 1) 60 := by
      congr 1
    rw [e, ← cnt_sm] at key
    rw [if_pos (nl t0 t1)] at key
    have k16 := (w.2.2.2 t t0 t1).2.2.2.1.2
    rw [il] at k16
    simp at k16
    omega
  · show 0 ≤ (if i < (fi r0 1).toNatClampNeg then (ar r0 4 i).toInt else 0)
    split
    · rename_i g
      have e := i_nat w.1.2.2.1
      obtain ⟨x, x1, x2, x3⟩ := nat_i (j := i) (n := fi r0 1) (by omega)
      have k := (w.2.2.2 x x1 x2).2.2.2.1.1
      rw [x3, il] at k
      simp at k
      omega
    · omega
  · show (1 : Int) + (if ar r0 2 k.toNatClampNeg = -1 then 0 else (if (ar r0 2 k.toNatClampNeg).toNatClampNeg < (fi r0 1).toNatClampNeg then (ar r0 4 (ar r0 2 k.toNatClampNeg).toNatClampNeg).toInt else 0)) + (if ar r0 3 k.toNatClampNeg = -1 then 0 else (if (ar r0 3 k.toNatClampNeg).toNatClampNeg < (fi r0 1).toNatClampNeg then (ar r0 4 (ar r0 3 k.toNatClampNeg).toNatClampNeg).toInt else 0)) ≤ (if k.toNatClampNeg < (fi r0 1).toNatClampNeg then (ar r0 4 k.toNatClampNeg).toInt else 0)
    have b := w.2.2.2 k k0 k1
    have s := (sq k k0 k1).1
    rw [if_pos (nl k0 k1), s]
    have pt : ∀ x : Int32, (-1 ≤ x ∧ x < k) → (if x = -1 then (0 : Int) else (if x.toNatClampNeg < (fi r0 1).toNatClampNeg then (ar r0 4 x.toNatClampNeg).toInt else 0)) = (szP r0 x).toInt := fun x hx => by
      unfold szP
      by_cases e : x = -1
      · rw [if_pos e, if_pos e]; rfl
      · have x0 : 0 ≤ x := by
          have h1 := hx.1
          rw [il] at h1 ⊢
          rw [ie] at e
          simp at h1 e ⊢
          omega
        have xl : x < fi r0 1 := by
          have h2 := hx.2
          rw [it] at h2 k1 ⊢
          omega
        rw [if_neg e, if_neg e, if_pos (nl x0 xl)]
    rw [pt _ b.2.1, pt _ b.2.2.1]
    exact Int.le_refl _
def SV (r0 r : S_) (v : Int32) : Prop := Fr [28] [64, 65, 66, 67, 68, 70, 71, 74] r0 r ∧ (∀ x, vt r0 x → ∀ k, ¬ k = 74 → ar r k x.toNatClampNeg = ar r0 k x.toNatClampNeg) ∧ (fi r 28).toInt = (fi r0 28).toInt + cnt (fun i => decide (¬ ar r0 88 i = 0)) v.toNatClampNeg ∧ (∀ k : Int32, 0 ≤ k → k < v → ¬ ar r0 88 k.toNatClampNeg = 0 → fi r0 28 ≤ ar r 74 k.toNatClampNeg ∧ ar r 74 k.toNatClampNeg < fi r 28) ∧ ∀ y : Int32, fi r0 28 ≤ y → y < fi r 28 → ar r 64 y.toNatClampNeg = y ∧ (-1 ≤ ar r 65 y.toNatClampNeg ∧ ar r 65 y.toNatClampNeg < fi r0 21) ∧ (ar r 66 y.toNatClampNeg = -1 ∨ (fi r0 28 ≤ ar r 66 y.toNatClampNeg ∧ ar r 66 y.toNatClampNeg < fi r 28)) ∧ (ar r 67 y.toNatClampNeg = -1 ∨ (fi r0 28 ≤ ar r 67 y.toNatClampNeg ∧ ar r 67 y.toNatClampNeg < fi r 28)) ∧ (ar r 65 y.toNatClampNeg < 0 → ar r 66 y.toNatClampNeg = -1 ∧ ar r 67 y.toNatClampNeg = -1) ∧ (0 ≤ ar r 65 y.toNatClampNeg → (0 ≤ ar r 66 y.toNatClampNeg ↔ 0 < ar r0 36 (ar r 65 y.toNatClampNeg).toNatClampNeg) ∧ (0 ≤ ar r 67 y.toNatClampNeg ↔ 1 < ar r0 36 (ar r 65 y.toNatClampNeg).toNatClampNeg)) ∧ ar r 68 y.toNatClampNeg = 0 ∧ ar r 70 y.toNatClampNeg = 0 ∧ ar r 71 y.toNatClampNeg = 0
theorem SV_new {r0 r1 : S_} {v h x y : Int32} (c0 : 0 ≤ fi r0 28) (c1 : (fi r0 28).toInt ≤ 20000) (v0 : 0 ≤ v) (v60 : v < 60) (hc : cnt (fun i => decide (¬ ar r0 88 i = 0)) 60 ≤ 16) (hm : ¬ ar r0 88 v.toNatClampNeg = 0) (s : SV r0 r v) (hN : NT r r1 h x y) (h1 : -1 ≤ h ∧ h < fi r0 21) (hx : x = -1 ∨ (fi r0 28 ≤ x ∧ x < fi r 28)) (hy : y = -1 ∨ (fi r0 28 ≤ y ∧ y < fi r 28)) (hn : h < 0 → x = -1 ∧ y = -1) (hp : 0 ≤ h → (0 ≤ x ↔ 0 < ar r0 36 h.toNatClampNeg) ∧ (0 ≤ y ↔ 1 < ar r0 36 h.toNatClampNeg)) : SV r0 (sA r1 74 (upd (ar r1 74) v.toNatClampNeg (fi r 28))) (v + 1) := by
  obtain ⟨s1, s2, s3, s4, s5⟩ := s
  obtain ⟨n28, nF, nO, n64, n65, n66, n67, n68, n70, n71⟩ := hN
  have c0' := c0
  rw [il] at c0'
  simp at c0'
  have cl : cnt (fun i => decide (¬ ar r0 88 i = 0)) v.toNatClampNeg ≤ 60 := by
    have e := i_nat v0
    have k := cnt_le (fun i => decide (¬ ar r0 88 i = 0)) v.toNatClampNeg
    rw [it] at v60
    simp at v60
    omega
  obtain ⟨p1, p2, p3⟩ := inc_le v0 v60
  have sv : (v + 1).toNatClampNeg = v.toNatClampNeg + 1 := by
    have e1 := i_nat v0
    have e2 := i_nat p1
    omega
  have i28 : (fi r 28 + 1).toInt = (fi r 28).toInt + 1 := i_add (by simp; omega) (by simp; omega)
  have r28 : 0 ≤ fi r 28 := by rw [il, s3]; simp; omega
  have f28 : fi (sA r1 74 (upd (ar r1 74) v.toNatClampNeg (fi r 28))) 28 = fi r 28 + 1 := n28
  have up : ∀ y : Int32, y < fi r0 28 → y < fi r 28 := fun y hy => by rw [it] at hy ⊢; omega
  have up1 : ∀ y : Int32, y < fi r 28 → y < fi r 28 + 1 := fun y hy => by rw [it] at hy ⊢; omega
  have a74 : ar (sA r1 74 (upd (ar r1 74) v.toNatClampNeg (fi r 28))) 74 = upd (ar r 74) v.toNatClampNeg (fi r 28) := by
    rw [ar_sA, if_pos rfl, nF.2.1 74 (by decide)]
  refine ⟨Fr_trans s1 (Fr_trans (Fr_mono nF (by decide) (by decide)) (Fr_sA (by decide))), fun u hu k hk => ?_, ?_, fun k k0 k1 km => ?_, fun u u1 u2 => ?_⟩
  · rw [ar_sA, if_neg hk, nO u hu.1 (up u hu.2) k]
    exact s2 u hu k hk
  · rw [f28, i28, sv, cnt, if_pos (by simpa using hm), s3]
    omega
  · rw [a74, f28, updI _ _ v0 k0]
    split
    · refine ⟨?_, ?_⟩
      · rw [il, s3]; omega
      · rw [it, i28]; omega
    · rename_i e
      have kk : k < v := by
        rw [it, p3] at k1
        rw [ie] at e
        rw [it]
        omega
      have q := s4 k k0 kk km
      exact ⟨q.1, up1 _ q.2⟩
  · rw [f28] at u2 ⊢
    have q : ∀ m, ¬ m = 74 → ar (sA r1 74 (upd (ar r1 74) v.toNatClampNeg (fi r 28))) m = ar r1 m := fun m hm => by rw [ar_sA, if_neg hm]
    rw [q 64 (by decide), q 65 (by decide), q 66 (by decide), q 67 (by decide), q 68 (by decide), q 70 (by decide), q 71 (by decide)]
    by_cases e : u = fi r 28
    · rw [e, n64, n65, n66, n67, n68, n70, n71]
      exact ⟨rfl, h1, hx.imp id (fun z => ⟨z.1, up1 _ z.2⟩), hy.imp id (fun z => ⟨z.1, up1 _ z.2⟩), hn, hp, rfl, rfl, rfl⟩
    · have u3 : u < fi r 28 := by
        rw [it, i28] at u2
        rw [ie] at e
        rw [it]
        omega
      have u0 : 0 ≤ u := Int32.le_trans c0 u1
      rw [nO u u0 u3 64, nO u u0 u3 65, nO u u0 u3 66, nO u u0 u3 67, nO u u0 u3 68, nO u u0 u3 70, nO u u0 u3 71]
      have k := s5 u u1 u3
      exact ⟨k.1, k.2.1, k.2.2.1.imp id (fun z => ⟨z.1, up1 _ z.2⟩), k.2.2.2.1.imp id (fun z => ⟨z.1, up1 _ z.2⟩), k.2.2.2.2⟩
theorem cst_L7 {l ad : Nat → Nat} {rS r0 : S_} {t : Int32} (ty : TYQ l rS) (hS : SP rS r0 t) (t0 : 0 ≤ t) (t1 : t < fi rS 1) (hM : ML (ad, l)) (c0 : 0 ≤ fi r0 28) (c1 : (fi r0 28).toInt ≤ 20000) {KX : S_ → Int32 → Prop} (hK : ∀ r, SV r0 r (t + 1) → KX r t) : ∀ (n : Nat) (r : S_) (v : Int32), SV r0 r v → 0 ≤ v → v.toInt ≤ t.toInt + 1 → t.toInt + 1 - v.toInt < n → qM_copyStatic_L7 (ad, l) KX n r t v := by
  have hc := st16 ty.1 ty.2.1 t0 t1 hS
  have t60 : t.toInt < 60 := by
    have k := ty.1.1.2.2.2
    rw [il] at k
    rw [it] at t1
    simp at k
    omega
  have t0' := t0
  rw [il] at t0'
  simp at t0'
  have tp : (t + 1).toInt = t.toInt + 1 := i_add (by simp; omega) (by simp; omega)
  have eS : ∀ k, ¬ k = 88 → ar r0 k = ar rS k := fun k hk => hS.1.2.1 k (by simpa using hk)
  have fS : ∀ k, fi r0 k = fi rS k := fun k => hS.1.1 k List.not_mem_nil
  intro n
  induction n with
  | zero =>
    intro r v _ _ h1 h
    omega
  | succ n ih =>
    intro r v s v0 h1 h
    have s' := s
    obtain ⟨s1, s2, s3, s4, s5⟩ := s
    have e88 : ar r 88 = ar r0 88 := s1.2.1 88 (by decide)
    have e37 : ar r 37 = ar rS 1 := (s1.2.1 37 (by decide)).trans ((eS 37 (by decide)).trans ty.2.2.2.1)
    have e38 : ar r 38 = ar rS 2 := (s1.2.1 38 (by decide)).trans ((eS 38 (by decide)).trans ty.2.2.2.2.1)
    have e39 : ar r 39 = ar rS 3 := (s1.2.1 39 (by decide)).trans ((eS 39 (by decide)).trans ty.2.2.2.2.2)
    rw [qM_copyStatic_L7, e88, e38]
    refine ⟨fun g => hK r ?_, fun g => ?_⟩
    · have e : v = t + 1 := by
        rw [it] at g
        rw [ie, tp]
        omega
      rw [e] at s'
      exact s'
    · have g' : v.toInt ≤ t.toInt := by
        have := Int32.not_lt.mp g
        rw [il] at this
        exact this
      have v60 : v < 60 := by rw [it]; simp; omega
      have vS : v < fi rS 1 := by rw [it]; rw [it] at t1; omega
      obtain ⟨p1, p2, p3⟩ := inc_le v0 v60
      have sv : (v + 1).toNatClampNeg = v.toNatClampNeg + 1 := by
        have e1 := i_nat v0
        have e2 := i_nat p1
        omega
      have i60 : ∀ k, 36 ≤ k → k < 89 → ln0 k = 60 → vp_in v (ln (ad, l) k) := fun k k1 k2 k3 => vi2 v0 v60 (by rw [ml hM k1 k2 k3]; decide)
      have b := ty.1.2.2.2 v v0 vS
      have sq := (ty.2.1 v v0 vS).2.2
      unfold qM_copyStatic_J107
      refine ⟨i60 88 (by decide) (by decide) rfl, fun gz => ?_, fun gz => ?_⟩
      · refine ih r (v + 1) ⟨s1, s2, ?_, fun k k0 k1 km => ?_, s5⟩ p1 (by omega) (by omega)
        · rw [sv, cnt, if_neg (by simpa using gz), s3]
          omega
        · refine s4 k k0 ?_ km
          rw [it, p3] at k1
          rw [it]
          by_cases e : k = v
          · rw [e] at km
            exact absurd gz km
          · rw [ie] at e
            omega
      · have clo := hS.2.2.2.1 v v0 v60 gz (by rw [il] at v0; simp at v0; omega)
        have part : ∀ x : Int32, (-1 ≤ x ∧ x < v) → (0 ≤ x → ¬ ar r0 88 x.toNatClampNeg = 0) → 0 ≤ x → (fi r0 28 ≤ ar r 74 x.toNatClampNeg ∧ ar r 74 x.toNatClampNeg < fi r 28) ∧ vp_in x (ln (ad, l) 74) := fun x hx hm g => ⟨s4 x g hx.2 (hm g), vi2 g hx.2 (by rw [ml (n := 60) hM (by decide) (by decide) rfl]; rw [it] at v60; simp at v60; omega)⟩
        have nonneg : ∀ x : Int32, fi r0 28 ≤ x → 0 ≤ x := fun x hx => Int32.le_trans c0 hx
        have cl : cnt (fun i => decide (¬ ar r0 88 i = 0)) v.toNatClampNeg ≤ 60 := by
          have e := i_nat v0
          have k := cnt_le (fun i => decide (¬ ar r0 88 i = 0)) v.toNatClampNeg
          omega
        have c0' := c0
        rw [il] at c0'
        simp at c0'
        have r28 : 0 ≤ fi r 28 := by rw [il, s3]; simp; omega
        have r28l : (fi r 28).toInt < 40000 := by omega
        have h21 : fi r0 21 = fi rS 0 := (fS 21).trans ty.2.2.1.1
        have h36 : ar r0 36 = ar rS 0 := (eS 36 (by decide)).trans ty.2.2.1.2
        have m1 : ∀ x : Int32, -1 ≤ x → ¬ 0 ≤ x → x = -1 := fun x h1 h2 => by
          rw [ie]
          rw [il] at h1 h2
          simp at h1 h2 ⊢
          omega
        have j70 : ∀ x y : Int32, (x = -1 ∨ (fi r0 28 ≤ x ∧ x < fi r 28)) → (y = -1 ∨ (fi r0 28 ≤ y ∧ y < fi r 28)) → (0 ≤ x ↔ 0 ≤ ar rS 2 v.toNatClampNeg) → (0 ≤ y ↔ 0 ≤ ar rS 3 v.toNatClampNeg) → qM_copyStatic_J70 (ad, l) (qM_copyStatic_L7 (ad, l) KX n) KX r t v x y := fun x y hx hy ex ey => by
          unfold qM_copyStatic_J70 qM_copyStatic_J106 qM_copyStatic_J107 qM_fresh
          rw [e37]
          refine ⟨i60 37 (by decide) (by decide) rfl, fun g1 => ⟨i60 37 (by decide) (by decide) rfl, newTerm_ok hM r28 r28l (fun r17 hN => ⟨i60 74 (by decide) (by decide) rfl, fun r19 e19 => ?_⟩)⟩, fun g1 => newTerm_ok hM r28 r28l (fun r21 hN => ⟨i60 74 (by decide) (by decide) rfl, fun r19 e19 => ?_⟩)⟩
          · rw [e19]
            have s0 := sq g1
            refine ih _ _ (SV_new c0 c1 v0 v60 hc gz s' hN ⟨?_, by rw [h21]; exact s0.1⟩ hx hy (fun z => absurd g1 (Int32.not_le.mpr z)) (fun _ => ⟨?_, ?_⟩)) p1 (by omega) (by omega)
            · rw [il] at g1 ⊢
              simp at g1 ⊢
              omega
            · rw [h36]; exact ex.trans s0.2.1
            · rw [h36]; exact ey.trans s0.2.2
          · rw [e19]
            refine ih _ _ (SV_new c0 c1 v0 v60 hc gz s' hN ⟨by decide, ?_⟩ (Or.inl rfl) (Or.inl rfl) (fun _ => ⟨rfl, rfl⟩) (fun z => absurd z (by decide))) p1 (by omega) (by omega)
            rw [h21]
            have k := ty.1.1.1
            rw [il] at k
            rw [it]
            simp at k ⊢
            omega
        have j45 : ∀ x : Int32, (x = -1 ∨ (fi r0 28 ≤ x ∧ x < fi r 28)) → (0 ≤ x ↔ 0 ≤ ar rS 2 v.toNatClampNeg) → qM_copyStatic_J45 (ad, l) (qM_copyStatic_L7 (ad, l) KX n) KX r t v x := fun x hx ex => by
          unfold qM_copyStatic_J45
          rw [e39]
          refine ⟨i60 39 (by decide) (by decide) rfl, fun g1 => ?_, fun g1 => ?_⟩
          · have k := part _ b.2.2.1 clo.2 g1
            exact ⟨i60 39 (by decide) (by decide) rfl, k.2, j70 x _ hx (Or.inr k.1) ex ⟨fun _ => g1, fun _ => nonneg _ k.1.1⟩⟩
          · exact j70 x (-1) hx (Or.inl rfl) ex ⟨fun z => absurd z (by decide), fun z => absurd z g1⟩
        refine ⟨i60 38 (by decide) (by decide) rfl, fun g1 => ?_, fun g1 => ?_⟩
        · have k := part _ b.2.1 clo.1 g1
          exact ⟨i60 38 (by decide) (by decide) rfl, k.2, j45 _ (Or.inr k.1) ⟨fun _ => g1, fun _ => nonneg _ k.1.1⟩⟩
        · exact j45 (-1) (Or.inl rfl) ⟨fun z => absurd z (by decide), fun z => absurd z g1⟩
/-- what a copy of a kept type comes to -/
def SCP (a : L_) (r r' : S_) (t : Int32) (z : Int32) : Prop := Fr [28] [64, 65, 66, 67, 68, 70, 71, 74, 88] r r' ∧ (∀ G : Int32 → Prop, ∃ R : List Int32, R.length ≤ 16 ∧ STP a r r' G R z) ∧ (fi r' 28).toInt ≤ (fi r 28).toInt + 16 ∧ MKr r' ∧ ND r' ∧ (∀ k : Int32, 0 ≤ k → k ≤ t → ¬ ar r' 88 k.toNatClampNeg = 0 → vt r' (ar r' 74 k.toNatClampNeg)) ∧ cnt (fun i => decide (¬ ar r' 88 i = 0)) 60 ≤ 16
theorem copyStatic_ok {l ad : Nat → Nat} {rI : S_} {t : Int32} (hI : INV l rI) (q : QI (ad, l) rI r rh ta N) (cg : CGr r rh) (t0 : 0 ≤ t) (t1 : t < fi r 1) (tl : (fi r 28).toInt + 16 ≤ 20000) {K : Int32 → S_ → Prop} (hK : ∀ z r', SCP (ad, l) r r' t z → K z r') : qM_copyStatic (ad, l) K r t := by
  obtain ⟨qF, w, q28, ⟨⟨q31, q31'⟩, q75⟩, ⟨⟨q27, q27'⟩, q62⟩, ⟨qm, qm0, qm1⟩, qnd⟩ := q
  have ty := TYQ_of hI qF
  have hM : ML (ad, l) := w.1
  have t60 : t.toInt < 60 := by
    have k := ty.1.1.2.2.2
    rw [il] at k
    rw [it] at t1
    simp at k
    omega
  have t0' := t0
  rw [il] at t0'
  simp at t0'
  have tp : (t + 1).toInt = t.toInt + 1 := i_add (by simp; omega) (by simp; omega)
  unfold qM_copyStatic
  refine markStatic_ok ty.1 hI.2.2.1 ty.2.2.2.2.1 ty.2.2.2.2.2 t0 t1 (fun r1 hS => ?_)
  have hc := st16 ty.1 ty.2.1 t0 t1 hS
  have e1 : ∀ k, ¬ k = 88 → ar r1 k = ar r k := fun k hk => hS.1.2.1 k (by simpa using hk)
  have f1 : ∀ k, fi r1 k = fi r k := fun k => hS.1.1 k List.not_mem_nil
  have v1 : ∀ x, vt r1 x ↔ vt r x := fun x => vt_eq (f1 28)
  have c0 := w.2.2.1.1
  have c0' := c0
  rw [il] at c0'
  simp at c0'
  refine ⟨(t.toInt + 1).toNat + 1, cst_L7 ty hS t0 t1 hM (by rw [f1]; exact c0) (by rw [f1]; omega) (fun r2 s2 => ⟨vi t0 (by rw [ml (n := 60) hM (by decide) (by decide) rfl]; exact t60), ?ga⟩) _ r1 0 ⟨Fr_refl _, fun _ _ _ _ => rfl, by simp [cnt], fun k k0 k1 _ => ?gb, fun y y1 y2 => ?gc⟩ (Int32.le_refl _) (by simp; omega) (by simp; omega)⟩
  case ga =>
    obtain ⟨s1, sO, s3, s4, s5⟩ := s2
    rw [f1] at s3 s4 s5
    have tle : ∀ k : Int32, k ≤ t → k < t + 1 := fun k hk => by rw [it, tp]; rw [il] at hk; omega
    have e88 : ar r2 88 = ar r1 88 := s1.2.1 88 (by decide)
    have clt : cnt (fun i => decide (¬ ar r1 88 i = 0)) (t + 1).toNatClampNeg ≤ 16 := by
      refine Nat.le_trans ?_ hc
      have p1 : 0 ≤ t + 1 := by rw [il, tp]; simp; omega
      have e := i_nat p1
      have : ∀ m n, m ≤ n → cnt (fun i => decide (¬ ar r1 88 i = 0)) m ≤ cnt (fun i => decide (¬ ar r1 88 i = 0)) n := fun m n h => by
        induction n with
        | zero => rw [Nat.le_zero.mp h]; exact Nat.le_refl _
        | succ n ih =>
          by_cases e : m = n + 1
          · rw [e]; exact Nat.le_refl _
          · have k := ih (by omega)
            rw [cnt]
            omega
      exact this _ _ (by omega)
    have le2 : fi r 28 ≤ fi r2 28 := by rw [il, s3]; omega
    have hz := s4 t t0 (tle t (Int32.le_refl _)) hS.2.2.1
    have old : ∀ x, vt r x → ∀ k, ¬ k = 74 → ¬ k = 88 → ar r2 k x.toNatClampNeg = ar r k x.toNatClampNeg := fun x hx k k1 k2 => by rw [sO x ((v1 x).mpr hx) k k1, e1 k k2]
    have r0n : ∀ x : Int32, fi r 28 ≤ x → x < fi r2 28 → vt r2 x := fun x x1 x2 => ⟨Int32.le_trans c0 x1, x2⟩
    have MM := MI_more (r' := r2) w le2 (by rw [s3]; omega) ((s1.1 21 (by decide)).trans (f1 21)) ((s1.2.1 36 (by decide)).trans (e1 36 (by decide))) (fun x hx => ⟨old x hx 64 (by decide) (by decide), old x hx 65 (by decide) (by decide), old x hx 66 (by decide) (by decide), old x hx 67 (by decide) (by decide)⟩) (fun y y1 y2 => by
      have k := s5 y y1 y2
      rw [f1, e1 36 (by decide)] at k
      have pr : ∀ x : Int32, (x = -1 ∨ (fi r 28 ≤ x ∧ x < fi r2 28)) → -1 ≤ x ∧ x < fi r2 28 := fun x hx => by
        rcases hx with e | e
        · rw [e]
          refine ⟨by decide, ?_⟩
          rw [it, s3]
          simp
          omega
        · have k1 := e.1
          refine ⟨?_, e.2⟩
          rw [il] at k1 ⊢
          simp
          omega
      exact ⟨k.1, k.2.1, pr _ k.2.2.1, pr _ k.2.2.2.1, k.2.2.2.2.1, k.2.2.2.2.2.1⟩)
    have hR : ∀ x, x ∈ newL (fi r 28) (fi r2 28) ↔ fi r 28 ≤ x ∧ x < fi r2 28 := fun x => newL_mem c0 le2
    refine hK _ r2 ⟨Fr_trans (Fr_mono hS.1 (by decide) (by decide)) (Fr_mono s1 (by decide) (by decide)), fun G => ⟨newL (fi r 28) (fi r2 28), ?_, ⟨_, _, _, MM.1, fun _ => MM.2 cg⟩, ?_, r0n _ hz.1 hz.2, fun D _ _ _ => Or.inr ((hR _).mpr hz)⟩, by rw [s3]; omega, fun x hx => ?_, fun x hx => ?_, fun k k0 k1 km => ?_, by rw [e88]; exact hc⟩
    · rw [newL_len]
      have k1 := i_nat c0
      have k2 := i_nat (Int32.le_trans c0 le2)
      omega
    · refine ⟨⟨c0, le2⟩, fun x hx => (hR x).mp hx, fun x hx => ⟨Or.inl (old x hx 64 (by decide) (by decide)), old x hx 66 (by decide) (by decide), old x hx 67 (by decide) (by decide)⟩, fun D hD cD gD => ⟨fun x x1 x2 x3 => ?_, fun x hx _ => old x hx 64 (by decide) (by decide)⟩⟩
      rcases x3 with x3 | x3
      · have vx := hD x x3
        rw [old x vx 64 (by decide) (by decide), old x vx 66 (by decide) (by decide), old x vx 67 (by decide) (by decide)]
        have k := cD x vx.1 vx.2 x3
        exact ⟨Or.inl k.1, fun g => Or.inl (k.2.1 g), fun g => Or.inl (k.2.2 g)⟩
      · have m := (hR x).mp x3
        have k := s5 x m.1 m.2
        refine ⟨Or.inr (by rw [k.1]; exact x3), fun g => Or.inr ((hR _).mpr ?_), fun g => Or.inr ((hR _).mpr ?_)⟩
        · rcases k.2.2.1 with e | e
          · rw [e] at g; exact absurd g (by decide)
          · exact e
        · rcases k.2.2.2.1 with e | e
          · rw [e] at g; exact absurd g (by decide)
          · exact e
    · have e29 : fi r2 29 = fi r 29 := (s1.1 29 (by decide)).trans (f1 29)
      rw [e29]
      by_cases g : x < fi r 28
      · rw [old x ⟨hx.1, g⟩ 68 (by decide) (by decide)]
        exact qm x ⟨hx.1, g⟩
      · have k := s5 x (Int32.not_lt.mp g) hx.2
        rw [k.2.2.2.2.2.2.1]
        simpa using qm0
    · by_cases g : x < fi r 28
      · rw [old x ⟨hx.1, g⟩ 70 (by decide) (by decide), old x ⟨hx.1, g⟩ 71 (by decide) (by decide)]
        exact qnd x ⟨hx.1, g⟩
      · have k := s5 x (Int32.not_lt.mp g) hx.2
        rw [k.2.2.2.2.2.2.2.2]
        intro i _ hg
        rw [gb_0] at hg
        exact absurd hg (by decide)
    · rw [e88] at km
      have k := s4 k k0 (tle k k1) km
      exact r0n _ k.1 k.2
  case gb =>
    rw [il] at k0
    rw [it] at k1
    simp at k0 k1
    omega
  case gc =>
    rw [il] at y1
    rw [it] at y2
    omega
end CSTAT
