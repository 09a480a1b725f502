/-! Calls on both sides: method. -/
section METHOD
theorem b0or {a b : Int32} : ¬ (a ||| b) &&& 1 = 0 ↔ (¬ a &&& 1 = 0 ∨ ¬ b &&& 1 = 0) := by
  have e : (a ||| b) &&& 1 = (a &&& 1) ||| (b &&& 1) := by
    apply Int32.toBitVec_inj.mp
    simp [BitVec.and_or_distrib_right]
  have v : ∀ x : Int32, x &&& 1 = 0 ∨ x &&& 1 = 1 := fun x => by
    have h : (x &&& 1).toBitVec = 0#32 ∨ (x &&& 1).toBitVec = 1#32 := by
      have : (x &&& 1).toBitVec = x.toBitVec &&& 1#32 := rfl
      rw [this]
      have h2 : x.toBitVec &&& 1#32 = if x.toBitVec.getLsbD 0 then 1#32 else 0#32 := by
        have := BitVec.and_twoPow x.toBitVec 0
        simpa [BitVec.twoPow] using this
      rw [h2]
      split
      · exact Or.inr rfl
      · exact Or.inl rfl
    rcases h with h | h
    · exact Or.inl (Int32.toBitVec_inj.mp h)
    · exact Or.inr (Int32.toBitVec_inj.mp h)
  rw [e]
  rcases v a with h1 | h1 <;> rcases v b with h2 | h2 <;> (rw [h1, h2]; decide)
/-- variable 0 is in a type where a marked one is it -/
theorem b0_iff {l : Nat → Nat} {r0 r : S_} {t : Int32} (w : TT l r0) (sq : SQ r0) (t0 : 0 ≤ t) (t1 : t < fi r0 1) (hS : SP r0 r t) : (∃ k : Int32, 0 ≤ k ∧ k ≤ t ∧ ¬ ar r 88 k.toNatClampNeg = 0 ∧ ar r0 1 k.toNatClampNeg = -1) ↔ ¬ ar r0 5 t.toNatClampNeg &&& 1 = 0 := by
  obtain ⟨h1, h2, h3, h4, h5, -⟩ := hS
  have f4 := w.1.2.2.2
  have l60 : ∀ k : Int32, k ≤ t → k < 60 := fun k hk => by clear w sq h1 h2 h3 h4 h5; grind
  refine ⟨fun ⟨k, k0, k1, k2, k3⟩ => ?_, fun hb => ?_⟩
  · have key := h5 (fun k => 0 ≤ k ∧ k < fi r0 1 → ¬ ar r0 5 k.toNatClampNeg &&& 1 = 0 → ¬ ar r0 5 t.toNatClampNeg &&& 1 = 0) (fun _ z => z) (fun j j0 j1 j2 => ?_) k k0 (l60 k k1) k2
    · have kr : k < fi r0 1 := by clear w sq h1 h2 h3 h4 h5; grind
      refine key ⟨k0, kr⟩ ?_
      rw [(sq k k0 kr).2.1, k3, if_pos (by decide)]
      decide
    · have wt := w.2.2.2 j j0 j1
      have sj := (sq j j0 j1).2.1
      have nh : ∀ c : Int32, 0 ≤ c → (c = ar r0 2 j.toNatClampNeg ∨ c = ar r0 3 j.toNatClampNeg) → ¬ ar r0 1 j.toNatClampNeg < 0 := fun c c0 hc z => by
        have q := wt.2.2.2.2.2.2.1 z
        rcases hc with e | e
        · rw [e, q.1] at c0; exact absurd c0 (by decide)
        · rw [e, q.2] at c0; exact absurd c0 (by decide)
      refine ⟨fun g hr hb => j2 ⟨j0, j1⟩ ?_, fun g hr hb => j2 ⟨j0, j1⟩ ?_⟩
      · rw [sj, if_neg (nh _ g (Or.inl rfl)), b0or]
        left
        unfold btP
        rw [if_neg (fun z => by rw [z] at g; exact absurd g (by decide))]
        exact hb
      · rw [sj, if_neg (nh _ g (Or.inr rfl)), b0or]
        right
        unfold btP
        rw [if_neg (fun z => by rw [z] at g; exact absurd g (by decide))]
        exact hb
  · have key : ∀ (n : Nat) (k : Int32), 0 ≤ k → k ≤ t → k.toInt < n → ¬ ar r 88 k.toNatClampNeg = 0 → ¬ ar r0 5 k.toNatClampNeg &&& 1 = 0 → ∃ k : Int32, 0 ≤ k ∧ k ≤ t ∧ ¬ ar r 88 k.toNatClampNeg = 0 ∧ ar r0 1 k.toNatClampNeg = -1 := by
      intro n
      induction n with
      | zero =>
        intro k k0 k1 k2
        rw [il] at k0
        simp at k0
        omega
      | succ n ih =>
        intro k k0 k1 k2 k3 k4
        have kr : k < fi r0 1 := by clear w sq h1 h2 h3 h4 h5 ih; grind
        have wt := w.2.2.2 k k0 kr
        have cl := h4 k k0 (l60 k k1) k3 (by rw [il] at k0; simp at k0; omega)
        rcases wt.2.2.2.2.2.2.2 k4 with e | ⟨e, e2⟩ | ⟨e, e2⟩
        · exact ⟨k, k0, k1, k3, e⟩
        · have p0 : 0 ≤ ar r0 2 k.toNatClampNeg := by have := wt.2.1.1; clear w sq h1 h2 h3 h4 h5 ih wt cl; grind
          have p1 := wt.2.1.2
          refine ih _ p0 ?_ ?_ (cl.1 p0) e2
          · clear w sq h1 h2 h3 h4 h5 ih wt cl; grind
          · rw [it] at p1; omega
        · have p0 : 0 ≤ ar r0 3 k.toNatClampNeg := by have := wt.2.2.1.1; clear w sq h1 h2 h3 h4 h5 ih wt cl; grind
          have p1 := wt.2.2.1.2
          refine ih _ p0 ?_ ?_ (cl.2 p0) e2
          · clear w sq h1 h2 h3 h4 h5 ih wt cl; grind
          · rw [it] at p1; omega
    exact key (t.toInt.toNat + 1) t t0 (Int32.le_refl _) (by omega) h3 hb
theorem hasVariable_ok {ad l : Nat → Nat} {r : S_} {t : Int32} (w : TT l r) (sq : SQ r) (m : ML (A0 l)) (q37 : ar r 37 = ar r 1) (q38 : ar r 38 = ar r 2) (q39 : ar r 39 = ar r 3) (t0 : 0 ≤ t) (t1 : t < fi r 1) {K : Int32 → S_ → Prop} (h1 : ¬ ar r 5 t.toNatClampNeg &&& 1 = 0 → ∀ b, K 1 (sA r 88 b)) (h0 : ar r 5 t.toNatClampNeg &&& 1 = 0 → ∀ b, K 0 (sA r 88 b)) : qM_hasVariable (ad, l) (fun z r => zb z → K z r) r t 0 := by
  have l88 : l 88 = 60 := ml (n := 60) m (by decide) (by decide) rfl
  have l37 : l 37 = 60 := ml (n := 60) m (by decide) (by decide) rfl
  have f4 := w.1.2.2.2
  unfold qM_hasVariable
  refine markStatic_ok w m q38 q39 t0 t1 (fun r1 hS => ?_)
  have hb := b0_iff w sq t0 t1 hS
  have F := hS.1
  have e37 : ar r1 37 = ar r 1 := (F.2.1 37 (by decide)).trans q37
  have er : ∃ b, r1 = sA r 88 b := by
    refine ⟨ar r1 88, ?_⟩
    obtain ⟨a1, a2, a3⟩ := r1
    obtain ⟨b1, b2, b3⟩ := r
    obtain ⟨F1, F2, F3⟩ := F
    unfold sA
    have g1 : a1 = b1 := funext (fun k => F1 k (by simp))
    have g3 : a3 = b3 := funext (fun k => F3 k)
    have g2 : a2 = fun j => if j = 88 then ar (a1, a2, a3) 88 else b2 j := funext (fun k => by
      by_cases e : k = 88
      · rw [if_pos e, e]; rfl
      · rw [if_neg e]
        exact F2 k (by simp; exact e))
    rw [g1, g3]
    congr 1
    congr 1
  have loop : ∀ (n : Nat) (v3 k : Int32), zb v3 → 0 ≤ k → k.toInt ≤ t.toInt + 1 → (¬ v3 = 0 ↔ ∃ j : Int32, 0 ≤ j ∧ j < k ∧ ¬ ar r1 88 j.toNatClampNeg = 0 ∧ ar r 1 j.toNatClampNeg = -1) → t.toInt + 1 - k.toInt < n → qM_hasVariable_L10 (ad, l) (fun r v3 => zb v3 ∧ (zb v3 → K v3 r)) n r1 t 0 v3 k := by
    intro n
    induction n with
    | zero => intro v3 k z k0 k1 k2 k3; omega
    | succ n ih =>
      intro v3 k z k0 k1 k2 k3
      rw [qM_hasVariable_L10]
      refine ⟨fun g => ⟨z, fun _ => ?_⟩, fun g => ?_⟩
      · have ek : ∀ j : Int32, j < k ↔ j ≤ t := fun j => by
          rw [it] at g
          rw [it, il]
          omega
        have hv : ¬ v3 = 0 ↔ ¬ ar r 5 t.toNatClampNeg &&& 1 = 0 := by
          rw [k2, ← hb]
          refine ⟨fun ⟨j, j0, j1, j2, j3⟩ => ⟨j, j0, (ek j).mp j1, j2, j3⟩, fun ⟨j, j0, j1, j2, j3⟩ => ⟨j, j0, (ek j).mpr j1, j2, j3⟩⟩
        obtain ⟨b, eb⟩ := er
        rw [eb]
        rcases z with z | z
        · rw [z]
          refine h0 ?_ b
          by_cases e : ar r 5 t.toNatClampNeg &&& 1 = 0
          · exact e
          · exact absurd z (hv.mpr e)
        · rw [z]
          exact h1 (hv.mp (by rw [z]; decide)) b
      · have kt : k ≤ t := by clear w sq m hS hb F er ih k2; grind
        have k60 : k < 60 := by clear w sq m hS hb F er ih k2; grind
        have hi := i_inc (x := k) (y := 60) k60
        have c0 : 0 ≤ k + 1 := by clear w sq m hS hb F er ih k2; grind
        have kti : k.toInt ≤ t.toInt := by rw [il] at kt; exact kt
        have lts : ∀ j : Int32, j < k + 1 ↔ (j < k ∨ j = k) := fun j => by
          rw [it, it, ie, hi]
          omega
        have v60 : ∀ q, l q = 60 → vp_in k (l q) := fun q hq => vi2 k0 k60 (by rw [hq]; decide)
        have nx : ∀ u0 : Int32, zb u0 → (¬ u0 = 0 ↔ (¬ v3 = 0 ∨ (¬ ar r1 88 k.toNatClampNeg = 0 ∧ ar r 1 k.toNatClampNeg = -1))) → qM_hasVariable_J48 (ad, l) (qM_hasVariable_L10 (ad, l) (fun r v3 => zb v3 ∧ (zb v3 → K v3 r)) n) (fun r v3 => zb v3 ∧ (zb v3 → K v3 r)) r1 t 0 k u0 := by
          intro u0 zu hu
          unfold qM_hasVariable_J48
          refine ih u0 (k + 1) zu c0 (by omega) ?_ (by omega)
          rw [hu, k2]
          constructor
          · rintro (⟨j, j0, j1, j2, j3⟩ | ⟨j2, j3⟩)
            · exact ⟨j, j0, (lts j).mpr (Or.inl j1), j2, j3⟩
            · exact ⟨k, k0, (lts k).mpr (Or.inr rfl), j2, j3⟩
          · rintro ⟨j, j0, j1, j2, j3⟩
            rcases (lts j).mp j1 with e | e
            · exact Or.inl ⟨j, j0, e, j2, j3⟩
            · rw [e] at j2 j3
              exact Or.inr ⟨j2, j3⟩
        unfold qM_hasVariable_J43 qM_hasVariable_J47
        rw [e37]
        refine ⟨fun g1 => nx 1 zb1 ⟨fun _ => Or.inl g1, fun _ => by decide⟩, fun g1 => ⟨v60 88 l88, fun g2 => nx 0 zb0 ⟨fun z => absurd rfl z, fun z => ?_⟩, fun g2 => ⟨v60 37 l37, fun g3 => nx 0 zb0 ⟨fun z => absurd rfl z, fun z => ?_⟩, fun g3 => nx 1 zb1 ⟨fun _ => Or.inr ⟨g2, g3⟩, fun _ => by decide⟩⟩⟩⟩
        · rcases z with z | z
          · exact absurd g1 z
          · exact absurd g2 z.1
        · rcases z with z | z
          · exact absurd g1 z
          · exact absurd z.2 g3
  have tn : 0 ≤ t.toInt := by rw [il] at t0; simpa using t0
  exact ⟨(t.toInt + 2).toNat, loop _ 0 0 zb0 (by decide) (by simp; omega) ⟨fun z => absurd rfl z, fun ⟨j, j0, j1, _⟩ => (nl0 j0 j1).elim⟩ (by simp; omega)⟩
/-- a class's method is set, on both sides -/
def setM (r : S_) (c t : Int32) (b : Nat → Int32) : S_ := sA (sA (sF (sA r 8 (upd (ar r 8) c.toNatClampNeg t)) 20 0) 88 b) 42 (upd (ar r 42) c.toNatClampNeg t)
theorem setM_INV {l : Nat → Nat} {r : S_} {c t : Int32} {b : Nat → Int32} (h : INV l r) (c0 : 0 ≤ c) (c1 : c < fi r 2) (hn : ar r 8 c.toNatClampNeg = -1) (t0 : 0 ≤ t) (t1 : t < fi r 1) (hb : ¬ ar r 5 t.toNatClampNeg &&& 1 = 0) : INV l (setM r c t b) := by
  obtain ⟨⟨g1, g2, g3, ⟨w1, w2, w3⟩, g5, g6⟩, q, m, la, kq, wq, mq, sq⟩ := h
  have a8 : ar (setM r c t b) 8 = upd (ar r 8) c.toNatClampNeg t := rfl
  have a42 : ar (setM r c t b) 42 = upd (ar r 42) c.toNatClampNeg t := rfl
  have e2 : fi (setM r c t b) 2 = fi r 2 := rfl
  obtain ⟨q1, q2, ⟨q31, q32, q33, q34⟩, q4, q5⟩ := q
  refine ⟨⟨g1, g2, g3, ⟨w1, w2, ?_⟩, g5, g6⟩, ⟨q1, q2, ⟨q31, q32, fun d d0 d1 => ?_, fun d d0 d1 => ?_⟩, q4, q5⟩, m, la, kq, wq, fun d d0 d1 => ?_, sq⟩
  · obtain ⟨v1, v2, v3⟩ := w3
    have e4 : fi (setM r c t b) 4 = fi r 4 := rfl
    have e1 : fi (setM r c t b) 1 = fi r 1 := rfl
    have a5 : ar (setM r c t b) 5 = ar r 5 := rfl
    have a12 : ar (setM r c t b) 12 = ar r 12 := rfl
    have a13 : ar (setM r c t b) 13 = ar r 13 := rfl
    have a14 : ar (setM r c t b) 14 = ar r 14 := rfl
    have a15 : ar (setM r c t b) 15 = ar r 15 := rfl
    have a16 : ar (setM r c t b) 16 = ar r 16 := rfl
    unfold ET
    rw [e4, e1, e2, a5, a8, a12, a13, a14, a15, a16]
    refine ⟨v1, v2, fun e z1 z2 => ?_⟩
    obtain ⟨n0, n1, n2, n3, n4, n5⟩ := v3 e z1 z2
    refine ⟨n0, n1, n2, n3, fun z => ?_, n5⟩
    obtain ⟨m1, m2, m3⟩ := n4 z
    rw [updI _ _ c0 m1.1, if_neg (fun e9 => by have := m2.1; rw [e9, hn] at this; exact absurd this (by decide))]
    exact ⟨m1, m2, m3⟩
  · rw [a8, a42, updI _ _ c0 d0, updI _ _ c0 d0]
    split
    · rfl
    · exact q33 d d0 d1
  · rw [a42]
    have d00 : 0 ≤ d := by have d0' : fi r 2 ≤ d := d0; clear g1 g2 g3 w1 w3 g5 g6 q1 q2 q31 q32 q33 q34 q4 q5 m la kq wq mq sq hb; grind
    rw [updI _ _ c0 d00, if_neg (fun e9 => by have d0' : fi r 2 ≤ d := d0; rw [e9] at d0'; exact absurd c1 (by rw [Int32.not_lt]; exact d0'))]
    exact q34 d d0 d1
  · rw [a8, updI _ _ c0 d0]
    by_cases e : d = c
    · rw [if_pos e]
      exact Or.inr ⟨⟨t0, t1⟩, hb⟩
    · rw [if_neg e]
      exact mq d d0 d1
theorem method_pair {ad l : Nat → Nat} {r : S_} {c t : Int32} (h : INV l r) {K : S_ → Prop} (hK : ∀ r', INV l r' → kp r' = kp r → K r') : qI_method (ad, l) (fun z r1 => qM_method (ad, l) (fun z2 r2 => z = z2 ∧ K r2) r1 c t) r c t := by
  have h' := h
  obtain ⟨⟨g1, g2, g3, ⟨w1, w2, w3⟩, g5, g6⟩, q, m, la, kq, wq, mq, sq⟩ := h
  have f3 := w1.1.2.2.1
  have f60 : fi r 1 ≤ 1000000 := by have := w1.1.2.2.2; clear h' g1 g2 g3 w1 w2 w3 g5 g6 q m la kq wq mq sq hK; grind
  have q22 := q.2.1.1
  have q23 := q.2.2.1.1
  have l42 : l 42 = 8 := ml (n := 8) m (by decide) (by decide) rfl
  have l8 : l 8 = 8 := w2.2.2.2.2.1
  have k8 := w2.2.1
  rw [il] at k8
  have v8c : ∀ k, l k = 8 → 0 ≤ c → c < fi r 2 → vp_in c (l k) := fun k hk c0 c1 => vi2 c0 c1 (by rw [hk]; simpa using k8)
  have mth : ∀ (r1 : S_) (Q : Int32 → S_ → Prop), Fm r r1 → 0 ≤ c ∧ c < fi r 2 → 0 ≤ t ∧ t < fi r 1 → (0 ≤ ar r 42 c.toNatClampNeg → Q (-1) (sF r1 20 0)) → (¬ 0 ≤ ar r 42 c.toNatClampNeg → qM_hasVariable (ad, l) (fun z8 r9 => zb z8 → ((¬ z8 = 0) → vp_in c (ln (ad, l) 42) ∧ ∀ r12 : S_, r12 = sA r9 42 (upd (ar r9 42) c.toNatClampNeg t) → Q 1 r12) ∧ ((z8 = 0) → Q (-1) r9)) (sF r1 20 0) t 0) → qM_method (ad, l) Q r1 c t := by
    intro r1 Q hF hc ht k1 k2
    unfold qM_method
    intro r2 e2
    subst e2
    have e22 : fi (sF r1 20 0) 22 = fi r 1 := (hF.1 22 (by omega)).trans q22
    have e23 : fi (sF r1 20 0) 23 = fi r 2 := (hF.1 23 (by omega)).trans q23
    have e42 : ar (sF r1 20 0) 42 = ar r 42 := hF.2 42 (by omega)
    rw [e22, e42]
    exact risK_ok e23 (fun z => absurd hc z) (fun _ _ => ⟨fun z => absurd z (by decide), fun _ => rin_ix f3 f60 (fun z => absurd ht z) (fun _ _ => ⟨fun z => absurd z (by decide), fun _ => ⟨v8c 42 l42 hc.1 hc.2, k1, k2⟩⟩)⟩)
  have bad0 : (¬ (0 ≤ c ∧ c < fi r 2) ∨ ¬ (0 ≤ t ∧ t < fi r 1)) → qM_method (ad, l) (fun z2 r2 => -1 = z2 ∧ K r2) r c t := by
    intro hb
    unfold qM_method
    intro r2 e2
    subst e2
    have fin : (-1 : Int32) = -1 ∧ K (sF r 20 0) := ⟨rfl, hK _ (INV_20 h') rfl⟩
    have e22 : fi (sF r 20 0) 22 = fi r 1 := q22
    rw [e22]
    refine risK_ok (r := sF r 20 0) (c := fi r 2) q23 (fun z => ⟨fun _ => fin, fun z => absurd rfl z⟩) (fun c0 c1 => ⟨fun z => absurd z (by decide), fun _ => rin_ix f3 f60 (fun z => ⟨fun _ => fin, fun z => absurd rfl z⟩) (fun t0 t1 => ?_)⟩)
    rcases hb with z | z
    · exact absurd ⟨c0, c1⟩ z
    · exact absurd ⟨t0, t1⟩ z
  unfold qI_method
  refine hasK_ok (fun z => ⟨fun _ => bad0 (Or.inl z), fun z => absurd rfl z⟩) (fun c0 c1 => ⟨fun z => absurd z (by decide), fun _ => hasT_ok (fun z => ⟨fun z => absurd rfl z, fun _ => bad0 (Or.inr z)⟩) (fun t0 t1 => ⟨fun _ => ?_, fun z => absurd z (by decide)⟩)⟩)
  have q42 := q.2.2.1.2.2.1 c c0 c1
  have t60 : t < 60 := by have := w1.1.2.2.2; clear h' g1 g2 g3 w1 w2 w3 g5 g6 q m la kq wq mq sq hK mth bad0; grind
  unfold qK_methodOf
  refine ⟨v8c 8 l8 c0 c1, fun hm => ?_, fun hm => ?_⟩
  · refine mth r _ (Fm_refl r) ⟨c0, c1⟩ ⟨t0, t1⟩ (fun _ => ⟨rfl, hK _ (INV_20 h') rfl⟩) (fun z => ?_)
    rcases mq c c0 c1 with e | e
    · exact absurd e hm
    · rw [q42] at z
      exact absurd e.1.1 z
  · have n42 : ¬ 0 ≤ ar r 42 c.toNatClampNeg := by rw [q42, hm]; decide
    have l5 : l 5 = 60 := w1.2.1.2.2.2.2.2.1
    have one : (1 : Int32) <<< ((0 : Int32) &&& 31) = 1 := rfl
    unfold qT_holdsVariable
    rw [one]
    refine ⟨vi2 t0 t60 (by show (60 : Int32).toInt ≤ l 5; rw [l5]; decide), fun hb => ⟨zb0, fun _ => ⟨fun z => absurd rfl z, fun _ => ?_⟩⟩, fun hb => ⟨zb1, fun _ => ⟨fun _ => ?_, fun z => absurd z (by decide)⟩⟩⟩
    · refine mth r _ (Fm_refl r) ⟨c0, c1⟩ ⟨t0, t1⟩ (fun z => absurd z n42) (fun _ => ?_)
      exact hasVariable_ok (r := sF r 20 0) w1 sq m q.2.1.2.1 q.2.1.2.2.1 q.2.1.2.2.2.1 t0 t1 (fun z => absurd hb z) (fun _ b => ⟨fun z => absurd rfl z, fun _ => ⟨rfl, hK (sA (sF r 20 0) 88 b) h' rfl⟩⟩)
    · unfold qK_setMethod
      refine ⟨v8c 8 l8 c0 c1, fun r2 e2 => ?_⟩
      have hF : Fm r r2 := by
        rw [e2]
        exact ⟨fun _ _ => rfl, fun k hk => by rw [ar_sA, if_neg (by omega)]⟩
      refine mth r2 _ hF ⟨c0, c1⟩ ⟨t0, t1⟩ (fun z => absurd z n42) (fun _ => ?_)
      rw [e2]
      refine hasVariable_ok (r := sF (sA r 8 (upd (ar r 8) c.toNatClampNeg t)) 20 0) w1 sq m q.2.1.2.1 q.2.1.2.2.1 q.2.1.2.2.2.1 t0 t1 (fun _ b => ⟨fun _ => ⟨v8c 42 l42 c0 c1, fun r12 e12 => ⟨rfl, ?_⟩⟩, fun z => absurd z (by decide)⟩) (fun z => absurd z hb)
      have e12' : r12 = setM r c t b := by rw [e12]; rfl
      rw [e12']
      exact hK _ (setM_INV h' c0 c1 hm t0 t1 hb) rfl
end METHOD
