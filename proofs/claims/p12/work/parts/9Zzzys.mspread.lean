/-! The reference: the tree's expressions; deeper derivations. -/
section ZMSPR
variable {ad l : Nat → Nat} {a : L_} {rI r r' r1 r2 r3 : S_}
theorem zTY_up {T : Tbz} : ∀ (d : Nat) (e : Int32) (Γ : List En) (c : Int32) (V : (Int32 → Ut) → Prop) (t c' : Int32) (V' : (Int32 → Ut) → Prop) (W : Int32 → Nat → Prop) (k am : Prop) (p : Int), zTY T d e Γ c V t c' V' W k am p → zTY T (d + 1) e Γ c V t c' V' W k am p := by
  intro d
  induction d with
  | zero => intro e Γ c V t c' V' W k am p h; exact h.elim
  | succ d ih =>
    intro e Γ c V t c' V' W k am p h
    obtain ⟨h1, h2⟩ := h
    refine ⟨h1, h2.imp id (fun ⟨g1, g2, g3, g4, g5, g6, g7, g8, g9, g10⟩ => ⟨g1, g2, g3, g4, g5, fun q => ?_, fun q => ?_, fun q => ?_, g9, g10⟩)⟩
    · obtain ⟨f, c1, tb, cb, Vb, b1, b2, b3⟩ := g6 q
      exact ⟨f, c1, tb, cb, Vb, b1, ih _ _ _ _ _ _ _ _ _ _ _ b2, b3⟩
    · obtain ⟨x1, c1, V1, W1, k1, am1, p1, x2, c2, V2, W2, k2, am2, p2, ar, b1, b2, b3⟩ := g7 q
      exact ⟨x1, c1, V1, W1, k1, am1, p1, x2, c2, V2, W2, k2, am2, p2, ar, ih _ _ _ _ _ _ _ _ _ _ _ b1, ih _ _ _ _ _ _ _ _ _ _ _ b2, b3⟩
    · obtain ⟨x1, c1, V1, W1, k1, am1, p1, K, p0, W1', k1', am1', W2, k2, am2, p2, b1, b2, b3, b4, b5⟩ := g8 q
      exact ⟨x1, c1, V1, W1, k1, am1, p1, K, p0, W1', k1', am1', W2, k2, am2, p2, ih _ _ _ _ _ _ _ _ _ _ _ b1, b2, b3, ih _ _ _ _ _ _ _ _ _ _ _ b4, b5⟩
theorem zTY_le {T : Tbz} {d d2 : Nat} (hd : d ≤ d2) {e : Int32} {Γ : List En} {c : Int32} {V : (Int32 → Ut) → Prop} {t c' : Int32} {V' : (Int32 → Ut) → Prop} {W : Int32 → Nat → Prop} {k am : Prop} {p : Int} (h : zTY T d e Γ c V t c' V' W k am p) : zTY T d2 e Γ c V t c' V' W k am p := by
  obtain ⟨n, rfl⟩ : ∃ n, d2 = d + n := ⟨d2 - d, by omega⟩
  induction n with
  | zero => exact h
  | succ n ih => exact zTY_up _ _ _ _ _ _ _ _ _ _ _ _ (ih (by omega))
def XE (r : S_) (c k : Int32) : Prop := XEn r k ∧ (kd r k = 1 ∨ kd r k = 2 ∨ kd r k = 3 → 0 ≤ ar r 53 k.toNatClampNeg ∧ ar r 53 k.toNatClampNeg < c) ∧ (kd r k = 2 ∨ kd r k = 3 → 0 ≤ ar r 54 k.toNatClampNeg ∧ ar r 54 k.toNatClampNeg < c)
def SX (r0 r : S_) (e v : Int32) : Prop := Fr [26] [50, 51, 52, 53, 54, 59] r0 r ∧ (0 ≤ v ∧ v ≤ fi r 26 ∧ 1 ≤ (fi r 26).toInt ∧ (fi r 26).toInt ≤ 25) ∧ (∀ k : Int32, 0 ≤ k → k < v → XE r (fi r 26) k) ∧ ar r 50 ((0 : Int32)).toNatClampNeg = e
theorem ws_addNode (hM : ML a) {e p s : Int32} {K : Int32 → S_ → Prop} (hK : ∀ r', 0 ≤ fi r 26 → (fi r 26).toInt < 25 → AN r r' e p s → K (fi r 26) r') : wM_addNode a K r e p s := by
  by_cases vp : vp_in (fi r 26) (ln a 50)
  · have l := vpl vp
    rw [ml (n := 25) hM (by decide) (by decide) rfl] at l
    exact wq_M_addNode (K := fun z r' => z = fi r 26 ∧ AN r r' e p s) (K2 := fun _ _ => True) (fun z r' h _ => by rw [h.1]; exact hK r' l.1 (by omega) h.2) (addNode_ok hM l.1 (by omega) (fun r' h => ⟨rfl, h⟩)) (wa_M_addNode (fun _ _ => trivial))
  · unfold wM_addNode
    exact fun q => absurd q vp
theorem XE_old {c c' k : Int32} (hc : c ≤ c') (e45 : ar r' 45 = ar r 45) (e46 : ar r' 46 = ar r 46) (e47 : ar r' 47 = ar r 47) (e48 : ar r' 48 = ar r 48) (h50 : ∀ x : Int32, 0 ≤ x → x < c → ar r' 50 x.toNatClampNeg = ar r 50 x.toNatClampNeg) (h53 : ar r' 53 k.toNatClampNeg = ar r 53 k.toNatClampNeg) (h54 : ar r' 54 k.toNatClampNeg = ar r 54 k.toNatClampNeg) (k0 : 0 ≤ k) (k1 : k < c) (x : XE r c k) : XE r' c' k := by
  have hk : kd r' k = kd r k := by unfold kd; rw [e45, h50 k k0 k1]
  obtain ⟨⟨x1, x2, x3⟩, x4, x5⟩ := x
  unfold XE XEn
  rw [hk, e46, e47, e48, h53, h54, h50 k k0 k1]
  refine ⟨⟨fun q => ?_, fun q => ?_, fun q => ?_⟩, fun q => ?_, fun q => ?_⟩
  · have b := x4 (Or.inl q)
    rw [h50 _ b.1 b.2]
    exact x1 q
  · have b := x4 (Or.inr (Or.inl q))
    have b' := x5 (Or.inl q)
    rw [h50 _ b.1 b.2, h50 _ b'.1 b'.2]
    exact x2 q
  · have b := x4 (Or.inr (Or.inr q))
    have b' := x5 (Or.inr q)
    rw [h50 _ b.1 b.2, h50 _ b'.1 b'.2]
    exact x3 q
  · exact ⟨(x4 q).1, zo3 (x4 q).2 hc⟩
  · exact ⟨(x5 q).1, zo3 (x5 q).2 hc⟩
theorem ws_spread15 {r0 : S_} {e : Int32} (hM : ML a) {KX : S_ → Prop} (hK : ∀ r, SX r0 r e (fi r 26) → KX r) : ∀ (n : Nat) (r : S_) (v : Int32), SX r0 r e v → wM_spread_L15 a KX n r v := by
  intro n
  induction n with
  | zero => intro r v _; trivial
  | succ n ih =>
    intro r v s
    obtain ⟨s1, ⟨v0, v1, c1, c25⟩, s3, s4⟩ := s
    rw [wM_spread_L15]
    refine ⟨fun g => ?_, fun g _ _ => ?_⟩
    · have ev : v = fi r 26 := by clear ih hK s3 s1; grind
      subst ev
      exact hK r ⟨s1, ⟨v0, v1, c1, c25⟩, s3, s4⟩
    have g' := Int32.not_le.mp g
    obtain ⟨q1, q2, q3⟩ := inc_le v0 g'
    have lv : ∀ k : Int32, k < v + 1 → ¬ k = v → k < v := fun k h1 h2 => by
      rw [it, q3] at h1
      rw [ie] at h2
      rw [it]
      omega
    have c0 : 0 ≤ fi r 26 := zo2 v0 v1
    unfold wM_spread_J165
    -- one node more
    have one : ∀ (r1 r2 : S_) (e1 s : Int32), AN r r1 e1 v s → (fi r 26).toInt < 25 → r2 = sA r1 53 (upd (ar r1 53) v.toNatClampNeg (fi r 26)) → (Fr [26] [50, 51, 52, 53, 54, 59] r r2) ∧ (fi r2 26).toInt = (fi r 26).toInt + 1 ∧ fi r2 26 = fi r 26 + 1 ∧ (∀ x : Int32, 0 ≤ x → x < fi r 26 → ar r2 50 x.toNatClampNeg = ar r 50 x.toNatClampNeg ∧ ar r2 54 x.toNatClampNeg = ar r 54 x.toNatClampNeg ∧ (¬ x = v → ar r2 53 x.toNatClampNeg = ar r 53 x.toNatClampNeg)) ∧ ar r2 53 v.toNatClampNeg = fi r 26 ∧ ar r2 50 (fi r 26).toNatClampNeg = e1 := by
      intro r1 r2 e1 s h1 h25 e2
      obtain ⟨a1, a2, a3, a4, _⟩ := h1
      have i26 : (fi r 26 + 1).toInt = (fi r 26).toInt + 1 := i_inc (y := 25) (by rw [it]; simp; omega)
      have ne : ∀ x : Int32, x < fi r 26 → ¬ x = fi r 26 := fun x hx z => by rw [z] at hx; exact irr hx
      have f2 : fi r2 26 = fi r 26 + 1 := by rw [e2]; exact a2
      refine ⟨by rw [e2]; exact Fr_trans a1 (Fr_sA (by decide)), by rw [f2, i26], f2, fun x x0 x1 => ⟨?_, ?_, fun xv => ?_⟩, ?_, ?_⟩
      · rw [e2, ar_sA, if_neg (by decide)]; exact a3 x x0 (ne x x1) 50
      · rw [e2, ar_sA, if_neg (by decide)]; exact a3 x x0 (ne x x1) 54
      · rw [e2, ar_sA, if_pos rfl, updI _ _ v0 x0, if_neg xv]; exact a3 x x0 (ne x x1) 53
      · rw [e2, ar_sA, if_pos rfl, pk_us]
      · rw [e2, ar_sA, if_neg (by decide)]; exact a4
    have two : ∀ (r1 r2 r3 r4 : S_) (e1 e3 s t : Int32), AN r r1 e1 v s → (fi r 26).toInt < 25 → r2 = sA r1 53 (upd (ar r1 53) v.toNatClampNeg (fi r 26)) → AN r2 r3 e3 v t → (fi r2 26).toInt < 25 → r4 = sA r3 54 (upd (ar r3 54) v.toNatClampNeg (fi r2 26)) → (Fr [26] [50, 51, 52, 53, 54, 59] r r4) ∧ (fi r4 26).toInt = (fi r 26).toInt + 2 ∧ (∀ x : Int32, 0 ≤ x → x < fi r 26 → ar r4 50 x.toNatClampNeg = ar r 50 x.toNatClampNeg ∧ (¬ x = v → ar r4 53 x.toNatClampNeg = ar r 53 x.toNatClampNeg ∧ ar r4 54 x.toNatClampNeg = ar r 54 x.toNatClampNeg)) ∧ ar r4 53 v.toNatClampNeg = fi r 26 ∧ ar r4 54 v.toNatClampNeg = fi r2 26 ∧ ar r4 50 (fi r 26).toNatClampNeg = e1 ∧ ar r4 50 (fi r2 26).toNatClampNeg = e3 ∧ (fi r2 26).toInt = (fi r 26).toInt + 1 := by
      intro r1 r2 r3 r4 e1 e3 s t h1 h25 e2 h3 h25' e4
      obtain ⟨o1, o2, o2', o3, o4, o5⟩ := one r1 r2 e1 s h1 h25 e2
      obtain ⟨b1, b2, b3, b4, _⟩ := h3
      have i26 : (fi r2 26 + 1).toInt = (fi r2 26).toInt + 1 := i_inc (y := 25) (by rw [it]; simp; omega)
      have lt2 : ∀ x : Int32, x < fi r 26 → x < fi r2 26 := fun x hx => by rw [it] at hx ⊢; omega
      have ne : ∀ x : Int32, x < fi r2 26 → ¬ x = fi r2 26 := fun x hx z => by rw [z] at hx; exact irr hx
      have l26 : fi r 26 < fi r2 26 := by rw [it]; omega
      refine ⟨by rw [e4]; exact Fr_trans o1 (Fr_trans b1 (Fr_sA (by decide))), ?_, fun x x0 x1 => ⟨?_, fun xv => ⟨?_, ?_⟩⟩, ?_, ?_, ?_, ?_, o2⟩
      · rw [e4]; show (fi r3 26).toInt = _; rw [b2, i26, o2]; omega
      · rw [e4, ar_sA, if_neg (by decide), b3 x x0 (ne x (lt2 x x1)) 50]; exact (o3 x x0 x1).1
      · rw [e4, ar_sA, if_neg (by decide), b3 x x0 (ne x (lt2 x x1)) 53]; exact (o3 x x0 x1).2.2 xv
      · rw [e4, ar_sA, if_pos rfl, updI _ _ v0 x0, if_neg xv, b3 x x0 (ne x (lt2 x x1)) 54]; exact (o3 x x0 x1).2.1
      · rw [e4, ar_sA, if_neg (by decide), b3 v v0 (ne v (lt2 v g')) 53]; exact o4
      · rw [e4, ar_sA, if_pos rfl, pk_us]
      · rw [e4, ar_sA, if_neg (by decide), b3 _ c0 (ne _ l26) 50]; exact o5
      · rw [e4, ar_sA, if_neg (by decide)]; exact b4
    have k045 : ∀ r2 : S_, Fr [26] [50, 51, 52, 53, 54, 59] r r2 → ar r2 45 = ar r 45 ∧ ar r2 46 = ar r 46 ∧ ar r2 47 = ar r 47 ∧ ar r2 48 = ar r 48 := fun r2 F => ⟨F.2.1 45 (by decide), F.2.1 46 (by decide), F.2.1 47 (by decide), F.2.1 48 (by decide)⟩
    have z26 : (0 : Int32) < fi r 26 := by rw [it]; simp; omega
    -- the state behind two kids
    have fin2 : ∀ (r4 : S_) (x2 e1 e3 : Int32), (kd r v = 2 ∧ e1 = ar r 46 (ar r 50 v.toNatClampNeg).toNatClampNeg ∧ e3 = ar r 47 (ar r 50 v.toNatClampNeg).toNatClampNeg) ∨ (kd r v = 3 ∧ e1 = ar r 47 (ar r 50 v.toNatClampNeg).toNatClampNeg ∧ e3 = ar r 48 (ar r 50 v.toNatClampNeg).toNatClampNeg) → Fr [26] [50, 51, 52, 53, 54, 59] r r4 → (fi r4 26).toInt = (fi r 26).toInt + 2 → (fi r4 26).toInt ≤ 25 → (∀ x : Int32, 0 ≤ x → x < fi r 26 → ar r4 50 x.toNatClampNeg = ar r 50 x.toNatClampNeg ∧ (¬ x = v → ar r4 53 x.toNatClampNeg = ar r 53 x.toNatClampNeg ∧ ar r4 54 x.toNatClampNeg = ar r 54 x.toNatClampNeg)) → ar r4 53 v.toNatClampNeg = fi r 26 → ar r4 54 v.toNatClampNeg = x2 → ar r4 50 (fi r 26).toNatClampNeg = e1 → ar r4 50 x2.toNatClampNeg = e3 → x2.toInt = (fi r 26).toInt + 1 → wM_spread_L15 a KX n r4 (v + 1) := by
      intro r4 x2 e1 e3 hk F i4 l4 old k53 k54 x1 x3 ix2
      obtain ⟨f45, f46, f47, f48⟩ := k045 r4 F
      have le4 : fi r 26 ≤ fi r4 26 := by rw [il]; omega
      have kv : kd r4 v = kd r v := by unfold kd; rw [f45, (old v v0 g').1]
      refine ih r4 (v + 1) ⟨Fr_trans s1 F, ⟨q1, zo2 q2 le4, by omega, l4⟩, fun k k0 k1 => ?_, by rw [(old 0 (Int32.le_refl _) z26).1]; exact s4⟩
      by_cases ek : k = v
      · rw [ek]
        unfold XE XEn
        rw [kv, f46, f47, f48, k53, k54, (old v v0 g').1, x1, x3]
        have b1 : 0 ≤ fi r 26 ∧ fi r 26 < fi r4 26 := ⟨c0, by rw [it]; omega⟩
        have b2 : 0 ≤ x2 ∧ x2 < fi r4 26 := ⟨by rw [il]; simp; omega, by rw [it]; omega⟩
        rcases hk with ⟨h, h1, h2⟩ | ⟨h, h1, h2⟩
        · rw [h]
          exact ⟨⟨fun z => absurd z (by decide), fun _ => ⟨h1, h2⟩, fun z => absurd z (by decide)⟩, fun _ => b1, fun _ => b2⟩
        · rw [h]
          exact ⟨⟨fun z => absurd z (by decide), fun z => absurd z (by decide), fun _ => ⟨h1, h2⟩⟩, fun _ => b1, fun _ => b2⟩
      · have kv' := lv k k1 ek
        have kc := ltt kv' g'
        have o := (old k k0 kc).2 ek
        exact XE_old le4 f45 f46 f47 f48 (fun x x0 x1 => (old x x0 x1).1) o.1 o.2 k0 kc (s3 k k0 kv')
    refine ⟨fun n1 _ => ⟨fun n2 _ => ⟨fun n3 => ?_, fun n3 _ => ?_⟩, fun n2 _ => ?_⟩, fun n1 _ => ?_⟩
    · -- a leaf
      refine ih r (v + 1) ⟨s1, ⟨q1, q2, c1, c25⟩, fun k k0 k1 => ?_, s4⟩
      by_cases ek : k = v
      · rw [ek]
        have m1 : ¬ kd r v = 1 := n1
        have m2 : ¬ kd r v = 2 := n2
        have m3 : ¬ kd r v = 3 := n3
        exact ⟨⟨fun z => absurd z m1, fun z => absurd z m2, fun z => absurd z m3⟩, fun z => (z.elim m1 (fun z => z.elim m2 m3)).elim, fun z => (z.elim m2 m3).elim⟩
      · exact s3 k k0 (lv k k1 ek)
    · refine ws_addNode hM (fun r14 _ h25 an1 => ?_)
      intro _ r16 e16 _
      have F16 : Fr [26] [50, 51, 52, 53, 54, 59] r r16 := by rw [e16]; exact Fr_trans an1.1 (Fr_sA (by decide))
      rw [F16.2.1 48 (by decide)]
      refine ws_addNode hM (fun r19 _ h25' an2 => ?_)
      intro _ r21 e21
      obtain ⟨o1, o2, o3, o4, o5, o6, o7, o8⟩ := two r14 r16 r19 r21 _ _ _ _ an1 h25 e16 an2 h25' e21
      exact fin2 r21 (fi r16 26) _ _ (Or.inr ⟨n3, rfl, rfl⟩) o1 o2 (by omega) o3 o4 o5 o6 o7 o8
    · refine ws_addNode hM (fun r24 _ h25 an1 => ?_)
      intro _ r26 e26 _
      have F26 : Fr [26] [50, 51, 52, 53, 54, 59] r r26 := by rw [e26]; exact Fr_trans an1.1 (Fr_sA (by decide))
      rw [F26.2.1 47 (by decide)]
      refine ws_addNode hM (fun r29 _ h25' an2 => ?_)
      intro _ r31 e31
      obtain ⟨o1, o2, o3, o4, o5, o6, o7, o8⟩ := two r24 r26 r29 r31 _ _ _ _ an1 h25 e26 an2 h25' e31
      exact fin2 r31 (fi r26 26) _ _ (Or.inl ⟨n2, rfl, rfl⟩) o1 o2 (by omega) o3 o4 o5 o6 o7 o8
    · refine ws_addNode hM (fun r34 _ h25 an1 => ?_)
      intro _ r36 e36
      obtain ⟨o1, o2, o2', o3, o4, o5⟩ := one r34 r36 _ _ an1 h25 e36
      obtain ⟨f45, f46, f47, f48⟩ := k045 r36 o1
      have le4 : fi r 26 ≤ fi r36 26 := by rw [il]; omega
      have kv : kd r36 v = kd r v := by unfold kd; rw [f45, (o3 v v0 g').1]
      have m1 : kd r v = 1 := n1
      refine ih r36 (v + 1) ⟨Fr_trans s1 o1, ⟨q1, zo2 q2 le4, by omega, by omega⟩, fun k k0 k1 => ?_, by rw [(o3 0 (Int32.le_refl _) z26).1]; exact s4⟩
      by_cases ek : k = v
      · rw [ek]
        unfold XE XEn
        rw [kv, f46, f47, f48, o4, (o3 v v0 g').1, o5, m1]
        exact ⟨⟨fun _ => rfl, fun z => absurd z (by decide), fun z => absurd z (by decide)⟩, fun _ => ⟨c0, by rw [it]; omega⟩, fun z => (z.elim (fun z => absurd z (by decide)) (fun z => absurd z (by decide)))⟩
      · have kv' := lv k k1 ek
        have kc := ltt kv' g'
        have o := o3 k k0 kc
        exact XE_old le4 f45 f46 f47 f48 (fun x x0 x1 => (o3 x x0 x1).1) (o.2.2 ek) o.2.1 k0 kc (s3 k k0 kv')
theorem XE_tree {c : Int32} (h : ∀ k : Int32, 0 ≤ k → k < c → XE r c k) : ∀ (d : Nat) (n : Int32) (m : Nat) (S : List Int32), TrR r d n m S → 0 ≤ n → n < c → ∀ x, x ∈ S → XEn r x := by
  intro d
  induction d with
  | zero => intro n m S w; exact w.elim
  | succ d ih =>
    intro n m S w n0 n1 x hx
    have hn := h n n0 n1
    rcases w.2 with ⟨_, k2, _⟩ | ⟨hk, m1, S1, _, k2, _, t1⟩ | ⟨hk, m1, m2, S1, S2, _, k2, _, _, t1, t2⟩
    · rw [k2] at hx
      rw [List.mem_singleton.mp hx]
      exact hn.1
    · rw [k2] at hx
      have b := hn.2.1 (Or.inl hk)
      rcases List.mem_cons.mp hx with e | e
      · rw [e]; exact hn.1
      · exact ih _ _ _ t1 b.1 b.2 x e
    · rw [k2] at hx
      have b := hn.2.1 (Or.inr hk)
      have b' := hn.2.2 hk
      rcases List.mem_cons.mp hx with e | e
      · rw [e]; exact hn.1
      · rcases List.mem_append.mp e with e | e
        · exact ih _ _ _ t1 b.1 b.2 x e
        · exact ih _ _ _ t2 b'.1 b'.2 x e
theorem ws_mspread {e : Int32} (hM : ML a) (et : ETr r) (e0 : 0 ≤ e) (e1 : e < fi r 25) (es : (ar r 49 e.toNatClampNeg).toInt ≤ 24) {K : S_ → Prop} (hK : ∀ r' d m S, Fr [26] [50, 51, 52, 53, 54, 59] r r' → TrR r' d 0 m S → S.Nodup → m ≤ 24 → (∀ x, x ∈ S → ar r' 59 x.toNatClampNeg = 0) → ar r' 51 ((0 : Int32)).toNatClampNeg = -1 → (∀ x, x ∈ S → XEn r' x) → ar r' 50 ((0 : Int32)).toNatClampNeg = e → K r') : wM_spread a K r e := by
  refine wq_M_spread (K := fun r' => SPD r r') (K2 := fun r' => SX r r' e (fi r' 26)) (fun r' h1 h2 => ?_) (spread_ok hM et e0 e1 es (fun r' h => h)) ?_
  · obtain ⟨F, d, m, S, t1, t2, t3, t4, t5⟩ := h1
    have z26 : (0 : Int32) < fi r' 26 := by rw [it]; have := h2.2.1.2.2.1; simp; omega
    exact hK r' d m S F t1 t2 t3 t4 t5 (XE_tree h2.2.2.1 d 0 m S t1 (Int32.le_refl _) z26) h2.2.2.2
  · unfold wM_spread
    intro r1 e1'
    refine ws_addNode hM (fun r3 h0 h25 an => ?_)
    intro n
    have f1 : fi r1 26 = 0 := by rw [e1']; rfl
    rw [f1]
    refine ws_spread15 (r0 := r) hM (fun r h => h) n r3 0 ⟨?_, ⟨Int32.le_refl _, ?_, ?_, ?_⟩, fun k k0 k1 => absurd k1 (Int32.not_lt.mpr k0), ?_⟩
    · have F1 : Fr [26] [50, 51, 52, 53, 54, 59] r r1 := by rw [e1']; exact Fr_sF (by decide)
      exact Fr_trans F1 an.1
    · rw [an.2.1, f1]; decide
    · rw [an.2.1, f1]; decide
    · rw [an.2.1, f1]; decide
    · have := an.2.2.2.1
      rw [f1] at this
      exact this
end ZMSPR
