/-! Calls on both sides: is. -/
section ISP
theorem and01 (x : Int32) : x &&& 1 = 0 ∨ x &&& 1 = 1 := by
  have h : (x &&& 1).toBitVec = 0#32 ∨ (x &&& 1).toBitVec = 1#32 := by
    have : (x &&& 1).toBitVec = x.toBitVec &&& 1#32 := rfl
    rw [this]
    have h2 : x.toBitVec &&& 1#32 = if x.toBitVec.getLsbD 0 then 1#32 else 0#32 := by
      have := BitVec.and_twoPow x.toBitVec 0
      simpa [BitVec.twoPow] using this
    rw [h2]
    split
    · exact Or.inr rfl
    · exact Or.inl rfl
  rcases h with h | h
  · exact Or.inl (Int32.toBitVec_inj.mp h)
  · exact Or.inr (Int32.toBitVec_inj.mp h)
/-- a type has variables where a marked one is one -/
theorem b_iff {l : Nat → Nat} {r0 r : S_} {t : Int32} (w : TT l r0) (sq : SQ r0) (t0 : 0 ≤ t) (t1 : t < fi r0 1) (hS : SP r0 r t) : (∀ k : Int32, 0 ≤ k → k ≤ t → ¬ ar r 88 k.toNatClampNeg = 0 → 0 ≤ ar r0 1 k.toNatClampNeg) ↔ ar r0 5 t.toNatClampNeg = 0 := by
  obtain ⟨h1, h2, h3, h4, h5, -⟩ := hS
  have f4 := w.1.2.2.2
  have l60 : ∀ k : Int32, k ≤ t → k < 60 := fun k hk => by clear w sq h1 h2 h3 h4 h5; grind
  refine ⟨fun hall => ?_, fun hb k k0 k1 k2 => ?_⟩
  · have key : ∀ (n : Nat) (k : Int32), 0 ≤ k → k ≤ t → k.toInt < n → ¬ ar r 88 k.toNatClampNeg = 0 → ar r0 5 k.toNatClampNeg = 0 := by
      intro n
      induction n with
      | zero =>
        intro k k0 k1 k2
        rw [il] at k0
        simp at k0
        omega
      | succ n ih =>
        intro k k0 k1 k2 k3
        have kr : k < fi r0 1 := by clear w sq h1 h2 h3 h4 h5 ih hall; grind
        have wt := w.2.2.2 k k0 kr
        have cl := h4 k k0 (l60 k k1) k3 (by rw [il] at k0; simp at k0; omega)
        have x0 := hall k k0 k1 k3
        have ch : ∀ x : Int32, 0 ≤ x → x < k → ¬ ar r 88 x.toNatClampNeg = 0 → ar r0 5 x.toNatClampNeg = 0 := fun x x0 x1 x2 => ih x x0 (by clear w sq h1 h2 h3 h4 h5 ih hall wt cl; grind) (by rw [it] at x1; omega) x2
        have pt : ∀ x : Int32, -1 ≤ x → x < k → (0 ≤ x → ¬ ar r 88 x.toNatClampNeg = 0) → btP r0 x = 0 := fun x a b c => by
          unfold btP
          by_cases e : x = -1
          · rw [if_pos e]
          · rw [if_neg e]
            have x0 : 0 ≤ x := by clear w sq h1 h2 h3 h4 h5 ih hall wt cl ch c; grind
            exact ch x x0 b (c x0)
        rw [(sq k k0 kr).2.1, if_neg (fun z => nl0 x0 z), pt _ wt.2.1.1 wt.2.1.2 cl.1, pt _ wt.2.2.1.1 wt.2.2.1.2 cl.2]
        decide
    exact key (t.toInt.toNat + 1) t t0 (Int32.le_refl _) (by omega) h3
  · have key := h5 (fun k => 0 ≤ k ∧ k < fi r0 1 → ar r0 5 k.toNatClampNeg = 0) (fun _ => hb) (fun j j0 j1 j2 => ?_) k k0 (l60 k k1) k2
    · have kr : k < fi r0 1 := by clear w sq h1 h2 h3 h4 h5; grind
      exact (nov w sq k0 kr (key ⟨k0, kr⟩)).1
    · have nv := nov w sq j0 j1 (j2 ⟨j0, j1⟩)
      exact ⟨fun g _ => nv.2.1 g, fun g _ => nv.2.2 g⟩
theorem is_out {ad l : Nat → Nat} {R r1 : S_} {c t : Int32} {KX : S_ → Int32 → Int32 → Int32 → Prop} (h : INV l R) (hS : SP (sF R 20 0) r1 t) (t0 : 0 ≤ t) (t1 : t < fi R 1) (hK : ∀ s v3, Fr [] [74] r1 s → (¬ v3 = 0 ↔ ar R 5 t.toNatClampNeg = 0) → hM R t (ar s 74 t.toNatClampNeg) → KX s c t v3) : ∃ n, qM_is_L39 (ad, l) KX n r1 c t 1 0 := by
  have h' := h
  obtain ⟨⟨-, -, -, ⟨w1, -⟩, -⟩, q, m, -, -, -, -, sq⟩ := h
  have bi := b_iff (r0 := sF R 20 0) w1 sq t0 t1 hS
  have F := hS.1
  have mt := hS.2.2.1
  have cl := hS.2.2.2.1
  have f4 := w1.1.2.2.2
  obtain ⟨-, ⟨-, q37, q38, q39, -⟩, ⟨q23, -⟩, ⟨-, -, q43, q44⟩, -⟩ := q
  have l88 : l 88 = 60 := ml (n := 60) m (by decide) (by decide) rfl
  have l37 : l 37 = 60 := ml (n := 60) m (by decide) (by decide) rfl
  have l74 : l 74 = 60 := ml (n := 60) m (by decide) (by decide) rfl
  have v60 : ∀ (u : Int32) q, l q = 60 → 0 ≤ u → u < fi R 1 → vp_in u (ln (ad, l) q) := fun u q hq u0 u1 => vi2 u0 u1 (by show (fi R 1).toInt ≤ l q; rw [hq]; rw [il] at f4; simpa using f4)
  have key : ∀ (n : Nat) (s : S_) (v3 v4 : Int32), Fr [] [74] r1 s → 0 ≤ v4 → v4.toInt ≤ t.toInt + 1 → (¬ v3 = 0 ↔ ∀ u : Int32, 0 ≤ u → u < v4 → ¬ ar r1 88 u.toNatClampNeg = 0 → 0 ≤ ar R 1 u.toNatClampNeg) → (∀ u : Int32, 0 ≤ u → u < v4 → ¬ ar r1 88 u.toNatClampNeg = 0 → hM R u (ar s 74 u.toNatClampNeg)) → t.toInt + 1 - v4.toInt < n → qM_is_L39 (ad, l) KX n s c t v3 v4 := by
    intro n
    induction n with
    | zero => intro s v3 v4 a1 a2 a3 a4 a5 a6; omega
    | succ n ih =>
      intro s v3 v4 G a2 a3 a4 a5 a6
      have e88 : ar s 88 = ar r1 88 := G.2.1 88 (by decide)
      have e37 : ar s 37 = ar R 1 := (G.2.1 37 (by decide)).trans ((F.2.1 37 (by decide)).trans q37)
      have e38 : ar s 38 = ar R 2 := (G.2.1 38 (by decide)).trans ((F.2.1 38 (by decide)).trans q38)
      have e39 : ar s 39 = ar R 3 := (G.2.1 39 (by decide)).trans ((F.2.1 39 (by decide)).trans q39)
      have e86 : ar s 86 = ar R 86 := (G.2.1 86 (by decide)).trans (F.2.1 86 (by decide))
      have e43 : ar s 43 = ar R 10 := (G.2.1 43 (by decide)).trans ((F.2.1 43 (by decide)).trans q43)
      have e44 : ar s 44 = ar R 11 := (G.2.1 44 (by decide)).trans ((F.2.1 44 (by decide)).trans q44)
      have e23 : fi s 23 = fi R 2 := (G.1 23 (by decide)).trans ((F.1 23 (by decide)).trans q23)
      rw [qM_is_L39, e88, e37]
      refine ⟨fun g => ?_, fun g => ?_⟩
      · rw [it] at g
        have le : ∀ u : Int32, u ≤ t → u < v4 := fun u hu => by rw [il] at hu; rw [it]; omega
        have ge : ∀ u : Int32, u < v4 → u ≤ t := fun u hu => by rw [it] at hu; rw [il]; omega
        refine hK s v3 G ?_ (a5 t t0 (le t (Int32.le_refl _)) mt)
        rw [a4]
        refine Iff.trans ?_ bi
        exact ⟨fun z k k0 k1 k2 => z k k0 (le k k1) k2, fun z k k0 k1 k2 => z k k0 (ge k k1) k2⟩
      have hle : v4 ≤ t := Int32.not_lt.mp g
      have v1' : v4 < fi R 1 := by clear h' bi cl F w1 sq v60 ih a4 a5 hK; grind
      have v60' : v4 < 60 := by clear h' bi cl F w1 sq v60 ih a4 a5 hK; grind
      have hinc := i_inc v1'
      have c1 : 0 ≤ v4 + 1 := by rw [il] at a2 ⊢; rw [hinc]; simp at a2 ⊢; omega
      have wt := w1.2.2.2 v4 a2 v1'
      have j74 : ∀ u0 : Int32, (¬ u0 = 0 ↔ (¬ v3 = 0 ∧ (¬ ar r1 88 v4.toNatClampNeg = 0 → 0 ≤ ar R 1 v4.toNatClampNeg))) → qM_is_J74 (ad, l) (qM_is_L39 (ad, l) KX n) KX s c t v4 u0 := by
        intro u0 hu
        unfold qM_is_J74
        refine is_in h' e23 e37 e38 e39 e86 e43 e44 a2 v1' (fun mk => ?_) (fun v hv => ?_)
        · rw [e88] at mk
          have b := cl v4 a2 v60' mk (by rw [il] at a2; simp at a2; omega)
          exact ⟨fun x0 => a5 _ x0 wt.2.1.2 (b.1 x0), fun x0 => a5 _ x0 wt.2.2.1.2 (b.2 x0)⟩
        · rw [e88] at hv
          unfold qM_is_J253
          refine ⟨v60 v4 74 l74 a2 v1', fun r31 e31 => ?_⟩
          have e74 : ar r31 74 = upd (ar s 74) v4.toNatClampNeg v := by rw [e31]; rfl
          refine ih r31 u0 (v4 + 1) (by rw [e31]; exact Fr_trans G (Fr_sA (by simp))) c1 (by rw [il] at hle; omega) ?_ (fun u u0 u1 mu => ?_) (by omega)
          · rw [hu, a4]
            constructor
            · rintro ⟨z1, z2⟩ u b0 b1 b2
              rcases (lts8 v1').mp b1 with e | e
              · exact z1 u b0 e b2
              · rw [e] at b2 ⊢
                exact z2 b2
            · intro z
              exact ⟨fun u b0 b1 b2 => z u b0 ((lts8 v1').mpr (Or.inl b1)) b2, z v4 a2 ((lts8 v1').mpr (Or.inr rfl))⟩
          · rw [e74, updI _ _ a2 u0]
            rcases (lts8 v1').mp u1 with e | e
            · rw [if_neg (fun z => by rw [z] at e; exact irr e)]
              exact a5 u u0 e mu
            · rw [if_pos e]
              rw [e] at mu ⊢
              exact hv mu
      unfold qM_is_J73 qM_is_J69
      refine ⟨fun z => j74 0 ⟨fun q => absurd rfl q, fun q => absurd z q.1⟩, fun z => ⟨v60 v4 88 l88 a2 v1', fun mk => j74 1 ⟨fun _ => ⟨z, fun q => absurd mk q⟩, fun _ => by decide⟩, fun mk => ⟨v60 v4 37 l37 a2 v1', fun x => j74 0 ⟨fun q => absurd rfl q, fun q => (nl0 (q.2 mk) x).elim⟩, fun x => j74 1 ⟨fun _ => ⟨z, fun _ => Int32.not_lt.mp x⟩, fun _ => by decide⟩⟩⟩⟩
  exact ⟨t.toNatClampNeg + 2, key _ r1 1 0 (Fr_refl _) (by decide) (by rw [il] at t0; simp at t0 ⊢; omega) ⟨fun _ u b0 b1 => (nl0 b0 b1).elim, fun _ => by decide⟩ (fun u b0 b1 => (nl0 b0 b1).elim) (by have := i_nat t0; simp; omega)⟩
theorem is_pair {ad l : Nat → Nat} {r : S_} {c t : Int32} (h : INV l r) {K : S_ → Prop} (hK : ∀ r', INV l r' → kp r' = kp r → K r') : qI_is (ad, l) r (fun z => qM_is (ad, l) (fun z2 r2 => z = z2 ∧ K r2) r c t) c t := by
  have h' := h
  obtain ⟨⟨g1, g2, g3, ⟨w1, w2, w3⟩, g5, g6⟩, q, m, la, kq, wq, mq, sq⟩ := h
  have f3 := w1.1.2.2.1
  have f60 : fi r 1 ≤ 1000000 := by have := w1.1.2.2.2; clear h' g1 g2 g3 w1 w2 w3 g5 g6 q m la kq wq mq sq hK; grind
  have f4 := w1.1.2.2.2
  have n8 := w2.2.1
  have q22 := q.2.1.1
  have q23 := q.2.2.1.1
  have l74 : l 74 = 60 := ml (n := 60) m (by decide) (by decide) rfl
  have l5 : l 5 = 60 := w1.2.1.2.2.2.2.2.1
  have mth : ∀ Q : Int32 → S_ → Prop, (¬ (0 ≤ c ∧ c < fi r 2) ∨ ¬ (0 ≤ t ∧ t < fi r 1) → ∀ s, INV l s → kp s = kp r → Q (-1) s) → (0 ≤ c → c < fi r 2 → 0 ≤ t → t < fi r 1 → ∀ s, INV l s → kp s = kp r → (¬ ar r 5 t.toNatClampNeg = 0 → Q (-1) s) ∧ (ar r 5 t.toNatClampNeg = 0 → (hH r t c → Q 1 s) ∧ (¬ hH r t c → Q 0 s))) → qM_is (ad, l) Q r c t := by
    intro Q hb hg
    unfold qM_is
    intro r1 e1
    subst e1
    have e22 : fi (sF r 20 0) 22 = fi r 1 := q22
    rw [e22]
    refine risK_ok (r := sF r 20 0) (c := fi r 2) q23 (fun z => ⟨fun _ => hb (Or.inl z) _ (INV_20 h') rfl, fun z => absurd rfl z⟩) (fun c0 c1 => ⟨fun z => absurd z (by decide), fun _ => rin_ix f3 f60 (fun z => ⟨fun z => absurd rfl z, fun _ => hb (Or.inr z) _ (INV_20 h') rfl⟩) (fun t0 t1 => ⟨fun _ => ?_, fun z => absurd z (by decide)⟩)⟩)
    refine markStatic_ok (r0 := sF r 20 0) w1 m q.2.1.2.2.1 q.2.1.2.2.2.1 t0 t1 (fun r6 hS => is_out h' hS t0 t1 (fun s v3 G hv hm => ?_))
    have es : s = sA (sA (sF r 20 0) 88 (ar r6 88)) 74 (ar s 74) := by
      have a := Fr1 G
      have b := Fr1 hS.1
      rw [b] at a
      exact a
    have iv : INV l s := by
      rw [es]
      exact h'
    have i13 : kp s = kp r := by
      rw [es]
      rfl
    have gg := hg c0 c1 t0 t1 s iv i13
    have c8 : c < 8 := by clear h' g1 g2 g3 w1 w2 w3 g5 g6 q m la kq wq mq sq hK hb hg hS G hv hm es iv gg; grind
    have dl := d_lt c0 c8
    refine ⟨fun z => ⟨vi2 t0 t1 (by show (fi r 1).toInt ≤ l 74; rw [l74]; rw [il] at f4; simpa using f4), ?_⟩, fun z => gg.1 (fun q => hv.mpr q z)⟩
    have g2' := gg.2 (hv.mp z)
    have bm := bt_m (v := ar s 74 t.toNatClampNeg) c0 c8
    have hmc : gb (ar s 74 t.toNatClampNeg) c.toNatClampNeg = true ↔ hH r t c := by
      rw [hm c.toNatClampNeg (by omega)]
      exact ⟨fun ⟨d, d0, d1, d2, d3⟩ => by rw [(i_inj d0 c0).mp d2] at d3; exact d3, fun z => ⟨c, c0, c1, rfl, z⟩⟩
    by_cases e : hH r t c
    · rw [bm.mpr (hmc.mpr e)]
      exact g2'.1 e
    · rcases and01 (ar s 74 t.toNatClampNeg >>> (c &&& 31)) with x | x
      · rw [x]
        exact g2'.2 e
      · exact absurd (hmc.mp (bm.mp x)) e
  have bad : (¬ (0 ≤ c ∧ c < fi r 2) ∨ ¬ (0 ≤ t ∧ t < fi r 1)) → qM_is (ad, l) (fun z2 r2 => -1 = z2 ∧ K r2) r c t := fun hb => by
    refine mth _ (fun _ s iv i13 => ⟨rfl, hK s iv i13⟩) (fun c0 c1 t0 t1 => ?_)
    rcases hb with z | z
    · exact absurd ⟨c0, c1⟩ z
    · exact absurd ⟨t0, t1⟩ z
  unfold qI_is
  refine hasK_ok (fun z => ⟨fun _ => bad (Or.inl z), fun z => absurd rfl z⟩) (fun c0 c1 => ⟨fun z => absurd z (by decide), fun _ => hasT_ok (fun z => ⟨fun _ => bad (Or.inr z), fun z => absurd rfl z⟩) (fun t0 t1 => ⟨fun z => absurd z (by decide), fun _ => ?_⟩)⟩)
  have nb : ∀ {P : Prop}, (¬ (0 ≤ c ∧ c < fi r 2) ∨ ¬ (0 ≤ t ∧ t < fi r 1)) → P := fun hb => by
    rcases hb with z | z
    · exact absurd ⟨c0, c1⟩ z
    · exact absurd ⟨t0, t1⟩ z
  unfold qT_holdsVariables
  refine ⟨vi2 t0 t1 (by show (fi r 1).toInt ≤ l 5; rw [l5]; rw [il] at f4; simpa using f4), fun t5 => ⟨zb0, fun _ => ⟨fun _ => ?_, fun z => absurd rfl z⟩⟩, fun t5 => ⟨zb1, fun _ => ⟨fun z => absurd z (by decide), fun _ => ?_⟩⟩⟩
  · refine holdsAll_ok h' c0 c1 t0 t1 t5 (fun hh => ⟨fun z => absurd z (by decide), fun _ => ?_⟩) (fun hh => ⟨fun _ => ?_, fun z => absurd rfl z⟩)
    · exact mth _ (fun z => nb z) (fun _ _ _ _ s iv i13 => ⟨fun z => absurd t5 z, fun _ => ⟨fun _ => ⟨rfl, hK s iv i13⟩, fun z => absurd hh z⟩⟩)
    · exact mth _ (fun z => nb z) (fun _ _ _ _ s iv i13 => ⟨fun z => absurd t5 z, fun _ => ⟨fun z => absurd z hh, fun _ => ⟨rfl, hK s iv i13⟩⟩⟩)
  · exact mth _ (fun z => nb z) (fun _ _ _ _ s iv i13 => ⟨fun _ => ⟨rfl, hK s iv i13⟩, fun z => absurd z t5⟩)
end ISP
