/-! Telling a type. -/
section TELL
def rl (l : Nat → Nat) (m : Nat) : Nat → Nat := fun j => if j = 35 then m else if j = 89 then m else if j = 34 then m else if j = 33 then m else if j = 32 then m else l j
def rr0 (r : S_) (v : Int32) : S_ := sF (sF (sF (sF r 16 0) 17 0) 18 0) 19 v
def rz (r : S_) : S_ := sA (sL (sA (sA (sA r 32 (fun _ => 0)) 33 (fun _ => 0)) 34 (fun _ => 0)) 0 (fun _ => 0)) 35 (fun _ => 0)
theorem rl_len {l : Nat → Nat} {m : Nat} : rl l m 32 = m ∧ rl l m 33 = m ∧ rl l m 34 = m ∧ rl l m 35 = m ∧ rl l m 89 = m ∧ rl l m 21 = l 21 := ⟨rfl, rfl, rfl, rfl, rfl, rfl⟩
theorem rl_o {l : Nat → Nat} {m k : Nat} (h : k < 32 ∨ 36 ≤ k ∧ k < 89) : rl l m k = l k := by
  unfold rl
  simp only [show ¬ k = 35 by omega, show ¬ k = 89 by omega, show ¬ k = 34 by omega, show ¬ k = 33 by omega, show ¬ k = 32 by omega, if_false]
/-- lengths but for the told type -/
def FT (l l' : Nat → Nat) : Prop := ∀ k, (k < 32 ∨ 36 ≤ k ∧ k < 89) → l' k = l k
theorem restart_D {l : Nat → Nat} {r : S_} {p0 p1 : Int32} (hT : TL l) (h0 : 0 ≤ p0) (h1 : p0.toInt ≤ 4096) : ∃ (l' : Nat → Nat) (r' : S_) (k s : Nat), (TL l' ∧ p0.toInt ≤ l' 32 ∧ FT l l' ∧ fi r' 16 = 0 ∧ fi r' 17 = 0 ∧ Ftd r r') ∧ k + pC l' ≤ pC l ∧ s + pS l' ≤ pS l ∧ ∀ (ad : Nat → Nat) (K : L_ → S_ → Prop), (∀ ad', fx (ad, l) (ad', l') → K (ad', l') r') → qD_restart K (ad, l) r k s p0 p1 := by
  obtain ⟨t1, t2, t3, t4, t5⟩ := hT
  have eo := i_ofn (n := l 32) (by omega)
  have fr0 : ∀ q : S_, Ftd q (rr0 q p1) := fun q => ⟨fun k hk => by simp at hk; simp [rr0, fi_sF, hk], fun k hk => by simp [rr0, ar_sF]⟩
  by_cases h : p0 ≤ Int32.ofNat (l 32)
  · have h' := h
    rw [il, eo] at h'
    refine ⟨l, rr0 r p1, 0, 0, ⟨⟨t1, t2, t3, t4, t5⟩, h', fun _ _ => rfl, rfl, rfl, fr0 r⟩, by omega, by omega, fun ad K hK => ?_⟩
    unfold qD_restart
    refine ⟨fun _ => ?_, fun z => absurd h z⟩
    unfold qD_restart_J54
    intro r2 e2 r3 e3 r4 e4 r5 e5
    subst e2
    subst e3
    subst e4
    subst e5
    exact hK ad (fx_refl _)
  · have h' := h
    rw [il, eo] at h'
    have q0 : (2 * p0).toInt = 2 * p0.toInt := by
      rw [il] at h0
      simp at h0
      rw [i_dbl (by omega) (by omega)]
    have h0' : 0 ≤ p0.toInt := by rw [il] at h0; simpa using h0
    have q1 : 0 ≤ 2 * p0 := by rw [il, q0]; simp; omega
    have q2 := i_nat q1
    have ng : ¬ 2 * p0 < 0 := fun z => nl0 q1 z
    obtain ⟨m, hm⟩ : ∃ m, m = (2 * p0).toNatClampNeg := ⟨_, rfl⟩
    have hm4 : m * 4 ≤ 536870912 := by omega
    have hm8 : m * 8 ≤ 536870912 := by omega
    have frz : Ftd r (rr0 (rz r) p1) := by
      refine ⟨fun k hk => ?_, fun k hk => ?_⟩
      · simp at hk
        simp [rr0, rz, fi_sF, fi_sA, fi_sL, hk]
      · simp at hk
        simp [rr0, rz, ar_sF, ar_sA, ar_sL, hk]
    refine ⟨rl l m, rr0 (rz r) p1, 5, 5 * m, ⟨⟨rfl, rfl, rfl, rfl, by rw [rl_len.1]; omega⟩, by rw [rl_len.1]; omega, fun k hk => rl_o hk, rfl, rfl, frz⟩, ?_, ?_, fun ad K hK => ?_⟩
    · unfold pC
      rw [rl_len.1, rl_len.2.2.2.2.2]
      omega
    · unfold pS
      rw [rl_len.1, rl_len.2.2.2.2.2]
      omega
    · unfold qD_restart
      rw [← hm]
      refine ⟨fun z => absurd z h, fun _ => ⟨ng, hm4, 4, 4 * m, rfl, by omega, fun q12 a13 r14 ea er => ?_⟩⟩
      subst ea
      subst er
      refine ⟨ng, hm4, 3, 3 * m, rfl, by omega, fun q21 a22 r23 ea er => ?_⟩
      subst ea
      subst er
      refine ⟨ng, hm4, 2, 2 * m, rfl, by omega, fun q30 a31 r32 ea er => ?_⟩
      subst ea
      subst er
      refine ⟨ng, hm8, 1, m, rfl, by omega, fun q39 a40 r41 ea er => ?_⟩
      subst ea
      subst er
      refine ⟨ng, hm4, 0, 0, rfl, by omega, fun q48 a49 r50 ea er => ?_⟩
      subst ea
      subst er
      unfold qD_restart_J54
      intro r2 e2 r3 e3 r4 e4 r5 e5
      subst e2
      subst e3
      subst e4
      subst e5
      exact hK _ (fx_trans (fx_trans (fx_trans (fx_trans (fx_sAd (by decide)) (fx_sAd (by decide))) (fx_sAd (by decide))) (fx_sAd (by decide))) (fx_sAd (by decide)))
theorem GI_len {l l1 : Nat → Nat} {r : S_} {rh ta : Int32 → Int32} {N : Int32} (hI : GI (A0 l) r rh ta N) (h : FT l l1) : GI (A0 l1) r rh ta N := by
  have e1 : ∀ (q : Nat → Nat) k, ln (A0 q) k = q k := fun _ _ => rfl
  unfold GI GL at hI ⊢
  simp only [e1] at hI ⊢
  rw [h 21 (by omega), h 22 (by omega), h 23 (by omega), h 24 (by omega), h 25 (by omega), h 26 (by omega), h 27 (by omega), h 28 (by omega), h 29 (by omega), h 30 (by omega), h 31 (by omega)]
  exact hI
/-- what each round of telling keeps -/
def LI (l : Nat → Nat) (r : S_) (rh ta : Int32 → Int32) (N o : Int32) (od : Int32 → Int32) (i : Int32) : Prop := GI (A0 l) r rh ta N ∧ VB r ∧ (fi r 12 = o ∧ 0 ≤ o ∧ o ≤ fi r 11 ∧ o.toInt ≤ l 32) ∧ (∀ k, 0 ≤ k → k < o → ar r 30 k.toNatClampNeg = od k ∧ (0 ≤ od k ∧ od k < fi r 11) ∧ ¬ ar r 21 (od k).toNatClampNeg = -2 ∧ (¬ ar r 22 (od k).toNatClampNeg = -1 → ∃ j, 0 ≤ j ∧ j < k ∧ od j = rh (ar r 22 (od k).toNatClampNeg)) ∧ (¬ ar r 23 (od k).toNatClampNeg = -1 → ∃ j, 0 ≤ j ∧ j < k ∧ od j = rh (ar r 23 (od k).toNatClampNeg))) ∧ (∀ j, 0 ≤ j → j < i → 0 ≤ ar r 29 (od j).toNatClampNeg ∧ ar r 29 (od j).toNatClampNeg < i) ∧ TD l r ∧ fi r 16 = i
theorem LI_22 {l : Nat → Nat} {r : S_} {rh ta : Int32 → Int32} {N o i : Int32} {od : Int32 → Int32} (w : LI l r rh ta N o od i) {f : Nat → Int32} (h1 : GI (A0 l) (sA r 22 f) rh ta N) (h2 : FS (fi r 11) (ar r 21) (ar r 22) f) : LI l (sA r 22 f) rh ta N o od i := by
  obtain ⟨w1, w2, w3, w4, w5, w6, w7⟩ := w
  refine ⟨h1, w2, w3, fun k k1 k2 => ?_, w5, w6, w7⟩
  have b := w4 k k1 k2
  have e : ar (sA r 22 f) 22 (od k).toNatClampNeg = ar r 22 (od k).toNatClampNeg := h2 _ b.2.1.1 b.2.1.2 b.2.2.1
  rw [e]
  exact b
/-- the frame of telling -/
abbrev Ftl (r r' : S_) : Prop := (∀ k, k ∉ [12, 13, 14, 16, 17, 18, 19] → fi r' k = fi r k) ∧ ∀ k, k ∉ [22, 28, 29, 30, 31, 32, 33, 34, 35] → ar r' k = ar r k
theorem Ftl_trans {r1 r2 r3 : S_} (w : Ftl r1 r2) (w2 : Ftl r2 r3) : Ftl r1 r3 := ⟨fun k h => (w2.1 k h).trans (w.1 k h), fun k h => (w2.2 k h).trans (w.2 k h)⟩
theorem Ftl_refl (r : S_) : Ftl r r := ⟨fun _ _ => rfl, fun _ _ => rfl⟩
theorem Ftl_Fr {F A : List Nat} {r r' : S_} (w : Fr F A r r') (h1 : ∀ k ∈ F, k ∈ [12, 13, 14, 16, 17, 18, 19]) (h2 : ∀ k ∈ A, k ∈ [22, 28, 29, 30, 31, 32, 33, 34, 35]) : Ftl r r' := ⟨fun k hk => w.1 k (fun z => hk (h1 k z)), fun k hk => w.2.1 k (fun z => hk (h2 k z))⟩
theorem Ftl_td {r r' : S_} (w : Ftd r r') : Ftl r r' := ⟨fun k hk => w.1 k (by simp at hk ⊢; omega), fun k hk => w.2 k (by simp at hk ⊢; omega)⟩
/-- a round: the told type has one node more -/
theorem LI_next {l : Nat → Nat} {r r1 : S_} {rh ta : Int32 → Int32} {N o i : Int32} {od : Int32 → Int32} (w : LI l r rh ta N o od i) (i1 : 0 ≤ i) (i2 : i < o) (h1 : TD l r1) (h2 : Ftd r r1) (h3 : (fi r1 16).toInt = (fi r 16).toInt + 1) : LI l (sA r1 29 (upd (ar r1 29) (od i).toNatClampNeg i)) rh ta N o od (i + 1) := by
  obtain ⟨w1, w2, ⟨w31, w32, w33, w34⟩, w4, w5, w6, w7⟩ := w
  have e11 : fi r1 11 = fi r 11 := h2.1 11 (by decide)
  have e12 : fi r1 12 = fi r 12 := h2.1 12 (by decide)
  have e13 : fi r1 13 = fi r 13 := h2.1 13 (by decide)
  have e21 : ar r1 21 = ar r 21 := h2.2 21 (by decide)
  have e22 : ar r1 22 = ar r 22 := h2.2 22 (by decide)
  have e23 : ar r1 23 = ar r 23 := h2.2 23 (by decide)
  have e28 : ar r1 28 = ar r 28 := h2.2 28 (by decide)
  have e29 : ar r1 29 = ar r 29 := h2.2 29 (by decide)
  have e30 : ar r1 30 = ar r 30 := h2.2 30 (by decide)
  have b := w4 i i1 i2
  have hi := i_inc i2
  have s1 : i < i + 1 := by clear w1 w2 w4 w5 w6 h1 h2; grind
  have g1 : GI (A0 l) r1 rh ta N := by
    unfold GI
    rw [e11, e21, e22, e23]
    exact w1
  have g2 : VB r1 := by
    unfold VB
    rw [e13, e28]
    exact w2
  refine ⟨g1, g2, ⟨e12.trans w31, w32, by rw [fi_sA, e11]; exact w33, w34⟩, fun k k1 k2 => ?_, fun j j1 j2 => ?_, h1, ?_⟩
  · have q := w4 k k1 k2
    rw [ar_sA, if_neg (by decide), ar_sA, if_neg (by decide), ar_sA, if_neg (by decide), ar_sA, if_neg (by decide), fi_sA, e30, e21, e22, e23, e11]
    exact q
  · rw [ar_sA, if_pos rfl, e29]
    by_cases e : od j = od i
    · rw [e, pk_us]
      exact ⟨i1, s1⟩
    · have j3 : j < i := by
        have : ¬ j = i := fun z => e (by rw [z])
        clear w1 w2 w4 w5 w6 h1 h2; grind
      have q := w4 j j1 (ltt j3 i2)
      rw [updI _ _ b.2.1.1 q.2.1.1, if_neg e]
      have := w5 j j1 j3
      exact ⟨this.1, ltt this.2 s1⟩
  · rw [fi_sA, ie, h3, w7, hi]
theorem tell_L {o : Int32} {od : Int32 → Int32} : ∀ (m : Nat) (l : Nat → Nat) (r : S_) (rh ta : Int32 → Int32) (N i : Int32), LI l r rh ta N o od i → 0 ≤ i → i ≤ o → o.toInt - i.toInt = m → ∃ r', (TD l r' ∧ VB r' ∧ Ftl r r' ∧ fi r' 13 = fi r 13) ∧ ∀ (ad : Nat → Nat) (K : L_ → S_ → Prop) (kc ks : Nat), K (ad, l) r' → qY_tell_L35 (fun a r kc ks => K a r) (m + 1) (ad, l) r kc ks i := by
  intro m
  induction m with
  | zero =>
    intro l r rh ta N i w i1 i2 hm
    refine ⟨r, ⟨w.2.2.2.2.2.1, w.2.1, Ftl_refl r, rfl⟩, fun ad K kc ks hk => ?_⟩
    rw [qY_tell_L35]
    refine ⟨fun _ => hk, fun g => ?_⟩
    have : i < o := by rw [← w.2.2.1.1]; exact Int32.not_le.mp g
    rw [it] at this
    omega
  | succ m ih =>
    intro l r rh ta N i w i1 i2 hm
    have w' := w
    obtain ⟨w1, w2, ⟨w31, w32, w33, w34⟩, w4, w5, w6, w7⟩ := w
    have hlt : i < o := by rw [it]; omega
    have hi := i_inc hlt
    have c1 : 0 ≤ i + 1 := by clear w1 w2 w4 w5 w6 w' ih; grind
    have c2 : i + 1 ≤ o := by clear w1 w2 w4 w5 w6 w' ih; grind
    have b := w4 i i1 hlt
    have nb := w1.2.2.2.1 _ b.2.1.1 b.2.1.2
    have hL : l 22 = l 21 ∧ l 23 = l 21 ∧ l 24 = l 21 ∧ l 25 = l 21 ∧ l 26 = l 21 ∧ l 27 = l 21 ∧ l 28 = l 21 ∧ l 29 = l 21 ∧ l 30 = l 21 ∧ l 31 = 2 * l 21 + 4 ∧ 64 ≤ l 21 ∧ l 21 ≤ 4096 := w1.1
    have hcl : (fi r 11).toInt ≤ l 21 := w1.2.2.1
    have v30 : vp_in i (l 30) := by
      refine vi i1 ?_
      have h9 := hlt
      have h8 := w33
      rw [it] at h9
      rw [il] at h8
      omega
    have vod : ∀ k, l k = l 21 → vp_in (od i) (l k) := fun k hk => vi2 b.2.1.1 b.2.1.2 (by rw [hk]; exact hcl)
    have g12 : ¬ fi r 12 ≤ i := by rw [w31, Int32.not_le]; exact hlt
    have h16 : (fi r 16).toInt < l 32 := by
      have h9 := hlt
      rw [it] at h9
      rw [w7]
      omega
    have fin : ∀ r1 : S_, TD l r1 → Ftd r r1 → (fi r1 16).toInt = (fi r 16).toInt + 1 → ∃ r', (TD l r' ∧ VB r' ∧ Ftl r r' ∧ fi r' 13 = fi r 13) ∧ ∀ (ad : Nat → Nat) (K : L_ → S_ → Prop) (kc ks : Nat), K (ad, l) r' → qY_tell_J136 (qY_tell_L35 (fun a r kc ks => K a r) (m + 1)) (fun a r kc ks => K a r) (ad, l) r1 kc ks i (od i) := by
      intro r1 t1 t2 t3
      have wn := LI_next w' i1 hlt t1 t2 t3
      obtain ⟨r', ⟨q1, q2, q3, q4⟩, q5⟩ := ih l _ rh ta N (i + 1) wn c1 c2 (by omega)
      have e13 : fi r1 13 = fi r 13 := t2.1 13 (by decide)
      refine ⟨r', ⟨q1, q2, Ftl_trans (Ftl_td t2) (Ftl_trans (Ftl_Fr (F := []) (A := [29]) (Fr_sA (by decide)) (by decide) (by decide)) q3), q4.trans e13⟩, fun ad K kc ks hk => ?_⟩
      unfold qY_tell_J136
      refine ⟨vod 29 hL.2.2.2.2.2.2.2.1, fun r22 e22 => ?_⟩
      subst e22
      exact q5 ad K kc ks hk
    by_cases hv : ar r 21 (od i).toNatClampNeg = -1
    · have hd : Det (fun ad (K0 : S_ → Prop) => qD_addVariable (ad, l) (fun r => K0 r) r (ar r 25 (od i).toNatClampNeg)) := det_qD_addVariable (fun r => fun ad K h => ⟨r, h, fun _ _ h => h⟩)
      obtain ⟨r1, ⟨t1, t2, t3⟩, h1⟩ := D1r (P := fun r1 => TD l r1 ∧ Ftd r r1 ∧ (fi r1 16).toInt = (fi r 16).toInt + 1) hd (addVariable_ok w6 h16 (fun r' k1 k2 k3 => ⟨k1, k2, k3⟩))
      obtain ⟨r', q1, q2⟩ := fin r1 t1 t2 t3
      refine ⟨r', q1, fun ad K kc ks hk => ?_⟩
      rw [qY_tell_L35]
      refine ⟨fun z => absurd z g12, fun _ => ?_⟩
      rw [b.1]
      refine ⟨v30, ?_⟩
      unfold qG_isVariable
      refine ⟨vod 21 rfl, fun z => absurd hv z, fun _ => ⟨zb1, fun _ => ⟨fun z => absurd z (by decide), fun _ => ⟨vod 25 hL.2.2.2.1, h1 ad _ (q2 ad K kc ks hk)⟩⟩⟩⟩
    · obtain ⟨z1, ra, h3, h4⟩ := valueOf_D w1 nb.2.2.1 nb.2.2.2.1
      have st1 : LI l ra rh ta N o od i ∧ Ftl r ra ∧ Fr [] [22] r ra ∧ -1 ≤ z1 ∧ z1 < i := by
        rcases h3 with ⟨e, ez, er⟩ | ⟨e, ez, f, er, g1, g2⟩
        · subst er
          exact ⟨w', Ftl_refl _, Fr_refl _, by rw [ez]; decide, by rw [ez]; clear w1 w2 w4 w5 w6 w' ih fin b nb h4; grind⟩
        · subst er
          obtain ⟨j, j1, j2, j3⟩ := b.2.2.2.1 e
          have q := w5 j j1 j2
          rw [j3] at q
          exact ⟨LI_22 w' g1 g2, Ftl_Fr (F := []) (A := [22]) (Fr_sA (by decide)) (by decide) (by decide), Fr_sA (by decide), by rw [ez]; have := q.1; clear w1 w2 w4 w5 w6 w' ih fin b nb h4 q g1 g2; grind, by rw [ez]; exact q.2⟩
      obtain ⟨s1, s2, s3, s4, s5⟩ := st1
      have e30a : ar ra 30 = ar r 30 := s3.2.1 30 (by decide)
      have e21a : ar ra 21 = ar r 21 := s3.2.1 21 (by decide)
      have e23a : ar ra 23 = ar r 23 := s3.2.1 23 (by decide)
      have e11a : fi ra 11 = fi r 11 := s3.1 11 (by decide)
      have ba := s1.2.2.2.1 i i1 hlt
      have nba := s1.1.2.2.2.1 _ ba.2.1.1 ba.2.1.2
      obtain ⟨z2, rb, h5, h6⟩ := valueOf_D s1.1 nba.2.2.2.2.1 nba.2.2.2.2.2.1
      have st2 : LI l rb rh ta N o od i ∧ Ftl ra rb ∧ Fr [] [22] ra rb ∧ -1 ≤ z2 ∧ z2 < i := by
        rcases h5 with ⟨e, ez, er⟩ | ⟨e, ez, f, er, g1, g2⟩
        · subst er
          exact ⟨s1, Ftl_refl _, Fr_refl _, by rw [ez]; decide, by rw [ez]; clear w1 w2 w4 w5 w6 w' ih fin b nb h4 s1 s2 s3 ba nba h6; grind⟩
        · subst er
          obtain ⟨j, j1, j2, j3⟩ := ba.2.2.2.2 e
          have q := s1.2.2.2.2.1 j j1 j2
          rw [j3] at q
          exact ⟨LI_22 s1 g1 g2, Ftl_Fr (F := []) (A := [22]) (Fr_sA (by decide)) (by decide) (by decide), Fr_sA (by decide), by rw [ez]; have := q.1; clear w1 w2 w4 w5 w6 w' ih fin b nb h4 q g1 g2 s1 s2 s3 ba nba h6; grind, by rw [ez]; exact q.2⟩
      obtain ⟨u1, u2, u3, u4, u5⟩ := st2
      have e16b : fi rb 16 = i := u1.2.2.2.2.2.2
      have e21b : ar rb 21 = ar r 21 := (u3.2.1 21 (by decide)).trans e21a
      have hd : Det (fun ad (K0 : S_ → Prop) => qD_addBuilt (ad, l) (fun r => K0 r) rb (ar rb 21 (od i).toNatClampNeg) z1 z2) := det_qD_addBuilt (fun r => fun ad K h => ⟨r, h, fun _ _ h => h⟩)
      have tdb : TD l rb := u1.2.2.2.2.2.1
      obtain ⟨r1, ⟨t1, t2, t3, t4⟩, h1⟩ := D1r (P := fun r1 => TD0 l r1 ∧ Ftd rb r1 ∧ (fi r1 16).toInt = (fi rb 16).toInt + 1 ∧ fi r1 17 = fi rb 17) hd (addBuilt_ok tdb.1 (by rw [e16b]; rw [w7] at h16; exact h16) s4 (by rw [e16b]; exact s5) u4 (by rw [e16b]; exact u5) (fun r' k1 k2 k3 k4 => ⟨k1, k2, k3, k4⟩))
      have td1 : TD l r1 := ⟨t1, by rw [t4]; exact tdb.2.1, by rw [t4, t3]; have := tdb.2.2; omega⟩
      have wn := LI_next u1 i1 hlt td1 t2 t3
      obtain ⟨r', ⟨q1, q2, q3, q4⟩, q5⟩ := ih l _ rh ta N (i + 1) wn c1 c2 (by omega)
      have e13 : fi r1 13 = fi r 13 := (t2.1 13 (by decide)).trans ((u3.1 13 (by decide)).trans (s3.1 13 (by decide)))
      refine ⟨r', ⟨q1, q2, Ftl_trans s2 (Ftl_trans u2 (Ftl_trans (Ftl_td t2) (Ftl_trans (Ftl_Fr (F := []) (A := [29]) (Fr_sA (by decide)) (by decide) (by decide)) q3))), q4.trans e13⟩, fun ad K kc ks hk => ?_⟩
      rw [qY_tell_L35]
      refine ⟨fun z => absurd z g12, fun _ => ?_⟩
      rw [b.1]
      refine ⟨v30, ?_⟩
      unfold qG_isVariable
      refine ⟨vod 21 rfl, fun _ => ⟨zb0, fun _ => ⟨fun _ => ⟨vod 22 hL.1, ?_⟩, fun z => absurd rfl z⟩⟩, fun z => absurd z hv⟩
      refine h4 ad _ ⟨vod 23 hL.2.1, ?_⟩
      refine h6 ad _ ⟨vod 21 rfl, ?_⟩
      refine h1 ad _ ?_
      unfold qY_tell_J136
      refine ⟨vod 29 hL.2.2.2.2.2.2.2.1, fun r22 e22 => ?_⟩
      subst e22
      exact q5 ad K kc ks hk
end TELL
