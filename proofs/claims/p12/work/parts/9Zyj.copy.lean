/-! The reference: a copy, from its call on. -/
section COPY4
variable {a : L_} {r : S_} {rh ta : Int32 → Int32} {N : Int32}
/-- what one step of typing comes to: new terms R that count; z the type -/
def STP (a : L_) (r r' : S_) (G : Int32 → Prop) (R : List Int32) (z : Int32) : Prop := (∃ rh ta N, MI a r' rh ta N ∧ (fi r' 32 = 0 → CGr r' rh)) ∧ TS r r' G R ∧ vt r' z ∧ ∀ D : Int32 → Prop, (∀ x, D x → vt r x) → Cld r D → (∀ x, G x → D x) → D z ∨ z ∈ R
def CP (a : L_) (r r' : S_) (G : Int32 → Prop) (c : Nat) (z : Int32) : Prop := Fr [28, 29, 30, 31, 35] [64, 65, 66, 67, 68, 69, 70, 71, 72, 73, 75, 76] r r' ∧ (∃ R : List Int32, R.length ≤ c ∧ STP a r r' G R z) ∧ ((fi r' 28).toInt ≤ (fi r 28).toInt + c) ∧ ((fi r 31 ≤ fi r' 31 ∧ (fi r' 31).toInt ≤ (fi r 31).toInt + 1510) ∧ ∀ i, i < (fi r' 31).toNatClampNeg → vt r' (ar r' 75 i)) ∧ (MKr r' ∧ (fi r' 29).toInt = (fi r 29).toInt + 2) ∧ ND r'
theorem copyOf_ok {l : Nat → Nat} {ad : Nat → Nat} {rI : S_} {b : Int32} {L : List (Int32 × Nat)} {U : List Int32} {Gc : Int32 → Prop} (q : QI (ad, l) rI r rh ta N) (cg : CGr r rh) (f32 : fi r 32 = 0) (nk : nodeOK r b) (hc : CH r b L) (hv : ∀ p, (p, 0) ∈ L → vt r (ar r 56 p.toNatClampNeg)) (hG : ∀ x, GC r L x → Gc x) (fk0 : 0 ≤ ar r 53 b.toNatClampNeg) (fk1 : ar r 53 b.toNatClampNeg < 25) (vf : vt r (ar r 55 (ar r 53 b.toNatClampNeg).toNatClampNeg)) (lu : LU r (GC r L) Gc (ar r 55 (ar r 53 b.toNatClampNeg).toNatClampNeg) U) (hl : U.length ≤ 1510) (o0 : 0 ≤ ar r 57 b.toNatClampNeg) (oc0 : 0 ≤ (ar r 58 b.toNatClampNeg).toInt) (oc1 : (ar r 58 b.toNatClampNeg).toInt ≤ 1510) (oo : (ar r 57 b.toNatClampNeg).toInt + (ar r 58 b.toNatClampNeg).toInt ≤ (fi r 27).toInt) (wl : (fi r 31).toInt + 1510 ≤ 20000) (tl : (fi r 28).toInt + 1510 ≤ 20000) (mb : (fi r 29).toInt + 2 ≤ 1000) {K : Int32 → S_ → Prop} (hK : ∀ z r', CP (ad, l) r r' Gc U.length z → K z r') : qM_copyOf (ad, l) K r b := by
  obtain ⟨qF, w, q28, ⟨⟨q31, q31'⟩, q75⟩, ⟨⟨q27, q27'⟩, q62⟩, ⟨qm, qm0, qm1⟩, qnd⟩ := q
  have hM : ML (ad, l) := w.1
  unfold qM_copyOf
  intro r1 e1 r2 e2
  have F2 : Fr [29, 30] [] r r2 := by rw [e2, e1]; exact Fr_trans (Fr_sF (by decide)) (Fr_sF (by decide))
  have a2 : ∀ k, ar r2 k = ar r k := fun k => F2.2.1 k List.not_mem_nil
  have w2 : MI (ad, l) r2 rh ta N := MI_Fr w F2 (by decide) (by decide)
  have e2_28 : fi r2 28 = fi r 28 := F2.1 28 (by decide)
  have v2 : ∀ x, vt r2 x ↔ vt r x := fun x => vt_eq e2_28
  have n29a : (fi r2 29).toInt = (fi r 29).toInt + 1 := by
    have e : fi r2 29 = fi r 29 + 1 := by rw [e2, e1]; rfl
    rw [e, i_add (by simp; omega) (by simp; omega)]
    rfl
  have m2 : ∀ x, vt r2 x → ¬ ar r2 68 x.toNatClampNeg = fi r2 29 := fun x hx e => by
    have k := qm x ((v2 x).mp hx)
    rw [a2] at e
    rw [e] at k
    omega
  have c2 : CH r2 b L := CH_congr (a2 45) (a2 50) (a2 51) (a2 52) L b hc
  refine ⟨nd25 hM nk (by decide) (by decide) rfl, L.length + 1, cop_AR w2 (by rw [e2_28]; exact q28) L _ r2 b _ (fun _ => False) c2 rfl (Nat.lt_succ_self _) (fun x hx => hx.elim) (AQ_start w2.2.2.1.1 (by rw [e2, e1]; rfl) m2 (fun x hx => hx)) (fun p hp => by rw [a2]; exact (v2 _).mpr (hv p hp)) (fun r9 Q9 r10 e10 => ?_)⟩
  obtain ⟨A1, ⟨A20, A2⟩, A3, A4, A5, A6⟩ := Q9
  have F10 : Fr [30] [68, 72, 73] r2 r10 := by rw [e10]; exact Fr_trans A1 (Fr_sF (by decide))
  have w10 : MI (ad, l) r10 rh ta N := MI_Fr w2 F10 (by decide) (by decide)
  have e10_28 : fi r10 28 = fi r 28 := (F10.1 28 (by decide)).trans e2_28
  have e10_53 : ar r10 53 = ar r 53 := (F10.2.1 53 (by decide)).trans (a2 53)
  have e10_55 : ar r10 55 = ar r 55 := (F10.2.1 55 (by decide)).trans (a2 55)
  rw [e10_53, e10_55]
  obtain ⟨τ, eτ⟩ : ∃ τ, τ = ar r 55 (ar r 53 b.toNatClampNeg).toNatClampNeg := ⟨_, rfl⟩
  rw [← eτ] at vf lu ⊢
  refine ⟨nd25 hM nk (by decide) (by decide) rfl, vi2 fk0 fk1 (by rw [ml (n := 25) hM (by decide) (by decide) rfl]; decide), find_ok w10 vf.1 (by rw [e10_28]; exact vf.2) ⟨vi (by decide) (by rw [ml (n := 200000) hM (by decide) (by decide) rfl]; decide), fun r15 e15 r16 e16 => ?_⟩⟩
  obtain ⟨z, ez⟩ : ∃ z, z = rh τ := ⟨_, rfl⟩
  rw [← ez] at e15 ⊢
  have bz := w.2.2.2.2.1.2 τ vf.1 vf.2
  rw [← ez] at bz
  have rz : rh z = z := (w.2.2.2.2.1.2 z bz.1.1 bz.1.2).2.2.1 bz.2.1
  have F16 : Fr [29, 30] [68, 72, 73] r2 r16 := by rw [e16, e15]; exact Fr_trans (Fr_mono F10 (by decide) (by decide)) (Fr_trans (Fr_sA (by decide)) (Fr_sF (by decide)))
  have w16 : MI (ad, l) r16 rh ta N := MI_Fr w2 F16 (by decide) (by decide)
  have e16_28 : fi r16 28 = fi r 28 := (F16.1 28 (by decide)).trans e2_28
  have v16 : ∀ x, vt r16 x ↔ vt r x := fun x => vt_eq e16_28
  have a16 : ∀ k, ¬ k = 68 → ¬ k = 72 → ¬ k = 73 → ar r16 k = ar r k := fun k k1 k2 k3 => (F16.2.1 k (by simp [k1, k2, k3])).trans (a2 k)
  have f16 : ∀ k, ¬ k = 29 → ¬ k = 30 → fi r16 k = fi r k := fun k k1 k2 => (F16.1 k (by simp [k1, k2])).trans (F2.1 k (by simp [k1, k2]))
  have a16_68 : ar r16 68 = ar r9 68 := by rw [e16, e15, e10]; rfl
  have n29b : (fi r16 29).toInt = (fi r 29).toInt + 2 := by
    have e : fi r16 29 = fi r2 29 + 1 := by
      have e' : fi r16 29 = fi r10 29 + 1 := by rw [e16, e15]; rfl
      rw [e', F10.1 29 (by decide)]
    rw [e, i_add (by simp; omega) (by simp; omega), n29a]
    simp
    omega
  have cg16 : CGr r16 rh := CGr_eq cg e16_28 (a16 65 (by decide) (by decide) (by decide)) (a16 66 (by decide) (by decide) (by decide)) (a16 67 (by decide) (by decide) (by decide))
  have s16 : TS r r16 Gc [] := TS_refl w.2.2.1.1 e16_28 (fun x _ => by rw [a16 64 (by decide) (by decide) (by decide), a16 66 (by decide) (by decide) (by decide), a16 67 (by decide) (by decide) (by decide)]; exact ⟨rfl, rfl, rfl⟩)
  have lu16 : LU r16 (GC r L) Gc τ U := LU_TS lu s16 (fun x hx => Or.inl hx)
  have z16 : vt r16 z := (v16 z).mpr bz.1
  have zU : z ∈ U ∨ DM r16 (GC r L) z := by rw [ez]; exact LU_rh w16 lu16 ((v16 τ).mpr vf) lu16.2.2
  have g29 : ∀ x, GC r L x → (False ∨ GC r2 L x) := fun x ⟨p, p1, p2⟩ => Or.inr ⟨p, p1, by rw [a2]; exact p2⟩
  have k1 : ∀ x, GC r L x → ar r16 68 (rh x).toNatClampNeg = fi r2 29 := fun x hx => by
    rw [a16_68]
    exact A5 x (g29 x hx)
  have k2 : ∀ x, vt r16 x → ar r16 68 x.toNatClampNeg = fi r2 29 → (0 ≤ ar r16 66 x.toNatClampNeg → ar r16 68 (rh (ar r16 66 x.toNatClampNeg)).toNatClampNeg = fi r2 29) ∧ (0 ≤ ar r16 67 x.toNatClampNeg → ar r16 68 (rh (ar r16 67 x.toNatClampNeg)).toNatClampNeg = fi r2 29) := fun x hx hm => by
    rw [a16_68] at hm ⊢
    have k := A4 x ((v2 x).mpr ((v16 x).mp hx)) hm
    rw [a2, a2] at k
    rw [a16 66 (by decide) (by decide) (by decide), a16 67 (by decide) (by decide) (by decide)]
    exact k
  have m0 : ¬ fi r16 29 = 0 := fun e => by
    rw [e] at n29b
    simp at n29b
    omega
  have f16_30 : fi r16 30 = 0 := by rw [e16, e15, e10]; rfl
  have w72 : ar r16 72 0 = z := by
    have e : ar r16 72 = upd (ar r10 72) ((0 : Int32)).toNatClampNeg z := by rw [e16, e15]; rfl
    rw [e]
    exact pk_us
  have cj0 : CJ r16 r16 rh U (GC r L) (fi r2 29) z 1 0 False False 0 := by
    refine ⟨Fr_refl _, fun _ _ _ _ _ _ _ => rfl, ⟨by rw [f16_30]; decide, by rw [f16_30]; simp⟩, fun i hi => ?_, fun _ _ => Or.inl rfl, fun y y1 y2 => ?_, fun i hi => ?_, fun i hi => ?_, Or.inr ⟨0, by decide, w72⟩, by decide, by rw [f16_30]; decide⟩
    · rw [f16_30] at hi
      exact absurd hi (Nat.not_lt_zero _)
    · rw [il] at y1
      rw [it] at y2
      omega
    · have e : i = 0 := by
        have : ((1 : Int32)).toNatClampNeg = 1 := by decide
        omega
      rw [e, w72]
      exact ⟨z16, zU⟩
    · rw [f16_30] at hi
      exact absurd hi (Nat.not_lt_zero _)
  refine ⟨(2 * ((U.length : Int) - (fi r16 30).toInt) + 1).toNat + 1, cop_L101 w16 cg16 lu16 k1 k2 z16 m0 (by rw [e16_28]; omega) (by omega) (fun rA vA xA hA hvA => ?_) _ r16 1 0 cj0 ?_⟩
  · have hlen := CJ_len hA
    refine ⟨(fi rA 30).toInt.toNat + 1, cop_L259 w16 hA (by rw [e16_28]; omega) (by omega) (fun rB hB => ?_) _ rA 0 ⟨Fr_refl _, fun _ _ _ => ⟨rfl, rfl⟩, fun i _ h => absurd h (Nat.not_lt_zero _)⟩ (Int32.le_refl _) hA.2.2.1.1 ?_⟩
    · obtain ⟨h1, h2, ⟨h30, h3⟩, h4, h5, h6, h7, h8, h9, h10⟩ := hA
      obtain ⟨B1, B2, B3⟩ := hB
      have c0 := w.2.2.1.1
      have c0' := c0
      rw [il] at c0'
      simp at c0'
      have z30 := h30
      rw [il] at z30
      simp at z30
      have n30 := i_nat h30
      have fB : ∀ k, fi rB k = fi rA k := fun k => B1.1 k List.not_mem_nil
      have aB : ∀ k, ¬ k = 66 → ¬ k = 67 → ar rB k = ar rA k := fun k k1 k2 => B1.2.1 k (by simp [k1, k2])
      have fA : ∀ k, ¬ k = 28 → ¬ k = 30 → fi rA k = fi r16 k := fun k k1 k2 => h1.1 k (by simp [k1, k2])
      have e29 : fi rB 29 = fi r16 29 := (fB 29).trans (fA 29 (by decide) (by decide))
      rw [e16_28] at h3
      -- old terms are as they were
      have old : ∀ x, vt r x → ∀ k, ¬ k = 68 → ¬ k = 69 → ¬ k = 72 → ¬ k = 73 → ar rB k x.toNatClampNeg = ar r k x.toNatClampNeg := fun x hx k k1 k2 k3 k4 => by
        have hx16 := (v16 x).mpr hx
        have e : ar rB k x.toNatClampNeg = ar rA k x.toNatClampNeg := by
          by_cases g1 : k = 66
          · rw [g1]; exact (B2 x hx16.1 hx16.2).1
          · by_cases g2 : k = 67
            · rw [g2]; exact (B2 x hx16.1 hx16.2).2
            · rw [aB k g1 g2]
        rw [e, h2 x hx16 k k1 k2 k3 k4, a16 k k1 k3 k4]
      have lt28 : ∀ x : Int32, x < fi r 28 → x < fi rB 28 := fun x hx => by
        rw [fB, it, h3]
        rw [it] at hx
        omega
      have vup : ∀ x, vt r x → vt rB x := fun x hx => ⟨hx.1, lt28 x hx.2⟩
      have rv : ∀ x, vt r x → vt r (rh x) := fun x hx => (w.2.2.2.2.1.2 x hx.1 hx.2).1
      -- copies
      have cop : ∀ x, vt r x → ar rB 68 x.toNatClampNeg = fi rB 29 → fi r 28 ≤ ar rB 69 x.toNatClampNeg ∧ ar rB 69 x.toNatClampNeg < fi rB 28 := fun x hx hm => by
        rw [aB 68 (by decide) (by decide), e29] at hm
        rw [aB 69 (by decide) (by decide), fB]
        rcases h5 x ((v16 x).mpr hx) with y | ⟨_, i, i1, i2⟩
        · rw [y] at hm
          rw [a16_68] at hm
          rcases A3 x ((v2 x).mpr hx) with y2 | y2
          · rw [y2, a2] at hm
            have k := qm x hx
            rw [hm] at k
            omega
          · rw [y2] at hm
            rw [ie] at hm
            omega
        · have k := (h4 i i1).2.2.2.2.1
          rw [i2, e16_28] at k
          rw [il, it, k, h3]
          omega
      have cpv : ∀ t, vt r t → vt rB (cpd rB rh t) := fun t ht => by
        unfold cpd
        rw [if_pos ht.1]
        split
        · rename_i g
          have k := cop _ (rv t ht) g
          exact ⟨Int32.le_trans c0 k.1, k.2⟩
        · exact vup _ (rv t ht)
      have cneg : ∀ t : Int32, ¬ 0 ≤ t → cpd rB rh t = -1 := fun t ht => by unfold cpd; rw [if_neg ht]
      have ceq : ∀ t, cpd rA rh t = cpd rB rh t := fun t => by
        unfold cpd
        rw [aB 68 (by decide) (by decide), aB 69 (by decide) (by decide), fB]
      have leB : fi r 28 ≤ fi rB 28 := by
        rw [fB, il, h3]
        omega
      -- what a new term is
      have newT : ∀ y : Int32, fi r 28 ≤ y → y < fi rB 28 → ∃ i, i < (fi rA 30).toNatClampNeg ∧ ar rA 69 (ar rA 73 i).toNatClampNeg = y := fun y y1 y2 => by
        rw [fB, it, h3] at y2
        rw [il] at y1
        have hi : (y.toInt - (fi r 28).toInt).toNat < (fi rA 30).toNatClampNeg := by omega
        refine ⟨(y.toInt - (fi r 28).toInt).toNat, hi, ?_⟩
        have k := (h4 _ hi).2.2.2.2.1
        rw [e16_28] at k
        rw [ie, k]
        omega
      have parts : ∀ y : Int32, fi r 28 ≤ y → y < fi rB 28 → ∃ x, vt r x ∧ ar rB 64 y.toNatClampNeg = y ∧ ar rB 65 y.toNatClampNeg = ar r 65 x.toNatClampNeg ∧ ar rB 66 y.toNatClampNeg = cpd rB rh (ar r 66 x.toNatClampNeg) ∧ ar rB 67 y.toNatClampNeg = cpd rB rh (ar r 67 x.toNatClampNeg) ∧ (0 ≤ ar r 66 x.toNatClampNeg → okm r16 rA (fi r2 29) (rh (ar r 66 x.toNatClampNeg))) ∧ (0 ≤ ar r 67 x.toNatClampNeg → okm r16 rA (fi r2 29) (rh (ar r 67 x.toNatClampNeg))) := fun y y1 y2 => by
        obtain ⟨i, i1, i2⟩ := newT y y1 y2
        have k := h4 i i1
        have kb := B3 i i1 i1
        have k6 := h6 y (by rw [e16_28]; exact y1) (by rw [fB] at y2; exact y2)
        have k8 := h8 i i1
        have vx : vt r (ar rA 73 i) := (v16 _).mp k.1
        rw [i2, ceq, ceq, h2 _ k.1 66 (by decide) (by decide) (by decide) (by decide), h2 _ k.1 67 (by decide) (by decide) (by decide) (by decide), a16 66 (by decide) (by decide) (by decide), a16 67 (by decide) (by decide) (by decide)] at kb
        rw [a16 66 (by decide) (by decide) (by decide), a16 67 (by decide) (by decide) (by decide)] at k8
        have k65 := k.2.2.2.2.2
        rw [i2, a16 65 (by decide) (by decide) (by decide)] at k65
        have nov : ∀ j, j < vA.toNatClampNeg → False := fun j hj => by
          have : vA.toNatClampNeg = 0 := by
            have v0 : 0 ≤ vA := by rw [il, hvA]; decide
            have e := i_nat v0
            omega
          omega
        refine ⟨ar rA 73 i, vx, by rw [aB 64 (by decide) (by decide)]; exact k6.1, by rw [aB 65 (by decide) (by decide)]; exact k65, kb.1, kb.2, fun g => ?_, fun g => ?_⟩
        · rcases k8.1 g with s | ⟨j, j1, _⟩ | s
          · exact s
          · exact (nov j j1).elim
          · exact s.2.elim
        · rcases k8.2 g with s | ⟨j, j1, _⟩ | s
          · exact s
          · exact (nov j j1).elim
          · exact s.2.elim
      have pw : ∀ t : Int32, (-1 ≤ t ∧ t < fi r 28) → (-1 ≤ cpd rB rh t ∧ cpd rB rh t < fi rB 28) ∧ (0 ≤ cpd rB rh t ↔ 0 ≤ t) := fun t ht => by
        by_cases g : 0 ≤ t
        · have k := cpv t ⟨g, ht.2⟩
          refine ⟨⟨?_, k.2⟩, ⟨fun _ => g, fun _ => k.1⟩⟩
          have k1 := k.1
          rw [il] at k1 ⊢
          simp at k1 ⊢
          omega
        · rw [cneg t g]
          refine ⟨⟨by decide, ?_⟩, ⟨fun z => absurd z (by decide), fun z => absurd z g⟩⟩
          have k1 := Int32.le_trans c0 leB
          rw [il] at k1
          rw [it]
          simp at k1 ⊢
          omega
      have MM := MI_more (r' := rB) w leB (by rw [fB, h3]; omega) (((fB 21).trans (fA 21 (by decide) (by decide))).trans (f16 21 (by decide) (by decide))) (((aB 36 (by decide) (by decide)).trans (h1.2.1 36 (by decide))).trans (a16 36 (by decide) (by decide) (by decide))) (fun x hx => ⟨old x hx 64 (by decide) (by decide) (by decide) (by decide), old x hx 65 (by decide) (by decide) (by decide) (by decide), old x hx 66 (by decide) (by decide) (by decide) (by decide), old x hx 67 (by decide) (by decide) (by decide) (by decide)⟩) (fun y y1 y2 => by
        obtain ⟨x, p1, p2, p3, p4, p5, _, _⟩ := parts y y1 y2
        have nb := w.2.2.2.1 x p1.1 p1.2
        have q1 := pw _ nb.2.2.1
        have q2 := pw _ nb.2.2.2.1
        rw [p2, p3, p4, p5]
        refine ⟨rfl, nb.2.1, q1.1, q2.1, fun g => ?_, fun g => ?_⟩
        · have k := nb.2.2.2.2.1 g
          rw [k.1, k.2]
          exact ⟨cneg _ (by decide), cneg _ (by decide)⟩
        · have k := nb.2.2.2.2.2 g
          exact ⟨q1.2.trans k.1, q2.2.trans k.2⟩)
      -- what is marked around is in every closed set that holds what is around
      have ard : ∀ (D : Int32 → Prop), (∀ x, D x → vt r x) → Cld r D → (∀ x, Gc x → D x) → ∀ t, vt r t → okm r16 rA (fi r2 29) (rh t) → D (cpd rB rh t) ∨ (fi r 28 ≤ cpd rB rh t ∧ cpd rB rh t < fi rB 28) := fun D hD cD gD t ht ok => by
        unfold cpd
        rw [if_pos ht.1]
        by_cases g : ar rB 68 (rh t).toNatClampNeg = fi rB 29
        · rw [if_pos g]
          exact Or.inr (cop _ (rv t ht) g)
        · rw [if_neg g]
          left
          have g' := g
          rw [aB 68 (by decide) (by decide), e29] at g'
          rcases ok with o | o
          · exact absurd o g'
          · have hx := rv t ht
            refine A6 D (Cld_eq e2_28 (a2 64) (a2 66) (a2 67) cD) (fun x hx => ?_) _ ((v2 _).mpr hx) ?_
            · rcases hx with y | ⟨p, p1, p2⟩
              · exact y.elim
              · exact gD x (hG x ⟨p, p1, by rw [p2, a2]⟩)
            · rcases h5 _ ((v16 _).mpr hx) with y | y
              · rw [← a16_68, ← y]
                exact o
              · exact absurd y.1 g'
      have hR : ∀ x, x ∈ newL (fi r 28) (fi rB 28) ↔ fi r 28 ≤ x ∧ x < fi rB 28 := fun x => newL_mem c0 leB
      have tsB : TS r rB Gc (newL (fi r 28) (fi rB 28)) := by
        refine ⟨⟨c0, leB⟩, fun x hx => (hR x).mp hx, fun x hx => ⟨Or.inl (old x hx 64 (by decide) (by decide) (by decide) (by decide)), old x hx 66 (by decide) (by decide) (by decide) (by decide), old x hx 67 (by decide) (by decide) (by decide) (by decide)⟩, fun D hD cD gD => ⟨fun x x1 x2 x3 => ?_, fun x hx _ => old x hx 64 (by decide) (by decide) (by decide) (by decide)⟩⟩
        rcases x3 with x3 | x3
        · have vx := hD x x3
          rw [old x vx 64 (by decide) (by decide) (by decide) (by decide), old x vx 66 (by decide) (by decide) (by decide) (by decide), old x vx 67 (by decide) (by decide) (by decide) (by decide)]
          have k := cD x vx.1 vx.2 x3
          exact ⟨Or.inl k.1, fun g => Or.inl (k.2.1 g), fun g => Or.inl (k.2.2 g)⟩
        · obtain ⟨x, p1, p2, p3, p4, p5, p6, p7⟩ := parts _ ((hR _).mp x3).1 ((hR _).mp x3).2
          rw [p2, p4, p5]
          have nb := w.2.2.2.1 x p1.1 p1.2
          refine ⟨Or.inr x3, fun g => ?_, fun g => ?_⟩
          · have g' := (pw _ nb.2.2.1).2.mp g
            exact (ard D hD cD gD _ ⟨g', nb.2.2.1.2⟩ (p6 g')).imp id (fun k => (hR _).mpr k)
          · have g' := (pw _ nb.2.2.2.1).2.mp g
            exact (ard D hD cD gD _ ⟨g', nb.2.2.2.1.2⟩ (p7 g')).imp id (fun k => (hR _).mpr k)
      have okz : okm r16 rA (fi r2 29) (rh z) := by
        rcases h9 with y | ⟨j, j1, _⟩
        · exact y
        · have v0 : 0 ≤ vA := by rw [il, hvA]; decide
          have e := i_nat v0
          omega
      have eB57 : ar rB 57 = ar r 57 := ((aB 57 (by decide) (by decide)).trans (h1.2.1 57 (by decide))).trans (a16 57 (by decide) (by decide) (by decide))
      have eB58 : ar rB 58 = ar r 58 := ((aB 58 (by decide) (by decide)).trans (h1.2.1 58 (by decide))).trans (a16 58 (by decide) (by decide) (by decide))
      have eB62 : ar rB 62 = ar r 62 := ((aB 62 (by decide) (by decide)).trans (h1.2.1 62 (by decide))).trans (a16 62 (by decide) (by decide) (by decide))
      have eB75 : ar rB 75 = ar r 75 := ((aB 75 (by decide) (by decide)).trans (h1.2.1 75 (by decide))).trans (a16 75 (by decide) (by decide) (by decide))
      have fB31 : fi rB 31 = fi r 31 := ((fB 31).trans (fA 31 (by decide) (by decide))).trans (f16 31 (by decide) (by decide))
      have fB32 : fi rB 32 = fi r 32 := ((fB 32).trans (fA 32 (by decide) (by decide))).trans (f16 32 (by decide) (by decide))
      have n27 := i_nat q27
      have F_B : Fr [28, 29, 30] [64, 65, 66, 67, 68, 69, 70, 71, 72, 73] r rB := Fr_trans (Fr_mono F2 (by decide) (by decide)) (Fr_trans (Fr_mono F16 (by decide) (by decide)) (Fr_trans (Fr_mono h1 (by decide) (by decide)) (Fr_mono B1 (by decide) (by decide))))
      refine ⟨nd25 hM nk (by decide) (by decide) rfl, ((ar rB 58 b.toNatClampNeg).toInt).toNat + 1, cop_L337 (r0 := r) (rB := rB) (o0 := ar r 57 b.toNatClampNeg) (oc := ar r 58 b.toNatClampNeg) w (fun y y1 y2 => old y ⟨y1, y2⟩ 64 (by decide) (by decide) (by decide) (by decide)) cpv nk.1.1 nk.1.2 (by rw [eB57]) (by rw [eB58]) o0 oc0 oc1 (by omega) (fun i hi => by rw [eB62]; exact q62 i (by omega)) (by rw [fB31]; exact q31) (by rw [fB31]; exact wl) (fun rC FC w31 hw => ?_) _ rB _ (Fr_refl _) (by rw [eB57]; omega) (fun i hi => by rw [eB75]; rw [fB31] at hi; exact vup _ (q75 i hi)) (by rw [eB57]; exact Int32.le_refl _) (by rw [eB57]; omega) (by rw [eB57, eB58]; omega)⟩
      have aC : ∀ k, ¬ k = 75 → ¬ k = 76 → ar rC k = ar rB k := fun k k1 k2 => FC.2.1 k (by simp [k1, k2])
      have fC : ∀ k, ¬ k = 31 → ¬ k = 35 → fi rC k = fi rB k := fun k k1 k2 => FC.1 k (by simp [k1, k2])
      have ceC : ∀ t, cpd rC rh t = cpd rB rh t := fun t => by
        unfold cpd
        rw [aC 68 (by decide) (by decide), aC 69 (by decide) (by decide), fC 29 (by decide) (by decide)]
      have vC : ∀ x, vt rC x ↔ vt rB x := fun x => vt_eq (fC 28 (by decide) (by decide))
      refine copied_ok w (fun y y1 y2 => by rw [aC 64 (by decide) (by decide)]; exact old y ⟨y1, y2⟩ 64 (by decide) (by decide) (by decide) (by decide)) bz.1.2 ?_
      rw [ceC]
      have mC : MI (ad, l) rC _ ta N := MI_Fr MM.1 FC (by decide) (by decide)
      refine hK _ rC ⟨Fr_trans (Fr_mono F_B (by decide) (by decide)) (Fr_mono FC (by decide) (by decide)), ⟨newL (fi r 28) (fi rB 28), ?_, ⟨_, _, _, mC, fun _ => CGr_eq (MM.2 cg) (fC 28 (by decide) (by decide)) (aC 65 (by decide) (by decide)) (aC 66 (by decide) (by decide)) (aC 67 (by decide) (by decide))⟩, ?_, (vC _).mpr (cpv z bz.1), fun D hD cD gD => (ard D hD cD gD z bz.1 okz).imp id (fun k => (hR _).mpr k)⟩, ?_, ⟨⟨by rw [← fB31]; exact w31.1, by rw [← fB31]; exact w31.2⟩, fun i hi => (vC _).mpr (hw i hi)⟩, ⟨fun x hx => ?_, by rw [fC 29 (by decide) (by decide), e29]; exact n29b⟩, fun x hx => ?_⟩
      · rw [newL_len]
        have e1 := i_nat c0
        have e2 := i_nat (Int32.le_trans c0 leB)
        rw [fB] at e2 ⊢
        omega
      · have t2 := TS_refl (G := Gc) (r0 := rB) (r1 := rC) (Int32.le_trans c0 leB) (fC 28 (by decide) (by decide)) (fun x _ => by rw [aC 64 (by decide) (by decide), aC 66 (by decide) (by decide), aC 67 (by decide) (by decide)]; exact ⟨rfl, rfl, rfl⟩)
        have t3 := TS_trans tsB t2 (fun D _ _ hg x hx => Or.inl (hg x hx))
        rw [List.append_nil] at t3
        exact t3
      · rw [fC 28 (by decide) (by decide), fB, h3]
        omega
      · have hx' := (vC x).mp hx
        rw [aC 68 (by decide) (by decide), fC 29 (by decide) (by decide), e29, n29b, aB 68 (by decide) (by decide)]
        by_cases g : x < fi r 28
        · have vx : vt r x := ⟨hx'.1, g⟩
          rcases h5 x ((v16 x).mpr vx) with y | y
          · rw [y, a16_68]
            rcases A3 x ((v2 x).mpr vx) with y2 | y2
            · rw [y2, a2]
              have := qm x vx
              omega
            · rw [y2, n29a]
              omega
          · rw [y.1, n29b]
            omega
        · have k := h6 x (by rw [e16_28]; exact Int32.not_lt.mp g) (by have := hx'.2; rw [fB] at this; exact this)
          rw [k.2.2.2.1]
          simp
          omega
      · have hx' := (vC x).mp hx
        rw [aC 70 (by decide) (by decide), aC 71 (by decide) (by decide)]
        by_cases g : x < fi r 28
        · have vx : vt r x := ⟨hx'.1, g⟩
          rw [old x vx 70 (by decide) (by decide) (by decide) (by decide), old x vx 71 (by decide) (by decide) (by decide) (by decide)]
          exact qnd x vx
        · have k := h6 x (by rw [e16_28]; exact Int32.not_lt.mp g) (by have := hx'.2; rw [fB] at this; exact this)
          rw [aB 71 (by decide) (by decide), k.2.2.2.2.2]
          intro i _ hg
          rw [gb_0] at hg
          exact absurd hg (by decide)
    · exact fu hA.2.2.1.1
  · rw [f16_30]
    simp
    omega
end COPY4
