/-! The reference: generalising, whole. -/
section GENER2
def FFl : List Nat := [20, 26, 27, 28, 29, 30, 31, 32, 33, 34, 35, 40]
def AAl : List Nat := [50, 51, 52, 53, 54, 55, 56, 57, 58, 59, 60, 61, 62, 63, 64, 65, 66, 67, 68, 69, 70, 71, 72, 73, 74, 75, 76, 84, 85, 87, 88]
variable {a : L_} {r : S_} {rh ta : Int32 → Int32} {N : Int32}
def MKr (r : S_) : Prop := ∀ x, vt r x → (ar r 68 x.toNatClampNeg).toInt ≤ (fi r 29).toInt
/-- what is so between two visits of the reference's typing -/
def QI (a : L_) (rI r : S_) (rh ta : Int32 → Int32) (N : Int32) : Prop := Fr FFl AAl rI r ∧ MI a r rh ta N ∧ (fi r 28).toInt ≤ 20000 ∧ ((0 ≤ fi r 31 ∧ (fi r 31).toInt ≤ 20000) ∧ ∀ i, i < (fi r 31).toNatClampNeg → vt r (ar r 75 i)) ∧ ((0 ≤ fi r 27 ∧ (fi r 27).toInt ≤ 20000) ∧ ∀ i, i < (fi r 27).toNatClampNeg → vt r (ar r 62 i)) ∧ (MKr r ∧ 0 ≤ (fi r 29).toInt ∧ (fi r 29).toInt ≤ 1000) ∧ ND r
theorem CH_congr {r r' : S_} (e45 : ar r' 45 = ar r 45) (e50 : ar r' 50 = ar r 50) (e51 : ar r' 51 = ar r 51) (e52 : ar r' 52 = ar r 52) : ∀ (L : List (Int32 × Nat)) (c : Int32), CH r c L → CH r' c L := by
  intro L
  induction L with
  | nil => intro c h; unfold CH at h ⊢; rw [e51]; exact h
  | cons e L ih =>
    obtain ⟨p, t⟩ := e
    intro c h
    obtain ⟨h1, h2, h3, h4⟩ := h
    refine ⟨by rw [e51]; exact h1, by unfold nodeOK; rw [e50]; exact h2, ?_, ih p h4⟩
    unfold kd
    rw [e45, e50, e52]
    exact h3
theorem Cld_eq {r r' : S_} {A : Int32 → Prop} (h28 : fi r' 28 = fi r 28) (e64 : ar r' 64 = ar r 64) (e66 : ar r' 66 = ar r 66) (e67 : ar r' 67 = ar r 67) (h : Cld r A) : Cld r' A := by
  unfold Cld
  rw [h28, e64, e66, e67]
  exact h
theorem vt_eq {r r' : S_} (h28 : fi r' 28 = fi r 28) {x : Int32} : vt r' x ↔ vt r x := by
  unfold vt
  rw [h28]
/-- what generalising comes to -/
def GP (r r' : S_) (n : Int32) : Prop := Fr [27, 29, 30, 31, 32, 33, 34, 40] [57, 58, 62, 63, 68, 70, 71, 72, 73, 75, 76, 84, 85, 87] r r' ∧ zb (fi r' 32) ∧ (fi r' 32 = 0 → ((ar r 61 n.toNatClampNeg ≤ fi r' 31 ∧ (fi r' 31).toInt ≤ (ar r 61 n.toNatClampNeg).toInt + 1510) ∧ ∀ i, i < (fi r' 31).toNatClampNeg → vt r (ar r' 75 i)) ∧ (fi r 27 ≤ fi r' 27 ∧ (fi r' 27).toInt ≤ (fi r 27).toInt + 1510 ∧ (∀ i, i < (fi r 27).toNatClampNeg → ar r' 62 i = ar r 62 i) ∧ ∀ i, (fi r 27).toNatClampNeg ≤ i → i < (fi r' 27).toNatClampNeg → vt r (ar r' 62 i)) ∧ (MKr r' ∧ (fi r' 29).toInt = (fi r 29).toInt + 3) ∧ ND r' ∧ (ar r' 57 n.toNatClampNeg = fi r 27 ∧ ar r' 58 n.toNatClampNeg = fi r' 27 - fi r 27 ∧ ∀ m, ¬ m = n.toNatClampNeg → ar r' 57 m = ar r 57 m ∧ ar r' 58 m = ar r 58 m))
theorem generalise_ok {l : Nat → Nat} {ad : Nat → Nat} {rI : S_} {n : Int32} {L : List (Int32 × Nat)} {l0 : List Int32} (hI : INV l rI) (q : QI (ad, l) rI r rh ta N) (nk : nodeOK r n) (hc : CH r n L) (wb0 : 0 ≤ ar r 61 n.toNatClampNeg) (wb1 : ar r 61 n.toNatClampNeg ≤ fi r 31) (wb2 : (ar r 61 n.toNatClampNeg).toInt + 1510 ≤ 20000) (ob : (fi r 27).toInt + 1510 ≤ 20000) (mb : (fi r 29).toInt + 3 ≤ 1000) (hv : ∀ p, (p, 0) ∈ L → vt r (ar r 56 p.toNatClampNeg)) (fk0 : 0 ≤ ar r 53 n.toNatClampNeg) (fk1 : ar r 53 n.toNatClampNeg < 25) (vf : vt r (ar r 55 (ar r 53 n.toNatClampNeg).toNatClampNeg)) (c0 : Cld r (fun x => x ∈ l0)) (g0 : ∀ x, GC r L x → x ∈ l0) (t0 : ar r 55 (ar r 53 n.toNatClampNeg).toNatClampNeg ∈ l0) (hl : l0.length ≤ 1510) {K : S_ → Prop} (hK : ∀ r', GP r r' n → K r') : qM_generalise (ad, l) K r n := by
  obtain ⟨qF, w, q28, ⟨⟨q31, q31'⟩, q75⟩, ⟨⟨q27, q27'⟩, q62⟩, ⟨qm, qm0, qm1⟩, qnd⟩ := q
  obtain ⟨hcr, htq, hML, hlast, hkq, hwq, hmtq, hsq⟩ := hI
  have e23 : fi r 23 = fi rI 2 := (qF.1 23 (by decide)).trans htq.2.2.1.1
  have e41 : ar r 41 = ar rI 6 := (qF.2.1 41 (by decide)).trans htq.2.2.1.2.1
  have k28 : 0 ≤ fi rI 2 ∧ fi rI 2 ≤ 8 := ⟨hcr.2.2.2.1.2.1.1, hcr.2.2.2.1.2.1.2.1⟩
  have h23 : 0 ≤ fi r 23 ∧ fi r 23 ≤ 8 := by rw [e23]; exact k28
  have hw2 : W2 r := by
    unfold W2
    rw [qF.2.1 43 (by decide), qF.2.1 44 (by decide), qF.2.1 36 (by decide)]
    exact fun c k c1 c2 k1 k2 => ⟨fun z => ((hwq.2 c k c1 c2 k1 k2).1 z).2, fun z => ((hwq.2 c k c1 c2 k1 k2).2.1 z).2⟩
  have hM : ML (ad, l) := w.1
  unfold qM_generalise
  refine needNoRing_ok w (fun r1 F1 z1 f1 => ⟨fun h0 => ⟨nd25 hM nk (by decide) (by decide) rfl, ?_⟩, fun hn => hK r1 ⟨Fr_mono F1 (fun k hk => ?_) (fun k hk => ?_), z1, fun z => absurd z hn⟩⟩)
  · have w1 : MI (ad, l) r1 rh ta N := MI_Fr w F1 (by decide) (by decide)
    have aE : ∀ k, ¬ k = 87 → ar r1 k = ar r k := fun k hk => F1.2.1 k (by simpa using hk)
    have fE : ∀ k, ¬ k = 32 → fi r1 k = fi r k := fun k hk => F1.1 k (by simpa using hk)
    rw [aE 61 (by decide)]
    refine drive_ok w1 (by rw [fE 23 (by decide)]; exact h23) (by unfold W2; rw [aE 43 (by decide), aE 44 (by decide), aE 36 (by decide)]; exact hw2) (by rw [fE 28 (by decide)]; exact q28) (by rw [fE 31 (by decide)]; exact q31) (by rw [fE 31 (by decide)]; exact q31') (fun i hi => ?_) (fun x hx => ?_) wb0 (by rw [fE 31 (by decide)]; exact wb1) (fun r4 D4 => ?_)
    · rw [fE 31 (by decide)] at hi
      rw [aE 75 (by decide)]
      exact (vt_eq (fE 28 (by decide))).mpr (q75 i hi)
    · rw [aE 70 (by decide), aE 71 (by decide)]
      exact qnd x ((vt_eq (fE 28 (by decide))).mp hx)
    obtain ⟨D1, D2, D3, ⟨D40, D4'⟩, D5, D6, D7⟩ := D4
    have e4_28 : fi r4 28 = fi r 28 := (D1.1 28 (by decide)).trans (fE 28 (by decide))
    have v4 : ∀ x, vt r4 x ↔ vt r x := fun x => vt_eq e4_28
    have v1 : ∀ x, vt r1 x ↔ vt r x := fun x => vt_eq (fE 28 (by decide))
    have D4'' : (fi r4 30).toInt ≤ 20000 := by
      rw [fE 28 (by decide), il] at D4'
      omega
    refine takeNeeds_ok hM (by rw [e4_28]; omega) D40 (by omega) (fun i hi => (v4 _).mpr ((v1 _).mp (D5 i hi))) D6 (fun r5 T5 => ?_)
    obtain ⟨T1, ⟨T20, T2⟩, T3, T4, T5⟩ := T5
    have nd5 : ND r5 := fun x hx i hi hg => by
      have hx4 : vt r4 x := (vt_eq (T1.1 28 (by decide))).mp hx
      rcases T5 x hx4 with z | z
      · rw [z.2] at hg
        rw [z.1]
        exact D7 x hx4 i hi hg
      · rw [z, gb_0] at hg
        exact absurd hg (by decide)
    refine ⟨nd25 hM nk (by decide) (by decide) rfl, fun r7 e7 r8 e8 r9 e9 => ⟨nd25 hM nk (by decide) (by decide) rfl, ?_⟩⟩
    have F59 : Fr [29, 30, 31] [] r5 r9 := by rw [e9, e8, e7]; exact Fr_trans (Fr_sF (by decide)) (Fr_trans (Fr_sF (by decide)) (Fr_sF (by decide)))
    have F9 : Fr [29, 30, 31, 32, 33, 40] [68, 70, 71, 72, 73, 84, 85, 87] r r9 := Fr_trans (Fr_mono F1 (by decide) (by decide)) (Fr_trans (Fr_mono D1 (by decide) (by decide)) (Fr_trans (Fr_mono T1 (by decide) (by decide)) (Fr_mono F59 (by decide) (by decide))))
    have a9 : ∀ k, ar r9 k = ar r5 k := fun k => F59.2.1 k List.not_mem_nil
    have w9 : MI (ad, l) r9 rh ta N := MI_Fr w F9 (by decide) (by decide)
    have e9_28 : fi r9 28 = fi r 28 := F9.1 28 (by decide)
    have v9 : ∀ x, vt r9 x ↔ vt r x := fun x => vt_eq e9_28
    have f9_30 : fi r9 30 = 0 := by rw [e9, e8]; rfl
    have f9_31 : fi r9 31 = ar r 61 n.toNatClampNeg := by
      have e : fi r9 31 = ar r5 61 n.toNatClampNeg := by rw [e9, e8, e7]; rfl
      rw [e, T1.2.1 61 (by decide), D1.2.1 61 (by decide), aE 61 (by decide)]
    have n29a : (fi r4 29).toInt = (fi r 29).toInt + 1 := by
      rw [D2, fE 29 (by decide), i_add (by simp; omega) (by simp; omega)]
      rfl
    have n29b : (fi r9 29).toInt = (fi r 29).toInt + 2 := by
      have e : fi r9 29 = fi r5 29 + 1 := by rw [e9, e8, e7]; rfl
      rw [e, T1.1 29 (by decide), i_add (by simp; omega) (by simp; omega), n29a]
      simp
      omega
    have m9 : ∀ x, vt r x → (ar r9 68 x.toNatClampNeg).toInt ≤ (fi r 29).toInt + 1 := fun x hx => by
      rw [a9, T1.2.1 68 (by decide)]
      rcases D3 x ((v1 x).mpr hx) with z | z
      · rw [z, aE 68 (by decide)]
        have := qm x hx
        omega
      · rw [z, ← D2]
        omega
    have m9' : ∀ x, vt r9 x → ¬ ar r9 68 x.toNatClampNeg = fi r9 29 := fun x hx e => by
      have k := m9 x ((v9 x).mp hx)
      rw [e] at k
      omega
    have c9 : CH r9 n L := CH_congr (F9.2.1 45 (by decide)) (F9.2.1 50 (by decide)) (F9.2.1 51 (by decide)) (F9.2.1 52 (by decide)) L n hc
    have e9_56 : ar r9 56 = ar r 56 := F9.2.1 56 (by decide)
    have cl9 : Cld r9 (fun x => x ∈ l0) := Cld_eq e9_28 (F9.2.1 64 (by decide)) (F9.2.1 66 (by decide)) (F9.2.1 67 (by decide)) c0
    refine ⟨L.length + 1, gen_AR w9 (by rw [e9_28]; exact q28) L _ r9 n _ (fun _ => False) c9 rfl (Nat.lt_succ_self _) (fun x hx => hx.elim) (AQ_start w9.2.2.1.1 f9_30 m9' (fun x hx => hx)) (fun p hp => by rw [e9_56]; exact (v9 _).mpr (hv p hp)) (fun r10 Q10 => ?_)⟩
    obtain ⟨A1, ⟨A20, A2⟩, A3, A4, A5, A6⟩ := Q10
    have e10_28 : fi r10 28 = fi r 28 := (A1.1 28 (by decide)).trans e9_28
    have v10 : ∀ x, vt r10 x ↔ vt r x := fun x => vt_eq e10_28
    have f40e : fi r10 40 = fi r5 40 := (A1.1 40 (by decide)).trans (F59.1 40 (by decide))
    have a84e : ar r10 84 = ar r5 84 := (A1.2.1 84 (by decide)).trans (a9 84)
    have h84 : ∀ i, i < (fi r10 40).toNatClampNeg → vt r (ar r10 84 i) := fun i hi => by
      rw [f40e] at hi
      rw [a84e]
      exact (v4 _).mp (T3 i hi)
    have dj : DJ (ar r10 84) (fi r10 40).toNatClampNeg := by rw [f40e, a84e]; exact T4
    have f40l : (fi r10 40).toInt ≤ 40000 := by
      rw [f40e]
      rw [il] at T2
      omega
    have f400 : 0 ≤ fi r10 40 := by rw [f40e]; exact T20
    have f10_31 : fi r10 31 = ar r 61 n.toNatClampNeg := (A1.1 31 (by decide)).trans f9_31
    have c30 : (fi r10 30).toInt ≤ 20000 := by
      rw [A2]
      have k := cM_le (r := r9) w9.2.2.1.1 (q := r10) (mk := fi r9 29)
      rw [e9_28] at k ⊢
      omega
    refine ⟨(fi r10 40).toInt.toNat + 1, gen_L98 (l0 := l0) hM (by rw [e10_28]; omega) (fun i hi => (v10 _).mpr (h84 i hi)) dj f400 f40l (by rw [f10_31]; exact wb0) (by rw [f10_31]; exact wb2) (fun i hi hm => A6 _ cl9 (fun x hx => ?_) _ ((v9 _).mpr (h84 i hi)) hm) hl (fun r11 F11 w11 h11 => ?_) _ r10 0 (Fr_refl _) ?_ (fun i hi => ?_) (Int32.le_refl _) f400 ?_⟩
    · rcases hx with z | ⟨p, p1, p2⟩
      · exact z.elim
      · exact g0 x ⟨p, p1, by rw [p2, e9_56]⟩
    · intro r26 e26
      have F26 : Fr [29, 30, 31] [68, 72, 73, 75, 76, 85] r9 r26 := by
        rw [e26]
        exact Fr_trans (Fr_mono A1 (by decide) (by decide)) (Fr_trans (Fr_mono F11 (by decide) (by decide)) (Fr_sF (by decide)))
      have w26 : MI (ad, l) r26 rh ta N := MI_Fr w9 F26 (by decide) (by decide)
      have e26_28 : fi r26 28 = fi r 28 := (F26.1 28 (by decide)).trans e9_28
      have v26 : ∀ x, vt r26 x ↔ vt r x := fun x => vt_eq e26_28
      have a26 : ∀ k, ¬ k = 75 → ¬ k = 76 → ¬ k = 85 → ar r26 k = ar r10 k := fun k h1 h2 h3 => by
        rw [e26]
        exact F11.2.1 k (by simp [h1, h2, h3])
      have e26_53 : ar r26 53 = ar r 53 := (F26.2.1 53 (by decide)).trans (F9.2.1 53 (by decide))
      have e26_55 : ar r26 55 = ar r 55 := (F26.2.1 55 (by decide)).trans (F9.2.1 55 (by decide))
      have n29c : (fi r26 29).toInt = (fi r 29).toInt + 3 := by
        have e : fi r26 29 = fi r11 29 + 1 := by rw [e26]; rfl
        rw [e, F11.1 29 (by decide), A1.1 29 (by decide), i_add (by simp; omega) (by simp; omega), n29b]
        simp
        omega
      have m26 : ∀ x, vt r x → (ar r26 68 x.toNatClampNeg).toInt ≤ (fi r 29).toInt + 2 := fun x hx => by
        rw [a26 68 (by decide) (by decide) (by decide)]
        rcases A3 x ((v9 x).mpr hx) with z | z
        · rw [z]
          have := m9 x hx
          omega
        · rw [z, n29b]
          omega
      have f26_30 : fi r26 30 = fi r10 30 := by
        rw [e26]
        exact F11.1 30 (by decide)
      rw [e26_53, e26_55]
      refine ⟨nd25 hM nk (by decide) (by decide) rfl, vi2 fk0 fk1 (by rw [ml (n := 25) hM (by decide) (by decide) rfl]; decide), reach_ok w26 (by rw [f26_30]; exact A20) (by rw [f26_30, e26_28]; omega) vf.1 (by rw [e26_28]; exact vf.2) (fun r29 R29 => ⟨nd25 hM nk (by decide) (by decide) rfl, fun r31 e31 => ?_⟩)⟩
      obtain ⟨vv, ⟨s1, s2, s3, s4, s5, s6, s7, s8, s9⟩, hvv⟩ := R29
      have F31 : Fr [30] [57, 68, 72, 73] r26 r31 := by
        rw [e31]
        exact Fr_trans (Fr_mono s1 (by decide) (by decide)) (Fr_sA (by decide))
      have e31_28 : fi r31 28 = fi r 28 := (F31.1 28 (by decide)).trans e26_28
      have v31 : ∀ x, vt r31 x ↔ vt r x := fun x => vt_eq e31_28
      have F9_31 : Fr [29, 30, 31] [57, 68, 72, 73, 75, 76, 85] r9 r31 := Fr_trans (Fr_mono F26 (by decide) (by decide)) (Fr_mono F31 (by decide) (by decide))
      have f31_40 : fi r31 40 = fi r10 40 := (F9_31.1 40 (by decide)).trans ((F59.1 40 (by decide)).trans f40e.symm)
      have a31_84 : ar r31 84 = ar r10 84 := (F9_31.2.1 84 (by decide)).trans ((a9 84).trans a84e.symm)
      have f31_27 : fi r31 27 = fi r 27 := (F9_31.1 27 (by decide)).trans (F9.1 27 (by decide))
      have a31_68 : ar r31 68 = ar r29 68 := by rw [e31]; rfl
      have f31_29 : fi r31 29 = fi r26 29 := F31.1 29 (by decide)
      have cl26 : Cld r26 (fun x => x ∈ l0) := Cld_eq (F26.1 28 (by decide)) (F26.2.1 64 (by decide)) (F26.2.1 66 (by decide)) (F26.2.1 67 (by decide)) cl9
      have a31_57 : ar r31 57 = upd (ar r 57) n.toNatClampNeg (fi r 27) := by
        have e : ar r31 57 = upd (ar r29 57) n.toNatClampNeg (fi r29 27) := by rw [e31]; rfl
        rw [e, s1.2.1 57 (by decide), s1.1 27 (by decide), F26.2.1 57 (by decide), F26.1 27 (by decide), F9.2.1 57 (by decide), F9.1 27 (by decide)]
      refine ⟨(fi r31 40).toInt.toNat + 1, gen_L187 (rI := rI) (l0 := l0) hM hkq k28.1 k28.2 ((F9_31.2.1 41 (by decide)).trans ((F9.2.1 41 (by decide)).trans e41)) ((F9_31.1 23 (by decide)).trans ((F9.1 23 (by decide)).trans e23)) (by rw [e31_28]; omega) (fun i hi => ?ga) (by rw [f31_40, a31_84]; exact dj) (by rw [f31_40]; exact f400) (by rw [f31_40]; exact f40l) (by rw [f31_27]; exact q27) (by rw [f31_27]; exact ob) (fun i hi hm => ?gb) hl (fun r52 F52 o52 p52 x52 => ⟨nd25 hM nk (by decide) (by decide) rfl, nd25 hM nk (by decide) (by decide) rfl, fun r53 e53 => ?gc⟩) _ r31 0 (Fr_refl _) ⟨Int32.le_refl _, Int.le_add_of_nonneg_right (Int.natCast_nonneg _)⟩ (fun i _ => rfl) (fun i h1 h2 => ?gd) (Int32.le_refl _) (by rw [f31_40]; exact f400) ?ge⟩
      case ga =>
        rw [f31_40] at hi
        rw [a31_84]
        exact (v31 _).mpr (h84 i hi)
      case gb =>
        rw [f31_40] at hi
        rw [a31_84] at hm ⊢
        rw [a31_68, f31_29] at hm
        have hx := h84 i hi
        have hx26 := (v26 _).mpr hx
        have k := (s9 (fun x => x ∈ l0) cl26 t0).1 _ hx26.1 hx26.2 hm
        refine k (fun e => ?_)
        have k2 := m26 _ hx
        rw [e] at k2
        omega
      case gc =>
        have F53 : Fr [27, 34] [58, 62, 63] r31 r53 := by
          rw [e53]
          exact Fr_trans (Fr_mono F52 (by decide) (by decide)) (Fr_sA (by decide))
        have F9_53 : Fr [27, 29, 30, 31, 34] [57, 58, 62, 63, 68, 72, 73, 75, 76, 85] r9 r53 := Fr_trans (Fr_mono F9_31 (by decide) (by decide)) (Fr_mono F53 (by decide) (by decide))
        have f53_27 : fi r53 27 = fi r52 27 := by rw [e53]; rfl
        have f53_32 : fi r53 32 = 0 := by
          rw [F9_53.1 32 (by decide), F59.1 32 (by decide), T1.1 32 (by decide), D1.1 32 (by decide)]
          exact h0
        have a53_62 : ar r53 62 = ar r52 62 := by rw [e53]; rfl
        have a53_57 : ar r53 57 = upd (ar r 57) n.toNatClampNeg (fi r 27) := by
          rw [F53.2.1 57 (by decide)]
          exact a31_57
        have a53_58 : ar r53 58 = upd (ar r 58) n.toNatClampNeg (fi r52 27 - fi r 27) := by
          have e : ar r53 58 = upd (ar r52 58) n.toNatClampNeg (fi r52 27 - ar r52 57 n.toNatClampNeg) := by rw [e53]; rfl
          rw [e, F52.2.1 57 (by decide), a31_57, pk_us, F52.2.1 58 (by decide), F9_31.2.1 58 (by decide), F9.2.1 58 (by decide)]
        have f53_31 : fi r53 31 = fi r11 31 := by
          rw [F53.1 31 (by decide), F31.1 31 (by decide), e26]
          rfl
        have a53_75 : ar r53 75 = ar r11 75 := by
          rw [F53.2.1 75 (by decide), F31.2.1 75 (by decide), e26]
          rfl
        have f53_28 : fi r53 28 = fi r 28 := (F53.1 28 (by decide)).trans e31_28
        rw [f31_27] at o52
        refine hK r53 ⟨Fr_trans (Fr_mono F9 (by decide) (by decide)) (Fr_mono F9_53 (by decide) (by decide)), by rw [f53_32]; exact zb0, fun _ => ⟨⟨⟨by rw [f53_31, ← f10_31]; exact w11.1, ?_⟩, fun i hi => ?_⟩, ⟨by rw [f53_27]; exact o52.1, by rw [f53_27]; exact o52.2, fun i hi => ?_, fun i h1 h2 => ?_⟩, ⟨fun x hx => ?_, ?_⟩, fun x hx => ?_, ⟨by rw [a53_57, pk_us], by rw [a53_58, pk_us, f53_27], fun m hm => ⟨by rw [a53_57, pk_un hm], by rw [a53_58, pk_un hm]⟩⟩⟩⟩
        · rw [f53_31]
          have k := w11.2
          rw [f10_31] at k
          exact k
        · rw [f53_31] at hi
          rw [a53_75]
          exact (v10 _).mp (h11 i hi)
        · rw [a53_62, p52 i (by rw [f31_27]; exact hi), F9_31.2.1 62 (by decide), F9.2.1 62 (by decide)]
        · rw [a53_62]
          refine (v31 _).mp (x52 i (by rw [f31_27]; exact h1) ?_)
          rw [f53_27] at h2
          exact h2
        · have hx' : vt r x := (vt_eq f53_28).mp hx
          have hx26 := (v26 x).mpr hx'
          rw [F53.2.1 68 (by decide), F53.1 29 (by decide), a31_68, f31_29, n29c]
          rcases s4 x hx26.1 hx26.2 with z | z
          · rw [z]
            have := m26 x hx'
            omega
          · rw [z.1, n29c]
            omega
        · rw [F53.1 29 (by decide), f31_29, n29c]
        · have hx' : vt r5 x := (vt_eq (f53_28.trans (e4_28.symm.trans (T1.1 28 (by decide)).symm))).mp hx
          rw [F9_53.2.1 70 (by decide), F9_53.2.1 71 (by decide), a9, a9]
          exact nd5 x hx'
      case gd =>
        rw [f31_27] at h1 h2
        omega
      case ge =>
        exact fu (by rw [f31_40]; exact f400)
    · show (fi r10 31).toInt = (fi r10 31).toInt + ((0 : Nat) : Int)
      simp
    · rw [f10_31] at hi
      have e75 : ar r10 75 = ar r 75 := (A1.2.1 75 (by decide)).trans (F9.2.1 75 (by decide))
      rw [e75]
      refine (v10 _).mpr (q75 i ?_)
      have e1 := i_nat wb0
      have e2 := i_nat q31
      rw [il] at wb1
      omega
    · exact fu f400
  · simp at hk ⊢; omega
  · simp at hk ⊢; omega
end GENER2
