/-! The reference: generalising is a settling. -/
section ZMGENF
variable {a : L_} {rI r r' : S_} {rh ta : Int32 → Int32} {N : Int32}
def TBI (rI : S_) : Prop := MTB rI ∧ KQ rI ∧ ar rI 41 = ar rI 6
/-- between two visits -/
def SIm (a : L_) (rI r : S_) (rh ta : Int32 → Int32) (N : Int32) : Prop := Fr FFl AAl rI r ∧ MI a r rh ta N ∧ CGr r rh ∧ fi r 32 = 0 ∧ (MKr r ∧ 0 ≤ (fi r 29).toInt ∧ (fi r 29).toInt ≤ 1000) ∧ (∀ x, vt r x → ar r 70 x.toNatClampNeg = 0 ∧ ar r 71 x.toNatClampNeg = 0) ∧ (0 ≤ fi r 31 ∧ ∀ i, i < (fi r 31).toNatClampNeg → vt r (ar r 75 i) ∧ (∃ c, gb (ar r 76 i) c = true) ∧ ∀ c, gb (ar r 76 i) c = true → c < (fi rI 2).toNatClampNeg) ∧ 0 ≤ fi r 27
def Own (r : S_) (s e : Nat) (v : Int32) (c : Nat) : Prop := ∃ i, s ≤ i ∧ i < e ∧ ar r 62 i = v ∧ gb (ar r 63 i) c = true
def GMP (a : L_) (rI r r' : S_) (rh ta : Int32 → Int32) (N n : Int32) (L : List (Int32 × Nat)) : Prop :=
  ((∃ ρ, VM r ρ) ∧ SIm a rI r' rh ta N ∧ Fr [27, 29, 30, 31, 32, 33, 34, 40] [57, 58, 62, 63, 68, 70, 71, 72, 73, 75, 76, 84, 85, 87] r r' ∧ (fi r' 29).toInt = (fi r 29).toInt + 3) ∧
  ((ar r 61 n.toNatClampNeg ≤ fi r' 31 ∧ ∀ i, i < (ar r 61 n.toNatClampNeg).toNatClampNeg → ar r' 75 i = ar r 75 i ∧ ar r' 76 i = ar r 76 i) ∧ ∀ x c, mW r' (ar r 61 n.toNatClampNeg) x c ↔ zVR (mG r) x ∧ mNd r (mW r (ar r 61 n.toNatClampNeg)) x c ∧ zBd (mG r) (GC r L) x) ∧
  ((¬ fi r' 33 = 0 ↔ ¬ fi r 33 = 0 ∨ mLK r (mW r (ar r 61 n.toNatClampNeg))) ∧ (¬ fi r' 34 = 0 ↔ ¬ fi r 34 = 0 ∨ ∃ v c, zVR (mG r) v ∧ mNd r (mW r (ar r 61 n.toNatClampNeg)) v c ∧ ¬ zBd (mG r) (GC r L) v ∧ ¬ zRc (mG r) (ar r 55 (ar r 53 n.toNatClampNeg).toNatClampNeg) v)) ∧
  (ar r' 57 n.toNatClampNeg = fi r 27 ∧ ar r' 58 n.toNatClampNeg = fi r' 27 - fi r 27 ∧ fi r 27 ≤ fi r' 27 ∧ (∀ m, ¬ m = n.toNatClampNeg → ar r' 57 m = ar r 57 m ∧ ar r' 58 m = ar r 58 m) ∧ (∀ i, i < (fi r 27).toNatClampNeg → ar r' 62 i = ar r 62 i ∧ ar r' 63 i = ar r 63 i)) ∧
  (∀ v c, Own r' (fi r 27).toNatClampNeg (fi r' 27).toNatClampNeg v c ↔ (zVR (mG r) v ∧ ¬ zBd (mG r) (GC r L) v ∧ zRc (mG r) (ar r 55 (ar r 53 n.toNatClampNeg).toNatClampNeg) v) ∧ zLow (kU rI) (mNd r (mW r (ar r 61 n.toNatClampNeg)) v) c) ∧
  (∀ i j, (fi r 27).toNatClampNeg ≤ i → i < (fi r' 27).toNatClampNeg → (fi r 27).toNatClampNeg ≤ j → j < (fi r' 27).toNatClampNeg → ar r' 62 i = ar r' 62 j → i = j) ∧ (∀ i, (fi r 27).toNatClampNeg ≤ i → i < (fi r' 27).toNatClampNeg → ∀ c, gb (ar r' 63 i) c = true → c < 8) ∧ ∀ i, (fi r 27).toNatClampNeg ≤ i → i < (fi r' 27).toNatClampNeg → (vt r (ar r' 62 i) ∧ zRc (mG r) (ar r 55 (ar r 53 n.toNatClampNeg).toNatClampNeg) (ar r' 62 i)) ∧ (∃ c, gb (ar r' 63 i) c = true) ∧ ∀ c, gb (ar r' 63 i) c = true → c < (fi rI 2).toNatClampNeg
theorem mNd_cc (tb : MTB r) {W : Int32 → Nat → Prop} (hW : ∀ x c, W x c → c < (fi r 2).toNatClampNeg) {x : Int32} {c : Nat} (h : mNd r W x c) : c < (fi r 2).toNatClampNeg := h (fun _ c => c < (fi r 2).toNatClampNeg) hW (fun y c c1 _ _ _ => ⟨fun q => tb.2.2.2.2.2.2 _ _ _ (Or.inl q), fun q => tb.2.2.2.2.2.2 _ _ _ (Or.inr q)⟩)
theorem cc8 (tb : MTB r) {c : Nat} (h : c < (fi r 2).toNatClampNeg) : c < 8 := by
  have k := tb.2.1.1
  have n := i_nat k.1
  have k2 := k.2
  rw [il] at k2
  simp at k2
  omega
theorem low_ne (kq : KQ rI) (k8 : fi rI 2 ≤ 8) (k0 : 0 ≤ fi rI 2) {P : Nat → Prop} (hP : ∃ c, P c) (hb : ∀ c, P c → c < (fi rI 2).toNatClampNeg) : ∃ c, zLow (kU rI) P c := by
  have n8 : (fi rI 2).toNatClampNeg ≤ 8 := by
    have n := i_nat k0
    rw [il] at k8
    simp at k8
    omega
  have ul : ∀ c' c, c' < (fi rI 2).toNatClampNeg → kU rI c' c → c ≤ c' := fun c' c h1 h2 => by
    have o := ofN8 (show c' < 8 by omega)
    have lt : Int32.ofNat c' < fi rI 2 := by
      have e1 := i_nat o.1
      have e2 := i_nat k0
      rw [it]
      omega
    have h3 : und rI (Int32.ofNat c') c = true := by unfold und; rw [o.2.2]; exact h2.2
    have := und_lt kq k8 _ (Int32.ofNat c') o.1 lt (show (Int32.ofNat c').toInt < (((Int32.ofNat c').toInt.toNat + 1 : Nat) : Int) by omega) c (gb_lt h2.2) h3
    rw [o.2.2] at this
    exact this
  have mx : ∀ n, (∃ c, P c ∧ (fi rI 2).toNatClampNeg ≤ c + n) → ∃ c, P c ∧ ∀ c', P c' → c' ≤ c := by
    intro n
    induction n with
    | zero => rintro ⟨c, h1, h2⟩; exact absurd (hb c h1) (by omega)
    | succ n ih =>
      rintro ⟨c, h1, h2⟩
      by_cases q : ∃ c', P c' ∧ ¬ c' ≤ c
      · obtain ⟨c', q1, q2⟩ := q
        exact ih ⟨c', q1, by omega⟩
      · exact ⟨c, h1, fun c' h => Classical.byContradiction (fun z => q ⟨c', h, z⟩)⟩
  obtain ⟨c0, h0⟩ := hP
  obtain ⟨c, h1, h2⟩ := mx (fi rI 2).toNatClampNeg ⟨c0, h0, by omega⟩
  refine ⟨c, h1, fun c' h ne u => ?_⟩
  have a1 := h2 c' h
  have a2 := ul c' c (hb c' h) u
  omega
theorem ws_mgen {n : Int32} {L : List (Int32 × Nat)} (tbI : TBI rI) (si : SIm a rI r rh ta N) (hc : CH r n L) (n0 : 0 ≤ n) (wb0 : 0 ≤ ar r 61 n.toNatClampNeg) (wb1 : ar r 61 n.toNatClampNeg ≤ fi r 31) (mb : (fi r 29).toInt + 3 ≤ 1000) (hv : ∀ p, (p, 0) ∈ L → vt r (ar r 56 p.toNatClampNeg)) (vf : vt r (ar r 55 (ar r 53 n.toNatClampNeg).toNatClampNeg)) {K : S_ → Prop} (hB : ∀ r', ¬ fi r' 32 = 0 → (∀ ρ, ¬ VM r ρ) → K r') (hK : ∀ r', GMP a rI r r' rh ta N n L → K r') : wM_generalise a K r n := by
  obtain ⟨qF, w, cg, f32, ⟨qm, qm0, qm1⟩, z0, ⟨q31, q75⟩, q27⟩ := si
  obtain ⟨tbI, kq, e41I⟩ := tbI
  have tb : MTB r := MTB_Fr tbI qF (by decide) (by decide)
  have e2 : fi r 2 = fi rI 2 := qF.1 2 (by decide)
  obtain ⟨k0, k8⟩ := tbI.2.1.1
  unfold wM_generalise
  refine ws_mring w cg f32 (fun r1 F1 h1 => ⟨fun h0 _ => ?_, fun hn => hB r1 hn ?_⟩)
  rotate_left
  · rcases h1 with h1 | h1
    · exact absurd h1.1 hn
    · exact h1.2
  have sol : ∃ ρ, VM r ρ := by
    rcases h1 with h1 | h1
    · exact h1.2
    · exact absurd h0 h1.1
  have w1 : MI a r1 rh ta N := MI_Fr w F1 (by decide) (by decide)
  have tb1 : MTB r1 := MTB_Fr tb F1 (by decide) (by decide)
  have aE : ∀ k, ¬ k = 87 → ar r1 k = ar r k := fun k hk => F1.2.1 k (by simpa using hk)
  have fE : ∀ k, ¬ k = 32 → fi r1 k = fi r k := fun k hk => F1.1 k (by simpa using hk)
  have v1 : ∀ x, vt r1 x ↔ vt r x := fun x => vt_eq (fE 28 (by decide))
  have mg1 : mG r1 = mG r := mG_Fr F1 (by decide) (by decide)
  have kI1 : kI r1 = kI r := by unfold kI; rw [fE 2 (by decide), aE 9 (by decide)]
  have kF1 : ∀ k, ¬ k = 87 → kF r1 k = kF r k := fun k hk => by unfold kF; rw [fE 2 (by decide), aE k hk]
  have mW1 : mW r1 (ar r 61 n.toNatClampNeg) = mW r (ar r 61 n.toNatClampNeg) := by unfold mW; rw [fE 31 (by decide), aE 75 (by decide), aE 76 (by decide)]
  have mN1 : mNd r1 (mW r1 (ar r 61 n.toNatClampNeg)) = mNd r (mW r (ar r 61 n.toNatClampNeg)) := by unfold mNd; rw [kI1, kF1 10 (by decide), kF1 11 (by decide), mg1, mW1]
  have mL1 : mLK r1 (mW r1 (ar r 61 n.toNatClampNeg)) = mLK r (mW r (ar r 61 n.toNatClampNeg)) := by unfold mLK; rw [kI1, kF1 10 (by decide), kF1 11 (by decide), mg1, mW1]
  have n29 : (fi r 29 + 1).toInt = (fi r 29).toInt + 1 := i_add (by simp; omega) (by simp; omega)
  rw [aE 61 (by decide)]
  refine ws_dt w1 tb1 (fun x vx => by rw [aE 70 (by decide), aE 71 (by decide)]; exact z0 x ((v1 x).mp vx)) (fun x vx e => ?_) wb0 (by rw [fE 31 (by decide)]; exact q31) (fun i hi => ?_) (fun r5 D5 FD5 lk5 _ r7 e7 r8 e8 r9 e9 _ n56 => ?_)
  · have k := qm x ((v1 x).mp vx)
    rw [aE 68 (by decide), fE 29 (by decide)] at e
    rw [e, n29] at k
    omega
  · rw [fE 31 (by decide)] at hi
    rw [aE 75 (by decide), aE 76 (by decide)]
    exact ⟨(v1 _).mpr (q75 i hi).1, (q75 i hi).2.1⟩
  obtain ⟨⟨F5, f5_29⟩, z5, m5⟩ := D5
  obtain ⟨⟨f5_40, X5, dj5⟩, cv5⟩ := FD5
  rw [mN1, mg1] at X5 cv5
  rw [mL1, fE 33 (by decide)] at lk5
  rw [fE 29 (by decide)] at f5_29 m5
  have F59 : Fr [29, 30, 31] [] r5 r9 := by rw [e9, e8, e7]; exact Fr_trans (Fr_sF (by decide)) (Fr_trans (Fr_sF (by decide)) (Fr_sF (by decide)))
  have F9 : Fr [29, 30, 31, 32, 33, 40] [68, 70, 71, 72, 73, 84, 85, 87] r r9 := Fr_trans (Fr_mono F1 (by decide) (by decide)) (Fr_trans (Fr_mono F5 (by decide) (by decide)) (Fr_mono F59 (by decide) (by decide)))
  have a9 : ∀ k, ar r9 k = ar r5 k := fun k => F59.2.1 k List.not_mem_nil
  have w9 : MI a r9 rh ta N := MI_Fr w F9 (by decide) (by decide)
  have mg9 : mG r9 = mG r := mG_Fr F9 (by decide) (by decide)
  have e9_28 : fi r9 28 = fi r 28 := F9.1 28 (by decide)
  have v9 : ∀ x, vt r9 x ↔ vt r x := fun x => vt_eq e9_28
  have f9_31 : fi r9 31 = ar r 61 n.toNatClampNeg := by
    have e : fi r9 31 = ar r5 61 n.toNatClampNeg := by rw [e9, e8, e7]; rfl
    rw [e, F5.2.1 61 (by decide), aE 61 (by decide)]
  have n29b : (fi r9 29).toInt = (fi r 29).toInt + 2 := by
    have e : fi r9 29 = fi r5 29 + 1 := by rw [e9, e8, e7]; rfl
    rw [e, f5_29, i_add (by rw [n29]; simp; omega) (by rw [n29]; simp; omega), n29]
    simp
    omega
  have m9 : ∀ x, vt r x → (ar r9 68 x.toNatClampNeg).toInt ≤ (fi r 29).toInt + 1 := fun x hx => by
    rw [a9]
    rcases m5 x ((v1 x).mpr hx) with z | z
    · rw [z, aE 68 (by decide)]
      have := qm x hx
      omega
    · rw [z, n29]
      exact Int.le_refl _
  have m9' : ∀ x, vt r9 x → ¬ ar r9 68 x.toNatClampNeg = fi r9 29 := fun x hx e => by
    have k := m9 x ((v9 x).mp hx)
    rw [e] at k
    omega
  have c9 : CH r9 n L := CH_congr (F9.2.1 45 (by decide)) (F9.2.1 50 (by decide)) (F9.2.1 51 (by decide)) (F9.2.1 52 (by decide)) L n hc
  have e9_56 : ar r9 56 = ar r 56 := F9.2.1 56 (by decide)
  refine ws_genAR w9 L n56 r9 n _ (fun _ => False) c9 rfl (AW_start m9' (fun _ h => h)) (fun p hp => by rw [e9_56]; exact (v9 _).mpr (hv p hp)) (fun r10 A10 n55 => ?_)
  have gce : (fun x => False ∨ GC r9 L x) = GC r L := funext (fun x => propext ⟨fun h => by
    obtain ⟨p, p1, p2⟩ := h.resolve_left id
    exact ⟨p, p1, by rw [p2, e9_56]⟩, fun ⟨p, p1, p2⟩ => Or.inr ⟨p, p1, by rw [p2, e9_56]⟩⟩)
  rw [gce] at A10
  obtain ⟨A1, A2, A3, A4⟩ := A10
  rw [mg9] at A3
  have f10_40 : fi r10 40 = fi r5 40 := (A1.1 40 (by decide)).trans (F59.1 40 (by decide))
  have a10_84 : ar r10 84 = ar r5 84 := (A1.2.1 84 (by decide)).trans (a9 84)
  have a10_85 : ar r10 85 = ar r5 85 := (A1.2.1 85 (by decide)).trans (a9 85)
  have f10_31 : fi r10 31 = ar r 61 n.toNatClampNeg := (A1.1 31 (by decide)).trans f9_31
  have a10_75 : ar r10 75 = ar r 75 := (A1.2.1 75 (by decide)).trans (F9.2.1 75 (by decide))
  have a10_76 : ar r10 76 = ar r 76 := (A1.2.1 76 (by decide)).trans (F9.2.1 76 (by decide))
  have vX : ∀ k, k < (fi r5 40).toNatClampNeg → vt r (ar r5 84 k) := fun k hk => (X5 k hk).1.1.1
  have bX : ∀ k, k < (fi r5 40).toNatClampNeg → ∀ c, gb (ar r5 85 k) c = true → c < (fi rI 2).toNatClampNeg := fun k hk c hc => by
    rw [← e2]
    exact mNd_cc tb (fun x c ⟨i, _, i2, _, i4⟩ => by rw [e2]; exact (q75 i i2).2.2 c i4) (((X5 k hk).2.2 c).mp hc)
  have sf31 : 0 ≤ fi r10 31 := by rw [f10_31]; exact wb0
  refine ws_gen98 (r0 := r10) w.1 (by rw [f10_40]; exact f5_40) (fun r11 G => ?_) n55 r10 0 ⟨Fr_refl _, ⟨sf31, Int32.le_refl _⟩, fun _ _ => ⟨rfl, rfl⟩, fun i i1 i2 => absurd i2 (by omega), fun k hk => absurd hk (Nat.not_lt_zero _), fun k => by rw [if_neg (fun z => absurd z.1 (Nat.not_lt_zero _))]⟩ (Int32.le_refl _) (by rw [f10_40]; exact f5_40)
  obtain ⟨G1, G2, G3, G4, G5, G6⟩ := G
  rw [f10_31] at G2 G3 G4 G5
  rw [f10_40, a10_84] at G4 G5 G6
  rw [a10_85] at G4 G5 G6
  rw [a10_75, a10_76] at G3
  have ar0 : ∀ k, k < (fi r5 40).toNatClampNeg → (ar r10 68 (ar r5 84 k).toNatClampNeg = fi r9 29 ↔ zBd (mG r) (GC r L) (ar r5 84 k)) := fun k hk => A3 _ ((v9 _).mpr (vX k hk))
  intro r26 e26 _ _
  have F26 : Fr [29, 30, 31] [68, 72, 73, 75, 76, 85] r9 r26 := by
    rw [e26]
    exact Fr_trans (Fr_mono A1 (by decide) (by decide)) (Fr_trans (Fr_mono G1 (by decide) (by decide)) (Fr_sF (by decide)))
  have F0_26 : Fr [29, 30, 31, 32, 33, 40] [68, 70, 71, 72, 73, 75, 76, 84, 85, 87] r r26 := Fr_trans (Fr_mono F9 (by decide) (by decide)) (Fr_mono F26 (by decide) (by decide))
  have w26 : MI a r26 rh ta N := MI_Fr w9 F26 (by decide) (by decide)
  have mg26 : mG r26 = mG r := mG_Fr F0_26 (by decide) (by decide)
  have e26_28 : fi r26 28 = fi r 28 := F0_26.1 28 (by decide)
  have v26 : ∀ x, vt r26 x ↔ vt r x := fun x => vt_eq e26_28
  have n29c : (fi r26 29).toInt = (fi r 29).toInt + 3 := by
    have e : fi r26 29 = fi r11 29 + 1 := by rw [e26]; rfl
    rw [e, G1.1 29 (by decide), A1.1 29 (by decide), i_add (by simp; omega) (by simp; omega), n29b]
    simp
    omega
  have a26_68 : ar r26 68 = ar r10 68 := by rw [e26]; exact G1.2.1 68 (by decide)
  have m26 : ∀ x, vt r x → (ar r26 68 x.toNatClampNeg).toInt ≤ (fi r 29).toInt + 2 := fun x hx => by
    rw [a26_68]
    rcases A2 x ((v9 x).mpr hx) with z | z
    · rw [z]
      have := m9 x hx
      omega
    · rw [z, n29b]
      exact Int.le_refl _
  have m26' : ∀ x, vt r x → ¬ ar r26 68 x.toNatClampNeg = fi r26 29 := fun x hx e => by
    have k := m26 x hx
    rw [e] at k
    omega
  have e26_53 : ar r26 53 = ar r 53 := F0_26.2.1 53 (by decide)
  have e26_55 : ar r26 55 = ar r 55 := F0_26.2.1 55 (by decide)
  rw [e26_53, e26_55]
  refine ws_mreach w26 ((v26 _).mpr vf) (fun x vx e => absurd e (m26' x ((v26 x).mp vx))) (fun r29 R29 _ r31 e31 n54 => ?_)
  obtain ⟨s1, s2, s3, s4⟩ := R29
  rw [mg26] at s3
  have F31 : Fr [30] [57, 68, 72, 73] r26 r31 := by
    rw [e31]
    exact Fr_trans (Fr_mono s1 (by decide) (by decide)) (Fr_sA (by decide))
  have F0_31 : Fr [29, 30, 31, 32, 33, 40] [57, 68, 70, 71, 72, 73, 75, 76, 84, 85, 87] r r31 := Fr_trans (Fr_mono F0_26 (by decide) (by decide)) (Fr_mono F31 (by decide) (by decide))
  have f31_29 : fi r31 29 = fi r26 29 := F31.1 29 (by decide)
  have f31_40 : fi r31 40 = fi r5 40 := (F31.1 40 (by decide)).trans ((F26.1 40 (by decide)).trans (F59.1 40 (by decide)))
  have a31_84 : ar r31 84 = ar r5 84 := (F31.2.1 84 (by decide)).trans ((F26.2.1 84 (by decide)).trans (a9 84))
  have a31_85 : ar r31 85 = ar r11 85 := (F31.2.1 85 (by decide)).trans (by rw [e26]; rfl)
  have a31_68 : ar r31 68 = ar r29 68 := by rw [e31]; rfl
  have f31_27 : fi r31 27 = fi r 27 := F0_31.1 27 (by decide)
  have a31_57 : ar r31 57 = upd (ar r 57) n.toNatClampNeg (fi r 27) := by
    have e : ar r31 57 = upd (ar r29 57) n.toNatClampNeg (fi r29 27) := by rw [e31]; rfl
    rw [e, s1.2.1 57 (by decide), s1.1 27 (by decide), F0_26.2.1 57 (by decide), F0_26.1 27 (by decide)]
  -- bits that are left
  have b31 : ∀ k, k < (fi r5 40).toNatClampNeg → ((¬ ar r31 85 k = 0 ↔ ¬ zBd (mG r) (GC r L) (ar r5 84 k)) ∧ (¬ ar r31 85 k = 0 → ar r31 85 k = ar r5 85 k)) := fun k hk => by
    have nz : ¬ ar r5 85 k = 0 := fun e => by
      obtain ⟨c, hc⟩ := (X5 k hk).2.1
      rw [e, gb_0] at hc
      exact absurd hc (by decide)
    rw [a31_85, G6 k]
    by_cases q : ar r10 68 (ar r5 84 k).toNatClampNeg = fi r9 29
    · rw [if_pos ⟨hk, q⟩]
      exact ⟨⟨fun z => absurd rfl z, fun z => absurd ((ar0 k hk).mp q) z⟩, fun z => absurd rfl z⟩
    · rw [if_neg (fun z => q z.2)]
      exact ⟨⟨fun _ z => q ((ar0 k hk).mpr z), fun _ => nz⟩, fun _ => rfl⟩
  have rc31 : ∀ k, k < (fi r5 40).toNatClampNeg → (ar r31 68 (ar r5 84 k).toNatClampNeg = fi r31 29 ↔ zRc (mG r) (ar r 55 (ar r 53 n.toNatClampNeg).toNatClampNeg) (ar r5 84 k)) := fun k hk => by
    rw [a31_68, f31_29, s3 _ ((v26 _).mpr (vX k hk))]
    exact ⟨fun z => z.resolve_left (m26' _ (vX k hk)), Or.inr⟩
  refine ws_gen187 (rI := rI) (r0 := r31) w.1 kq k0 k8 ((F0_31.2.1 41 (by decide)).trans ((qF.2.1 41 (by decide)).trans e41I)) ((F0_31.1 23 (by decide)).trans (tb.1.trans e2)) (by rw [f31_40]; exact f5_40) (by rw [a31_84, f31_40]; exact dj5) (fun k hk c hc => ?_) (fun r52 H => ?_) n54 r31 0 ⟨Fr_refl _, ⟨by rw [f31_27]; exact q27, Int32.le_refl _⟩, fun _ _ => ⟨rfl, rfl⟩, fun i i1 i2 => absurd i2 (by omega), fun k hk => absurd hk (Nat.not_lt_zero _), fun i j i1 i2 => absurd i2 (by omega), ⟨Or.inl, fun z => z.elim id (fun ⟨k, hk, _⟩ => absurd hk (Nat.not_lt_zero _))⟩⟩ (Int32.le_refl _) (by rw [f31_40]; exact f5_40)
  · rw [f31_40] at hk
    have nz : ¬ ar r31 85 k = 0 := fun e => by rw [e, gb_0] at hc; exact absurd hc (by decide)
    rw [(b31 k hk).2 nz] at hc
    exact bX k hk c hc
  obtain ⟨H1, H2, H3, H4, H5, H6, H7⟩ := H
  rw [f31_27] at H2 H3 H4 H5 H6
  rw [f31_40, a31_84] at H4 H5 H7
  intro _ _ r53 e53
  have F53 : Fr [27, 34] [58, 62, 63] r31 r53 := by
    rw [e53]
    exact Fr_trans (Fr_mono H1 (by decide) (by decide)) (Fr_sA (by decide))
  have F0 : Fr [27, 29, 30, 31, 32, 33, 34, 40] [57, 58, 62, 63, 68, 70, 71, 72, 73, 75, 76, 84, 85, 87] r r53 := Fr_trans (Fr_mono F0_31 (by decide) (by decide)) (Fr_mono F53 (by decide) (by decide))
  have b53 : ∀ k, ¬ k = 58 → ar r53 k = ar r52 k := fun k hk => by
    rw [e53]
    rw [ar_sA, if_neg hk]
  have f53 : ∀ k, fi r53 k = fi r52 k := fun k => by rw [e53]; rfl
  have a53_75 : ar r53 75 = ar r11 75 := (b53 75 (by decide)).trans ((H1.2.1 75 (by decide)).trans ((F31.2.1 75 (by decide)).trans (by rw [e26]; rfl)))
  have a53_76 : ar r53 76 = ar r11 76 := (b53 76 (by decide)).trans ((H1.2.1 76 (by decide)).trans ((F31.2.1 76 (by decide)).trans (by rw [e26]; rfl)))
  have f53_31 : fi r53 31 = fi r11 31 := (f53 31).trans ((H1.1 31 (by decide)).trans ((F31.1 31 (by decide)).trans (by rw [e26]; rfl)))
  have f53_29 : fi r53 29 = fi r26 29 := (f53 29).trans ((H1.1 29 (by decide)).trans f31_29)
  have f53_33 : fi r53 33 = fi r5 33 := (f53 33).trans ((H1.1 33 (by decide)).trans ((F31.1 33 (by decide)).trans ((F26.1 33 (by decide)).trans (F59.1 33 (by decide)))))
  have a53_68 : ar r53 68 = ar r29 68 := (b53 68 (by decide)).trans ((H1.2.1 68 (by decide)).trans a31_68)
  have e53_28 : fi r53 28 = fi r 28 := F0.1 28 (by decide)
  have v53 : ∀ x, vt r53 x ↔ vt r x := fun x => vt_eq e53_28
  have a53_70 : ar r53 70 = ar r5 70 := (b53 70 (by decide)).trans ((H1.2.1 70 (by decide)).trans ((F31.2.1 70 (by decide)).trans ((F26.2.1 70 (by decide)).trans (a9 70))))
  have a53_71 : ar r53 71 = ar r5 71 := (b53 71 (by decide)).trans ((H1.2.1 71 (by decide)).trans ((F31.2.1 71 (by decide)).trans ((F26.2.1 71 (by decide)).trans (a9 71))))
  have f53_32 : fi r53 32 = 0 := (f53 32).trans ((H1.1 32 (by decide)).trans ((F31.1 32 (by decide)).trans ((F26.1 32 (by decide)).trans ((F59.1 32 (by decide)).trans ((F5.1 32 (by decide)).trans h0)))))
  have s57 : ar r53 57 = upd (ar r 57) n.toNatClampNeg (fi r 27) := (b53 57 (by decide)).trans ((H1.2.1 57 (by decide)).trans a31_57)
  have s58 : ar r53 58 = upd (ar r 58) n.toNatClampNeg (fi r52 27 - fi r 27) := by
    have e : ar r53 58 = upd (ar r52 58) n.toNatClampNeg (fi r52 27 - ar r52 57 n.toNatClampNeg) := by rw [e53]; rfl
    rw [e, H1.2.1 58 (by decide), H1.2.1 57 (by decide), a31_57, pk_us, F0_31.2.1 58 (by decide)]
  have mk53 : ∀ x, vt r x → (ar r53 68 x.toNatClampNeg).toInt ≤ (fi r 29).toInt + 3 := fun x hx => by
    rw [a53_68]
    rcases s2 x ((v26 x).mpr hx) with z | z
    · rw [z]
      have := m26 x hx
      omega
    · rw [z, n29c]
      exact Int.le_refl _
  -- wants around
  have wnt : ∀ x c, mW r53 (ar r 61 n.toNatClampNeg) x c ↔ zVR (mG r) x ∧ mNd r (mW r (ar r 61 n.toNatClampNeg)) x c ∧ zBd (mG r) (GC r L) x := fun x c => by
    unfold mW
    rw [f53_31, a53_75, a53_76]
    constructor
    · rintro ⟨i, i1, i2, i3, i4⟩
      obtain ⟨k, k1, k2, k3, k4⟩ := G4 i i1 i2
      rw [k3] at i3
      rw [k4] at i4
      rw [← i3]
      exact ⟨(X5 k k1).1, ((X5 k k1).2.2 c).mp i4, (ar0 k k1).mp k2⟩
    · rintro ⟨x1, x2, x3⟩
      obtain ⟨k, k1, k2⟩ := cv5 x c x1 x2
      obtain ⟨i, i1, i2, i3, i4⟩ := G5 k k1 ((ar0 k k1).mpr (by rw [k2]; exact x3))
      exact ⟨i, i1, i2, by rw [i3, k2], by rw [i4]; exact ((X5 k k1).2.2 c).mpr (by rw [k2]; exact x2)⟩
  have own : ∀ v c, Own r53 (fi r 27).toNatClampNeg (fi r52 27).toNatClampNeg v c ↔ (zVR (mG r) v ∧ ¬ zBd (mG r) (GC r L) v ∧ zRc (mG r) (ar r 55 (ar r 53 n.toNatClampNeg).toNatClampNeg) v) ∧ zLow (kU rI) (mNd r (mW r (ar r 61 n.toNatClampNeg)) v) c := fun v c => by
    have lowE : ∀ k, k < (fi r5 40).toNatClampNeg → ¬ ar r31 85 k = 0 → (fun c => gb (ar r31 85 k) c = true) = mNd r (mW r (ar r 61 n.toNatClampNeg)) (ar r5 84 k) := fun k hk nz => funext (fun c => propext (by rw [(b31 k hk).2 nz]; exact (X5 k hk).2.2 c))
    unfold Own
    rw [b53 62 (by decide), b53 63 (by decide)]
    constructor
    · rintro ⟨i, i1, i2, i3, i4⟩
      obtain ⟨k, k1, k2, k3, k4, k5⟩ := H4 i i1 i2
      rw [k4] at i3
      have this : zLow (kU rI) (fun c => gb (ar r31 85 k) c = true) c := (k5 c).mp i4
      rw [lowE k k1 k2] at this
      rw [← i3]
      exact ⟨⟨(X5 k k1).1, (b31 k k1).1.mp k2, (rc31 k k1).mp k3⟩, this⟩
    · rintro ⟨⟨x1, x2, x3⟩, x4⟩
      obtain ⟨k, k1, k2⟩ := cv5 v c x1 x4.1
      have nz : ¬ ar r31 85 k = 0 := (b31 k k1).1.mpr (by rw [k2]; exact x2)
      obtain ⟨i, i1, i2, i3⟩ := H5 k k1 nz ((rc31 k k1).mpr (by rw [k2]; exact x3))
      obtain ⟨k', j1, j2, j3, j4, j5⟩ := H4 i i1 i2
      refine ⟨i, i1, i2, by rw [i3, k2], (j5 c).mpr ?_⟩
      show zLow (kU rI) (fun c => gb (ar r31 85 k') c = true) c
      rw [lowE k' j1 j2, ← j4, i3, k2]
      exact x4
  have tb8 : ∀ i, (fi r 27).toNatClampNeg ≤ i → i < (fi r52 27).toNatClampNeg → ∀ c, gb (ar r53 63 i) c = true → c < 8 := fun i i1 i2 c hc => by
    rw [b53 63 (by decide)] at hc
    obtain ⟨k, k1, k2, _, _, k5⟩ := H4 i i1 i2
    have := ((k5 c).mp hc).1
    rw [(b31 k k1).2 k2] at this
    exact cc8 tbI (bX k k1 c this)
  have ow2 : ∀ i, (fi r 27).toNatClampNeg ≤ i → i < (fi r52 27).toNatClampNeg → (vt r (ar r53 62 i) ∧ zRc (mG r) (ar r 55 (ar r 53 n.toNatClampNeg).toNatClampNeg) (ar r53 62 i)) ∧ (∃ c, gb (ar r53 63 i) c = true) ∧ ∀ c, gb (ar r53 63 i) c = true → c < (fi rI 2).toNatClampNeg := fun i i1 i2 => by
    rw [b53 62 (by decide), b53 63 (by decide)]
    obtain ⟨k, k1, k2, k3, k4, k5⟩ := H4 i i1 i2
    have e85 := (b31 k k1).2 k2
    rw [k4]
    refine ⟨⟨vX k k1, (rc31 k k1).mp k3⟩, ?_, fun c hc => ?_⟩
    · obtain ⟨c, hc⟩ := low_ne kq k8 k0 (P := fun c => gb (ar r31 85 k) c = true) (by rw [e85]; exact (X5 k k1).2.1) (fun c hc => bX k k1 c (by rw [← e85]; exact hc))
      exact ⟨c, (k5 c).mpr hc⟩
    · have := ((k5 c).mp hc).1
      exact bX k k1 c (by rw [← e85]; exact this)
  refine hK r53 ⟨⟨sol, ⟨Fr_trans qF (Fr_mono F0 (by decide) (by decide)), MI_Fr w F0 (by decide) (by decide), ?_, f53_32, ⟨fun x hx => ?_, by rw [f53_29, n29c]; omega, by rw [f53_29, n29c]; omega⟩, fun x hx => ?_, ⟨?_, fun i hi => ?_⟩, ?_⟩, F0, by rw [f53_29, n29c]⟩, ⟨⟨?_, fun i hi => ?_⟩, wnt⟩, ⟨by rw [f53_33]; exact lk5, ?_⟩, ⟨by rw [s57, pk_us], by rw [s58, pk_us, f53], by rw [f53]; exact H2.2, fun m hm => ⟨by rw [s57, pk_un hm], by rw [s58, pk_un hm]⟩, fun i hi => ?_⟩, by rw [f53]; exact own, ?_, by rw [f53]; exact tb8, by rw [f53]; exact ow2⟩
  · unfold CGr
    rw [e53_28, F0.2.1 65 (by decide), F0.2.1 66 (by decide), F0.2.1 67 (by decide)]
    exact cg
  · rw [f53_29, n29c]
    exact mk53 x ((v53 x).mp hx)
  · rw [a53_70, a53_71]
    exact z5 x ((v1 x).mpr ((v53 x).mp hx))
  · rw [f53_31]
    exact zo2 G2.1 G2.2
  · rw [f53_31] at hi
    rw [a53_75, a53_76]
    by_cases q : i < (ar r 61 n.toNatClampNeg).toNatClampNeg
    · rw [(G3 i q).1, (G3 i q).2]
      have := q75 i (by
        have a1 := i_nat wb0
        have a2 := i_nat q31
        rw [il] at wb1
        omega)
      exact ⟨(v53 _).mpr this.1, this.2⟩
    · obtain ⟨k, k1, k2, k3, k4⟩ := G4 i (by omega) hi
      rw [k3, k4]
      exact ⟨(v53 _).mpr (vX k k1), (X5 k k1).2.1, bX k k1⟩
  · rw [f53]
    exact zo2 q27 H2.2
  · rw [f53_31]
    exact G2.2
  · rw [a53_75, a53_76]
    exact G3 i hi
  · rw [f53 34, H7, F0_31.1 34 (by decide)]
    refine or_congr_right ⟨fun ⟨k, k1, k2, k3⟩ => ?_, fun ⟨v, c, x1, x2, x3, x4⟩ => ?_⟩
    · obtain ⟨c, hc⟩ := (X5 k k1).2.1
      exact ⟨ar r5 84 k, c, (X5 k k1).1, ((X5 k k1).2.2 c).mp hc, (b31 k k1).1.mp k2, fun z => k3 ((rc31 k k1).mpr z)⟩
    · obtain ⟨k, k1, k2⟩ := cv5 v c x1 x2
      exact ⟨k, k1, (b31 k k1).1.mpr (by rw [k2]; exact x3), fun z => x4 (by rw [← k2]; exact (rc31 k k1).mp z)⟩
  · rw [b53 62 (by decide), b53 63 (by decide)]
    have := H3 i hi
    rw [F0_31.2.1 62 (by decide), F0_31.2.1 63 (by decide)] at this
    exact this
  · rw [f53, b53 62 (by decide)]
    exact H6
end ZMGENF
