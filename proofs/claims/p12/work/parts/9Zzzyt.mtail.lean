/-! The reference: what infer comes to, before the type is kept. -/
section ZMTAIL
variable {ad l : Nat → Nat} {a : L_} {rI r r' r1 r2 r3 : S_} {rh ta : Int32 → Int32} {N : Int32}
/-- no type: a derivation without a solution -/
def NOTr (rI : S_) (e : Int32) : Prop := ∃ (d : Nat) (c : Int32) (V : (Int32 → Ut) → Prop) (t c' : Int32) (V' : (Int32 → Ut) → Prop) (W : Int32 → Nat → Prop) (k am : Prop) (p : Int), (0 ≤ c ∧ zLoc c V ∧ ∃ ρ, V ρ) ∧ zTY (ctb rI) d e [] c V t c' V' W k am p ∧ ∀ ρ, ¬ V' ρ
/-- a type: what is found of its variables, and the outcome -/
def FINr (a : L_) (rI : S_) (e z : Int32) (r : S_) : Prop := ∃ (d : Nat) (c : Int32) (V : (Int32 → Ut) → Prop) (rh ta : Int32 → Int32) (N t : Int32) (W : Int32 → Nat → Prop) (k am : Prop) (p : Int), (0 ≤ c ∧ zLoc c V ∧ ∃ ρ, V ρ) ∧ zTY (ctb rI) d e [] c V t (fi r 28) (VM r) W k am p ∧ (∃ ρ, VM r ρ) ∧ (Fr FFl AAl rI r ∧ MI a r rh ta N ∧ CGr r rh) ∧ (vt r t ∧ ar r 55 ((0 : Int32)).toNatClampNeg = t) ∧ (∀ x c, W x c → vt r x) ∧ FD r r W ∧ (((z = -4 ∧ (k ∨ mLK r W)) ∨ (z = -5 ∧ ¬ (k ∨ mLK r W) ∧ (am ∨ ∃ v c, zVR (mG r) v ∧ mNd r W v c ∧ ¬ zRc (mG r) t v)) ∨ (z = 0 ∧ ¬ (k ∨ mLK r W) ∧ ¬ (am ∨ ∃ v c, zVR (mG r) v ∧ mNd r W v c ∧ ¬ zRc (mG r) t v)))) ∧ fi r 35 = Int32.ofInt p ∧ (∀ x c, mNd r W x c → c < (fi rI 2).toNatClampNeg)
theorem ws_inf128 {r0 : S_} (f0 : 0 ≤ fi r0 40) {KX : S_ → Prop} (hK : ∀ r, Fr [34] [] r0 r → (¬ fi r 34 = 0 ↔ ¬ fi r0 34 = 0 ∨ ∃ i, i < (fi r0 40).toNatClampNeg ∧ ¬ ar r0 68 (ar r0 84 i).toNatClampNeg = fi r0 29) → KX r) : ∀ (n : Nat) (r : S_) (v : Int32), Fr [34] [] r0 r → (¬ fi r 34 = 0 ↔ ¬ fi r0 34 = 0 ∨ ∃ i, i < v.toNatClampNeg ∧ ¬ ar r0 68 (ar r0 84 i).toNatClampNeg = fi r0 29) → 0 ≤ v → v ≤ fi r0 40 → wM_infer_L128 a KX n r v := by
  intro n
  induction n with
  | zero => intro r v _ _ _ _; trivial
  | succ n ih =>
    intro r v F hq v0 h1
    have aE : ∀ k, ar r k = ar r0 k := fun k => F.2.1 k List.not_mem_nil
    rw [wM_infer_L128, F.1 40 (by decide), F.1 29 (by decide), aE 84, aE 68]
    refine ⟨fun g => ?_, fun g => ?_⟩
    · have e : v = fi r0 40 := by clear ih hK hq F aE; grind
      rw [e] at hq
      exact hK r F hq
    · have g' := Int32.not_le.mp g
      obtain ⟨p1, p2, p3⟩ := inc_le v0 g'
      have sv : (v + 1).toNatClampNeg = v.toNatClampNeg + 1 := by
        have e1 := i_nat v0
        have e2 := i_nat p1
        omega
      have ext : (∃ i, i < (v + 1).toNatClampNeg ∧ ¬ ar r0 68 (ar r0 84 i).toNatClampNeg = fi r0 29) ↔ (∃ i, i < v.toNatClampNeg ∧ ¬ ar r0 68 (ar r0 84 i).toNatClampNeg = fi r0 29) ∨ ¬ ar r0 68 (ar r0 84 v.toNatClampNeg).toNatClampNeg = fi r0 29 := by
        rw [sv]
        constructor
        · rintro ⟨i, i1, i2⟩
          by_cases e : i = v.toNatClampNeg
          · right; rw [← e]; exact i2
          · exact Or.inl ⟨i, by omega, i2⟩
        · rintro (⟨i, i1, i2⟩ | i2)
          · exact ⟨i, by omega, i2⟩
          · exact ⟨v.toNatClampNeg, by omega, i2⟩
      have j167 : ∀ u0 : Int32, (¬ u0 = 0 ↔ ¬ fi r 34 = 0 ∨ ¬ ar r0 68 (ar r0 84 v.toNatClampNeg).toNatClampNeg = fi r0 29) → wM_infer_J167 a (wM_infer_L128 a KX n) KX r v u0 := fun u0 hu => by
        unfold wM_infer_J167
        intro _ r29 e29
        rw [e29]
        refine ih _ _ (Fr_trans F (Fr_sF (by decide))) ?_ p1 p2
        show ¬ u0 = 0 ↔ _
        rw [hu, hq, ext, or_assoc]
      unfold wM_infer_J162
      refine ⟨fun z => j167 1 ⟨fun _ => Or.inl z, fun _ => by decide⟩, fun z _ _ => ⟨fun ge => j167 0 ⟨fun q => absurd rfl q, fun q => (q.elim (fun q => q z) (fun q => q ge)).elim⟩, fun ge => j167 1 ⟨fun _ => Or.inr ge, fun _ => by decide⟩⟩⟩
theorem ws_mtail {r17 r18 : S_} {e : Int32} {d : Nat} {K : Int32 → S_ → Prop} (tab : TAB l rI) (f33 : fi r17 33 = 0) (f34 : fi r17 34 = 0) (f35 : fi r17 35 = 0) (f31 : fi r17 31 = 0) (V0 : 0 ≤ fi r17 28 ∧ zLoc (fi r17 28) (VM r17) ∧ ∃ ρ, VM r17 ρ) (ee : ar r17 50 ((0 : Int32)).toNatClampNeg = e) {S : List Int32} {m : Nat} (m24 : m ≤ 24) (b29 : (fi r17 29).toInt = 0) (po : POm (ad, l) rI r17 r18 S 0 [] d m) (hNo : ∀ r', Fr [32] [87] r18 r' → NOTr rI e → K (-2) r') (hK : ∀ z r', ¬ z = 0 → FINr (ad, l) rI e z r' → K z r') (hKeep : ∀ r', FINr (ad, l) rI e 0 r' → (∀ x, vt r' x → (ar r' 68 x.toNatClampNeg = fi r' 29 ↔ zRc (mG r') (ar r' 55 ((0 : Int32)).toNatClampNeg) x)) → (0 ≤ fi r' 30 ∧ (∀ x, vt r' x → zRc (mG r') (ar r' 55 ((0 : Int32)).toNatClampNeg) x → ∃ i, i < (fi r' 30).toNatClampNeg ∧ ar r' 73 i = x) ∧ ∀ i, i < (fi r' 30).toNatClampNeg → vt r' (ar r' 73 i) ∧ zRc (mG r') (ar r' 55 ((0 : Int32)).toNatClampNeg) (ar r' 73 i)) → wM_keep (ad, l) (fun r36 => vp_in (fi r36 37) (ln (ad, l) 80) → K (ar r36 80 (fi r36 37).toNatClampNeg) r36) r') : wM_needNoRing (ad, l) (fun r19 => (((fi r19 32) = 0) → wM_drive (ad, l) (fun r21 => wM_takeNeeds (ad, l) (fun r22 => ∀ r23 : S_, r23 = sF r22 30 0 → ∀ r24 : S_, r24 = sF r23 29 ((fi r23 29) + 1) → vp_in 0 (ln (ad, l) 55) → wM_reach (ad, l) (fun r26 => ∀ n38 : Nat, wM_infer_L128 (ad, l) (fun r => (((fi r 33) = 0) → (((fi r 34) = 0) → wM_keep (ad, l) (fun r36 => vp_in (fi r36 37) (ln (ad, l) 80) → K (ar r36 80 (fi r36 37).toNatClampNeg) r36) r) ∧ ((¬ (fi r 34) = 0) → K (-5) r)) ∧ ((¬ (fi r 33) = 0) → K (-4) r)) n38 r26 0) r24 (ar r24 55 ((0 : Int32)).toNatClampNeg)) r21) r19 0) ∧ ((¬ (fi r19 32) = 0) → K (-2) r19)) r18 := by
  obtain ⟨⟨rh, ta, N, si⟩, s18, ws, bm, vt0, k, am, p, zt, fl⟩ := po
  obtain ⟨qF, w, cg, f32, ⟨qm, qm0, qm1⟩, z0, ⟨q31, q75⟩, q27⟩ := si
  rw [ee, f31] at zt
  refine ws_mring w cg f32 (fun r19 F19 h19 => ⟨fun h0 => ?_, fun hn => hNo r19 F19 ⟨d, _, VM r17, _, _, VM r18, _, k, am, p, V0, zt, ?_⟩⟩)
  rotate_left
  · rcases h19 with h | h
    · exact absurd h.1 hn
    · exact h.2
  have sol : ∃ ρ, VM r18 ρ := by
    rcases h19 with h | h
    · exact h.2
    · exact absurd h0 h.1
  have w19 : MI (ad, l) r19 rh ta N := MI_Fr w F19 (by decide) (by decide)
  have tb : MTB r18 := MTB_Fr tab.1.1 qF (by decide) (by decide)
  have tb19 : MTB r19 := MTB_Fr tb F19 (by decide) (by decide)
  have aE : ∀ k, ¬ k = 87 → ar r19 k = ar r18 k := fun k hk => F19.2.1 k (by simpa using hk)
  have fE : ∀ k, ¬ k = 32 → fi r19 k = fi r18 k := fun k hk => F19.1 k (by simpa using hk)
  have v19 : ∀ x, vt r19 x ↔ vt r18 x := fun x => vt_eq (fE 28 (by decide))
  have b29' : (fi r18 29).toInt ≤ 120 := by
    have h1 : (m : Int) ≤ 24 := by omega
    omega
  have n29 : (fi r18 29 + 1).toInt = (fi r18 29).toInt + 1 := i_add (by simp; omega) (by simp; omega)
  refine ws_dt w19 tb19 (fun x vx => by rw [aE 70 (by decide), aE 71 (by decide)]; exact z0 x ((v19 x).mp vx)) (fun x vx q => ?_) (Int32.le_refl _) (by rw [fE 31 (by decide)]; exact q31) (fun i hi => ?_) (fun r22 D22 FD22 lk22 r23 e23 r24 e24 _ => ?_)
  · have kk := qm x ((v19 x).mp vx)
    rw [aE 68 (by decide), fE 29 (by decide)] at q
    rw [q, n29] at kk
    omega
  · rw [fE 31 (by decide)] at hi
    rw [aE 75 (by decide), aE 76 (by decide)]
    exact ⟨(v19 _).mpr (q75 i hi).1, (q75 i hi).2.1⟩
  obtain ⟨⟨F22, g29⟩, z22, m22⟩ := D22
  rw [fE 29 (by decide)] at g29 m22
  have F1924 : Fr [29, 30, 33, 40] [68, 70, 71, 72, 73, 84, 85] r19 r24 := by rw [e24, e23]; exact Fr_trans F22 (Fr_trans (Fr_sF (by decide)) (Fr_sF (by decide)))
  have F24 : Fr [29, 30, 32, 33, 40] [68, 70, 71, 72, 73, 84, 85, 87] r18 r24 := Fr_trans (Fr_mono F19 (by decide) (by decide)) (Fr_mono F1924 (by decide) (by decide))
  have a24 : ∀ k, ar r24 k = ar r22 k := fun k => by rw [e24, e23]; rfl
  have w24 : MI (ad, l) r24 rh ta N := MI_Fr w F24 (by decide) (by decide)
  have v24 : ∀ x, vt r24 x ↔ vt r18 x := fun x => vt_eq (F24.1 28 (by decide))
  have h24 : fi r24 29 = fi r22 29 + 1 := by rw [e24, e23]; rfl
  have n29b : (fi r24 29).toInt = (fi r18 29).toInt + 2 := by
    rw [h24, g29, i_add (by rw [n29]; simp; omega) (by rw [n29]; simp; omega), n29]
    simp
    omega
  have m24' : ∀ x, vt r18 x → ¬ ar r24 68 x.toNatClampNeg = fi r24 29 := fun x vx q => by
    rw [a24] at q
    have := qm x vx
    rcases m22 x ((v19 x).mpr vx) with z | z
    · rw [z, aE 68 (by decide)] at q
      rw [q] at this
      omega
    · rw [z] at q
      rw [← q, n29] at n29b
      omega
  have e55 : ar r24 55 = ar r18 55 := F24.2.1 55 (by decide)
  rw [e55]
  refine ws_mreach w24 ((v24 _).mpr vt0) (fun x vx q => absurd q (m24' x ((v24 x).mp vx))) (fun r26 R n38 => ?_)
  obtain ⟨R1, R2, R3, R4, R5⟩ := R
  have F26 : Fr [29, 30, 32, 33, 40] [68, 70, 71, 72, 73, 84, 85, 87] r18 r26 := Fr_trans F24 (Fr_mono R1 (by decide) (by decide))
  have mg26 : mG r26 = mG r18 := mG_Fr F26 (by decide) (by decide)
  have mg24 : mG r24 = mG r18 := mG_Fr F24 (by decide) (by decide)
  have mg19 : mG r19 = mG r18 := mG_Fr F19 (by decide) (by decide)
  have g40 : fi r26 40 = fi r22 40 := (R1.1 40 (by decide)).trans (by rw [e24, e23]; rfl)
  have a84 : ar r26 84 = ar r22 84 := (R1.2.1 84 (by decide)).trans (a24 84)
  have a85 : ar r26 85 = ar r22 85 := (R1.2.1 85 (by decide)).trans (a24 85)
  have g29' : fi r26 29 = fi r24 29 := R1.1 29 (by decide)
  have W19 : mW r19 0 = mW r18 0 := mW_Fr F19 (by decide) (by decide)
  have kIe : kI r19 = kI r18 := by unfold kI; rw [fE 2 (by decide), aE 9 (by decide)]
  have kFe : ∀ k, ¬ k = 87 → kF r19 k = kF r18 k := fun k hk => by unfold kF; rw [fE 2 (by decide), aE k hk]
  have mN19 : mNd r19 (mW r19 0) = mNd r18 (mW r18 0) := by unfold mNd; rw [kIe, kFe 10 (by decide), kFe 11 (by decide), mg19, W19]
  have mL19 : mLK r19 (mW r19 0) = mLK r18 (mW r18 0) := by unfold mLK; rw [kIe, kFe 10 (by decide), kFe 11 (by decide), mg19, W19]
  obtain ⟨⟨f40, X, dj⟩, cv⟩ := FD22
  rw [mN19, mg19] at X cv
  rw [mL19, fE 33 (by decide)] at lk22
  refine ws_inf128 (by rw [g40]; exact f40) (fun r30 F30 amb => ?_) n38 r26 0 (Fr_refl _) ⟨Or.inl, fun q => q.elim id (fun ⟨i, hi, _⟩ => absurd hi (Nat.not_lt_zero _))⟩ (Int32.le_refl _) (by rw [g40]; exact f40)
  have Fz : Fr [29, 30, 32, 33, 34, 40] [68, 70, 71, 72, 73, 84, 85, 87] r18 r30 := Fr_trans (Fr_mono F26 (by decide) (by decide)) (Fr_mono F30 (by decide) (by decide))
  have aZ : ∀ k, ar r30 k = ar r26 k := fun k => F30.2.1 k List.not_mem_nil
  have mgz : mG r30 = mG r18 := mG_Fr Fz (by decide) (by decide)
  have kIz : kI r30 = kI r18 := by unfold kI; rw [Fz.1 2 (by decide), Fz.2.1 9 (by decide)]
  have kFz : ∀ k, k = 10 ∨ k = 11 → kF r30 k = kF r18 k := fun k hk => by unfold kF; rw [Fz.1 2 (by decide), Fz.2.1 k (by rcases hk with e | e <;> rw [e] <;> decide)]
  have mNz : mNd r30 (mW r18 0) = mNd r18 (mW r18 0) := by unfold mNd; rw [kIz, kFz 10 (Or.inl rfl), kFz 11 (Or.inr rfl), mgz]
  have mLz : mLK r30 (mW r18 0) = mLK r18 (mW r18 0) := by unfold mLK; rw [kIz, kFz 10 (Or.inl rfl), kFz 11 (Or.inr rfl), mgz]
  have Vz : VM r30 = VM r18 := VM_Fr Fz (by decide) (by decide)
  have gz28 : fi r30 28 = fi r18 28 := Fz.1 28 (by decide)
  have vz : ∀ x, vt r30 x ↔ vt r18 x := fun x => vt_eq gz28
  have e55z : ar r30 55 = ar r18 55 := Fz.2.1 55 (by decide)
  have gz40 : fi r30 40 = fi r22 40 := (F30.1 40 (by decide)).trans g40
  have b84 : ar r30 84 = ar r22 84 := (aZ 84).trans a84
  have b85 : ar r30 85 = ar r22 85 := (aZ 85).trans a85
  have lk : ¬ fi r30 33 = 0 ↔ k ∨ mLK r18 (mW r18 0) := by
    rw [F30.1 33 (by decide), R1.1 33 (by decide), show fi r24 33 = fi r22 33 by rw [e24, e23]; rfl, lk22, fl.1, f33]
    exact ⟨fun q => q.elim (fun q => q.elim (fun q => absurd rfl q) Or.inl) Or.inr, fun q => q.elim (fun q => Or.inl (Or.inr q)) Or.inr⟩
  have vX : ∀ i, i < (fi r22 40).toNatClampNeg → vt r18 (ar r22 84 i) := fun i hi => (X i hi).1.1.1
  have mkz : ∀ x, vt r18 x → (ar r26 68 x.toNatClampNeg = fi r26 29 ↔ zRc (mG r18) (ar r18 55 ((0 : Int32)).toNatClampNeg) x) := fun x vx => by
    rw [g29', R3 x ((v24 x).mpr vx), mg24]
    exact ⟨fun q => q.resolve_left (m24' x vx), Or.inr⟩
  have am' : ¬ fi r30 34 = 0 ↔ am ∨ ∃ v c, zVR (mG r18) v ∧ mNd r18 (mW r18 0) v c ∧ ¬ zRc (mG r18) (ar r18 55 ((0 : Int32)).toNatClampNeg) v := by
    rw [amb, F26.1 34 (by decide), fl.2.1, f34, g40, a84]
    constructor
    · rintro ((q | q) | ⟨i, i1, i2⟩)
      · exact absurd rfl q
      · exact Or.inl q
      · obtain ⟨c, hc⟩ := (X i i1).2.1
        exact Or.inr ⟨_, c, (X i i1).1, ((X i i1).2.2 c).mp hc, fun q => i2 ((mkz _ (vX i i1)).mpr q)⟩
    · rintro (q | ⟨v, c, q1, q2, q3⟩)
      · exact Or.inl (Or.inr q)
      · obtain ⟨i, i1, i2⟩ := cv v c q1 q2
        exact Or.inr ⟨i, i1, fun q => q3 (by rw [← i2]; exact (mkz _ (vX i i1)).mp q)⟩
  have fin : ∀ z, ((z = -4 ∧ (k ∨ mLK r18 (mW r18 0))) ∨ (z = -5 ∧ ¬ (k ∨ mLK r18 (mW r18 0)) ∧ (am ∨ ∃ v c, zVR (mG r18) v ∧ mNd r18 (mW r18 0) v c ∧ ¬ zRc (mG r18) (ar r18 55 ((0 : Int32)).toNatClampNeg) v)) ∨ (z = 0 ∧ ¬ (k ∨ mLK r18 (mW r18 0)) ∧ ¬ (am ∨ ∃ v c, zVR (mG r18) v ∧ mNd r18 (mW r18 0) v c ∧ ¬ zRc (mG r18) (ar r18 55 ((0 : Int32)).toNatClampNeg) v))) → FINr (ad, l) rI e z r30 := fun z hz => by
    refine ⟨d, _, VM r17, rh, ta, N, ar r18 55 ((0 : Int32)).toNatClampNeg, mW r18 0, k, am, p, V0, by rw [gz28, Vz]; exact zt, by rw [Vz]; exact sol, ⟨Fr_trans qF (Fr_mono Fz (by decide) (by decide)), MI_Fr w Fz (by decide) (by decide), CGr_eq cg gz28 (Fz.2.1 65 (by decide)) (Fz.2.1 66 (by decide)) (Fz.2.1 67 (by decide))⟩, ⟨(vz _).mpr vt0, by rw [e55z]⟩, fun x c ⟨i, _, i2, i3, _⟩ => ?_, ⟨⟨by rw [gz40]; exact f40, ?_, by rw [gz40, b84]; exact dj⟩, ?_⟩, ?_, ?_, fun x c hc => ?_⟩
    · rw [← i3]; exact (vz _).mpr (q75 i i2).1
    · rw [gz40, b84, b85, mgz, mNz]; exact X
    · rw [gz40, b84, mgz, mNz]; exact cv
    · rw [mLz, mgz, mNz]; exact hz
    · rw [Fz.1 35 (by decide), fl.2.2, f35]; simp
    · rw [mNz] at hc
      have e2 : fi r18 2 = fi rI 2 := qF.1 2 (by decide)
      rw [← e2]
      exact mNd_cc tb (fun x c ⟨i, _, i2, _, i4⟩ => by rw [e2]; exact (q75 i i2).2.2 c i4) hc
  refine ⟨fun z33 => ⟨fun z34 => hKeep r30 (fin 0 (Or.inr (Or.inr ⟨rfl, fun q => lk.mpr q z33, fun q => am'.mpr q z34⟩))) (fun x vx => ?_) ?_, fun z34 => hK (-5) r30 (by decide) (fin (-5) (Or.inr (Or.inl ⟨rfl, fun q => lk.mpr q z33, am'.mp z34⟩)))⟩, fun z33 => hK (-4) r30 (by decide) (fin (-4) (Or.inl ⟨rfl, lk.mp z33⟩))⟩
  · rw [aZ 68, F30.1 29 (by decide), mgz, e55z]
    exact mkz x ((vz x).mp vx)
  · have f24 : fi r24 30 = 0 := by rw [e24, e23]; rfl
    obtain ⟨l1, l2, l3⟩ := R5 (by rw [f24]; exact Int32.le_refl _)
    rw [f24] at l1 l2 l3
    rw [F30.1 30 (by decide), aZ 73, mgz, e55z]
    refine ⟨l1, fun x vx h => ?_, fun i hi => ?_⟩
    · have vx' := (vz x).mp vx
      rcases l2 x ((v24 x).mpr vx') (by rw [← g29']; exact (mkz x vx').mpr h) with q | ⟨i, _, h2, h3⟩
      · exact absurd q (m24' x vx')
      · exact ⟨i, h2, h3⟩
    · have k3 := l3 i (Nat.zero_le _) hi
      rw [mg24] at k3
      exact ⟨(vz _).mpr ((v24 _).mp k3.1), k3.2⟩
end ZMTAIL
