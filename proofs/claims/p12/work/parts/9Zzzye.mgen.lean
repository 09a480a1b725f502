/-! The reference: generalising, its loops. -/
section ZMGEN
variable {a : L_} {r r' : S_} {rh ta : Int32 → Int32} {N : Int32}
theorem i40s {a : L_} {x : Int32} {k : Nat} {m : Nat} (x0 : 0 ≤ x) (vp : vp_in x (ln a k)) (l : ln a k = m) (hm : m ≤ 200000) : (x + 1).toInt = x.toInt + 1 ∧ (x + 1).toNatClampNeg = x.toNatClampNeg + 1 ∧ 0 ≤ x + 1 ∧ x.toInt < m := by
  have bl := (vpl vp).2
  rw [l] at bl
  have n0 := i_nat x0
  have i1 : (x + 1).toInt = x.toInt + 1 := i_add (by simp; omega) (by simp; omega)
  have p1 : 0 ≤ x + 1 := by rw [il, i1]; simp; omega
  have := i_nat p1
  exact ⟨i1, by omega, p1, by omega⟩
theorem updN {f : Nat → Int32} {m i : Nat} {v : Int32} : upd f m v i = if i = m then v else f i := by
  by_cases e : i = m
  · rw [e, pk_us, if_pos rfl]
  · rw [pk_un e, if_neg e]
/-- wants from w on: found ones k below v that are marked -/
def G98 (r0 r : S_) (mk : Int32) (v : Nat) : Prop := Fr [31] [75, 76, 85] r0 r ∧ (0 ≤ fi r0 31 ∧ fi r0 31 ≤ fi r 31) ∧ (∀ i, i < (fi r0 31).toNatClampNeg → ar r 75 i = ar r0 75 i ∧ ar r 76 i = ar r0 76 i) ∧ (∀ i, (fi r0 31).toNatClampNeg ≤ i → i < (fi r 31).toNatClampNeg → ∃ k, k < v ∧ ar r0 68 (ar r0 84 k).toNatClampNeg = mk ∧ ar r 75 i = ar r0 84 k ∧ ar r 76 i = ar r0 85 k) ∧ (∀ k, k < v → ar r0 68 (ar r0 84 k).toNatClampNeg = mk → ∃ i, (fi r0 31).toNatClampNeg ≤ i ∧ i < (fi r 31).toNatClampNeg ∧ ar r 75 i = ar r0 84 k ∧ ar r 76 i = ar r0 85 k) ∧ ∀ k, ar r 85 k = if k < v ∧ ar r0 68 (ar r0 84 k).toNatClampNeg = mk then 0 else ar r0 85 k
theorem ws_gen98 {r0 : S_} {v1 v2 : Int32} (hM : ML a) (f0 : 0 ≤ fi r0 40) {KX : S_ → Int32 → Prop} (hK : ∀ r, G98 r0 r v2 (fi r0 40).toNatClampNeg → KX r v1) : ∀ (n : Nat) (r : S_) (v3 : Int32), G98 r0 r v2 v3.toNatClampNeg → 0 ≤ v3 → v3 ≤ fi r0 40 → wM_generalise_L98 a KX n r v1 v2 v3 := by
  intro n
  induction n with
  | zero => intro r v3 _ _ _; trivial
  | succ n ih =>
    intro r v3 h v0 v3l
    have F := h.1
    rw [wM_generalise_L98, F.1 40 (by decide), F.2.1 84 (by decide), F.2.1 68 (by decide)]
    refine ⟨fun g => ?_, fun g _ _ => ?_⟩
    · have e : v3 = fi r0 40 := by clear ih hK h F; grind
      rw [e] at h
      exact hK r h
    have g' := Int32.not_le.mp g
    obtain ⟨q1, q2, q3⟩ := inc_le v0 g'
    have s3 : (v3 + 1).toNatClampNeg = v3.toNatClampNeg + 1 := by have := i_nat q1; have := i_nat v0; omega
    obtain ⟨_, h1, h2, h3, h4, h5⟩ := h
    unfold wM_generalise_J144 wM_addWant
    refine ⟨fun nm => ih r _ ?_ q1 q2, fun hm _ _ vp r2 e2 vp2 r4 e4 r5 e5 _ r25 e25 => ih r25 _ ?_ q1 q2⟩
    · rw [s3]
      refine ⟨F, h1, h2, fun i i1 i2 => ?_, fun k k1 k2 => ?_, fun k => ?_⟩
      · obtain ⟨k, k1, k2⟩ := h3 i i1 i2
        exact ⟨k, by omega, k2⟩
      · exact h4 k (by
          have : ¬ k = v3.toNatClampNeg := fun e => nm (by rw [← e]; exact k2)
          omega) k2
      · rw [h5 k]
        by_cases e : k = v3.toNatClampNeg
        · rw [if_neg (by omega), if_neg (fun z => nm (by rw [← e]; exact z.2))]
        · have : (k < v3.toNatClampNeg ∧ ar r0 68 (ar r0 84 k).toNatClampNeg = v2) ↔ (k < v3.toNatClampNeg + 1 ∧ ar r0 68 (ar r0 84 k).toNatClampNeg = v2) := ⟨fun z => ⟨by omega, z.2⟩, fun z => ⟨by omega, z.2⟩⟩
          simp only [this]
    · have f31 : 0 ≤ fi r 31 := zo2 h1.1 h1.2
      obtain ⟨i1, i2, i3, i4⟩ := i40s f31 vp (ml (n := 20000) hM (by decide) (by decide) rfl) (by decide)
      have e5' : r25 = sA (sF (sA (sA r 75 (upd (ar r 75) (fi r 31).toNatClampNeg (ar r0 84 v3.toNatClampNeg))) 76 (upd (ar r 76) (fi r 31).toNatClampNeg (ar r 85 v3.toNatClampNeg))) 31 (fi r 31 + 1)) 85 (upd (ar r 85) v3.toNatClampNeg 0) := by rw [e25, e5, e4, e2]; rfl
      have f25 : fi r25 31 = fi r 31 + 1 := by rw [e5']; rfl
      have a75 : ∀ i, ar r25 75 i = if i = (fi r 31).toNatClampNeg then ar r0 84 v3.toNatClampNeg else ar r 75 i := fun i => by
        rw [e5']
        show upd (ar r 75) (fi r 31).toNatClampNeg (ar r0 84 v3.toNatClampNeg) i = _
        exact updN
      have b3 : ar r 85 v3.toNatClampNeg = ar r0 85 v3.toNatClampNeg := by rw [h5 v3.toNatClampNeg, if_neg (by omega)]
      have a76 : ∀ i, ar r25 76 i = if i = (fi r 31).toNatClampNeg then ar r0 85 v3.toNatClampNeg else ar r 76 i := fun i => by
        rw [e5']
        show upd (ar r 76) (fi r 31).toNatClampNeg (ar r 85 v3.toNatClampNeg) i = _
        rw [b3]
        exact updN
      have n1 := i_nat h1.1
      have n2 := i_nat f31
      have h12 := h1.2
      rw [il] at h12
      rw [s3]
      refine ⟨?_, ⟨h1.1, by rw [f25, il, i1]; omega⟩, fun i hi => ?_, fun i j1 j2 => ?_, fun k k1 k2 => ?_, fun k => ?_⟩
      · rw [e5']
        exact Fr_trans F (Fr_trans (Fr_sA (by decide)) (Fr_trans (Fr_sA (by decide)) (Fr_trans (Fr_sF (by decide)) (Fr_sA (by decide)))))
      · rw [a75, a76, if_neg (by omega), if_neg (by omega)]
        exact h2 i hi
      · rw [f25, i2] at j2
        rw [a75, a76]
        by_cases e : i = (fi r 31).toNatClampNeg
        · rw [if_pos e, if_pos e]
          exact ⟨v3.toNatClampNeg, by omega, hm, rfl, rfl⟩
        · rw [if_neg e, if_neg e]
          obtain ⟨k, k1, k2⟩ := h3 i j1 (by omega)
          exact ⟨k, by omega, k2⟩
      · rw [f25, i2]
        by_cases e : k = v3.toNatClampNeg
        · exact ⟨(fi r 31).toNatClampNeg, by omega, by omega, by rw [a75, if_pos rfl, e], by rw [a76, if_pos rfl, e]⟩
        · obtain ⟨i, j1, j2, j3⟩ := h4 k (by omega) k2
          exact ⟨i, j1, by omega, by rw [a75, if_neg (by omega)]; exact j3.1, by rw [a76, if_neg (by omega)]; exact j3.2⟩
      · have : ar r25 85 k = upd (ar r 85) v3.toNatClampNeg 0 k := by rw [e5']; rfl
        rw [this, updN, h5 k]
        by_cases e : k = v3.toNatClampNeg
        · rw [if_pos e, if_pos ⟨by omega, by rw [e]; exact hm⟩]
        · rw [if_neg e]
          have : (k < v3.toNatClampNeg ∧ ar r0 68 (ar r0 84 k).toNatClampNeg = v2) ↔ (k < v3.toNatClampNeg + 1 ∧ ar r0 68 (ar r0 84 k).toNatClampNeg = v2) := ⟨fun z => ⟨by omega, z.2⟩, fun z => ⟨by omega, z.2⟩⟩
          simp only [this]
/-- own ones: found ones k below v with bits left that the type reaches -/
def G187 (r0 r : S_) (LW : Int32 → Nat → Prop) (v : Nat) : Prop := Fr [27, 34] [62, 63] r0 r ∧ (0 ≤ fi r0 27 ∧ fi r0 27 ≤ fi r 27) ∧ (∀ i, i < (fi r0 27).toNatClampNeg → ar r 62 i = ar r0 62 i ∧ ar r 63 i = ar r0 63 i) ∧ (∀ i, (fi r0 27).toNatClampNeg ≤ i → i < (fi r 27).toNatClampNeg → ∃ k, k < v ∧ ¬ ar r0 85 k = 0 ∧ ar r0 68 (ar r0 84 k).toNatClampNeg = fi r0 29 ∧ ar r 62 i = ar r0 84 k ∧ ∀ c, gb (ar r 63 i) c = true ↔ LW (ar r0 85 k) c) ∧ (∀ k, k < v → ¬ ar r0 85 k = 0 → ar r0 68 (ar r0 84 k).toNatClampNeg = fi r0 29 → ∃ i, (fi r0 27).toNatClampNeg ≤ i ∧ i < (fi r 27).toNatClampNeg ∧ ar r 62 i = ar r0 84 k) ∧ (∀ i j, (fi r0 27).toNatClampNeg ≤ i → i < (fi r 27).toNatClampNeg → (fi r0 27).toNatClampNeg ≤ j → j < (fi r 27).toNatClampNeg → ar r 62 i = ar r 62 j → i = j) ∧ (¬ fi r 34 = 0 ↔ ¬ fi r0 34 = 0 ∨ ∃ k, k < v ∧ ¬ ar r0 85 k = 0 ∧ ¬ ar r0 68 (ar r0 84 k).toNatClampNeg = fi r0 29)
theorem ws_gen187 {rI r0 : S_} {v1 : Int32} (hM : ML a) (kq : KQ rI) (k0 : 0 ≤ fi rI 2) (k8 : fi rI 2 ≤ 8) (e41 : ar r0 41 = ar rI 6) (e23 : fi r0 23 = fi rI 2) (f0 : 0 ≤ fi r0 40) (dj : DJ (ar r0 84) (fi r0 40).toNatClampNeg) (hb : ∀ k, k < (fi r0 40).toNatClampNeg → ∀ c, gb (ar r0 85 k) c = true → c < (fi rI 2).toNatClampNeg) {KX : S_ → Int32 → Prop} (hK : ∀ r, G187 r0 r (fun b c => zLow (kU rI) (fun c => gb b c = true) c) (fi r0 40).toNatClampNeg → KX r v1) : ∀ (n : Nat) (r : S_) (v3 : Int32), G187 r0 r (fun b c => zLow (kU rI) (fun c => gb b c = true) c) v3.toNatClampNeg → 0 ≤ v3 → v3 ≤ fi r0 40 → wM_generalise_L187 a KX n r v1 v3 := by
  intro n
  induction n with
  | zero => intro r v3 _ _ _; trivial
  | succ n ih =>
    intro r v3 h v0 v3l
    have F := h.1
    have e85 : ar r 85 = ar r0 85 := F.2.1 85 (by decide)
    have e84 : ar r 84 = ar r0 84 := F.2.1 84 (by decide)
    rw [wM_generalise_L187, F.1 40 (by decide), e84, F.2.1 68 (by decide), e85, F.1 29 (by decide)]
    refine ⟨fun g => ?_, fun g _ => ?_⟩
    · have e : v3 = fi r0 40 := by clear ih hK h F hb dj e85 e84; grind
      rw [e] at h
      exact hK r h
    have g' := Int32.not_le.mp g
    obtain ⟨q1, q2, q3⟩ := inc_le v0 g'
    have s3 : (v3 + 1).toNatClampNeg = v3.toNatClampNeg + 1 := by have := i_nat q1; have := i_nat v0; omega
    have lt3 : v3.toNatClampNeg < (fi r0 40).toNatClampNeg := by have := i_nat v0; have := i_nat f0; rw [it] at g'; omega
    obtain ⟨_, h1, h2, h3, h4, h5, h6⟩ := h
    have ext : ∀ P : Nat → Prop, (∃ k, k < v3.toNatClampNeg + 1 ∧ P k) ↔ (∃ k, k < v3.toNatClampNeg ∧ P k) ∨ P v3.toNatClampNeg := fun P => by
      constructor
      · rintro ⟨k, k1, k2⟩
        by_cases e : k = v3.toNatClampNeg
        · right; rw [← e]; exact k2
        · exact Or.inl ⟨k, by omega, k2⟩
      · rintro (⟨k, k1, k2⟩ | k2)
        · exact ⟨k, by omega, k2⟩
        · exact ⟨v3.toNatClampNeg, by omega, k2⟩
    -- no own one at v3
    have skip : (ar r0 85 v3.toNatClampNeg = 0 ∨ ¬ ar r0 68 (ar r0 84 v3.toNatClampNeg).toNatClampNeg = fi r0 29) → ∀ u0 : Int32, (¬ u0 = 0 ↔ ¬ fi r 34 = 0 ∨ ¬ ar r0 85 v3.toNatClampNeg = 0) → wM_generalise_J291 a (wM_generalise_L187 a KX n) KX r v1 v3 u0 := by
      intro hs u0 hu
      unfold wM_generalise_J291 wM_generalise_J294
      intro _ r36 e36
      have F36 : Fr [34] [] r r36 := by rw [e36]; exact Fr_sF (by decide)
      have f27 : fi r36 27 = fi r 27 := F36.1 27 (by decide)
      have a62 : ar r36 62 = ar r 62 := F36.2.1 62 List.not_mem_nil
      have a63 : ar r36 63 = ar r 63 := F36.2.1 63 List.not_mem_nil
      refine ih r36 _ ?_ q1 q2
      rw [s3]
      refine ⟨Fr_trans F (Fr_mono F36 (by decide) (by decide)), by rw [f27]; exact h1, by rw [a62, a63]; exact h2, fun i i1 i2 => ?_, fun k k1 k2 k3 => ?_, by rw [f27, a62]; exact h5, ?_⟩
      · rw [f27] at i2
        rw [a62, a63]
        obtain ⟨k, k1, k2⟩ := h3 i i1 i2
        exact ⟨k, by omega, k2⟩
      · rw [f27, a62]
        refine h4 k ?_ k2 k3
        have : ¬ k = v3.toNatClampNeg := fun e => by rw [e] at k2 k3; exact hs.elim (fun z => k2 z) (fun z => z k3)
        omega
      · rw [show fi r36 34 = u0 by rw [e36]; rfl, hu, h6, ext]
        constructor
        · rintro ((z | z) | z)
          · exact Or.inl z
          · exact Or.inr (Or.inl z)
          · exact Or.inr (Or.inr ⟨z, hs.resolve_left z⟩)
        · rintro (z | z | z)
          · exact Or.inl (Or.inl z)
          · exact Or.inl (Or.inr z)
          · exact Or.inr z.1
    have j269 : (ar r0 85 v3.toNatClampNeg = 0 ∨ ¬ ar r0 68 (ar r0 84 v3.toNatClampNeg).toNatClampNeg = fi r0 29) → wM_generalise_J269 a (wM_generalise_L187 a KX n) KX r v1 v3 := by
      intro hs
      unfold wM_generalise_J269 wM_generalise_J286
      rw [e85]
      exact ⟨fun z => skip hs 1 ⟨fun _ => Or.inl z, fun _ => by decide⟩, fun z _ => ⟨fun z2 => skip hs 0 ⟨fun q => absurd rfl q, fun q => (q.elim (fun q => q z) (fun q => q z2)).elim⟩, fun z2 => skip hs 1 ⟨fun _ => Or.inr z2, fun _ => by decide⟩⟩⟩
    refine ⟨fun z => j269 (Or.inl z), fun z _ _ => ⟨fun z2 => j269 (Or.inr z2), fun z2 _ vp r45 e45 _ => ?_⟩⟩
    have F45 : Fr [] [62] r r45 := by rw [e45]; exact Fr_sA (by decide)
    have f27 : 0 ≤ fi r 27 := zo2 h1.1 h1.2
    obtain ⟨i1, i2, i3, i4⟩ := i40s f27 vp (ml (n := 20000) hM (by decide) (by decide) rfl) (by decide)
    rw [F45.2.1 85 (by decide), e85]
    refine ws_mleast (rI := rI) hM kq k0 k8 ((F45.2.1 41 (by decide)).trans ((F.2.1 41 (by decide)).trans e41)) ((F45.1 23 (by decide)).trans ((F.1 23 (by decide)).trans e23)) (hb _ lt3) (fun z47 hz _ r49 e49 r50 e50 => ?_)
    have e50' : r50 = sF (sA (sA r 62 (upd (ar r 62) (fi r 27).toNatClampNeg (ar r0 84 v3.toNatClampNeg))) 63 (upd (ar r 63) (fi r 27).toNatClampNeg z47)) 27 (fi r 27 + 1) := by rw [e50, e49, e45]; rfl
    have f50 : fi r50 27 = fi r 27 + 1 := by rw [e50']; rfl
    have a62 : ∀ i, ar r50 62 i = if i = (fi r 27).toNatClampNeg then ar r0 84 v3.toNatClampNeg else ar r 62 i := fun i => by
      rw [e50']
      show upd (ar r 62) (fi r 27).toNatClampNeg (ar r0 84 v3.toNatClampNeg) i = _
      exact updN
    have a63 : ∀ i, ar r50 63 i = if i = (fi r 27).toNatClampNeg then z47 else ar r 63 i := fun i => by
      rw [e50']
      show upd (ar r 63) (fi r 27).toNatClampNeg z47 i = _
      exact updN
    have n1 := i_nat h1.1
    have n2 := i_nat f27
    have h12 := h1.2
    rw [il] at h12
    unfold wM_generalise_J294
    refine ih r50 _ ?_ q1 q2
    rw [s3]
    refine ⟨?_, ⟨h1.1, by rw [f50, il, i1]; omega⟩, fun i hi => ?_, fun i j1 j2 => ?_, fun k k1 k2 k3 => ?_, fun i j j1 j2 j3 j4 j5 => ?_, ?_⟩
    · rw [e50']
      exact Fr_trans F (Fr_trans (Fr_sA (by decide)) (Fr_trans (Fr_sA (by decide)) (Fr_sF (by decide))))
    · rw [a62, a63, if_neg (by omega), if_neg (by omega)]
      exact h2 i hi
    · rw [f50, i2] at j2
      rw [a62, a63]
      by_cases e : i = (fi r 27).toNatClampNeg
      · rw [if_pos e, if_pos e]
        exact ⟨v3.toNatClampNeg, by omega, z, z2, rfl, hz⟩
      · rw [if_neg e, if_neg e]
        obtain ⟨k, k1, k2⟩ := h3 i j1 (by omega)
        exact ⟨k, by omega, k2⟩
    · rw [f50, i2]
      by_cases e : k = v3.toNatClampNeg
      · exact ⟨(fi r 27).toNatClampNeg, by omega, by omega, by rw [a62, if_pos rfl, e]⟩
      · obtain ⟨i, j1, j2, j3⟩ := h4 k (by omega) k2 k3
        exact ⟨i, j1, by omega, by rw [a62, if_neg (by omega)]; exact j3⟩
    · rw [f50, i2] at j2 j4
      rw [a62, a62] at j5
      have old : ∀ i, (fi r0 27).toNatClampNeg ≤ i → i < (fi r 27).toNatClampNeg → ¬ ar r 62 i = ar r0 84 v3.toNatClampNeg := fun i j1 j2 e => by
        obtain ⟨k, k1, _, _, k4, _⟩ := h3 i j1 j2
        have := dj k v3.toNatClampNeg (by omega) lt3 (by rw [← k4, e])
        omega
      by_cases e : i = (fi r 27).toNatClampNeg
      · by_cases f : j = (fi r 27).toNatClampNeg
        · omega
        · rw [if_pos e, if_neg f] at j5
          exact absurd j5.symm (old j j3 (by omega))
      · by_cases f : j = (fi r 27).toNatClampNeg
        · rw [if_neg e, if_pos f] at j5
          exact absurd j5 (old i j1 (by omega))
        · rw [if_neg e, if_neg f] at j5
          exact h5 i j j1 (by omega) j3 (by omega) j5
    · rw [show fi r50 34 = fi r 34 by rw [e50']; rfl, h6, ext]
      refine or_congr_right ⟨Or.inl, fun q => q.elim id (fun q => absurd z2 q.2)⟩
end ZMGEN
