/-! The reference numbers variables as they are met, left first. -/
section ZNUM
variable {a : L_} {a1 a2 : Int32 → Prop} {g : Gr} {ρ : Int32 → Ut} {rt : Int32} {r0 r r2 : S_}
def stk (f : Nat → Int32) : Nat → List Int32
  | 0 => []
  | n + 1 => f n :: stk f n
theorem stk_upd {f : Nat → Int32} {m : Nat} {x : Int32} : ∀ n, n ≤ m → stk (upd f m x) n = stk f n := by
  intro n
  induction n with
  | zero => intro _; rfl
  | succ n ih =>
    intro h
    rw [stk, stk, ih (by omega), pk_un (by omega)]
theorem vp0 {v : Int32} {n : Nat} (h : vp_in v n) (hn : n ≤ 1000000) : 0 ≤ v ∧ 0 ≤ v + 1 ∧ (v + 1).toNatClampNeg = v.toNatClampNeg + 1 := by
  have h0 : 0 ≤ v := Int32.not_lt.mp (fun z => h (Or.inl z))
  have h1 : ¬ n ≤ v.toNatClampNeg := fun z => h (Or.inr z)
  have b := i_nat h0
  have e : (v + 1).toInt = v.toInt + 1 := i_add (by simp; omega) (by simp; omega)
  have c0 : 0 ≤ v + 1 := by rw [il, e]; simp; omega
  have b1 := i_nat c0
  exact ⟨h0, c0, by omega⟩
theorem ws_J117 {KB : S_ → Int32 → Prop} {KX : S_ → Prop} {v2 x p : Int32} (v0 : 0 ≤ v2) (l72 : ln a 72 ≤ 1000000) (e : ar r2 78 x.toNatClampNeg = if p = -1 then -1 else gR g p) (q0 : ¬ p = -1 → 0 ≤ gR g p) (hK : ∀ r3 v3, Fr [] [72] r2 r3 → 0 ≤ v3 → stk (ar r3 72) v3.toNatClampNeg = p1L g p ++ stk (ar r2 72) v2.toNatClampNeg → KB r3 v3) : wM_number_J117 a KB KX r2 v2 x := by
  unfold wM_number_J117 wM_number_J141
  rw [e]
  refine fun _ => ⟨fun q => hK r2 v2 (Fr_refl _) v0 ?_, fun q _ hv r19 e19 => ?_⟩
  · by_cases z : p = -1
    · unfold p1L
      rw [if_pos z]
      rfl
    · rw [if_neg z] at q
      exact absurd q (Int32.not_lt.mpr (q0 z))
  · by_cases z : p = -1
    · rw [if_pos z] at q
      exact absurd (by decide) q
    · obtain ⟨_, c0, c1⟩ := vp0 hv l72
      refine hK r19 (v2 + 1) (by rw [e19]; exact Fr_sA (by decide)) c0 ?_
      unfold p1L
      rw [if_neg z, c1, e19, if_neg z]
      show stk (upd (ar r2 72) v2.toNatClampNeg (gR g p)) (v2.toNatClampNeg + 1) = _
      rw [stk, pk_us, stk_upd _ (Nat.le_refl _)]
      rfl
theorem ws_J93 {KB : S_ → Int32 → Prop} {KX : S_ → Prop} {v2 x p q : Int32} (v0 : 0 ≤ v2) (l72 : ln a 72 ≤ 1000000) (e : ar r2 78 x.toNatClampNeg = if p = -1 then -1 else gR g p) (p0 : ¬ p = -1 → 0 ≤ gR g p) (e2 : ar r2 79 x.toNatClampNeg = if q = -1 then -1 else gR g q) (q0 : ¬ q = -1 → 0 ≤ gR g q) (hK : ∀ r3 v3, Fr [] [72] r2 r3 → 0 ≤ v3 → stk (ar r3 72) v3.toNatClampNeg = p1L g p ++ (p1L g q ++ stk (ar r2 72) v2.toNatClampNeg) → KB r3 v3) : wM_number_J93 a KB KX r2 v2 x := by
  unfold wM_number_J93
  rw [e2]
  refine fun _ => ⟨fun z => ?_, fun z _ hv r22 e22 => ?_⟩
  · have n : q = -1 := Classical.byContradiction (fun n => by rw [if_neg n] at z; exact absurd z (Int32.not_lt.mpr (q0 n)))
    refine ws_J117 v0 l72 e p0 (fun r3 v3 F c h => hK r3 v3 F c ?_)
    rw [h]
    unfold p1L
    rw [if_pos n]
    rfl
  · have n : ¬ q = -1 := fun n => by rw [if_pos n] at z; exact absurd (by decide) z
    obtain ⟨_, c0, c1⟩ := vp0 hv l72
    have F : Fr [] [72] r2 r22 := by rw [e22]; exact Fr_sA (by decide)
    refine ws_J117 c0 l72 (by rw [F.2.1 78 (by decide)]; exact e) p0 (fun r3 v3 F3 c h => hK r3 v3 (Fr_trans F F3) c ?_)
    rw [h, c1, e22, if_neg n]
    show p1L g p ++ stk (upd (ar r2 72) v2.toNatClampNeg (gR g q)) (v2.toNatClampNeg + 1) = _
    rw [stk, pk_us, stk_upd _ (Nat.le_refl _)]
    unfold p1L
    rw [if_neg n]
    rfl
/-- what number reads -/
def NTB (g : Gr) (rt : Int32) (r0 : S_) : Prop := ∀ x, zRc g rt x → 0 ≤ x ∧ (0 ≤ ar r0 77 x.toNatClampNeg ↔ 0 ≤ gH g x) ∧ ar r0 78 x.toNatClampNeg = (if gF g x = -1 then -1 else gR g (gF g x)) ∧ ar r0 79 x.toNatClampNeg = (if gS g x = -1 then -1 else gR g (gS g x))
def NMI (g : Gr) (ρ : Int32 → Ut) (rt : Int32) (r0 r : S_) (v : Int32) (D : List Int32) : Prop := Fr [36] [68, 72, 83] r0 r ∧ 0 ≤ v ∧ (∀ s, s ∈ stk (ar r 72) v.toNatClampNeg → zRc g rt s) ∧ DFI g ρ D (fun x => zRc g rt x ∧ ar r 68 x.toNatClampNeg = fi r0 29) (stk (ar r 72) v.toNatClampNeg) ∧ FFd g ρ D (stk (ar r 72) v.toNatClampNeg) = FFd g ρ [] [rt] ∧ fi r 36 = Int32.ofNat D.length ∧ (∀ x, x ∈ D → zRc g rt x) ∧ ∀ (i : Nat) (h : i < D.length), ar r 83 (D[i]).toNatClampNeg = Int32.ofNat i
theorem ws_numL (w : zGW a1 a2 g) (vv : zVal g ρ) (hrt : zRn g rt) (nt : NTB g rt r0) (l72 : ln a 72 ≤ 1000000) {KX : S_ → Prop} (hK : ∀ r D, Fr [36] [68, 72, 83] r0 r → D = dd [] (LVS g ρ rt) → fi r 36 = Int32.ofNat D.length → (∀ (i : Nat) (h : i < D.length), ar r 83 (D[i]).toNatClampNeg = Int32.ofNat i) → KX r) : ∀ (n : Nat) (r : S_) (v : Int32) (D : List Int32), NMI g ρ rt r0 r v D → wM_number_L27 a KX n r v := by
  intro n
  induction n with
  | zero => intro r v D _; trivial
  | succ n ih =>
    intro r v D h
    obtain ⟨F, v0, hs, hd, hf, h36, hD, h83⟩ := h
    rw [wM_number_L27]
    have bv := i_nat v0
    refine ⟨fun q => ?_, fun q _ _ => ?_⟩
    · have e : v.toNatClampNeg = 0 := by
        rw [il] at q
        simp at q
        omega
      rw [e] at hf
      exact hK r D F (DF_end hf) h36 h83
    have q' := Int32.not_le.mp q
    rw [it] at q'
    simp at q'
    have d1 : (v + -1).toInt = v.toInt - 1 := by
      have mx : v.toInt ≤ 2147483647 := Int32.toInt_le _
      rw [i_add (by simp; omega) (by simp; omega)]
      simp
      omega
    have k0 : 0 ≤ v + -1 := by rw [il, d1]; simp; omega
    have bk := i_nat k0
    have ev : v.toNatClampNeg = (v + -1).toNatClampNeg + 1 := by omega
    obtain ⟨x, ex⟩ : ∃ x, x = ar r 72 (v + -1).toNatClampNeg := ⟨_, rfl⟩
    rw [ev, stk, ← ex] at hs hd hf
    rw [← ex]
    have rx : zRc g rt x := hs x List.mem_cons_self
    have nx := zRc_r w hrt.1 rx
    have tx := nt x rx
    have e29 : fi r 29 = fi r0 29 := F.1 29 (by decide)
    have a78 : ar r 78 = ar r0 78 := F.2.1 78 (by decide)
    have a79 : ar r 79 = ar r0 79 := F.2.1 79 (by decide)
    have a77 : ar r 77 = ar r0 77 := F.2.1 77 (by decide)
    have hs' : ∀ s, s ∈ stk (ar r 72) (v + -1).toNatClampNeg → zRc g rt s := fun s h => hs s (List.mem_cons_of_mem _ h)
    have g0 : (¬ gF g x = -1 → 0 ≤ gR g (gF g x)) ∧ (¬ gS g x = -1 → 0 ≤ gR g (gS g x)) := ⟨fun z => (zGW_1 w nx z).1.1, fun z => (zGW_2 w nx z).1.1⟩
    have rp : ∀ s, s ∈ p1L g (gF g x) ++ (p1L g (gS g x) ++ stk (ar r 72) (v + -1).toNatClampNeg) → zRc g rt s := fun s h => by
      rcases List.mem_append.mp h with h | h
      · unfold p1L at h
        by_cases z : gF g x = -1
        · rw [if_pos z] at h; exact absurd h List.not_mem_nil
        · rw [if_neg z] at h; rw [List.mem_singleton.mp h]; exact zRc_1 rx nx z
      · rcases List.mem_append.mp h with h | h
        · unfold p1L at h
          by_cases z : gS g x = -1
          · rw [if_pos z] at h; exact absurd h List.not_mem_nil
          · rw [if_neg z] at h; rw [List.mem_singleton.mp h]; exact zRc_2 rx nx z
        · exact hs' s h
    refine ⟨fun m => ?_, fun m _ r10 e10 _ => ?_⟩
    · unfold wM_number_J141
      obtain ⟨d2, f2⟩ := DF_vis hd ⟨rx, m.trans e29⟩
      exact ih r _ D ⟨F, k0, hs', d2, f2.symm.trans hf, h36, hD, h83⟩
    have nv : ¬ (zRc g rt x ∧ ar r 68 x.toNatClampNeg = fi r0 29) := fun z => m (z.2.trans e29.symm)
    have F10 : Fr [] [68] r r10 := by rw [e10]; exact Fr_sA (by decide)
    have a68 : ar r10 68 = upd (ar r 68) x.toNatClampNeg (fi r0 29) := by rw [e10, e29]; rfl
    have vs' : ∀ y, zRc g rt y → (ar r10 68 y.toNatClampNeg = fi r0 29 ↔ ar r 68 y.toNatClampNeg = fi r0 29 ∨ y = x) := fun y ry => by
      rw [a68, updI _ _ tx.1 (nt y ry).1]
      by_cases z : y = x
      · rw [if_pos z]
        exact ⟨fun _ => Or.inr z, fun _ => rfl⟩
      · rw [if_neg z]
        exact ⟨Or.inl, fun h => h.resolve_right z⟩
    have vse : (fun y => (zRc g rt y ∧ ar r 68 y.toNatClampNeg = fi r0 29) ∨ y = x) = (fun y => zRc g rt y ∧ ar r10 68 y.toNatClampNeg = fi r0 29) := funext (fun y => propext ⟨fun h => by
      rcases h with h | h
      · exact ⟨h.1, (vs' y h.1).mpr (Or.inl h.2)⟩
      · rw [h]; exact ⟨rx, (vs' x rx).mpr (Or.inr rfl)⟩, fun h => ((vs' y h.1).mp h.2).elim (fun z => Or.inl ⟨h.1, z⟩) Or.inr⟩)
    refine ⟨fun hb => ?_, fun hb _ r24 e24 r25 e25 => ?_⟩
    · have hb' : 0 ≤ gH g x := tx.2.1.mp (by rw [F10.2.1 77 (by decide), a77] at hb; exact hb)
      obtain ⟨d2, f2⟩ := DF_built w vv nx hb' hd
      rw [vse] at d2
      refine ws_J93 (g := g) (p := gF g x) (q := gS g x) k0 l72 (by rw [F10.2.1 78 (by decide), a78]; exact tx.2.2.1) g0.1 (by rw [F10.2.1 79 (by decide), a79]; exact tx.2.2.2) g0.2 (fun r3 v3 F3 c3 st => ih r3 v3 D ?_)
      rw [F10.2.1 72 (by decide)] at st
      refine ⟨Fr_trans (Fr_trans F (Fr_mono F10 (by decide) (by decide))) (Fr_mono F3 (by decide) (by decide)), c3, by rw [st]; exact rp, ?_, by rw [st]; exact f2.symm.trans hf, by rw [F3.1 36 (by decide), F10.1 36 (by decide)]; exact h36, hD, by rw [F3.2.1 83 (by decide), F10.2.1 83 (by decide)]; exact h83⟩
      rw [st, F3.2.1 68 (by decide)]
      exact d2
    · have hb' : ¬ 0 ≤ gH g x := fun z => hb (by rw [F10.2.1 77 (by decide), a77]; exact tx.2.1.mpr z)
      have z := (w.2 x nx).2.2.2 hb'
      obtain ⟨d2, f2⟩ := DF_var hb' nv hd
      rw [vse] at d2
      have F25 : Fr [36] [83] r10 r25 := by rw [e25, e24]; exact Fr_trans (Fr_sA (by decide)) (Fr_sF (by decide))
      refine ws_J93 (g := g) (p := gF g x) (q := gS g x) k0 l72 (by rw [F25.2.1 78 (by decide), F10.2.1 78 (by decide), a78]; exact tx.2.2.1) g0.1 (by rw [F25.2.1 79 (by decide), F10.2.1 79 (by decide), a79]; exact tx.2.2.2) g0.2 (fun r3 v3 F3 c3 st => ih r3 v3 (D ++ [x]) ?_)
      rw [F25.2.1 72 (by decide), F10.2.1 72 (by decide)] at st
      have st' : stk (ar r3 72) v3.toNatClampNeg = stk (ar r 72) (v + -1).toNatClampNeg := by
        rw [st]
        unfold p1L
        rw [if_pos z.1, if_pos z.2, List.nil_append, List.nil_append]
      have g36 : fi r10 36 = Int32.ofNat D.length := (F10.1 36 (by decide)).trans h36
      have g83 : ar r25 83 = upd (ar r 83) x.toNatClampNeg (Int32.ofNat D.length) := by
        rw [e25, e24, ar_sF, ar_sA, if_pos rfl, F10.2.1 83 (by decide), g36]
      refine ⟨Fr_trans (Fr_trans F (Fr_mono F10 (by decide) (by decide))) (Fr_trans (Fr_mono F25 (by decide) (by decide)) (Fr_mono F3 (by decide) (by decide))), c3, by rw [st']; exact hs', ?_, by rw [st']; exact f2.symm.trans hf, ?_, fun y hy => ?_, fun i hi => ?_⟩
      · rw [st', F3.2.1 68 (by decide), F25.2.1 68 (by decide)]
        exact d2
      · rw [F3.1 36 (by decide), e25, fi_sF, if_pos rfl, e24, fi_sA, g36, List.length_append, Int32.ofNat_add]
        rfl
      · rcases List.mem_append.mp hy with q | q
        · exact hD y q
        · rw [List.mem_singleton.mp q]; exact rx
      · rw [F3.2.1 83 (by decide), g83]
        by_cases q : i < D.length
        · have e1 : (D ++ [x])[i] = D[i] := List.getElem_append_left q
          have m1 : D[i] ∈ D := List.getElem_mem q
          rw [e1, updI _ _ tx.1 (nt _ (hD _ m1)).1, if_neg (fun z => nv (by rw [← z]; exact hd.1 _ m1))]
          exact h83 i q
        · have hl : i = D.length := by
            rw [List.length_append] at hi
            simp at hi
            omega
          have e1 : (D ++ [x])[i] = x := by simp [hl]
          rw [e1, pk_us, hl]
end ZNUM
