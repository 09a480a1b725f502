/-! The reference: driven to the end; what is found. -/
section ZMTAKE
variable {a : L_} {r r' : S_} {rh ta : Int32 → Int32} {N : Int32}
def mW (r : S_) (p : Int32) (x : Int32) (c : Nat) : Prop := ∃ i, p.toNatClampNeg ≤ i ∧ i < (fi r 31).toNatClampNeg ∧ ar r 75 i = x ∧ gb (ar r 76 i) c = true
theorem DW_mark {r0 : S_} {W B : Int32 → Nat → Prop} {v x : Int32} (h : DW r0 r rh W B v nE nE) (hM : ML a) (vp : vp_in (fi r 30) (ln a 73)) (vx : vt r0 x) (rx : rh x = x) (nb : ∃ c, gb (ar r 70 x.toNatClampNeg) c = true) (nm : ¬ ar r 68 x.toNatClampNeg = fi r0 29) {r2 : S_} (e2 : r2 = sF (sA (sA r 68 (upd (ar r 68) x.toNatClampNeg (fi r0 29))) 73 (upd (ar r 73) (fi r 30).toNatClampNeg x)) 30 (fi r 30 + 1)) : DW r0 r2 rh W B v nE nE ∧ ar r2 68 x.toNatClampNeg = fi r0 29 ∧ ar r2 72 = ar r 72 := by
  obtain ⟨q1, ⟨q2, q2'⟩, ⟨q3, q4, q5, qB⟩, q6, q7, ⟨q80, q81, q82, q83⟩, q9, q10⟩ := h
  have l73 : ln a 73 = 40000 := ml hM (by decide) (by decide) rfl
  have vl := (vpl vp).2
  rw [l73] at vl
  have n30 := i_nat q80
  have i30 : (fi r 30 + 1).toInt = (fi r 30).toInt + 1 := i_add (by simp; omega) (by simp; omega)
  have p30 : 0 ≤ fi r 30 + 1 := by rw [il, i30]; simp; omega
  have s30 : (fi r 30 + 1).toNatClampNeg = (fi r 30).toNatClampNeg + 1 := by have := i_nat p30; omega
  have F : Fr [30] [68, 73] r r2 := by rw [e2]; exact Fr_trans (Fr_sA (by decide)) (Fr_trans (Fr_sA (by decide)) (Fr_sF (by decide)))
  have e70 : ar r2 70 = ar r 70 := F.2.1 70 (by decide)
  have e71 : ar r2 71 = ar r 71 := F.2.1 71 (by decide)
  have e72 : ar r2 72 = ar r 72 := F.2.1 72 (by decide)
  have f33 : fi r2 33 = fi r 33 := F.1 33 (by decide)
  have f30 : fi r2 30 = fi r 30 + 1 := by rw [e2]; rfl
  have a68 : ∀ y : Int32, 0 ≤ y → ar r2 68 y.toNatClampNeg = if y = x then fi r0 29 else ar r 68 y.toNatClampNeg := fun y y0 => by
    rw [e2]
    show upd (ar r 68) x.toNatClampNeg (fi r0 29) y.toNatClampNeg = _
    rw [updI _ _ vx.1 y0]
  have a73 : ∀ i, ar r2 73 i = if i = (fi r 30).toNatClampNeg then x else ar r 73 i := fun i => by
    rw [e2]
    show upd (ar r 73) (fi r 30).toNatClampNeg x i = _
    by_cases e : i = (fi r 30).toNatClampNeg
    · rw [e, pk_us, if_pos rfl]
    · rw [pk_un e, if_neg e]
  have mk : ∀ y : Int32, 0 ≤ y → ar r 68 y.toNatClampNeg = fi r0 29 → ar r2 68 y.toNatClampNeg = fi r0 29 := fun y y0 h => by
    rw [a68 y y0]
    split
    · rfl
    · exact h
  have mx : ar r2 68 x.toNatClampNeg = fi r0 29 := by rw [a68 x vx.1, if_pos rfl]
  refine ⟨⟨Fr_trans q1 (Fr_mono F (by decide) (by decide)), ⟨q2, by rw [e72, e70]; exact q2'⟩, ⟨by rw [e70]; exact q3, by rw [e70, e71]; exact q4, fun y vy c h1 h2 => ?_, by rw [e70]; exact qB⟩, by rw [e71, e70, f33]; exact q6, by rw [f33]; exact q7, ⟨by rw [f30]; exact p30, fun i hi => ?_, fun i j hi hj hij => ?_, fun y vy hy => ?_⟩, fun y vy => ?_, fun y vy c hc => ?_⟩, mx, e72⟩
  · rw [e70] at h1
    rw [e71] at h2
    obtain ⟨k, k0, k1, k2⟩ := q5 y vy c h1 h2
    exact ⟨k, k0, k1, by rw [e72]; exact k2⟩
  · rw [f30, s30] at hi
    rw [a73, e70]
    by_cases e : i = (fi r 30).toNatClampNeg
    · rw [if_pos e]
      exact ⟨⟨vx, rx⟩, mx, nb⟩
    · rw [if_neg e]
      have k := q81 i (by omega)
      exact ⟨k.1, mk _ k.1.1.1 k.2.1, k.2.2⟩
  · rw [f30, s30] at hi hj
    rw [a73, a73] at hij
    by_cases e : i = (fi r 30).toNatClampNeg
    · by_cases f : j = (fi r 30).toNatClampNeg
      · omega
      · rw [if_pos e, if_neg f] at hij
        exact absurd (by rw [hij]; exact (q81 j (by omega)).2.1) nm
    · by_cases f : j = (fi r 30).toNatClampNeg
      · rw [if_neg e, if_pos f] at hij
        exact absurd (by rw [← hij]; exact (q81 i (by omega)).2.1) nm
      · rw [if_neg e, if_neg f] at hij
        exact q82 i j (by omega) (by omega) hij
  · rw [f30, s30]
    rw [a68 y vy.1] at hy
    by_cases e : y = x
    · exact ⟨(fi r 30).toNatClampNeg, by omega, by rw [a73, if_pos rfl, e]⟩
    · rw [if_neg e] at hy
      obtain ⟨i, i1, i2⟩ := q83 y vy hy
      exact ⟨i, by omega, by rw [a73, if_neg (by omega)]; exact i2⟩
  · rw [a68 y vy.1]
    split
    · exact Or.inr rfl
    · exact q9 y vy
  · rw [e71] at hc
    exact mk y vy.1 (q10 y vy c hc)
theorem ws_drive77 {r0 : S_} {W B : Int32 → Nat → Prop} {KX : S_ → Prop} (w0 : MI a r0 rh ta N) (tb : MTB r0) (hK : ∀ (r : S_) (v : Int32), DW r0 r rh W B v nE nE → v ≤ 0 → KX r) : ∀ (n : Nat) (r : S_) (v : Int32), DW r0 r rh W B v nE nE → wM_drive_L77 a KX n r v := by
  intro n
  induction n with
  | zero => intro r v _; trivial
  | succ n ih =>
    intro r v h
    rw [wM_drive_L77]
    refine ⟨fun g => hK r v h g, fun g _ _ => ?_⟩
    have g' := Int32.not_le.mp g
    rw [it] at g'
    simp at g'
    have b := h.2.1.1
    have d1 : (v + -1).toInt = v.toInt - 1 := by
      rw [i_add (by simp; omega) (by simp; omega)]
      simp
      omega
    have k0 : 0 ≤ v + -1 := by rw [il, d1]; simp; omega
    have en := h.2.1.2 _ k0 (by rw [it, d1]; omega)
    have e29 : fi r 29 = fi r0 29 := h.1.1 29 (by decide)
    rw [e29]
    refine ⟨fun mx => ws_drive134 w0 tb (fun r v h => ih r v h) h d1 g' rfl mx, fun mx _ r56 e56 vp r58 e58 r59 e59 => ?_⟩
    have f56 : fi r56 30 = fi r 30 := by rw [e56]; rfl
    rw [f56] at vp
    obtain ⟨p1, p2, p3⟩ := DW_mark h w0.1 vp en.1.1 en.1.2 en.2 mx (r2 := r59) (by rw [e59, e58, e56]; rfl)
    exact ws_drive134 w0 tb (fun r v h => ih r v h) p1 d1 g' (by rw [p3]) p2
theorem ws_drive19 {r0 : S_} {p : Int32} {KX : S_ → Int32 → Prop} (w0 : MI a r0 rh ta N) (tb : MTB r0) (p0 : 0 ≤ p) (f31 : 0 ≤ fi r0 31) (hv : ∀ i, i < (fi r0 31).toNatClampNeg → vt r0 (ar r0 75 i) ∧ ∃ c, gb (ar r0 76 i) c = true) (hK : ∀ (r : S_) (v : Int32), DW r0 r rh (mW r0 p) nE v nE nE → (∀ i, p.toNatClampNeg ≤ i → i < (fi r0 31).toNatClampNeg → ∀ c, gb (ar r0 76 i) c = true → gb (ar r 70 (rh (ar r0 75 i)).toNatClampNeg) c = true) → KX r v) : ∀ (n : Nat) (r : S_) (v2 v3 : Int32), DW r0 r rh (mW r0 p) nE v2 nE nE → p ≤ v3 → (∀ i, p.toNatClampNeg ≤ i → i < v3.toNatClampNeg → i < (fi r0 31).toNatClampNeg → ∀ c, gb (ar r0 76 i) c = true → gb (ar r 70 (rh (ar r0 75 i)).toNatClampNeg) c = true) → wM_drive_L19 a KX n r v2 v3 := by
  intro n
  induction n with
  | zero => intro r v2 v3 _ _ _; trivial
  | succ n ih =>
    intro r v2 v3 h hp hd
    have F := h.1
    rw [wM_drive_L19, F.1 31 (by decide), F.2.1 75 (by decide), F.2.1 76 (by decide)]
    have v30 : 0 ≤ v3 := zo2 p0 hp
    have n3 := i_nat v30
    have np := i_nat p0
    have n31 := i_nat f31
    refine ⟨fun g => hK r v2 h (fun i h1 h2 => hd i h1 ?_ h2), fun g _ => ?_⟩
    · rw [il] at g
      omega
    have g' := Int32.not_le.mp g
    obtain ⟨q1, q2, q3⟩ := inc_le v30 g'
    have s3 : (v3 + 1).toNatClampNeg = v3.toNatClampNeg + 1 := by have := i_nat q1; omega
    have lt3 : v3.toNatClampNeg < (fi r0 31).toNatClampNeg := by rw [it] at g'; omega
    have pl : p.toNatClampNeg ≤ v3.toNatClampNeg := by rw [il] at hp; omega
    have k := hv _ lt3
    have wr : MI a r rh ta N := MI_Fr w0 F (by decide) (by decide)
    refine ws_mfind wr k.1.1 (by rw [F.1 28 (by decide)]; exact k.1.2) (fun _ _ _ r9 e9 vp r11 e11 => ?_)
    have rr := m_rr w0 k.1
    have nd : ∀ c, gb (ar r0 76 v3.toNatClampNeg) c = true → mNd r0 (mW r0 p) (rh (ar r0 75 v3.toNatClampNeg)) c := fun c hc => by
      have := zNd_0 (I := kI r0) (F1 := kF r0 10) (F2 := kF r0 11) (g := mG r0) (W := mW r0 p) (x := ar r0 75 v3.toNatClampNeg) (c := c) ⟨_, pl, lt3, rfl, hc⟩
      rw [mgR w0 k.1] at this
      exact this
    obtain ⟨p1, p2, p3, p4⟩ := DW_push w0 tb h vp rr.1 rr.2.1 nd k.2 (r2 := r11) (by rw [e11, e9]; rfl)
    refine ih r11 _ _ p1 (by rw [il] at hp ⊢; omega) (fun i h1 h2 h3 c hc => ?_)
    rw [s3] at h2
    by_cases e : i = v3.toNatClampNeg
    · rw [e] at hc ⊢
      exact p3 c hc
    · exact p2 _ (m_rr w0 (hv i h3).1).1.1 c (hd i h1 (by omega) h3 c hc)
/-- what driving comes to -/
def DWP (r r' : S_) (rh : Int32 → Int32) (p : Int32) : Prop := (Fr [29, 30, 33] [68, 70, 71, 72, 73] r r' ∧ fi r' 29 = fi r 29 + 1) ∧ (∀ x, vt r x → ∀ c, gb (ar r' 70 x.toNatClampNeg) c = true ↔ mNd r (mW r p) x c) ∧ (∀ x, vt r x → ∀ c, gb (ar r' 71 x.toNatClampNeg) c = true → gb (ar r' 70 x.toNatClampNeg) c = true) ∧ (¬ fi r' 33 = 0 ↔ ¬ fi r 33 = 0 ∨ mLK r (mW r p)) ∧ (0 ≤ fi r' 30 ∧ (∀ i, i < (fi r' 30).toNatClampNeg → (vt r (ar r' 73 i) ∧ rh (ar r' 73 i) = ar r' 73 i) ∧ ∃ c, gb (ar r' 70 (ar r' 73 i).toNatClampNeg) c = true) ∧ DJ (ar r' 73) (fi r' 30).toNatClampNeg ∧ ∀ x, vt r x → ∀ c, gb (ar r' 70 x.toNatClampNeg) c = true → ∃ i, i < (fi r' 30).toNatClampNeg ∧ ar r' 73 i = x) ∧ ∀ x, vt r x → ar r' 68 x.toNatClampNeg = ar r 68 x.toNatClampNeg ∨ ar r' 68 x.toNatClampNeg = fi r 29 + 1
theorem mNd_v (w : MI a r rh ta N) (tb : MTB r) {W : Int32 → Nat → Prop} (hW : ∀ x c, W x c → vt r x) {x : Int32} {c : Nat} (h : mNd r W x c) : vt r x ∧ rh x = x := by
  have k := zNd_r (mG_GW w) (fun c k c1 q => ?_) (fun c k c1 q => ?_) (W := W) (fun x c q => hW x c q) h
  · exact ⟨k.1.1, (m_rt w k.1.1).mp k.1⟩
  · show 0 < ar r 36 k.toNatClampNeg
    rw [tb.2.2.2.2.2.1]
    exact (tb.2.1.2.1 c k c1 q).2
  · show 1 < ar r 36 k.toNatClampNeg
    rw [tb.2.2.2.2.2.1]
    exact (tb.2.1.2.2.1 c k c1 q).2
theorem ws_mdrive (w : MI a r rh ta N) (tb : MTB r) (z0 : ∀ x, vt r x → ar r 70 x.toNatClampNeg = 0 ∧ ar r 71 x.toNatClampNeg = 0) (mk : ∀ x, vt r x → ¬ ar r 68 x.toNatClampNeg = fi r 29 + 1) {p : Int32} (p0 : 0 ≤ p) (f31 : 0 ≤ fi r 31) (hv : ∀ i, i < (fi r 31).toNatClampNeg → vt r (ar r 75 i) ∧ ∃ c, gb (ar r 76 i) c = true) {K : S_ → Prop} (hK : ∀ r', DWP r r' rh p → K r') : wM_drive a K r p := by
  unfold wM_drive
  intro r1 e1 r2 e2 n
  have F2 : Fr [29, 30] [] r r2 := by rw [e2, e1]; exact Fr_trans (Fr_sF (by decide)) (Fr_sF (by decide))
  have f29 : fi r2 29 = fi r 29 + 1 := by rw [e2, e1]; rfl
  have f30 : fi r2 30 = 0 := by rw [e2, e1]; rfl
  have ea : ∀ k, ar r2 k = ar r k := fun k => F2.2.1 k List.not_mem_nil
  have e28 : fi r2 28 = fi r 28 := F2.1 28 (by decide)
  have f2_31 : fi r2 31 = fi r 31 := F2.1 31 (by decide)
  have vv : ∀ x, vt r2 x ↔ vt r x := fun x => vt_eq e28
  have w2 : MI a r2 rh ta N := MI_Fr w F2 (by decide) (by decide)
  have tb2 : MTB r2 := MTB_Fr tb F2 (by decide) (by decide)
  have mg : mG r2 = mG r := mG_Fr F2 (by decide) (by decide)
  have kIe : kI r2 = kI r := by unfold kI; rw [F2.1 2 (by decide), ea 9]
  have kFe : ∀ k, kF r2 k = kF r k := fun k => by unfold kF; rw [F2.1 2 (by decide), ea k]
  have mWe : mW r2 p = mW r p := by unfold mW; rw [f2_31, ea 75, ea 76]
  have mNe : mNd r2 (mW r2 p) = mNd r (mW r p) := by unfold mNd; rw [kIe, kFe, kFe, mg, mWe]
  have mLe : mLK r2 (mW r2 p) = mLK r (mW r p) := by unfold mLK; rw [kIe, kFe, kFe, mg, mWe]
  have ng : ∀ x, vt r2 x → ∀ c, ¬ gb (ar r2 70 x.toNatClampNeg) c = true ∧ ¬ gb (ar r2 71 x.toNatClampNeg) c = true := fun x vx c => by
    have := z0 x ((vv x).mp vx)
    rw [ea, ea, this.1, this.2, gb_0]
    exact ⟨by decide, by decide⟩
  refine ws_drive19 w2 tb2 p0 (by rw [f2_31]; exact f31) (fun i hi => ?_) (fun r3 v dw3 hw3 m => ?_) n r2 0 p ?_ (Int32.le_refl _) (fun i h1 h2 => absurd h1 (by omega))
  · rw [f2_31] at hi
    rw [ea, ea]
    exact ⟨(vv _).mpr (hv i hi).1, (hv i hi).2⟩
  · have dwB : DW r2 r3 rh (mW r2 p) (fun x c => gb (ar r3 70 x.toNatClampNeg) c = true) v nE nE := ⟨dw3.1, dw3.2.1, ⟨dw3.2.2.1.1, dw3.2.2.1.2.1, dw3.2.2.1.2.2.1, fun _ _ _ h => h⟩, dw3.2.2.2⟩
    refine ws_drive77 w2 tb2 (fun r4 v4 h g => ?_) m r3 v dwB
    · have hw4 : ∀ i, p.toNatClampNeg ≤ i → i < (fi r2 31).toNatClampNeg → ∀ c, gb (ar r2 76 i) c = true → gb (ar r4 70 (rh (ar r2 75 i)).toNatClampNeg) c = true := fun i h1 h2 c hc => h.2.2.1.2.2.2 _ (m_rr w2 (by rw [ea]; rw [f2_31] at h2; exact (vv _).mpr (hv i h2).1)).1.1 c (hw3 i h1 h2 c hc)
      obtain ⟨q1, ⟨q2, q2'⟩, ⟨q3, q4, q5, qB⟩, q6, q7, ⟨q80, q81, q82, q83⟩, q9, q10⟩ := h
      have full : ∀ x, vt r2 x → ∀ c, gb (ar r4 70 x.toNatClampNeg) c = true → gb (ar r4 71 x.toNatClampNeg) c = true := fun x vx c hc => Classical.byContradiction (fun nc => by
        obtain ⟨k, k0, k1, _⟩ := q5 x vx c hc nc
        exact nl0 k0 (zo3 k1 g))
      have hWv : ∀ x c, mW r2 p x c → vt r2 x := fun x c ⟨i, i1, i2, i3, i4⟩ => by
        rw [f2_31] at i2
        rw [ea] at i3
        rw [← i3]
        exact (vv _).mpr (hv i i2).1
      have comp : ∀ x c, mNd r2 (mW r2 p) x c → vt r2 x ∧ gb (ar r4 70 x.toNatClampNeg) c = true := fun x c h => by
        refine h (fun x c => vt r2 x ∧ gb (ar r4 70 x.toNatClampNeg) c = true) (fun y c hy => ?_) (fun y c c1 hy hh hi => ?_)
        · obtain ⟨i, i1, i2, i3, i4⟩ := hy
          have vy := hWv y c ⟨i, i1, i2, i3, i4⟩
          rw [mgR w2 vy]
          refine ⟨(m_rr w2 vy).1, ?_⟩
          rw [← i3]
          exact hw4 i i1 i2 c i4
        · have k := q6 y hy.1 c (full y hy.1 c hy.2) hh
          have l := kF_l w2 tb2 hy.1 hh
          have ml' := m_lf w2 hy.1
          refine ⟨fun q => ?_, fun q => ?_⟩
          · have vl := ml'.1.2 (l.1 _ _ q)
            rw [show gF (mG r2) y = ar r2 66 y.toNatClampNeg from rfl, mgR w2 vl]
            exact ⟨(m_rr w2 vl).1, ((k.1 c1).1 q).resolve_left id⟩
          · have vl := ml'.2.2 (l.2 _ _ q)
            rw [show gS (mG r2) y = ar r2 67 y.toNatClampNeg from rfl, mgR w2 vl]
            exact ⟨(m_rr w2 vl).1, ((k.1 c1).2 q).resolve_left id⟩
      refine hK r4 ⟨⟨Fr_trans (Fr_mono F2 (by decide) (by decide)) (Fr_mono q1 (by decide) (by decide)), by rw [q1.1 29 (by decide)]; exact f29⟩, fun x vx c => ?_, fun x vx c hc => q4 x ((vv x).mpr vx) c hc, ?_, ⟨q80, fun i hi => ?_, q82, fun x vx c hc => ?_⟩, fun x vx => ?_⟩
      · rw [← mNe]
        exact ⟨fun hc => q3 x ((vv x).mpr vx) c hc, fun hc => (comp x c hc).2⟩
      · rw [← mLe, ← F2.1 33 (by decide)]
        refine ⟨q7.1, fun z => z.elim q7.2 (fun ⟨y, c, h1, h2, h3⟩ => ?_)⟩
        have k := comp y c h1
        exact (q6 y k.1 c (full y k.1 c k.2) h2).2 h3
      · have k := q81 i hi
        exact ⟨⟨(vv _).mp k.1.1, k.1.2⟩, k.2.2⟩
      · have vx2 := (vv x).mpr vx
        exact q83 x vx2 (q10 x vx2 c (full x vx2 c hc))
      · have := q9 x ((vv x).mpr vx)
        rw [ea, f29] at this
        exact this
  · refine ⟨Fr_refl _, ⟨by decide, fun k k0 k1 => absurd k1 (Int32.not_lt.mpr k0)⟩, ⟨fun x vx c hc => absurd hc (ng x vx c).1, fun x vx c hc => absurd hc (ng x vx c).2, fun x vx c hc => absurd hc (ng x vx c).1, fun _ _ _ h => h.elim⟩, fun x vx c hc => absurd hc (ng x vx c).2, ⟨Or.inl, id⟩, ⟨by rw [f30]; exact Int32.le_refl _, fun i hi => ?_, fun i j hi => ?_, fun x vx hm => ?_⟩, fun x _ => Or.inl rfl, fun x vx c hc => absurd hc (ng x vx c).2⟩
    · rw [f30] at hi; exact absurd hi (Nat.not_lt_zero _)
    · rw [f30] at hi; exact absurd hi (Nat.not_lt_zero _)
    · rw [ea, f29] at hm
      exact absurd hm (mk x ((vv x).mp vx))
end ZMTAKE
