/-! The reference: needs driven down. -/
section DRIVE
variable {a : L_} {r : S_} {rh ta : Int32 → Int32} {N : Int32}
theorem cnt_mono {p q : Nat → Bool} {n : Nat} (h : ∀ i, i < n → p i = true → q i = true) : cnt p n ≤ cnt q n := by
  induction n with
  | zero => exact Nat.le_refl _
  | succ n ih =>
    rw [cnt, cnt]
    have k := ih (fun i hi => h i (by omega))
    by_cases e : p n = true
    · rw [if_pos e, if_pos (h n (by omega) e)]; omega
    · rw [if_neg e]; omega
theorem cnt_slt {p q : Nat → Bool} {n i : Nat} (h : ∀ i, i < n → p i = true → q i = true) (hi : i < n) (hp : p i = false) (hq : q i = true) : cnt p n < cnt q n := by
  have e := cnt_more (p := p) (q := fun j => if j = i then true else p j) hi hp (by simp) (fun j _ hj => by simp [hj])
  have k := cnt_mono (p := fun j => if j = i then true else p j) (q := q) (n := n) (fun j hj hx => by
    by_cases ej : j = i
    · rw [ej]; exact hq
    · simp [ej] at hx
      exact h j hj hx)
  omega
theorem gb_nm {m : Int32} {i : Nat} (hi : i < 32) : gb (m ^^^ (-1)) i = !gb m i := by
  have key : ∀ i, i < 32 → (BitVec.allOnes 32).getLsbD i = true := by decide
  have e : gb (m ^^^ (-1)) i = (gb m i ^^ (BitVec.allOnes 32).getLsbD i) := by
    unfold gb
    have : (m ^^^ (-1)).toBitVec = m.toBitVec ^^^ BitVec.allOnes 32 := rfl
    rw [this]
    simp
  rw [e, key i hi]
  cases gb m i <;> rfl
/-- instances want only of parts that are there -/
def W2 (r : S_) : Prop := ∀ c k : Int32, 0 ≤ c → c < 8 → 0 ≤ k → k < 8 → (¬ ar r 43 (8 * c + k).toNatClampNeg = 0 → 0 < ar r 36 k.toNatClampNeg) ∧ (¬ ar r 44 (8 * c + k).toNatClampNeg = 0 → 1 < ar r 36 k.toNatClampNeg)
theorem or_ne {x y : Int32} (h : ¬ x ||| y = 0) : ¬ x = 0 ∨ ¬ y = 0 := by
  by_cases e : x = 0
  · right
    intro e2
    rw [e, e2] at h
    exact h rfl
  · exact Or.inl e
theorem drive_L172 {r0 : S_} {x v2 v4 : Int32} (w : MI a r0 rh ta N) (h23 : 0 ≤ fi r0 23 ∧ fi r0 23 ≤ 8) (hw : W2 r0) (vx : vt r0 x) {KX : S_ → Int32 → Int32 → Int32 → Int32 → Prop} (hK : ∀ r v5 v6, Fr [33] [] r0 r → (¬ v5 = 0 → 0 ≤ ar r0 66 x.toNatClampNeg ∧ ∃ c, c < 8 ∧ gb v4 c = true) → (¬ v6 = 0 → 0 ≤ ar r0 67 x.toNatClampNeg ∧ ∃ c, c < 8 ∧ gb v4 c = true) → KX r v2 x v5 v6) : ∀ (n : Nat) (r : S_) (v5 v6 v7 : Int32), Fr [33] [] r0 r → (¬ v5 = 0 → 0 ≤ ar r0 66 x.toNatClampNeg ∧ ∃ c, c < 8 ∧ gb v4 c = true) → (¬ v6 = 0 → 0 ≤ ar r0 67 x.toNatClampNeg ∧ ∃ c, c < 8 ∧ gb v4 c = true) → 0 ≤ v7 → v7 ≤ fi r0 23 → (fi r0 23).toInt - v7.toInt < n → qM_drive_L172 a KX n r v2 x v4 v5 v6 v7 := by
  intro n
  induction n with
  | zero =>
    intro r v5 v6 v7 _ _ _ _ h1 h
    rw [il] at h1
    omega
  | succ n ih =>
    intro r v5 v6 v7 F a5 a6 h0 h1 h
    rw [qM_drive_L172, F.1 23 (by decide), F.2.1 65 (by decide)]
    have t65 : vp_in x (ln a 65) := tin w vx.1 vx.2 (by decide) (by decide) rfl
    refine ⟨fun _ => hK r v5 v6 F a5 a6, fun g => ⟨t65, fun _ => hK r v5 v6 F a5 a6, fun g2 => ?_⟩⟩
    have g' := Int32.not_le.mp g
    obtain ⟨q1, q2, q3⟩ := inc_le h0 g'
    have v78 : v7 < 8 := by
      have k := h23.2
      rw [it] at g' ⊢
      rw [il] at k
      omega
    have nb := w.2.2.2.1 x vx.1 vx.2
    have hd0 : 0 ≤ ar r0 65 x.toNatClampNeg := Int32.not_lt.mp g2
    have hd8 : ar r0 65 x.toNatClampNeg < 8 := by
      have k1 := nb.2.1.2
      have k2 := w.2.1.2
      rw [it] at k1 ⊢
      rw [il] at k2
      omega
    have sl := sl_in h0 v78 hd0 hd8
    have ww := hw v7 _ h0 v78 hd0 hd8
    have ay := nb.2.2.2.2.2 hd0
    have l64 : ∀ k, 36 ≤ k → k < 89 → ln0 k = 64 → vp_in (8 * v7 + ar r0 65 x.toNatClampNeg) (ln a k) := fun k k1 k2 k3 => vi2 sl.1.1 sl.1.2 (by rw [ml w.1 k1 k2 k3]; decide)
    have nx : ∀ (r2 : S_) (u5 u6 : Int32), Fr [33] [] r0 r2 → (¬ u5 = 0 → 0 ≤ ar r0 66 x.toNatClampNeg ∧ ∃ c, c < 8 ∧ gb v4 c = true) → (¬ u6 = 0 → 0 ≤ ar r0 67 x.toNatClampNeg ∧ ∃ c, c < 8 ∧ gb v4 c = true) → qM_drive_L172 a KX n r2 v2 x v4 u5 u6 (v7 + 1) := fun r2 u5 u6 F2 k5 k6 => ih r2 u5 u6 _ F2 k5 k6 q1 q2 (by omega)
    unfold qM_drive_J295
    refine ⟨fun _ => nx r v5 v6 F a5 a6, fun gb1 => ?_⟩
    have gbt : ∃ c, c < 8 ∧ gb v4 c = true := ⟨v7.toNatClampNeg, d_lt h0 v78, (bt_m h0 v78).mp gb1⟩
    have j266 : ∀ (r2 : S_) (u5 : Int32), Fr [33] [] r0 r2 → (¬ u5 = 0 → 0 ≤ ar r0 66 x.toNatClampNeg ∧ ∃ c, c < 8 ∧ gb v4 c = true) → qM_drive_J266 a (qM_drive_L172 a KX n) KX r2 v2 x v4 v6 v7 (8 * v7 + ar r0 65 x.toNatClampNeg) u5 := fun r2 u5 F2 k5 => by
      unfold qM_drive_J266 qM_drive_J293 qM_drive_J295
      refine ⟨l64 86 (by decide) (by decide) rfl, fun _ => nx r2 u5 v6 F2 k5 a6, fun _ => ⟨l64 44 (by decide) (by decide) rfl, nx r2 u5 _ F2 k5 (fun z => ?_)⟩⟩
      rw [F2.2.1 44 (by decide)] at z
      rcases or_ne z with z | z
      · exact a6 z
      · exact ⟨ay.2.mpr (ww.2 z), gbt⟩
    have j238 : ∀ u0 : Int32, zb u0 → qM_drive_J238 a (qM_drive_L172 a KX n) KX r v2 x v4 v5 v6 v7 (8 * v7 + ar r0 65 x.toNatClampNeg) u0 := fun u0 hu => by
      unfold qM_drive_J238
      refine ⟨hu, fun r28 e28 => ?_⟩
      have F28 : Fr [33] [] r0 r28 := by rw [e28]; exact Fr_trans F (Fr_sF (by decide))
      refine ⟨l64 86 (by decide) (by decide) rfl, fun _ => j266 r28 v5 F28 a5, fun _ => ⟨l64 43 (by decide) (by decide) rfl, j266 r28 _ F28 (fun z => ?_)⟩⟩
      rw [F28.2.1 43 (by decide)] at z
      rcases or_ne z with z | z
      · exact a5 z
      · exact ⟨ay.1.mpr (ww.1 z), gbt⟩
    unfold qM_drive_J233
    exact ⟨t65, fun _ => j238 1 zb1, fun _ => ⟨l64 86 (by decide) (by decide) rfl, fun _ => j238 0 zb0, fun _ => j238 1 zb1⟩⟩
/-- what is done is needed -/
def ND (r : S_) : Prop := ∀ x : Int32, vt r x → ∀ i, i < 8 → gb (ar r 71 x.toNatClampNeg) i = true → gb (ar r 70 x.toNatClampNeg) i = true
def pot (r : S_) (c : Int32) : Nat := cnt (fun j => !gb (ar r 71 (j / 8)) (j % 8)) (8 * c.toNatClampNeg)
/-- the state of driving: v on the stack -/
def DV (r0 r : S_) (v : Int32) (W : Int) : Prop := Fr [30, 33] [68, 70, 71, 72, 73] r0 r ∧ (∀ i, i < v.toNatClampNeg → vt r0 (ar r 72 i)) ∧ (∀ x : Int32, vt r0 x → ar r 68 x.toNatClampNeg = ar r0 68 x.toNatClampNeg ∨ ar r 68 x.toNatClampNeg = fi r0 29) ∧ (0 ≤ fi r 30 ∧ (∀ i, i < (fi r 30).toNatClampNeg → vt r0 (ar r 73 i) ∧ ar r 68 (ar r 73 i).toNatClampNeg = fi r0 29) ∧ DJ (ar r 73) (fi r 30).toNatClampNeg) ∧ (∀ x : Int32, vt r0 x → ∀ i, i < 8 → gb (ar r 71 x.toNatClampNeg) i = true → gb (ar r 70 x.toNatClampNeg) i = true) ∧ (0 ≤ v.toInt ∧ v.toInt + pot r (fi r0 28) ≤ W)
theorem DV_push {r0 : S_} {v y b : Int32} {W : Int} (h : DV r0 r v (W - 1)) (vy : vt r0 y) (hW : W ≤ 200000) (hM : ML a) : DV r0 (sA (sA r 70 (upd (ar r 70) y.toNatClampNeg (ar r 70 y.toNatClampNeg ||| b))) 72 (upd (ar r 72) v.toNatClampNeg y)) (v + 1) W ∧ vp_in v (ln a 72) ∧ (v + 1).toInt = v.toInt + 1 ∧ pot (sA (sA r 70 (upd (ar r 70) y.toNatClampNeg (ar r 70 y.toNatClampNeg ||| b))) 72 (upd (ar r 72) v.toNatClampNeg y)) (fi r0 28) = pot r (fi r0 28) := by
  obtain ⟨F, h2, h3, h4, h5, h60, h6⟩ := h
  have v0 : 0 ≤ v := by rw [il]; simpa using h60
  have v1 : (v + 1).toInt = v.toInt + 1 := i_add (by simp; omega) (by simp; omega)
  have v10 : 0 ≤ v + 1 := by rw [il, v1]; simp; omega
  have sv : (v + 1).toNatClampNeg = v.toNatClampNeg + 1 := by
    have e1 := i_nat v0
    have e2 := i_nat v10
    omega
  refine ⟨⟨Fr_trans F (Fr_trans (Fr_sA (by decide)) (Fr_sA (by decide))), fun i hi => ?_, h3, h4, fun x hx i hi hg => ?_, by omega, ?_⟩, vi v0 (by rw [ml (n := 200000) hM (by decide) (by decide) rfl]; omega), v1, rfl⟩
  · show vt r0 (upd (ar r 72) v.toNatClampNeg y i)
    rw [sv] at hi
    by_cases e : i = v.toNatClampNeg
    · rw [e, pk_us]; exact vy
    · rw [pk_un e]; exact h2 i (by omega)
  · have k := h5 x hx i hi hg
    show gb (upd (ar r 70) y.toNatClampNeg (ar r 70 y.toNatClampNeg ||| b) x.toNatClampNeg) i = true
    rw [updI _ _ vy.1 hx.1]
    split
    · rename_i e
      rw [e] at k
      rw [gb_or, k]
      rfl
    · exact k
  · rw [v1]
    show v.toInt + 1 + (pot r (fi r0 28) : Int) ≤ W
    omega
theorem drive_J134 {r0 : S_} {x v : Int32} {W : Int} {n : Nat} (w : MI a r0 rh ta N) (h23 : 0 ≤ fi r0 23 ∧ fi r0 23 ≤ 8) (hw : W2 r0) (hW : W ≤ 200000) (vx : vt r0 x) {KX : S_ → Prop} (ih : ∀ (r : S_) (v : Int32), DV r0 r v W → v.toInt + 2 * (pot r (fi r0 28) : Int) < n → qM_drive_L77 a KX n r v) (h : DV r0 r v (W - 1)) (hn : v.toInt + 2 * (pot r (fi r0 28) : Int) < n) : qM_drive_J134 a (qM_drive_L77 a KX n) KX r v x := by
  have h' := h
  obtain ⟨F, h2, h3, h4, h5, h60, h6⟩ := h
  have w1 : MI a r rh ta N := MI_Fr w F (by decide) (by decide)
  have e28 := F.1 28 (by decide)
  have tx : ∀ k, 36 ≤ k → k < 89 → ln0 k = 40000 → vp_in x (ln a k) := fun k k1 k2 k3 => tin w vx.1 vx.2 k1 k2 k3
  unfold qM_drive_J134
  refine ⟨tx 70 (by decide) (by decide) rfl, tx 71 (by decide) (by decide) rfl, fun z18 e18 => ⟨tx 70 (by decide) (by decide) rfl, tx 71 (by decide) (by decide) rfl, fun r21 e21 => ?_⟩⟩
  have a21 : ar r21 71 = upd (ar r 71) x.toNatClampNeg (ar r 70 x.toNatClampNeg) := by rw [e21]; rfl
  have nx8 : 8 * x.toNatClampNeg + 8 ≤ 8 * (fi r0 28).toNatClampNeg := by
    have := nl vx.1 vx.2
    omega
  -- what is done grows
  have up : ∀ j, j < 8 * (fi r0 28).toNatClampNeg → (!gb (ar r21 71 (j / 8)) (j % 8)) = true → (!gb (ar r 71 (j / 8)) (j % 8)) = true := fun j hj hx => by
    rw [a21] at hx
    by_cases e : j / 8 = x.toNatClampNeg
    · rw [e, pk_us] at hx
      rw [e]
      cases g : gb (ar r 71 x.toNatClampNeg) (j % 8) with
      | false => rfl
      | true =>
        rw [h5 x vx (j % 8) (by omega) g] at hx
        exact absurd hx (by decide)
    · rw [pk_un e] at hx
      exact hx
  have p1 : pot r21 (fi r0 28) ≤ pot r (fi r0 28) := cnt_mono up
  have p2 : (∃ c, c < 8 ∧ gb z18 c = true) → pot r21 (fi r0 28) < pot r (fi r0 28) := fun ⟨c, c1, c2⟩ => by
    rw [e18, gb_and, gb_nm (by omega)] at c2
    have d1 : (8 * x.toNatClampNeg + c) / 8 = x.toNatClampNeg := by omega
    have d2 : (8 * x.toNatClampNeg + c) % 8 = c := by omega
    have c3 : gb (ar r 70 x.toNatClampNeg) c = true ∧ gb (ar r 71 x.toNatClampNeg) c = false := by
      cases g1 : gb (ar r 70 x.toNatClampNeg) c <;> cases g2 : gb (ar r 71 x.toNatClampNeg) c <;> rw [g1, g2] at c2 <;> first | exact ⟨rfl, rfl⟩ | exact absurd c2 (by decide)
    refine cnt_slt up (i := 8 * x.toNatClampNeg + c) (by omega) ?_ ?_
    · rw [d1, d2, a21, pk_us, c3.1]; rfl
    · rw [d1, d2, c3.2]; rfl
  have h21 : DV r0 r21 v (W - 1) := by
    rw [e21] at p1 ⊢
    refine ⟨Fr_trans F (Fr_sA (by decide)), h2, h3, h4, fun y hy i hi hg => ?_, h60, by omega⟩
    have hg' : gb (upd (ar r 71) x.toNatClampNeg (ar r 70 x.toNatClampNeg) y.toNatClampNeg) i = true := hg
    show gb (ar r 70 y.toNatClampNeg) i = true
    rw [updI _ _ vx.1 hy.1] at hg'
    split at hg'
    · rename_i e
      rw [e]
      exact hg'
    · exact h5 y hy i hi hg'
  have w21 : MI a r21 rh ta N := MI_Fr w h21.1 (by decide) (by decide)
  have e21_28 := h21.1.1 28 (by decide)
  refine ⟨(fi r21 23).toInt.toNat + 1, drive_L172 w21 ?_ ?_ ⟨vx.1, by rw [e21_28]; exact vx.2⟩ (fun r3 v5 v6 F3 k5 k6 => ?_) _ r21 0 0 0 (Fr_refl r21) (fun z => absurd rfl z) (fun z => absurd rfl z) (Int32.le_refl _) ?_ ?_⟩
  · rw [h21.1.1 23 (by decide)]; exact h23
  · unfold W2
    rw [h21.1.2.1 43 (by decide), h21.1.2.1 44 (by decide), h21.1.2.1 36 (by decide)]
    exact hw
  · have h3' : DV r0 r3 v (W - 1) ∧ pot r3 (fi r0 28) = pot r21 (fi r0 28) := by
      have e : ∀ k, ar r3 k = ar r21 k := fun k => F3.2.1 k List.not_mem_nil
      have ep : pot r3 (fi r0 28) = pot r21 (fi r0 28) := by unfold pot; rw [e]
      refine ⟨⟨Fr_trans h21.1 (Fr_mono F3 (fun k hk => by simp at hk; rw [hk]; decide) (fun k hk => absurd hk List.not_mem_nil)), ?_⟩, ep⟩
      rw [e 72, e 68, e 73, e 71, e 70, F3.1 30 (by decide), ep]
      exact h21.2
    obtain ⟨h3', ep⟩ := h3'
    have w3 : MI a r3 rh ta N := MI_Fr w h3'.1 (by decide) (by decide)
    have e3_28 := h3'.1.1 28 (by decide)
    have b66 : 0 ≤ ar r3 66 x.toNatClampNeg → vt r3 (ar r3 66 x.toNatClampNeg) := fun g => ⟨g, (w3.2.2.2.1 x vx.1 (by rw [e3_28]; exact vx.2)).2.2.1.2⟩
    have b67 : 0 ≤ ar r3 67 x.toNatClampNeg → vt r3 (ar r3 67 x.toNatClampNeg) := fun g => ⟨g, (w3.2.2.2.1 x vx.1 (by rw [e3_28]; exact vx.2)).2.2.2.1.2⟩
    have rt : ∀ (q : S_) (y : Int32), DV r0 q v (W - 1) ∨ True → vt r0 y → vt r0 (rh y) := fun q y _ hy => (w.2.2.2.2.1.2 y hy.1 hy.2).1
    have j346 : ∀ (q : S_) (u : Int32), (DV r0 q u W) → u.toInt + 2 * (pot q (fi r0 28) : Int) < n → (¬ v6 = 0 → DV r0 q u (W - 1) ∧ u.toInt + 1 + 2 * (pot q (fi r0 28) : Int) < n) → qM_drive_J346 a (qM_drive_L77 a KX n) KX q u x v6 := by
      intro q u hq hq2 hq3
      unfold qM_drive_J346 qM_drive_J391
      refine ⟨fun _ => ih q u hq hq2, fun g => ⟨tx 67 (by decide) (by decide) rfl, ?_⟩⟩
      obtain ⟨hq4, hq5⟩ := hq3 g
      have wq : MI a q rh ta N := MI_Fr w hq.1 (by decide) (by decide)
      have g67 := (k6 g).1
      have e67 : ar q 67 x.toNatClampNeg = ar r0 67 x.toNatClampNeg := by rw [hq.1.2.1 67 (by decide)]
      have e67' : ar r21 67 x.toNatClampNeg = ar r0 67 x.toNatClampNeg := by rw [h21.1.2.1 67 (by decide)]
      rw [e67'] at g67
      have l67 : vt r0 (ar r0 67 x.toNatClampNeg) := ⟨g67, (w.2.2.2.1 x vx.1 vx.2).2.2.2.1.2⟩
      have vr := rt q _ (Or.inr trivial) l67
      rw [e67]
      refine find_ok wq l67.1 (by rw [hq.1.1 28 (by decide)]; exact l67.2) ⟨tin w vr.1 vr.2 (by decide) (by decide) rfl, tin w vr.1 vr.2 (by decide) (by decide) rfl, fun r44 e44 => ?_⟩
      obtain ⟨P1, P2, P3, P4⟩ := DV_push (a := a) (b := v6) hq4 vr hW w.1
      refine ⟨P2, fun r46 e46 => ?_⟩
      have e46' : r46 = sA (sA q 70 (upd (ar q 70) (rh (ar r0 67 x.toNatClampNeg)).toNatClampNeg (ar q 70 (rh (ar r0 67 x.toNatClampNeg)).toNatClampNeg ||| v6))) 72 (upd (ar q 72) u.toNatClampNeg (rh (ar r0 67 x.toNatClampNeg))) := by rw [e46, e44]; rfl
      rw [e46']
      exact ih _ _ P1 (by rw [P3, P4]; exact hq5)
    unfold qM_drive_J301
    refine ⟨fun g => ?_, fun g => ⟨tx 66 (by decide) (by decide) rfl, ?_⟩⟩
    · refine j346 r3 v ⟨h3'.1, h3'.2.1, h3'.2.2.1, h3'.2.2.2.1, h3'.2.2.2.2.1, h60, by have := h3'.2.2.2.2.2.2; omega⟩ (by rw [ep]; omega) (fun g6 => ⟨h3', ?_⟩)
      have := p2 (k6 g6).2
      rw [ep]
      omega
    · have lt := p2 (k5 g).2
      have g66 := (k5 g).1
      have e66 : ar r3 66 x.toNatClampNeg = ar r0 66 x.toNatClampNeg := by rw [h3'.1.2.1 66 (by decide)]
      have e66' : ar r21 66 x.toNatClampNeg = ar r0 66 x.toNatClampNeg := by rw [h21.1.2.1 66 (by decide)]
      rw [e66'] at g66
      have l66 : vt r0 (ar r0 66 x.toNatClampNeg) := ⟨g66, (w.2.2.2.1 x vx.1 vx.2).2.2.1.2⟩
      have vr := rt r3 _ (Or.inr trivial) l66
      rw [e66]
      refine find_ok w3 l66.1 (by rw [e3_28]; exact l66.2) ⟨tin w vr.1 vr.2 (by decide) (by decide) rfl, tin w vr.1 vr.2 (by decide) (by decide) rfl, fun r51 e51 => ?_⟩
      have h3s : DV r0 r3 v (W - 1 - 1) := ⟨h3'.1, h3'.2.1, h3'.2.2.1, h3'.2.2.2.1, h3'.2.2.2.2.1, h60, by rw [ep]; omega⟩
      obtain ⟨P1, P2, P3, P4⟩ := DV_push (a := a) (b := v5) h3s vr (by omega) w.1
      refine ⟨P2, fun r53 e53 => ?_⟩
      have e53' : r53 = sA (sA r3 70 (upd (ar r3 70) (rh (ar r0 66 x.toNatClampNeg)).toNatClampNeg (ar r3 70 (rh (ar r0 66 x.toNatClampNeg)).toNatClampNeg ||| v5))) 72 (upd (ar r3 72) v.toNatClampNeg (rh (ar r0 66 x.toNatClampNeg))) := by rw [e53, e51]; rfl
      rw [e53']
      have P1' := P1
      obtain ⟨z1, z2, z3, z4, z5, z6, z7⟩ := P1'
      exact j346 _ _ ⟨z1, z2, z3, z4, z5, z6, by omega⟩ (by rw [P3, P4, ep]; omega) (fun _ => ⟨P1, by rw [P3, P4, ep]; omega⟩)
  · rw [h21.1.1 23 (by decide)]; exact h23.1
  · exact fu (by rw [h21.1.1 23 (by decide)]; exact h23.1)
end DRIVE
