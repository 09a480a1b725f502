/-! The reference: needs taken; the least ones. -/
section ZMFOUND
variable {a : L_} {r r' : S_} {rh ta : Int32 → Int32} {N : Int32}
def TNI (r0 r : S_) (v : Nat) : Prop := Fr [40] [70, 71, 84, 85] r0 r ∧ (0 ≤ (fi r 40).toInt ∧ (fi r 40).toInt ≤ v) ∧ (∀ k, k < (fi r 40).toNatClampNeg → ∃ i, i < v ∧ ar r 84 k = ar r0 73 i ∧ ¬ 0 ≤ ar r0 65 (ar r0 73 i).toNatClampNeg ∧ ar r 85 k = ar r0 70 (ar r0 73 i).toNatClampNeg) ∧ (∀ i, i < v → ¬ 0 ≤ ar r0 65 (ar r0 73 i).toNatClampNeg → ∃ k, k < (fi r 40).toNatClampNeg ∧ ar r 84 k = ar r0 73 i) ∧ DJ (ar r 84) (fi r 40).toNatClampNeg ∧ (∀ x : Int32, 0 ≤ x → (∃ i, i < v ∧ ar r0 73 i = x) → ar r 70 x.toNatClampNeg = 0 ∧ ar r 71 x.toNatClampNeg = 0) ∧ (∀ x : Int32, 0 ≤ x → (¬ ∃ i, i < v ∧ ar r0 73 i = x) → ar r 70 x.toNatClampNeg = ar r0 70 x.toNatClampNeg ∧ ar r 71 x.toNatClampNeg = ar r0 71 x.toNatClampNeg)
theorem TNI_clear {r0 r2 : S_} {v : Nat} {x : Int32} (x0 : 0 ≤ x) (ex : ar r0 73 v = x) (F : Fr [40] [70, 71, 84, 85] r0 r) (b : 0 ≤ (fi r 40).toInt ∧ (fi r 40).toInt ≤ v + 1) (h1 : ∀ k, k < (fi r 40).toNatClampNeg → ∃ i, i < v + 1 ∧ ar r 84 k = ar r0 73 i ∧ ¬ 0 ≤ ar r0 65 (ar r0 73 i).toNatClampNeg ∧ ar r 85 k = ar r0 70 (ar r0 73 i).toNatClampNeg) (h2 : ∀ i, i < v + 1 → ¬ 0 ≤ ar r0 65 (ar r0 73 i).toNatClampNeg → ∃ k, k < (fi r 40).toNatClampNeg ∧ ar r 84 k = ar r0 73 i) (h3 : DJ (ar r 84) (fi r 40).toNatClampNeg) (h4 : ∀ y : Int32, 0 ≤ y → (∃ i, i < v ∧ ar r0 73 i = y) → ar r 70 y.toNatClampNeg = 0 ∧ ar r 71 y.toNatClampNeg = 0) (h5 : ∀ y : Int32, 0 ≤ y → (¬ ∃ i, i < v ∧ ar r0 73 i = y) → ar r 70 y.toNatClampNeg = ar r0 70 y.toNatClampNeg ∧ ar r 71 y.toNatClampNeg = ar r0 71 y.toNatClampNeg) (e2 : r2 = sA (sA r 70 (upd (ar r 70) x.toNatClampNeg 0)) 71 (upd (ar r 71) x.toNatClampNeg 0)) : TNI r0 r2 (v + 1) := by
  have F2 : Fr [] [70, 71] r r2 := by rw [e2]; exact Fr_trans (Fr_sA (by decide)) (Fr_sA (by decide))
  have a70 : ∀ y : Int32, 0 ≤ y → ar r2 70 y.toNatClampNeg = if y = x then 0 else ar r 70 y.toNatClampNeg := fun y y0 => by
    rw [e2]
    show upd (ar r 70) x.toNatClampNeg 0 y.toNatClampNeg = _
    rw [updI _ _ x0 y0]
  have a71 : ∀ y : Int32, 0 ≤ y → ar r2 71 y.toNatClampNeg = if y = x then 0 else ar r 71 y.toNatClampNeg := fun y y0 => by
    rw [e2]
    show upd (ar r 71) x.toNatClampNeg 0 y.toNatClampNeg = _
    rw [updI _ _ x0 y0]
  have f40 : fi r2 40 = fi r 40 := F2.1 40 (by decide)
  have e84 : ar r2 84 = ar r 84 := F2.2.1 84 (by decide)
  have e85 : ar r2 85 = ar r 85 := F2.2.1 85 (by decide)
  refine ⟨Fr_trans F (Fr_mono F2 (by decide) (by decide)), by rw [f40]; exact b, by rw [f40, e84, e85]; exact h1, by rw [f40, e84]; exact h2, by rw [f40, e84]; exact h3, fun y y0 hy => ?_, fun y y0 hy => ?_⟩
  · rw [a70 y y0, a71 y y0]
    split
    · exact ⟨rfl, rfl⟩
    · rename_i ne
      obtain ⟨i, i1, i2⟩ := hy
      exact h4 y y0 ⟨i, by
        have : ¬ i = v := fun e => ne (by rw [← i2, e, ex])
        omega, i2⟩
  · have ne : ¬ y = x := fun e => hy ⟨v, by omega, by rw [ex, e]⟩
    rw [a70 y y0, a71 y y0, if_neg ne, if_neg ne]
    exact h5 y y0 (fun ⟨i, i1, i2⟩ => hy ⟨i, by omega, i2⟩)
theorem ws_take7 {r0 : S_} (hM : ML a) (f30 : 0 ≤ fi r0 30) (h73 : ∀ i, i < (fi r0 30).toNatClampNeg → 0 ≤ ar r0 73 i) (dj : DJ (ar r0 73) (fi r0 30).toNatClampNeg) {KX : S_ → Prop} (hK : ∀ r, TNI r0 r (fi r0 30).toNatClampNeg → KX r) : ∀ (n : Nat) (r : S_) (v : Int32), TNI r0 r v.toNatClampNeg → 0 ≤ v → v ≤ fi r0 30 → wM_takeNeeds_L7 a KX n r v := by
  intro n
  induction n with
  | zero => intro r v _ _ _; trivial
  | succ n ih =>
    intro r v h v0 v1
    have F := h.1
    rw [wM_takeNeeds_L7, F.1 30 (by decide), F.2.1 73 (by decide), F.2.1 65 (by decide)]
    refine ⟨fun g => ?_, fun g _ _ => ?_⟩
    · have e : v = fi r0 30 := by clear ih hK h F dj h73; grind
      rw [e] at h
      exact hK r h
    have g' := Int32.not_le.mp g
    obtain ⟨q1, q2, q3⟩ := inc_le v0 g'
    have nv := i_nat v0
    have s3 : (v + 1).toNatClampNeg = v.toNatClampNeg + 1 := by have := i_nat q1; omega
    have lt : v.toNatClampNeg < (fi r0 30).toNatClampNeg := by have := i_nat f30; rw [it] at g'; omega
    have x0 := h73 _ lt
    obtain ⟨_, b, h1, h2, h3, h4, h5⟩ := h
    have nx : ¬ ∃ i, i < v.toNatClampNeg ∧ ar r0 73 i = ar r0 73 v.toNatClampNeg := fun ⟨i, i1, i2⟩ => by
      have := dj i v.toNatClampNeg (by omega) lt i2
      omega
    unfold wM_takeNeeds_J66
    refine ⟨fun hh _ r7 e7 _ r9 e9 => ?_, fun hh vp r11 e11 _ vp2 r14 e14 r15 e15 _ r7 e7 _ r9 e9 => ?_⟩
    · refine ih r9 _ ?_ q1 q2
      rw [s3]
      refine TNI_clear x0 rfl F ⟨b.1, by omega⟩ (fun k hk => ?_) (fun i hi nh => ?_) h3 h4 h5 (by rw [e9, e7]; rfl)
      · obtain ⟨i, i1, i2⟩ := h1 k hk
        exact ⟨i, by omega, i2⟩
      · exact h2 i (by
          have : ¬ i = v.toNatClampNeg := fun e => nh (by rw [e]; exact hh)
          omega) nh
    · have l84 : ln a 84 = 40000 := ml hM (by decide) (by decide) rfl
      have f400 : 0 ≤ fi r 40 := by rw [il]; simpa using b.1
      have n40 := i_nat f400
      have bl := (vpl vp).2
      rw [l84] at bl
      have i40 : (fi r 40 + 1).toInt = (fi r 40).toInt + 1 := i_add (by simp; omega) (by simp; omega)
      have s40 : (fi r 40 + 1).toNatClampNeg = (fi r 40).toNatClampNeg + 1 := by
        have := i_nat (x := fi r 40 + 1) (by rw [il, i40]; simp; omega)
        omega
      have F15 : Fr [40] [84, 85] r r15 := by
        rw [e15, e14, e11]
        exact Fr_trans (Fr_sA (by decide)) (Fr_trans (Fr_sA (by decide)) (Fr_sF (by decide)))
      have f15 : fi r15 40 = fi r 40 + 1 := by rw [e15, e14, e11]; rfl
      have a84 : ∀ k, ar r15 84 k = if k = (fi r 40).toNatClampNeg then ar r0 73 v.toNatClampNeg else ar r 84 k := fun k => by
        rw [e15, e14, e11]
        show upd (ar r 84) (fi r 40).toNatClampNeg (ar r0 73 v.toNatClampNeg) k = _
        by_cases e : k = (fi r 40).toNatClampNeg
        · rw [e, pk_us, if_pos rfl]
        · rw [pk_un e, if_neg e]
      have a85 : ∀ k, ar r15 85 k = if k = (fi r 40).toNatClampNeg then ar r0 70 (ar r0 73 v.toNatClampNeg).toNatClampNeg else ar r 85 k := fun k => by
        rw [e15, e14, e11]
        show upd (ar r 85) (fi r 40).toNatClampNeg (ar r 70 (ar r0 73 v.toNatClampNeg).toNatClampNeg) k = _
        rw [(h5 _ x0 nx).1]
        by_cases e : k = (fi r 40).toNatClampNeg
        · rw [e, pk_us, if_pos rfl]
        · rw [pk_un e, if_neg e]
      have e70 : ar r15 70 = ar r 70 := F15.2.1 70 (by decide)
      have e71 : ar r15 71 = ar r 71 := F15.2.1 71 (by decide)
      refine ih r9 _ ?_ q1 q2
      rw [s3]
      refine TNI_clear x0 rfl (Fr_trans F (Fr_mono F15 (by decide) (by decide))) (by rw [f15, i40]; omega) (fun k hk => ?_) (fun i hi nh => ?_) (fun i j hi hj hij => ?_) (by rw [e70, e71]; exact h4) (by rw [e70, e71]; exact h5) (by rw [e9, e7]; rfl)
      · rw [f15, s40] at hk
        rw [a84, a85]
        by_cases e : k = (fi r 40).toNatClampNeg
        · rw [if_pos e, if_pos e]
          exact ⟨v.toNatClampNeg, by omega, rfl, hh, rfl⟩
        · rw [if_neg e, if_neg e]
          obtain ⟨i, i1, i2⟩ := h1 k (by omega)
          exact ⟨i, by omega, i2⟩
      · rw [f15, s40]
        by_cases e : i = v.toNatClampNeg
        · exact ⟨(fi r 40).toNatClampNeg, by omega, by rw [a84, if_pos rfl, e]⟩
        · obtain ⟨k, k1, k2⟩ := h2 i (by omega) nh
          exact ⟨k, by omega, by rw [a84, if_neg (by omega)]; exact k2⟩
      · rw [f15, s40] at hi hj
        rw [a84, a84] at hij
        by_cases e : i = (fi r 40).toNatClampNeg
        · by_cases f : j = (fi r 40).toNatClampNeg
          · omega
          · rw [if_pos e, if_neg f] at hij
            obtain ⟨i', i1, i2, _⟩ := h1 j (by omega)
            exact absurd ⟨i', i1, by rw [← i2, hij]⟩ nx
        · by_cases f : j = (fi r 40).toNatClampNeg
          · rw [if_neg e, if_pos f] at hij
            obtain ⟨i', i1, i2, _⟩ := h1 i (by omega)
            exact absurd ⟨i', i1, by rw [← i2, hij]⟩ nx
          · rw [if_neg e, if_neg f] at hij
            exact h3 i j (by omega) (by omega) hij
/-- what is found of the variables -/
def FD (r r' : S_) (W : Int32 → Nat → Prop) : Prop := (0 ≤ fi r' 40 ∧ (∀ k, k < (fi r' 40).toNatClampNeg → zVR (mG r) (ar r' 84 k) ∧ (∃ c, gb (ar r' 85 k) c = true) ∧ ∀ c, gb (ar r' 85 k) c = true ↔ mNd r W (ar r' 84 k) c) ∧ DJ (ar r' 84) (fi r' 40).toNatClampNeg) ∧ ∀ x c, zVR (mG r) x → mNd r W x c → ∃ k, k < (fi r' 40).toNatClampNeg ∧ ar r' 84 k = x
def FDF (r r' : S_) : Prop := (Fr [29, 30, 33, 40] [68, 70, 71, 72, 73, 84, 85] r r' ∧ fi r' 29 = fi r 29 + 1) ∧ (∀ x, vt r x → ar r' 70 x.toNatClampNeg = 0 ∧ ar r' 71 x.toNatClampNeg = 0) ∧ ∀ x, vt r x → ar r' 68 x.toNatClampNeg = ar r 68 x.toNatClampNeg ∨ ar r' 68 x.toNatClampNeg = fi r 29 + 1
theorem ws_dt (w : MI a r rh ta N) (tb : MTB r) (z0 : ∀ x, vt r x → ar r 70 x.toNatClampNeg = 0 ∧ ar r 71 x.toNatClampNeg = 0) (mk : ∀ x, vt r x → ¬ ar r 68 x.toNatClampNeg = fi r 29 + 1) {p : Int32} (p0 : 0 ≤ p) (f31 : 0 ≤ fi r 31) (hv : ∀ i, i < (fi r 31).toNatClampNeg → vt r (ar r 75 i) ∧ ∃ c, gb (ar r 76 i) c = true) {K : S_ → Prop} (hK : ∀ r', FDF r r' → FD r r' (mW r p) → (¬ fi r' 33 = 0 ↔ ¬ fi r 33 = 0 ∨ mLK r (mW r p)) → K r') : wM_drive a (fun r4 => wM_takeNeeds a K r4) r p := by
  refine ws_mdrive w tb z0 mk p0 f31 hv (fun r4 D => ?_)
  obtain ⟨⟨F4, f29⟩, nd, dn, lk, ⟨f30, l73, dj, cv⟩, mks⟩ := D
  unfold wM_takeNeeds
  intro r1 e1 n
  have F1 : Fr [40] [] r4 r1 := by rw [e1]; exact Fr_sF (by decide)
  have ea : ∀ k, ar r1 k = ar r4 k := fun k => F1.2.1 k List.not_mem_nil
  have e30 : fi r1 30 = fi r4 30 := F1.1 30 (by decide)
  have f40 : fi r1 40 = 0 := by rw [e1]; rfl
  have e65 : ar r4 65 = ar r 65 := F4.2.1 65 (by decide)
  refine ws_take7 (r0 := r1) w.1 (by rw [e30]; exact f30) (fun i hi => ?_) (by rw [e30, ea]; exact dj) (fun r5 T => ?_) n r1 0 ⟨Fr_refl _, by rw [f40]; decide, fun k hk => ?_, fun i hi => absurd hi (Nat.not_lt_zero _), fun i j hi => ?_, fun x _ ⟨i, hi, _⟩ => absurd hi (Nat.not_lt_zero _), fun x _ _ => ⟨rfl, rfl⟩⟩ (Int32.le_refl _) (by rw [e30]; exact f30)
  · rw [e30] at hi
    rw [ea]
    exact (l73 i hi).1.1.1
  · obtain ⟨F5, b5, t1, t2, t3, t4, t5⟩ := T
    rw [e30] at t1 t2 t4 t5
    simp only [ea] at t1 t2 t4 t5
    rw [e65] at t1 t2
    have zvr : ∀ i, i < (fi r4 30).toNatClampNeg → ¬ 0 ≤ ar r 65 (ar r4 73 i).toNatClampNeg → zVR (mG r) (ar r4 73 i) := fun i hi nh => ⟨(m_rt w (l73 i hi).1.1).mpr (l73 i hi).1.2, nh⟩
    have F : Fr [29, 30, 33, 40] [68, 70, 71, 72, 73, 84, 85] r r5 := Fr_trans (Fr_mono F4 (by decide) (by decide)) (Fr_trans (Fr_mono F1 (by decide) (by decide)) (Fr_mono F5 (by decide) (by decide)))
    have f5_33 : fi r5 33 = fi r4 33 := (F5.1 33 (by decide)).trans (F1.1 33 (by decide))
    have f5_29 : fi r5 29 = fi r4 29 := (F5.1 29 (by decide)).trans (F1.1 29 (by decide))
    have e68 : ar r5 68 = ar r4 68 := (F5.2.1 68 (by decide)).trans (ea 68)
    refine hK r5 ⟨⟨F, by rw [f5_29]; exact f29⟩, fun x vx => ?_, fun x vx => by rw [e68]; exact mks x vx⟩ ⟨⟨by rw [il]; simpa using b5.1, fun k hk => ?_, t3⟩, fun x c hx hn => ?_⟩ (by rw [f5_33]; exact lk)
    · by_cases q : ∃ i, i < (fi r4 30).toNatClampNeg ∧ ar r4 73 i = x
      · exact t4 x vx.1 q
      · have k := t5 x vx.1 q
        have no : ∀ c, ¬ gb (ar r4 70 x.toNatClampNeg) c = true := fun c hc => q (cv x vx c hc)
        rw [k.1, k.2, nbit0 no, nbit0 (fun c hc => no c (dn x vx c hc))]
        exact ⟨rfl, rfl⟩
    · obtain ⟨i, i1, i2, i3, i4⟩ := t1 k hk
      rw [i2, i4]
      exact ⟨zvr i i1 i3, (l73 i i1).2, fun c => nd _ (l73 i i1).1.1 c⟩
    · have vx : vt r x := hx.1.1
      obtain ⟨i, i1, i2⟩ := cv x vx c ((nd x vx c).mpr hn)
      obtain ⟨k, k1, k2⟩ := t2 i i1 (by rw [i2]; exact hx.2)
      exact ⟨k, k1, by rw [k2, i2]⟩
  · rw [f40] at hk; exact absurd hk (Nat.not_lt_zero _)
  · rw [f40] at hi; exact absurd hi (Nat.not_lt_zero _)
theorem ws_misUnder {rI : S_} (hM : ML a) (kq : KQ rI) (k8 : fi rI 2 ≤ 8) (e41 : ar r 41 = ar rI 6) {c d : Int32} (c0 : 0 ≤ c) (c1 : c < fi rI 2) (d0 : 0 ≤ d) (d1 : d < 8) {K : Int32 → Prop} (h1 : kU rI c.toNatClampNeg d.toNatClampNeg → K 1) (h0 : ¬ kU rI c.toNatClampNeg d.toNatClampNeg → K 0) : wM_isUnder a r K c d := by
  have cl : c.toNatClampNeg < (fi rI 2).toNatClampNeg := by
    have a1 := i_nat c0
    have a2 := i_nat (zo2 c0 (zo4 c1))
    rw [it] at c1
    omega
  refine wq_M_isUnder (K := fun z => zb z → ((z = 1 ∧ kU rI c.toNatClampNeg d.toNatClampNeg) ∨ (z = 0 ∧ ¬ kU rI c.toNatClampNeg d.toNatClampNeg))) (K2 := fun z => zb z) (fun z h h2 => ?_) (isUnder_ok (K := fun z => (z = 1 ∧ kU rI c.toNatClampNeg d.toNatClampNeg) ∨ (z = 0 ∧ ¬ kU rI c.toNatClampNeg d.toNatClampNeg)) hM kq k8 e41 c0 c1 d0 d1 (fun u => Or.inl ⟨rfl, cl, u⟩) (fun u => Or.inr ⟨rfl, fun q => by have := q.2; unfold und at u; rw [this] at u; exact absurd u (by decide)⟩)) ?_
  · rcases h h2 with ⟨e, u⟩ | ⟨e, u⟩
    · rw [e]; exact h1 u
    · rw [e]; exact h0 u
  · unfold wM_isUnder
    intro n
    have key : ∀ (n : Nat) (v2 v3 : Int32), wM_isUnder_L2 a r (fun v2 v3 => wM_isUnder_J21 a r (fun z => zb z) v2 v3) n v2 v3 := by
      intro n
      induction n with
      | zero => intro v2 v3; trivial
      | succ n ih =>
        intro v2 v3
        rw [wM_isUnder_L2]
        unfold wM_isUnder_J21
        exact ⟨fun _ => ⟨fun _ z => z, fun _ z => z⟩, fun _ => ⟨fun _ => ⟨fun _ z => z, fun _ z => z⟩, fun _ _ => ih _ _⟩⟩
    exact key n _ _
theorem ws_mleast {rI : S_} (hM : ML a) (kq : KQ rI) (k0 : 0 ≤ fi rI 2) (k8 : fi rI 2 ≤ 8) (e41 : ar r 41 = ar rI 6) (e23 : fi r 23 = fi rI 2) {p : Int32} (hp : ∀ c, gb p c = true → c < (fi rI 2).toNatClampNeg) {K : Int32 → Prop} (hK : ∀ z, (∀ d, gb z d = true ↔ zLow (kU rI) (fun c => gb p c = true) d) → K z) : wM_least a r K p := by
  have L31 : ∀ (KX : Int32 → Int32 → Int32 → Int32 → Prop) (v3 : Int32), 0 ≤ v3 → v3 < fi rI 2 → ∀ v2 : Int32, (∀ v4, (¬ v4 = 0 ↔ zLow (kU rI) (fun c => gb p c = true) v3.toNatClampNeg) → KX p v2 v3 v4) → ∀ (n : Nat) (v4 v5 : Int32), 0 ≤ v5 → v5 ≤ fi rI 2 → (¬ v4 = 0 ↔ gb p v3.toNatClampNeg = true ∧ ∀ c, c < v5.toNatClampNeg → gb p c = true → ¬ c = v3.toNatClampNeg → ¬ kU rI c v3.toNatClampNeg) → wM_least_L31 a r KX n p v2 v3 v4 v5 := by
    intro KX v3 h3 h3' v2 hX n
    have v3l : v3 < 8 := zo3 h3' k8
    induction n with
    | zero => intro v4 v5 _ _ _; trivial
    | succ n ih =>
      intro v4 v5 g0 g1 hv
      rw [wM_least_L31, e23]
      refine ⟨fun g => hX v4 ?_, fun g => ?_⟩
      · have e : v5 = fi rI 2 := by clear ih hX hv hK hp; grind
        rw [hv, e]
        exact ⟨fun z => ⟨z.1, fun c hc => z.2 c (hp c hc) hc⟩, fun z => ⟨z.1, fun c _ hc => z.2 c hc⟩⟩
      · have g' := Int32.not_le.mp g
        obtain ⟨q1, q2, q3, q4⟩ := inc8 g0 g' k8
        have ext : (∀ c, c < (v5 + 1).toNatClampNeg → gb p c = true → ¬ c = v3.toNatClampNeg → ¬ kU rI c v3.toNatClampNeg) ↔ (∀ c, c < v5.toNatClampNeg → gb p c = true → ¬ c = v3.toNatClampNeg → ¬ kU rI c v3.toNatClampNeg) ∧ (gb p v5.toNatClampNeg = true → ¬ v5.toNatClampNeg = v3.toNatClampNeg → ¬ kU rI v5.toNatClampNeg v3.toNatClampNeg) := by
          rw [q3]
          constructor
          · intro z
            exact ⟨fun c hc => z c (by omega), z _ (by omega)⟩
          · intro z c hc
            by_cases e : c = v5.toNatClampNeg
            · subst e; exact z.2
            · exact z.1 c (by omega)
        have n53 : v5.toNatClampNeg = v3.toNatClampNeg → v5 = v3 := fun e => by
          have a1 := i_nat g0
          have a2 := i_nat h3
          apply Int32.toInt_inj.mp
          omega
        unfold wM_least_J74 wM_least_J70 wM_least_J75
        have yes : ¬ v4 = 0 → (gb p v5.toNatClampNeg = true → ¬ v5.toNatClampNeg = v3.toNatClampNeg → ¬ kU rI v5.toNatClampNeg v3.toNatClampNeg) → wM_least_L31 a r KX n p v2 v3 1 (v5 + 1) := fun z1 z2 => ih 1 _ q1 q2 ⟨fun _ => ⟨(hv.mp z1).1, ext.mpr ⟨(hv.mp z1).2, z2⟩⟩, fun _ => by decide⟩
        refine ⟨fun z => ih 0 _ q1 q2 ⟨fun q => absurd rfl q, fun q => ?_⟩, fun z => ⟨fun e => yes z (fun _ q => absurd (by rw [e]) q), fun ne => ⟨fun nb => yes z (fun q _ => ?_), fun hb => ?_⟩⟩⟩
        · exact absurd z (hv.mpr ⟨q.1, (ext.mp q.2).1⟩)
        · exfalso
          have := (bt_m g0 q4).mpr q
          rw [this] at nb
          exact absurd nb (by decide)
        · have gbt : gb p v5.toNatClampNeg = true := by
            apply Classical.byContradiction
            intro q
            refine hb (gb_ext (fun i hi => ?_))
            have q' : ¬ ((p >>> (v5 &&& 31)) &&& 1) = 1 := fun z => q ((bt_m g0 q4).mp z)
            rw [and1] at q'
            rw [gb_0, gb_and, gb_lit1 hi]
            by_cases e : i = 0
            · rw [e]; simpa using q'
            · simp [e]
          refine ws_misUnder hM kq k8 e41 g0 g' h3 v3l (fun u _ => ⟨fun _ => ih 0 _ q1 q2 ⟨fun q => absurd rfl q, fun q => ?_⟩, fun z2 => absurd z2 (by decide)⟩) (fun u _ => ⟨fun z2 => absurd rfl z2, fun _ => yes z (fun _ _ => u)⟩)
          exact absurd u ((ext.mp q.2).2 gbt (fun e => ne (n53 e)))
  have L4 : ∀ (n : Nat) (v2 v3 : Int32), 0 ≤ v3 → v3 ≤ fi rI 2 → (∀ d, gb v2 d = true ↔ d < v3.toNatClampNeg ∧ zLow (kU rI) (fun c => gb p c = true) d) → wM_least_L4 a r (fun v2 => K v2) n p v2 v3 := by
    intro n
    induction n with
    | zero => intro v2 v3 _ _ _; trivial
    | succ n ih =>
      intro v2 v3 g0 g1 hv
      rw [wM_least_L4, e23]
      refine ⟨fun g => hK _ (fun d => ?_), fun g => ?_⟩
      · have e : v3 = fi rI 2 := by clear ih hv hK hp L31; grind
        rw [hv d, e]
        exact ⟨fun z => z.2, fun z => ⟨hp d z.1, z⟩⟩
      · have g' := Int32.not_le.mp g
        obtain ⟨q1, q2, q3, q4⟩ := inc8 g0 g' k8
        have j26 : ∀ u, (¬ u = 0 ↔ gb p v3.toNatClampNeg = true) → wM_least_J26 a r (wM_least_L4 a r (fun v2 => K v2) n) (fun v2 => K v2) p v2 v3 u := fun u hu => by
          unfold wM_least_J26 wM_least_J97
          intro m
          refine L31 _ v3 g0 g' v2 (fun v4 h4 => ⟨fun z => ih _ _ q1 q2 (fun d => ?_), fun z => ih _ _ q1 q2 (fun d => ?_)⟩) m u 0 (Int32.le_refl _) k0 ⟨fun z => ⟨hu.mp z, fun c hc => absurd hc (Nat.not_lt_zero _)⟩, fun z => hu.mpr z.1⟩
          · rw [hv d, q3]
            refine ⟨fun q => ⟨by omega, q.2⟩, fun q => ⟨?_, q.2⟩⟩
            have : ¬ d = v3.toNatClampNeg := fun e => absurd z (h4.mpr (by rw [← e]; exact q.2))
            omega
          · rw [gbo, hv d, q3]
            constructor
            · rintro (q | q)
              · exact ⟨by omega, q.2⟩
              · have hd := gb_lt q
                rw [gb_one g0 q4 hd] at q
                have e : d = v3.toNatClampNeg := by simpa using q
                exact ⟨by omega, by rw [e]; exact h4.mp z⟩
            · rintro ⟨q5, q6⟩
              by_cases e : d = v3.toNatClampNeg
              · right
                rw [e, gb_one g0 q4 (by have := d_lt g0 q4; omega)]
                simp
              · exact Or.inl ⟨by omega, q6⟩
        refine ⟨fun nb => j26 0 ⟨fun z => absurd rfl z, fun z => absurd ((bt_m g0 q4).mpr z) nb⟩, fun hb => j26 1 ⟨fun _ => (bt_m g0 q4).mp hb, fun _ => by decide⟩⟩
  unfold wM_least
  intro n
  exact L4 n 0 0 (Int32.le_refl _) k0 (fun d => by
    rw [gb_0]
    exact ⟨fun z => absurd z (by decide), fun z => absurd z.1 (Nat.not_lt_zero _)⟩)
end ZMFOUND
