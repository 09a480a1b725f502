/-! The reference: a copy's loops. -/
section ZMCOPY
variable {a : L_} {r r' : S_} {rh ta : Int32 → Int32} {N : Int32}
theorem zag {a1 a2 : Int32 → Prop} {g : Gr} (w : zGW a1 a2 g) {ρ ρ' : Int32 → Ut} (v : zVal g ρ) (v' : zVal g ρ') : ∀ (n : Nat) (x : Int32), zNx g x → (ρ x).length < n → (∀ u, zRc g x u → ¬ 0 ≤ gH g u → ρ u = ρ' u) → ρ x = ρ' x := by
  intro n
  induction n with
  | zero => intro x _ h; omega
  | succ n ih =>
    intro x hx hl hu
    have rn := w.1 x hx
    by_cases e : 0 ≤ gH g (gR g x)
    · have e1 := (v.2 x hx).2 e
      have e2 := (v'.2 x hx).2 e
      have l := congrArg List.length e1
      rw [Jn_len] at l
      have p := w.2 _ rn
      have part : ∀ y, (y = -1 ∨ zNx g y) → (ρ y).length < n → (¬ y = -1 → ∀ u, zRc g y u → zRc g x u) → ρ y = ρ' y := by
        intro y hy hl2 hc
        by_cases q : y = -1
        · rw [q, v.1, v'.1]
        · exact ih y (hy.resolve_left q) hl2 (fun u h => hu u (hc q u h))
      have sub : ∀ y, zRc g x (gR g y) → ∀ u, zRc g y u → zRc g x u := fun y h u hc => hc (fun u => zRc g x u) h (fun z hz sz => ⟨fun q => zRc_1 sz hz q, fun q => zRc_2 sz hz q⟩)
      rw [e1, e2, part _ p.1 (by omega) (fun q => sub _ (zRc_1 zRc_0 rn q)), part _ p.2.1 (by omega) (fun q => sub _ (zRc_2 zRc_0 rn q))]
    · have h0 := hu _ zRc_0 e
      rw [(v.2 x hx).1, (v'.2 x hx).1]
      exact h0
theorem ws_mfind2 {r0 : S_} (w : MI a r0 rh ta N) (h64 : ∀ y : Int32, 0 ≤ y → y < fi r0 28 → ar r 64 y.toNatClampNeg = ar r0 64 y.toNatClampNeg) {x : Int32} (hx : vt r0 x) {K : Int32 → Prop} (hK : K (rh x)) : wM_find a r K x :=
  wq_M_find (K := fun z => z = rh x) (K2 := fun _ => True) (fun z h _ => by rw [h]; exact hK) (find_ok2 w h64 hx.1 hx.2 rfl) (wa_M_find (fun _ => trivial))
theorem ws_mnew' (hM : ML a) {p0 p1 p2 : Int32} {K : Int32 → S_ → Prop} (hK : ∀ r', 0 ≤ fi r 28 → (fi r 28).toInt < 40000 → NT r r' p0 p1 p2 → K (fi r 28) r') : wM_newTerm a K r p0 p1 p2 := by
  by_cases vp : vp_in (fi r 28) (ln a 64)
  · have l := vpl vp
    rw [ml (n := 40000) hM (by decide) (by decide) rfl] at l
    exact ws_mnew hM l.1 (by omega) (fun r' h => hK r' l.1 (by omega) h)
  · unfold wM_newTerm
    exact fun q => absurd q vp
theorem ws_mones {p : Int32} {K : Int32 → Prop} (hK : K (Int32.ofNat (bn p))) : wM_ones a r K p := by
  have L : ∀ (n : Nat) (v1 v2 : Int32), 0 ≤ v2 → v2 ≤ 8 → v1 = Int32.ofNat (cnt (fun i => gb p i) v2.toNatClampNeg) → wM_ones_L4 a r (fun v1 => K v1) n p v1 v2 := by
    intro n
    induction n with
    | zero => intro v1 v2 _ _ _; trivial
    | succ n ih =>
      intro v1 v2 h0 h1 e
      rw [wM_ones_L4]
      refine ⟨fun g => ?_, fun g => ?_⟩
      · have e8 : v2 = 8 := by clear ih hK; grind
        rw [e, e8]
        exact hK
      · have g' := Int32.not_le.mp g
        obtain ⟨q1, q2, q3, q4⟩ := inc8 h0 g' (Int32.le_refl _)
        refine ih _ _ q1 q2 ?_
        rw [q3, cnt]
        have b1 := bt_m (v := p) h0 q4
        have lt : cnt (fun i => gb p i) v2.toNatClampNeg ≤ v2.toNatClampNeg := cnt_le _ _
        have l8 := d_lt h0 q4
        by_cases hb : gb p v2.toNatClampNeg = true
        · rw [b1.mpr hb, e, if_pos hb, Int32.ofNat_add]
          rfl
        · have z : ((p >>> (v2 &&& 31)) &&& 1) = 0 := gb_ext (fun i hi => by
            have q' : ¬ ((p >>> (v2 &&& 31)) &&& 1) = 1 := fun z => hb (b1.mp z)
            rw [and1] at q'
            rw [gb_0, gb_and, gb_lit1 hi]
            by_cases e : i = 0
            · rw [e]; simpa using q'
            · simp [e])
          rw [z, e, if_neg hb]
          simp
  unfold wM_ones
  intro n
  exact L n 0 0 (Int32.le_refl _) (by decide) rfl
/-- marked or around -/
def okw (r0 r : S_) (ard y : Int32) : Prop := ar r 68 y.toNatClampNeg = fi r0 29 ∨ ar r 68 y.toNatClampNeg = ard
def CW (r0 r : S_) (rh : Int32 → Int32) (ard z v : Int32) (E1 E2 : Int32 → Prop) : Prop :=
  (Fr [28, 30] [64, 65, 66, 67, 68, 69, 70, 71, 72, 73] r0 r ∧ ∀ y, vt r0 y → ∀ k, ¬ k = 68 → ¬ k = 69 → ¬ k = 72 → ¬ k = 73 → ar r k y.toNatClampNeg = ar r0 k y.toNatClampNeg) ∧
  (0 ≤ fi r 30 ∧ (fi r 28).toInt = (fi r0 28).toInt + (fi r 30).toInt ∧ (fi r 28).toInt ≤ 40000) ∧
  (∀ i, i < (fi r 30).toNatClampNeg → ((vt r0 (ar r 73 i) ∧ rh (ar r 73 i) = ar r 73 i) ∧ zRc (mG r0) z (ar r 73 i) ∧ ¬ ar r0 68 (ar r 73 i).toNatClampNeg = ard) ∧ ar r 68 (ar r 73 i).toNatClampNeg = fi r0 29 ∧ (ar r 69 (ar r 73 i).toNatClampNeg).toInt = (fi r0 28).toInt + i ∧ ar r 65 (ar r 69 (ar r 73 i).toNatClampNeg).toNatClampNeg = ar r0 65 (ar r 73 i).toNatClampNeg) ∧
  (∀ y, vt r0 y → ar r 68 y.toNatClampNeg = ar r0 68 y.toNatClampNeg ∨ (ar r 68 y.toNatClampNeg = fi r0 29 ∧ ∃ i, i < (fi r 30).toNatClampNeg ∧ ar r 73 i = y)) ∧
  (∀ y : Int32, fi r0 28 ≤ y → y < fi r 28 → ar r 64 y.toNatClampNeg = y ∧ ar r 66 y.toNatClampNeg = -1 ∧ ar r 67 y.toNatClampNeg = -1 ∧ ar r 68 y.toNatClampNeg = 0 ∧ ar r 70 y.toNatClampNeg = 0 ∧ ar r 71 y.toNatClampNeg = 0) ∧
  ((0 ≤ v.toInt ∧ v.toInt ≤ 200000) ∧ ∀ k : Int32, 0 ≤ k → k < v → vt r0 (ar r 72 k.toNatClampNeg) ∧ zRc (mG r0) z (rh (ar r 72 k.toNatClampNeg))) ∧
  (∀ i, i < (fi r 30).toNatClampNeg → (0 ≤ ar r0 66 (ar r 73 i).toNatClampNeg → okw r0 r ard (rh (ar r0 66 (ar r 73 i).toNatClampNeg)) ∨ Sk rh r v (rh (ar r0 66 (ar r 73 i).toNatClampNeg)) ∨ E1 (ar r 73 i)) ∧ (0 ≤ ar r0 67 (ar r 73 i).toNatClampNeg → okw r0 r ard (rh (ar r0 67 (ar r 73 i).toNatClampNeg)) ∨ Sk rh r v (rh (ar r0 67 (ar r 73 i).toNatClampNeg)) ∨ E2 (ar r 73 i))) ∧
  (okw r0 r ard z ∨ Sk rh r v z)
abbrev nP : Int32 → Prop := fun _ => False
theorem CW_push {r0 : S_} {ard z v s : Int32} {E1 E2 : Int32 → Prop} (hM : ML a) (h : CW r0 r rh ard z v E1 E2) (vp : vp_in v (ln a 72)) (vs : vt r0 s) (hs : zRc (mG r0) z (rh s)) : CW r0 (sA r 72 (upd (ar r 72) v.toNatClampNeg s)) rh ard z (v + 1) E1 E2 ∧ Sk rh (sA r 72 (upd (ar r 72) v.toNatClampNeg s)) (v + 1) (rh s) := by
  obtain ⟨⟨c1, c1'⟩, c2, c3, c4, c5, ⟨c6, c6'⟩, c7, c8⟩ := h
  obtain ⟨v1, vl⟩ := inc_v c6.1 vp hM
  have sp := Sk_push (rh := rh) (r := r) (y := 0) (s := s) c6.1 vl v1
  exact ⟨⟨⟨Fr_trans c1 (Fr_sA (by decide)), fun y vy k k1 k2 k3 k4 => by rw [ar_sA, if_neg k3]; exact c1' y vy k k1 k2 k3 k4⟩, c2, c3, c4, c5, ⟨⟨by omega, by omega⟩, en_push (P := fun y => vt r0 y ∧ zRc (mG r0) z (rh y)) c6.1 v1 c6' ⟨vs, hs⟩⟩, fun i hi => ⟨fun q => ((c7 i hi).1 q).imp id (fun z => z.imp (fun z => sp _ (Or.inl z)) id), fun q => ((c7 i hi).2 q).imp id (fun z => z.imp (fun z => sp _ (Or.inl z)) id)⟩, c8.imp id (fun z => sp _ (Or.inl z))⟩, sp _ (Or.inr rfl)⟩
theorem CW_E {r0 : S_} {ard z v : Int32} {E1 E2 E1' E2' : Int32 → Prop} (h : CW r0 r rh ard z v E1 E2) (h1 : ∀ x, 0 ≤ ar r0 66 x.toNatClampNeg → E1 x → Sk rh r v (rh (ar r0 66 x.toNatClampNeg)) ∨ E1' x) (h2 : ∀ x, 0 ≤ ar r0 67 x.toNatClampNeg → E2 x → Sk rh r v (rh (ar r0 67 x.toNatClampNeg)) ∨ E2' x) : CW r0 r rh ard z v E1' E2' := by
  obtain ⟨c1, c2, c3, c4, c5, c6, c7, c8⟩ := h
  exact ⟨c1, c2, c3, c4, c5, c6, fun i hi => ⟨fun q => ((c7 i hi).1 q).imp id (fun z => z.elim Or.inl (h1 _ q)), fun q => ((c7 i hi).2 q).imp id (fun z => z.elim Or.inl (h2 _ q))⟩, c8⟩
theorem ws_cop101 {r0 : S_} {ard z v1 : Int32} (w0 : MI a r0 rh ta N) (hz : vt r0 z) (rz : rh z = z) (m0 : ¬ fi r0 29 = 0) (ma : ¬ fi r0 29 = ard) {KX : S_ → Int32 → Int32 → Prop} (hK : ∀ (r : S_) (v : Int32), CW r0 r rh ard z v nP nP → v ≤ 0 → KX r v1 z) : ∀ (n : Nat) (r : S_) (v : Int32), CW r0 r rh ard z v nP nP → wM_copyOf_L101 a KX n r v1 ard z v := by
  intro n
  induction n with
  | zero => intro r v _; trivial
  | succ n ih =>
    intro r v h
    have h' := h
    obtain ⟨⟨c1, c1'⟩, ⟨c20, c21, c22⟩, c3, c4, c5, ⟨c6, c6'⟩, c7, c8⟩ := h
    rw [wM_copyOf_L101]
    refine ⟨fun g => hK r v h' g, fun g vp => ?_⟩
    have gi := Int32.not_le.mp g
    rw [it] at gi
    simp at gi
    have d1 : (v + -1).toInt = v.toInt - 1 := by
      rw [i_add (by simp; omega) (by simp; omega)]
      simp
      omega
    have k0 : 0 ≤ v + -1 := by rw [il, d1]; simp; omega
    have en := c6' _ k0 (by rw [it, d1]; omega)
    have e29 := c1.1 29 (by decide)
    have h64 : ∀ y : Int32, 0 ≤ y → y < fi r0 28 → ar r 64 y.toNatClampNeg = ar r0 64 y.toNatClampNeg := fun y y0 y1 => c1' y ⟨y0, y1⟩ 64 (by decide) (by decide) (by decide) (by decide)
    refine ws_mfind2 w0 h64 en.1 (fun _ => ?_)
    have mr := m_rr w0 en.1
    obtain ⟨x, ex⟩ : ∃ x, x = rh (ar r 72 (v + -1).toNatClampNeg) := ⟨_, rfl⟩
    rw [← ex] at mr en
    rw [← ex, e29]
    have xr : rh x = x := (m_rcv w0 hz en.2).2
    have pop : ∀ y, Sk rh r v y → Sk rh r (v + -1) y ∨ y = x := fun y ⟨k, q0, q1, q2⟩ => by
      by_cases e : k = v + -1
      · right; rw [← q2, ex, e]
      · refine Or.inl ⟨k, q0, ?_, q2⟩
        rw [it] at q1 ⊢
        rw [ie, d1] at e
        rw [d1]
        omega
    have ok : okw r0 r ard x → wM_copyOf_L101 a KX n r v1 ard z (v + -1) := fun ho => by
      refine ih r (v + -1) ⟨⟨c1, c1'⟩, ⟨c20, c21, c22⟩, c3, c4, c5, ⟨⟨by omega, by omega⟩, fun k q0 q1 => c6' k q0 ?_⟩, fun i hi => ⟨fun q => ?_, fun q => ?_⟩, ?_⟩
      · rw [it, d1] at q1
        rw [it]
        omega
      · rcases (c7 i hi).1 q with z | z | z
        · exact Or.inl z
        · exact (pop _ z).elim (fun z => Or.inr (Or.inl z)) (fun e => Or.inl (by rw [e]; exact ho))
        · exact z.elim
      · rcases (c7 i hi).2 q with z | z | z
        · exact Or.inl z
        · exact (pop _ z).elim (fun z => Or.inr (Or.inl z)) (fun e => Or.inl (by rw [e]; exact ho))
        · exact z.elim
      · rcases c8 with z | z
        · exact Or.inl z
        · exact (pop _ z).elim Or.inr (fun e => Or.inl (by rw [e]; exact ho))
    unfold wM_copyOf_J253
    refine ⟨fun hm => ok (Or.inl hm), fun hm _ => ⟨fun ha => ok (Or.inr ha), fun ha _ r25 e25 vp30 r27 e27 r28 e28 _ => ?_⟩⟩
    have f25 : fi r25 30 = fi r 30 := by rw [e25]; rfl
    rw [f25] at vp30
    obtain ⟨i1, i2, i3, i4⟩ := i40s c20 vp30 (ml (n := 40000) w0.1 (by decide) (by decide) rfl) (by decide)
    have F28 : Fr [30] [68, 73] r r28 := by
      rw [e28, e27, e25]
      exact Fr_trans (Fr_sA (by decide)) (Fr_trans (Fr_sA (by decide)) (Fr_sF (by decide)))
    have e65 : ar r28 65 = ar r 65 := F28.2.1 65 (by decide)
    have hx65 : ar r28 65 x.toNatClampNeg = ar r0 65 x.toNatClampNeg := by rw [e65]; exact c1' x mr.1 65 (by decide) (by decide) (by decide) (by decide)
    rw [hx65]
    refine ws_mnew' w0.1 (fun r31 t0 t1 hN => ?_)
    have f28 : fi r28 28 = fi r 28 := F28.1 28 (by decide)
    rw [f28] at t0 t1 ⊢
    intro _ r33 e33 _
    obtain ⟨n28, nF, nold, n64, n65, n66, n67, n68, n70, n71⟩ := hN
    rw [f28] at n28 nold n64 n65 n66 n67 n68 n70 n71
    have tt1 : (fi r 28 + 1).toInt = (fi r 28).toInt + 1 := i_inc (y := 40000) (by rw [it]; simp; omega)
    have F33 : Fr [28, 30] [64, 65, 66, 67, 68, 69, 70, 71, 73] r r33 := by
      rw [e33]
      exact Fr_trans (Fr_mono F28 (by decide) (by decide)) (Fr_trans (Fr_mono nF (by decide) (by decide)) (Fr_sA (by decide)))
    have c0l := w0.2.2.1.1
    have c0i := c0l
    rw [il] at c0i
    have c0n : 0 ≤ (fi r0 28).toInt := by simpa using c0i
    have n30 := i_nat c20
    have g28 : fi r33 28 = fi r 28 + 1 := by rw [e33]; exact n28
    have g30 : fi r33 30 = fi r 30 + 1 := by
      rw [e33]
      show fi r31 30 = _
      rw [nF.1 30 (by decide), e28, e27, e25]
      rfl
    -- old rows
    have old : ∀ y, 0 ≤ y → y < fi r 28 → ∀ k, ¬ k = 68 → ¬ k = 69 → ¬ k = 73 → ar r33 k y.toNatClampNeg = ar r k y.toNatClampNeg := fun y y0 y1 k k1 k2 k3 => by
      rw [e33, ar_sA, if_neg k2, nold y y0 y1 k, F28.2.1 k (by simp [k1, k3])]
    have a68 : ∀ y, 0 ≤ y → y < fi r 28 → ar r33 68 y.toNatClampNeg = if y = x then fi r0 29 else ar r 68 y.toNatClampNeg := fun y y0 y1 => by
      rw [e33, ar_sA, if_neg (by decide), nold y y0 y1 68, e28, e27, e25]
      show upd (ar r 68) x.toNatClampNeg (fi r0 29) y.toNatClampNeg = _
      rw [updI _ _ mr.1.1 y0]
    have a73 : ∀ i, ar r33 73 i = if i = (fi r 30).toNatClampNeg then x else ar r 73 i := fun i => by
      rw [e33, ar_sA, if_neg (by decide), nF.2.1 73 (by decide), e28, e27, e25]
      show upd (ar r 73) (fi r 30).toNatClampNeg x i = _
      exact updN
    have a69 : ∀ y : Int32, 0 ≤ y → ar r33 69 y.toNatClampNeg = if y = x then fi r 28 else ar r 69 y.toNatClampNeg := fun y y0 => by
      have e : ar r33 69 = upd (ar r 69) x.toNatClampNeg (fi r 28) := by
        rw [e33, ar_sA, if_pos rfl, nF.2.1 69 (by decide), F28.2.1 69 (by decide)]
      rw [e, updI _ _ mr.1.1 y0]
    have a72 : ar r33 72 = ar r 72 := F33.2.1 72 (by decide)
    have lt28 : ∀ y, vt r0 y → 0 ≤ y ∧ y < fi r 28 := fun y vy => ⟨vy.1, by have := vy.2; rw [it] at this ⊢; omega⟩
    have b66 : ar r33 66 x.toNatClampNeg = ar r0 66 x.toNatClampNeg := by rw [old x mr.1.1 (lt28 x mr.1).2 66 (by decide) (by decide) (by decide)]; exact c1' x mr.1 66 (by decide) (by decide) (by decide) (by decide)
    have b67 : ar r33 67 x.toNatClampNeg = ar r0 67 x.toNatClampNeg := by rw [old x mr.1.1 (lt28 x mr.1).2 67 (by decide) (by decide) (by decide)]; exact c1' x mr.1 67 (by decide) (by decide) (by decide) (by decide)
    have nx : ∀ i, i < (fi r 30).toNatClampNeg → ¬ ar r 73 i = x := fun i hi e => hm (by rw [← e]; exact (c3 i hi).2.1)
    have mo : ∀ y, vt r0 y → okw r0 r ard y → okw r0 r33 ard y := fun y vy ho => by
      unfold okw
      rw [a68 y vy.1 (lt28 y vy).2]
      split
      · exact Or.inl rfl
      · exact ho
    have okx : okw r0 r33 ard x := Or.inl (by rw [a68 x mr.1.1 (lt28 x mr.1).2, if_pos rfl])
    have st : ∀ y, vt r0 y → Sk rh r v y → okw r0 r33 ard y ∨ Sk rh r33 (v + -1) y := fun y vy h => (pop y h).elim (fun ⟨k, h1, h2, h3⟩ => Or.inr ⟨k, h1, h2, by rw [a72]; exact h3⟩) (fun e => Or.inl (by rw [e]; exact okx))
    have hax : ¬ ar r0 68 x.toNatClampNeg = ard := fun e => by
      rcases c4 x mr.1 with z | z
      · exact ha (by rw [z]; exact e)
      · exact hm z.1
    have mid : CW r0 r33 rh ard z (v + -1) (fun y => y = x) (fun y => y = x) := by
      refine ⟨⟨Fr_trans c1 (Fr_mono F33 (by decide) (by decide)), fun y vy k k1 k2 k3 k4 => ?_⟩, ⟨by rw [g30]; exact i3, by rw [g28, g30, tt1, i1]; omega, by rw [g28, tt1]; omega⟩, fun i hi => ?_, fun y vy => ?_, fun y y0 y1 => ?_, ⟨⟨by omega, by omega⟩, fun k q0 q1 => ?_⟩, fun i hi => ?_, ?_⟩
      · rw [old y vy.1 (lt28 y vy).2 k k1 k2 k4]
        exact c1' y vy k k1 k2 k3 k4
      · rw [g30, i2] at hi
        rw [a73]
        by_cases e : i = (fi r 30).toNatClampNeg
        · rw [if_pos e, a69 x mr.1.1, if_pos rfl]
          refine ⟨⟨⟨mr.1, xr⟩, en.2, hax⟩, by rw [a68 x mr.1.1 (lt28 x mr.1).2, if_pos rfl], by omega, ?_⟩
          rw [e33, ar_sA, if_neg (by decide)]
          exact n65
        · rw [if_neg e]
          have k := c3 i (by omega)
          have ne := nx i (by omega)
          have vy := k.1.1.1
          have cl : 0 ≤ ar r 69 (ar r 73 i).toNatClampNeg ∧ ar r 69 (ar r 73 i).toNatClampNeg < fi r 28 := by
            have := k.2.2.1
            constructor
            · rw [il]; simp; omega
            · rw [it]; omega
          rw [a68 _ vy.1 (lt28 _ vy).2, if_neg ne, a69 _ vy.1, if_neg ne, old _ cl.1 cl.2 65 (by decide) (by decide) (by decide)]
          exact ⟨k.1, k.2⟩
      · rw [a68 y vy.1 (lt28 y vy).2, g30, i2]
        split
        · rename_i e
          exact Or.inr ⟨rfl, (fi r 30).toNatClampNeg, by omega, by rw [a73, if_pos rfl, e]⟩
        · rcases c4 y vy with z | ⟨z, i, j1, j2⟩
          · exact Or.inl z
          · exact Or.inr ⟨z, i, by omega, by rw [a73, if_neg (by omega)]; exact j2⟩
      · rw [g28, it, tt1] at y1
        have y00 : 0 ≤ y := zo2 c0l y0
        by_cases e : y = fi r 28
        · rw [e, e33]
          exact ⟨by rw [ar_sA, if_neg (by decide)]; exact n64, by rw [ar_sA, if_neg (by decide)]; exact n66, by rw [ar_sA, if_neg (by decide)]; exact n67, by rw [ar_sA, if_neg (by decide)]; exact n68, by rw [ar_sA, if_neg (by decide)]; exact n70, by rw [ar_sA, if_neg (by decide)]; exact n71⟩
        · rw [ie] at e
          have yl : y < fi r 28 := by rw [it]; omega
          have k := c5 y y0 yl
          have ne : ¬ y = x := fun e2 => by
            have := mr.1.2
            rw [← e2, it] at this
            rw [il] at y0
            omega
          rw [old y y00 yl 64 (by decide) (by decide) (by decide), old y y00 yl 66 (by decide) (by decide) (by decide), old y y00 yl 67 (by decide) (by decide) (by decide), a68 y y00 yl, if_neg ne, old y y00 yl 70 (by decide) (by decide) (by decide), old y y00 yl 71 (by decide) (by decide) (by decide)]
          exact k
      · rw [a72]
        refine c6' k q0 ?_
        rw [it, d1] at q1
        rw [it]
        omega
      · rw [g30, i2] at hi
        rw [a73]
        by_cases e : i = (fi r 30).toNatClampNeg
        · rw [if_pos e]
          exact ⟨fun _ => Or.inr (Or.inr rfl), fun _ => Or.inr (Or.inr rfl)⟩
        · rw [if_neg e]
          have k := c7 i (by omega)
          have l := m_lf w0 (c3 i (by omega)).1.1.1
          refine ⟨fun q => ?_, fun q => ?_⟩
          · have vl := (m_rr w0 (l.1.2 q)).1
            rcases k.1 q with z | z | z
            · exact Or.inl (mo _ vl z)
            · exact (st _ vl z).imp id Or.inl
            · exact z.elim
          · have vl := (m_rr w0 (l.2.2 q)).1
            rcases k.2 q with z | z | z
            · exact Or.inl (mo _ vl z)
            · exact (st _ vl z).imp id Or.inl
            · exact z.elim
      · rcases c8 with q | q
        · exact Or.inl (mo z hz q)
        · exact st z hz q
    have l := m_lf w0 mr.1
    have right : ∀ (r2 : S_) (v2 : Int32), ar r2 67 x.toNatClampNeg = ar r0 67 x.toNatClampNeg → CW r0 r2 rh ard z v2 nP (fun y => y = x) → wM_copyOf_J226 a (wM_copyOf_L101 a KX n) KX r2 v1 ard z v2 x := by
      intro r2 v2 e67 cw
      unfold wM_copyOf_J226 wM_copyOf_J253
      rw [e67]
      refine fun _ => ⟨fun q => ih r2 v2 (CW_E cw (fun _ _ e => e.elim) (fun y hy e => absurd q (Int32.not_lt.mpr (by rw [← e]; exact hy)))), fun q _ vp2 r40 e40 => ?_⟩
      have q0 := Int32.not_lt.mp q
      obtain ⟨p1, p2⟩ := CW_push w0.1 cw vp2 (l.2.2 q0) (m_rc2 w0 en.2 mr.1 xr q0)
      rw [e40]
      exact ih _ _ (CW_E p1 (fun _ _ e => e.elim) (fun y hy e => Or.inl (by rw [e]; exact p2)))
    rw [b66]
    refine ⟨fun q => right r33 _ b67 (CW_E mid (fun y hy e => absurd q (Int32.not_lt.mpr (by rw [← e]; exact hy))) (fun y _ e => Or.inr e)), fun q _ vp2 r43 e43 => ?_⟩
    have q0 := Int32.not_lt.mp q
    obtain ⟨p1, p2⟩ := CW_push w0.1 mid vp2 (l.1.2 q0) (m_rc1 w0 en.2 mr.1 xr q0)
    rw [e43]
    exact right _ _ b67 (CW_E p1 (fun y hy e => Or.inl (by rw [e]; exact p2)) (fun y _ e => Or.inr e))
end ZMCOPY
