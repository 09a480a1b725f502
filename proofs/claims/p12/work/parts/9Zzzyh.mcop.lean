/-! The reference: a copy's parts and wants. -/
section ZMCOP
variable {a : L_} {rI r r' : S_} {rh ta : Int32 → Int32} {N : Int32}
theorem ws_mcopied {r0 : S_} (w : MI a r0 rh ta N) (h64 : ∀ y : Int32, 0 ≤ y → y < fi r0 28 → ar r 64 y.toNatClampNeg = ar r0 64 y.toNatClampNeg) {t : Int32} (ht : t < fi r0 28) {K : Int32 → Prop} (hK : K (cpd r rh t)) : wM_copied a r K t := by
  unfold wM_copied
  unfold cpd at hK
  refine ⟨fun t0 => ?_, fun t0 => by rw [if_neg t0] at hK; exact hK⟩
  rw [if_pos t0] at hK
  refine ws_mfind2 w h64 ⟨t0, ht⟩ (fun _ => ⟨fun q => ?_, fun q => ?_⟩)
  · rw [if_neg q] at hK
    exact ws_mfind2 w h64 ⟨t0, ht⟩ hK
  · rw [if_pos q] at hK
    exact ws_mfind2 w h64 ⟨t0, ht⟩ (fun _ => hK)
theorem cpd_eq {r1 : S_} (h68 : ar r 68 = ar r1 68) (h69 : ar r 69 = ar r1 69) (h29 : fi r 29 = fi r1 29) {t : Int32} : cpd r rh t = cpd r1 rh t := by
  unfold cpd
  rw [h68, h69, h29]
theorem ws_cop259 {r0 r1 : S_} {ard z vv v1 v3 : Int32} (w : MI a r0 rh ta N) (h : CW r0 r1 rh ard z vv nP nP) {KX : S_ → Int32 → Int32 → Prop} (hK : ∀ r, CL r1 r rh (fi r0 28) (fi r1 30).toNatClampNeg → KX r v1 v3) : ∀ (n : Nat) (r : S_) (v5 : Int32), CL r1 r rh (fi r0 28) v5.toNatClampNeg → 0 ≤ v5 → v5 ≤ fi r1 30 → wM_copyOf_L259 a KX n r v1 v3 v5 := by
  obtain ⟨⟨c1, c1'⟩, ⟨c20, c21, c22⟩, c3, c4, c5, ⟨c6, c6'⟩, c7, c8⟩ := h
  have T0 := w.2.2.1.1
  have Ti : 0 ≤ (fi r0 28).toInt := by have := T0; rw [il] at this; simpa using this
  have n30 := i_nat c20
  have cp : ∀ i, i < (fi r1 30).toNatClampNeg → 0 ≤ ar r1 69 (ar r1 73 i).toNatClampNeg ∧ ¬ ar r1 69 (ar r1 73 i).toNatClampNeg < fi r0 28 := fun i hi => by
    have := (c3 i hi).2.2.1
    refine ⟨by rw [il]; simp; omega, fun q => ?_⟩
    rw [it] at q
    omega
  intro n
  induction n with
  | zero => intro r v5 _ _ _; trivial
  | succ n ih =>
    intro r v5 cl v0 v1l
    obtain ⟨F, old, done⟩ := cl
    have e73 : ar r 73 = ar r1 73 := F.2.1 73 (by decide)
    have e69 : ar r 69 = ar r1 69 := F.2.1 69 (by decide)
    have e68 : ar r 68 = ar r1 68 := F.2.1 68 (by decide)
    have e29 : fi r 29 = fi r1 29 := F.1 29 (by decide)
    rw [wM_copyOf_L259, F.1 30 (by decide), e73, e69]
    refine ⟨fun g => ?_, fun g _ _ _ => ?_⟩
    · have e : v5 = fi r1 30 := by clear ih hK old done F c1 c1' c3 c4 c5 c6' c7 c8 cp w; grind
      rw [e] at done
      exact hK r ⟨F, old, done⟩
    have g' := Int32.not_le.mp g
    obtain ⟨q1, q2, q3⟩ := inc_le v0 g'
    have s5 : (v5 + 1).toNatClampNeg = v5.toNatClampNeg + 1 := by have := i_nat q1; have := i_nat v0; omega
    have lt5 : v5.toNatClampNeg < (fi r1 30).toNatClampNeg := by have := i_nat v0; rw [it] at g'; omega
    have k := c3 _ lt5
    have vx := k.1.1.1
    have l := m_lf w vx
    have x66 : ar r 66 (ar r1 73 v5.toNatClampNeg).toNatClampNeg = ar r0 66 (ar r1 73 v5.toNatClampNeg).toNatClampNeg := by rw [(old _ vx.1 vx.2).1]; exact c1' _ vx 66 (by decide) (by decide) (by decide) (by decide)
    have y66 : ar r1 66 (ar r1 73 v5.toNatClampNeg).toNatClampNeg = ar r0 66 (ar r1 73 v5.toNatClampNeg).toNatClampNeg := c1' _ vx 66 (by decide) (by decide) (by decide) (by decide)
    have y67 : ar r1 67 (ar r1 73 v5.toNatClampNeg).toNatClampNeg = ar r0 67 (ar r1 73 v5.toNatClampNeg).toNatClampNeg := c1' _ vx 67 (by decide) (by decide) (by decide) (by decide)
    have h64 : ∀ y : Int32, 0 ≤ y → y < fi r0 28 → ar r 64 y.toNatClampNeg = ar r0 64 y.toNatClampNeg := fun y y0 y1 => by rw [F.2.1 64 (by decide)]; exact c1' y ⟨y0, y1⟩ 64 (by decide) (by decide) (by decide) (by decide)
    have tl : ∀ t : Int32, -1 ≤ t → (0 ≤ t → vt r0 t) → t < fi r0 28 := fun t t0 t1 => by
      rcases m1c t0 with e | e
      · rw [e]; clear ih hK old done F c1 c1' c3 c4 c5 c6' c7 c8 cp w k l; grind
      · exact (t1 e).2
    rw [x66]
    refine ws_mcopied w h64 (tl _ l.1.1 l.1.2) (fun _ r50 e50 _ _ => ?_)
    have F50 : Fr [] [66] r r50 := by rw [e50]; exact Fr_sA (by decide)
    have x67 : ar r50 67 (ar r1 73 v5.toNatClampNeg).toNatClampNeg = ar r0 67 (ar r1 73 v5.toNatClampNeg).toNatClampNeg := by rw [F50.2.1 67 (by decide), (old _ vx.1 vx.2).2]; exact y67
    have b69 : ar r50 69 = ar r1 69 := (F50.2.1 69 (by decide)).trans e69
    rw [x67]
    refine ws_mcopied w (fun y y0 y1 => by rw [F50.2.1 64 (by decide)]; exact h64 y y0 y1) (tl _ l.2.1 l.2.2) (fun _ r55 e55 => ?_)
    have c0 := cp _ lt5
    have F55 : Fr [] [66, 67] r r55 := by rw [e55]; exact Fr_trans (Fr_mono F50 (by decide) (by decide)) (Fr_sA (by decide))
    have a66 : ∀ y : Int32, 0 ≤ y → ar r55 66 y.toNatClampNeg = if y = ar r1 69 (ar r1 73 v5.toNatClampNeg).toNatClampNeg then cpd r rh (ar r0 66 (ar r1 73 v5.toNatClampNeg).toNatClampNeg) else ar r 66 y.toNatClampNeg := fun y y0 => by
      rw [e55, ar_sA, if_neg (by decide), e50, ar_sA, if_pos rfl, updI _ _ c0.1 y0]
    have a67 : ∀ y : Int32, 0 ≤ y → ar r55 67 y.toNatClampNeg = if y = ar r1 69 (ar r1 73 v5.toNatClampNeg).toNatClampNeg then cpd r50 rh (ar r0 67 (ar r1 73 v5.toNatClampNeg).toNatClampNeg) else ar r 67 y.toNatClampNeg := fun y y0 => by
      rw [e55, ar_sA, if_pos rfl, b69, updI _ _ c0.1 y0, F50.2.1 67 (by decide)]
    have p1 : cpd r rh (ar r0 66 (ar r1 73 v5.toNatClampNeg).toNatClampNeg) = cpd r1 rh (ar r1 66 (ar r1 73 v5.toNatClampNeg).toNatClampNeg) := by rw [y66]; exact cpd_eq e68 e69 e29
    have p2 : cpd r50 rh (ar r0 67 (ar r1 73 v5.toNatClampNeg).toNatClampNeg) = cpd r1 rh (ar r1 67 (ar r1 73 v5.toNatClampNeg).toNatClampNeg) := by rw [y67]; exact cpd_eq ((F50.2.1 68 (by decide)).trans e68) b69 ((F50.1 29 (by decide)).trans e29)
    refine ih r55 _ ⟨Fr_trans F F55, fun y y0 y1 => ?_, fun i hi hi2 => ?_⟩ q1 q2
    · have ne : ¬ y = ar r1 69 (ar r1 73 v5.toNatClampNeg).toNatClampNeg := fun e => c0.2 (by rw [← e]; exact y1)
      rw [a66 y y0, a67 y y0, if_neg ne, if_neg ne]
      exact old y y0 y1
    · rw [s5] at hi2
      have ci := cp i hi
      rw [a66 _ ci.1, a67 _ ci.1]
      by_cases e : i = v5.toNatClampNeg
      · rw [e, if_pos rfl, if_pos rfl]
        exact ⟨p1, p2⟩
      · have ne : ¬ ar r1 69 (ar r1 73 i).toNatClampNeg = ar r1 69 (ar r1 73 v5.toNatClampNeg).toNatClampNeg := fun q => e (by
          have a1 := (c3 i hi).2.2.1
          have a2 := k.2.2.1
          rw [q] at a1
          omega)
        rw [if_neg ne, if_neg ne]
        exact done i hi (by omega)
def sB (f : Nat → Int32) (s : Nat) : Nat → Nat
  | 0 => 0
  | n + 1 => sB f s n + bn (f (s + n))
def CO (rB r : S_) (rh : Int32 → Int32) (s n : Nat) : Prop := Fr [31, 35] [75, 76] rB r ∧ (0 ≤ fi rB 31 ∧ (fi r 31).toInt = (fi rB 31).toInt + n) ∧ (∀ i, i < (fi rB 31).toNatClampNeg → ar r 75 i = ar rB 75 i ∧ ar r 76 i = ar rB 76 i) ∧ (∀ j, j < n → ar r 75 ((fi rB 31).toNatClampNeg + j) = cpd rB rh (ar rB 62 (s + j)) ∧ ar r 76 ((fi rB 31).toNatClampNeg + j) = ar rB 63 (s + j)) ∧ fi r 35 = fi rB 35 + Int32.ofNat (sB (ar rB 63) s n)
theorem ws_cop337 {r0 rB : S_} {v1 v3 s e : Int32} (w : MI a r0 rh ta N) (h64 : ∀ y : Int32, 0 ≤ y → y < fi r0 28 → ar rB 64 y.toNatClampNeg = ar r0 64 y.toNatClampNeg) (e57 : ar rB 57 v1.toNatClampNeg = s) (e58 : ar rB 58 v1.toNatClampNeg = e - s) (s0 : 0 ≤ s) (hv : ∀ i, s.toNatClampNeg ≤ i → i < e.toNatClampNeg → vt r0 (ar rB 62 i)) {KX : S_ → Int32 → Prop} (hK : ∀ r, CO rB r rh s.toNatClampNeg (e.toNatClampNeg - s.toNatClampNeg) → KX r v3) : ∀ (n : Nat) (r : S_) (v5 : Int32), CO rB r rh s.toNatClampNeg (v5.toNatClampNeg - s.toNatClampNeg) → s ≤ v5 → v5 ≤ e → wM_copyOf_L337 a KX n r v1 v3 v5 := by
  intro n
  induction n with
  | zero => intro r v5 _ _ _; trivial
  | succ n ih =>
    intro r v5 co h1 h2
    obtain ⟨F, ⟨b0, b1⟩, old, new, sm⟩ := co
    have es : s + (e - s) = e := by grind
    rw [wM_copyOf_L337, F.2.1 57 (by decide), F.2.1 58 (by decide), e57, e58, es, F.2.1 62 (by decide), F.2.1 63 (by decide)]
    refine fun _ _ => ⟨fun g => ?_, fun g _ => ?_⟩
    · have ev : v5 = e := by clear ih hK old new F sm b1; grind
      rw [ev] at b1 new sm
      exact hK r ⟨F, ⟨b0, b1⟩, old, new, sm⟩
    have g' := Int32.not_le.mp g
    have v0 : 0 ≤ v5 := zo2 s0 h1
    obtain ⟨q1, q2, q3⟩ := inc_le v0 g'
    have nv := i_nat v0
    have ns := i_nat s0
    have ne := i_nat (zo2 v0 (zo4 g'))
    have s5 : (v5 + 1).toNatClampNeg = v5.toNatClampNeg + 1 := by have := i_nat q1; omega
    have lt5 : v5.toNatClampNeg < e.toNatClampNeg := by rw [it] at g'; omega
    have ge5 : s.toNatClampNeg ≤ v5.toNatClampNeg := by rw [il] at h1; omega
    have vx := hv _ ge5 lt5
    refine ws_mcopied w (fun y y0 y1 => by rw [F.2.1 64 (by decide)]; exact h64 y y0 y1) vx.2 (fun _ => ?_)
    unfold wM_addWant
    intro vp r2 e2 vp2 r4 e4 r5 e5 _
    have f31 : 0 ≤ fi r 31 := (vpl vp).1
    obtain ⟨i1, i2, i3, i4⟩ := i40s f31 vp (ml (n := 20000) w.1 (by decide) (by decide) rfl) (by decide)
    have e63 : ar r5 63 = ar rB 63 := by rw [e5, e4, e2]; exact F.2.1 63 (by decide)
    rw [e63]
    refine ws_mones (fun r66 e66 => ?_)
    have cpe : cpd r rh (ar rB 62 v5.toNatClampNeg) = cpd rB rh (ar rB 62 v5.toNatClampNeg) := cpd_eq (F.2.1 68 (by decide)) (F.2.1 69 (by decide)) (F.1 29 (by decide))
    have e66' : r66 = sF (sF (sA (sA r 75 (upd (ar r 75) (fi r 31).toNatClampNeg (cpd rB rh (ar rB 62 v5.toNatClampNeg)))) 76 (upd (ar r 76) (fi r 31).toNatClampNeg (ar rB 63 v5.toNatClampNeg))) 31 (fi r 31 + 1)) 35 (fi r 35 + Int32.ofNat (bn (ar rB 63 v5.toNatClampNeg))) := by
      rw [e66, e5, e4, e2, cpe]
      rfl
    have a75 : ∀ i, ar r66 75 i = if i = (fi r 31).toNatClampNeg then cpd rB rh (ar rB 62 v5.toNatClampNeg) else ar r 75 i := fun i => by
      rw [e66']
      show upd (ar r 75) (fi r 31).toNatClampNeg (cpd rB rh (ar rB 62 v5.toNatClampNeg)) i = _
      exact updN
    have a76 : ∀ i, ar r66 76 i = if i = (fi r 31).toNatClampNeg then ar rB 63 v5.toNatClampNeg else ar r 76 i := fun i => by
      rw [e66']
      show upd (ar r 76) (fi r 31).toNatClampNeg (ar rB 63 v5.toNatClampNeg) i = _
      exact updN
    have f66 : fi r66 31 = fi r 31 + 1 := by rw [e66']; rfl
    have nb := i_nat b0
    have nr := i_nat f31
    have dn : (v5 + 1).toNatClampNeg - s.toNatClampNeg = (v5.toNatClampNeg - s.toNatClampNeg) + 1 := by omega
    have sv : s.toNatClampNeg + (v5.toNatClampNeg - s.toNatClampNeg) = v5.toNatClampNeg := by omega
    have pl : (fi rB 31).toNatClampNeg + (v5.toNatClampNeg - s.toNatClampNeg) = (fi r 31).toNatClampNeg := by omega
    refine ih r66 _ ?_ (by rw [il] at h1 ⊢; omega) q2
    rw [dn]
    refine ⟨?_, ⟨b0, by rw [f66, i1, b1]; omega⟩, fun i hi => ?_, fun j hj => ?_, ?_⟩
    · rw [e66']
      exact Fr_trans F (Fr_trans (Fr_sA (by decide)) (Fr_trans (Fr_sA (by decide)) (Fr_trans (Fr_sF (by decide)) (Fr_sF (by decide)))))
    · rw [a75, a76, if_neg (by omega), if_neg (by omega)]
      exact old i hi
    · rw [a75, a76]
      by_cases ej : j = v5.toNatClampNeg - s.toNatClampNeg
      · rw [ej, pl, sv, if_pos rfl, if_pos rfl]
        exact ⟨rfl, rfl⟩
      · rw [if_neg (by omega), if_neg (by omega)]
        exact new j (by omega)
    · rw [show fi r66 35 = fi r 35 + Int32.ofNat (bn (ar rB 63 v5.toNatClampNeg)) by rw [e66']; rfl, sm, sB, sv, Int32.ofNat_add]
      clear ih hK old new F a75 a76
      grind
end ZMCOP
