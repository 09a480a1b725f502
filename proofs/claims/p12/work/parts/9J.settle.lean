/-! Settling what is wanted: safe. -/
section SETTLE
variable {a : L_} {r r' : S_} {rh ta : Int32 → Int32} {N : Int32}
/-- the class table's sizes -/
def KT (a : L_) (r : S_) : Prop := 0 ≤ fi r 2 ∧ fi r 2 ≤ 8 ∧ ln a 6 = 8 ∧ ln a 7 = 8 ∧ ln a 8 = 8 ∧ ln a 9 = 64 ∧ ln a 10 = 64 ∧ ln a 11 = 64
theorem slot_ok {x y : Int32} (x1 : 0 ≤ x) (x2 : x < 8) (y1 : 0 ≤ y) (y2 : y < 8) {K : Int32 → Prop} (hK : ∀ z, 0 ≤ z → z < 64 → z.toInt = 8 * x.toInt + y.toInt → K z) : qK_slot a r K x y := by
  have hx : x.toInt = 0 ∨ x.toInt = 1 ∨ x.toInt = 2 ∨ x.toInt = 3 ∨ x.toInt = 4 ∨ x.toInt = 5 ∨ x.toInt = 6 ∨ x.toInt = 7 := by
    rw [il] at x1
    rw [it] at x2
    simp at x1 x2
    omega
  rw [il] at y1
  rw [it] at y2
  simp at y1 y2
  have key : (x * 8 + y).toInt = 8 * x.toInt + y.toInt := by
    have k1 : (x * 8).toInt = x.toInt * 8 := by
      rw [Int32.toInt_mul]
      simp [Int.bmod]
      omega
    rw [i_add (by rw [k1]; omega) (by rw [k1]; omega), k1]
    omega
  unfold qK_slot
  refine hK _ ?_ ?_ key
  · rw [il, key]; simp; omega
  · rw [it, key]; simp; omega
theorem lowest_ok (h : KT a r) {K : Int32 → Prop} (hK : ∀ z, K z) {p0 : Int32} : qK_lowest a r K p0 := by
  obtain ⟨h1, h2, -, h3, -⟩ := h
  unfold qK_lowest
  have key : ∀ (n : Nat) (v1 v2 v3 : Int32), 0 ≤ v3 → v3 ≤ fi r 2 → (fi r 2).toInt - v3.toInt < n → qK_lowest_L4 a r (fun v1 v2 => K (v1 &&& (v2 ^^^ (-1)))) n v1 v2 v3 := by
    intro n
    induction n with
    | zero => intro v1 v2 v3 k1 k2 k3; rw [il] at k2; omega
    | succ n ih =>
      intro v1 v2 v3 k1 k2 k3
      rw [qK_lowest_L4]
      refine ⟨fun _ => hK _, fun g => ?_⟩
      have hlt : v3 < fi r 2 := Int32.not_le.mp g
      have hi := i_inc hlt
      have c1 : 0 ≤ v3 + 1 := by clear ih hK; grind
      have c2 : v3 + 1 ≤ fi r 2 := by clear ih hK; grind
      unfold qK_lowest_J35
      exact ⟨fun _ => ih _ _ _ c1 c2 (by omega), fun _ => ⟨vi2 k1 hlt (by rw [h3]; rw [il] at h2; simpa using h2), fun _ _ => ih _ _ _ c1 c2 (by omega)⟩⟩
  have c0 := i_nat h1
  exact ⟨(fi r 2).toNatClampNeg + 1, key _ _ _ _ (by decide) h1 (by simp; omega)⟩
theorem haveInst_ok (h : KT a r) {K : Int32 → Prop} (h0 : K 0) (h1 : K 1) {p0 p1 : Int32} (q1 : 0 ≤ p1) (q2 : p1 < 8) : qK_haveInstances a r K p0 p1 := by
  obtain ⟨k1, k2, -, -, -, k3, -⟩ := h
  unfold qK_haveInstances
  have key : ∀ (n : Nat) (v1 v3 : Int32), 0 ≤ v3 → v3 ≤ fi r 2 → (fi r 2).toInt - v3.toInt < n → qK_haveInstances_L2 a r (zb 0 ∧ K 0) (zb 1 ∧ K 1) n v1 p1 v3 := by
    intro n
    induction n with
    | zero => intro v1 v3 k1 k2 k3; rw [il] at k2; omega
    | succ n ih =>
      intro v1 v3 d1 d2 d3
      rw [qK_haveInstances_L2]
      refine ⟨fun _ => ⟨zb1, h1⟩, fun g => ?_⟩
      have hlt : v3 < fi r 2 := Int32.not_le.mp g
      have hi := i_inc hlt
      have c1 : 0 ≤ v3 + 1 := by clear ih; grind
      have c2 : v3 + 1 ≤ fi r 2 := by clear ih; grind
      have c3 : v3 < 8 := by clear ih; grind
      unfold qK_haveInstances_J34
      refine ⟨fun _ => ih _ _ c1 c2 (by omega), fun _ => slot_ok d1 c3 q1 q2 (fun z z1 z2 _ => ?_)⟩
      exact ⟨vi2 z1 z2 (by rw [k3]; decide), fun _ => ih _ _ c1 c2 (by omega), fun _ => ⟨zb0, h0⟩⟩
  have c0 := i_nat k1
  exact ⟨(fi r 2).toNatClampNeg + 1, key _ _ _ (by decide) k1 (by simp; omega)⟩
theorem joined_ok (h : KT a r) {m0 : Nat} (hm : m0 = 10 ∨ m0 = 11) {K : Int32 → Prop} (hK : ∀ z, K z) {p1 p2 : Int32} (q1 : 0 ≤ p2) (q2 : p2 < 8) : qK_joined a r m0 K p1 p2 := by
  have hl : ln a m0 = 64 := by
    rcases hm with e | e
    · rw [e]; exact h.2.2.2.2.2.2.1
    · rw [e]; exact h.2.2.2.2.2.2.2
  obtain ⟨k1, k2, -⟩ := h
  unfold qK_joined
  have key : ∀ (n : Nat) (v2 v4 v5 : Int32), 0 ≤ v5 → v5 ≤ fi r 2 → (fi r 2).toInt - v5.toInt < n → qK_joined_L6 a r m0 (fun v4 => K v4) n v2 p2 v4 v5 := by
    intro n
    induction n with
    | zero => intro v2 v4 v5 k1 k2 k3; rw [il] at k2; omega
    | succ n ih =>
      intro v2 v4 v5 d1 d2 d3
      rw [qK_joined_L6]
      refine ⟨fun _ => hK _, fun g => ?_⟩
      have hlt : v5 < fi r 2 := Int32.not_le.mp g
      have hi := i_inc hlt
      have c1 : 0 ≤ v5 + 1 := by clear ih hK; grind
      have c2 : v5 + 1 ≤ fi r 2 := by clear ih hK; grind
      have c3 : v5 < 8 := by clear ih hK; grind
      unfold qK_joined_J37
      refine ⟨fun _ => ih _ _ _ c1 c2 (by omega), fun _ => slot_ok d1 c3 q1 q2 (fun z z1 z2 _ => ?_)⟩
      exact ⟨vi2 z1 z2 (by rw [hl]; decide), ih _ _ _ c1 c2 (by omega)⟩
  have c0 := i_nat k1
  exact ⟨(fi r 2).toNatClampNeg + 1, key _ _ _ _ (by decide) k1 (by simp; omega)⟩
theorem bitCount_ok {K : Int32 → Prop} (hK : ∀ z, K z) {p0 : Int32} : qJ_bitCount a r K p0 := by
  unfold qJ_bitCount
  intros
  exact hK _
/-- what settling changes -/
abbrev Fst (r r' : S_) : Prop := Fr [6, 9, 10, 12, 13, 14] [22, 24, 25, 26, 27, 28, 29, 30, 31] r r'
/-- what each step of settling keeps: the graph with the walk's order -/
def SI (a : L_) (r : S_) (rh ta : Int32 → Int32) (N : Int32) : Prop := GI a r rh ta N ∧ VB r ∧ KT a r ∧ 0 ≤ fi r 12 ∧ (fi r 12).toInt ≤ (fi r 11).toInt ∧ ∀ k, 0 ≤ k → k < fi r 12 → 0 ≤ ar r 30 k.toNatClampNeg ∧ ar r 30 k.toNatClampNeg < fi r 11 ∧ ¬ ar r 21 (ar r 30 k.toNatClampNeg).toNatClampNeg = -2
/-- the graph is the same but for firsts of moved nodes -/
def Sm (r r' : S_) : Prop := Fst r r' ∧ FS (fi r 11) (ar r 21) (ar r 22) (ar r' 22)
theorem Sm_refl (r : S_) : Sm r r := ⟨Fr_refl r, fun _ _ _ _ => rfl⟩
theorem Sm_trans {r1 r2 r3 : S_} (w : Sm r1 r2) (w2 : Sm r2 r3) : Sm r1 r3 := by
  refine ⟨Fr_trans w.1 w2.1, fun x k1 k2 k3 => ?_⟩
  have e11 : fi r2 11 = fi r1 11 := w.1.1 11 (by decide)
  have e21 : ar r2 21 = ar r1 21 := w.1.2.1 21 (by decide)
  rw [w2.2 x k1 (by rw [e11]; exact k2) (by rw [e21]; exact k3), w.2 x k1 k2 k3]
theorem Sm_22 {f : Nat → Int32} (hf : FS (fi r 11) (ar r 21) (ar r 22) f) : Sm r (sA r 22 f) := ⟨Fr_sA (by decide), hf⟩
theorem Sm_A {k : Nat} {f : Nat → Int32} (h : k ∈ [24, 25, 26, 27, 28, 29, 30, 31]) : Sm r (sA r k f) := by
  refine ⟨Fr_sA (by simp at h ⊢; omega), fun x k1 k2 k3 => ?_⟩
  rw [ar_sA, if_neg (by simp at h; omega)]
theorem Sm_F {k : Nat} {v : Int32} (h : k ∈ [6, 9, 10, 12, 13, 14]) : Sm r (sF r k v) := ⟨Fr_sF h, fun _ _ _ _ => rfl⟩
theorem SI_A {k : Nat} {f : Nat → Int32} (w : SI a r rh ta N) (h : k ∈ [24, 25, 26, 27, 29]) : SI a (sA r k f) rh ta N := by
  simp at h
  rcases h with h | h | h | h | h <;> (subst h; exact w)
theorem SI_22 {f : Nat → Int32} (w : SI a r rh ta N) (h : GI a (sA r 22 f) rh ta N) : SI a (sA r 22 f) rh ta N := ⟨h, w.2⟩
theorem settleVariable_ok {p0 p1 : Int32} (w : SI a r rh ta N) (x1 : 0 ≤ p0) (x2 : p0 < fi r 11) {K : Int32 → S_ → Prop} (hK : ∀ z r', SI a r' rh ta N → Sm r r' → fi r' 12 = fi r 12 → ar r' 30 = ar r 30 → fi r' 13 = fi r 13 → K z r') : qY_settleVariable a K r p0 p1 := by
  have w1 := w.1
  have hl := w1.1
  have v24 : vp_in p0 (ln a 24) := vi2 x1 x2 (by rw [hl.2.2.1]; exact w1.2.2.1)
  have v25 : vp_in p0 (ln a 25) := vi2 x1 x2 (by rw [hl.2.2.2.1]; exact w1.2.2.1)
  have v26 : vp_in p0 (ln a 26) := vi2 x1 x2 (by rw [hl.2.2.2.2.1]; exact w1.2.2.1)
  have v27 : vp_in p0 (ln a 27) := vi2 x1 x2 (by rw [hl.2.2.2.2.2.1]; exact w1.2.2.1)
  unfold qY_settleVariable
  refine ⟨v26, fun _ => ⟨v27, fun _ => ⟨zb1, fun r5 e5 => ?_⟩, fun _ => ⟨v24, v24, fun r9 e9 => ?_⟩⟩, fun _ => lowest_ok w.2.2.1 (fun z => ⟨v25, fun r12 e12 => ⟨v25, bitCount_ok (fun z2 => ?_)⟩⟩)⟩
  · subst e5; exact hK _ _ w (Sm_F (by decide)) rfl rfl rfl
  · subst e9; exact hK _ _ (SI_A w (by decide)) (Sm_A (by decide)) rfl rfl rfl
  · subst e12; exact hK _ _ (SI_A w (by decide)) (Sm_A (by decide)) rfl rfl rfl
theorem handDown_ok {p0 p1 : Int32} (w : SI a r rh ta N) (x1 : 0 ≤ p0) (x2 : p0 < fi r 11) (x3 : 0 ≤ ar r 21 p0.toNatClampNeg) {K : S_ → Prop} (hK : ∀ r', SI a r' rh ta N → Sm r r' → fi r' 12 = fi r 12 → ar r' 30 = ar r 30 → fi r' 13 = fi r 13 → K r') : qY_handDown a K r p0 p1 := by
  have w1 := w.1
  have hl := w1.1
  have e29 := hl.2.2.2.2.2.2.2.1
  have n0 := w1.2.2.2.1 p0 x1 x2
  have j82 : ∀ (r2 : S_) (y : Int32), SI a r2 rh ta N → Sm r r2 → fi r2 12 = fi r 12 → ar r2 30 = ar r 30 → fi r2 13 = fi r 13 → -1 ≤ y → y < fi r 11 → qY_handDown_J82 a K r2 p1 (ar r 21 p0.toNatClampNeg) y := by
    intro r2 y q1 q2 q3 q4 q5 y1 y2
    have e11 : fi r2 11 = fi r 11 := q2.1.1 11 (by decide)
    unfold qY_handDown_J82
    refine ⟨fun _ => hK r2 q1 q2 q3 q4 q5, fun g => ?_⟩
    have y3 : 0 ≤ y := by clear hK w q1 q2; grind
    have v29 : vp_in y (ln a 29) := vi2 y3 (by rw [← e11] at y2; exact y2) (by rw [e29]; exact q1.1.2.2.1)
    refine ⟨v29, joined_ok q1.2.2.1 (Or.inr rfl) (fun z => ⟨v29, fun r13 e13 => ?_⟩) x3 n0.2.1⟩
    subst e13
    exact hK _ (SI_A q1 (by decide)) (Sm_trans q2 (Sm_A (by decide))) q3 q4 q5
  have j27 : ∀ (r1 : S_), SI a r1 rh ta N → Sm r r1 → fi r1 12 = fi r 12 → ar r1 30 = ar r 30 → fi r1 13 = fi r 13 → qY_handDown_J27 a K r1 p0 p1 (ar r 21 p0.toNatClampNeg) := by
    intro r1 q1 q2 q3 q4 q5
    have e11 : fi r1 11 = fi r 11 := q2.1.1 11 (by decide)
    have e23 : ar r1 23 = ar r 23 := q2.1.2.1 23 (by decide)
    have x2' : p0 < fi r1 11 := by rw [e11]; exact x2
    have n1 := q1.1.2.2.2.1 p0 x1 x2'
    unfold qY_handDown_J27
    have snd : ∀ (r2 : S_) (y : Int32), SI a r2 rh ta N → Sm r r2 → fi r2 12 = fi r 12 → ar r2 30 = ar r 30 → fi r2 13 = fi r 13 → -1 ≤ y → y < fi r 11 → qG_secondOf a (fun z6 r7 => ((y = (-1)) → qY_handDown_J82 a K r7 p1 (ar r 21 p0.toNatClampNeg) z6) ∧ ((¬ y = (-1)) → vp_in y (ln a 29) ∧ qK_joined a r7 10 (fun z15 => vp_in y (ln a 29) ∧ ∀ r17 : S_, r17 = sA r7 29 (upd (ar r7 29) y.toNatClampNeg ((ar r7 29 y.toNatClampNeg) ||| z15)) → qY_handDown_J82 a K r17 p1 (ar r 21 p0.toNatClampNeg) z6) p1 (ar r 21 p0.toNatClampNeg))) r2 p0 := by
      intro r2 y t1 t2 t3 t4 t5 y1 y2
      have f11 : fi r2 11 = fi r 11 := t2.1.1 11 (by decide)
      have x2'' : p0 < fi r2 11 := by rw [f11]; exact x2
      have n2 := t1.1.2.2.2.1 p0 x1 x2''
      have fin : ∀ (r3 : S_) (z6 : Int32), SI a r3 rh ta N → Sm r r3 → fi r3 12 = fi r 12 → ar r3 30 = ar r 30 → fi r3 13 = fi r 13 → -1 ≤ z6 → z6 < fi r 11 → ((y = (-1)) → qY_handDown_J82 a K r3 p1 (ar r 21 p0.toNatClampNeg) z6) ∧ ((¬ y = (-1)) → vp_in y (ln a 29) ∧ qK_joined a r3 10 (fun z15 => vp_in y (ln a 29) ∧ ∀ r17 : S_, r17 = sA r3 29 (upd (ar r3 29) y.toNatClampNeg ((ar r3 29 y.toNatClampNeg) ||| z15)) → qY_handDown_J82 a K r17 p1 (ar r 21 p0.toNatClampNeg) z6) p1 (ar r 21 p0.toNatClampNeg)) := by
        intro r3 z6 u1 u2 u3 u4 u5 z1 z2
        refine ⟨fun _ => j82 r3 z6 u1 u2 u3 u4 u5 z1 z2, fun g => ?_⟩
        have y3 : 0 ≤ y := by clear hK w q1 q2 t1 t2 u1 u2 j82; grind
        have g11 : fi r3 11 = fi r 11 := u2.1.1 11 (by decide)
        have v29 : vp_in y (ln a 29) := vi2 y3 y2 (by rw [e29]; exact w1.2.2.1)
        refine ⟨v29, joined_ok u1.2.2.1 (Or.inl rfl) (fun z => ⟨v29, fun r13 e13 => ?_⟩) x3 n0.2.1⟩
        subst e13
        exact j82 _ z6 (SI_A u1 (by decide)) (Sm_trans u2 (Sm_A (by decide))) u3 u4 u5 z1 z2
      refine secondOf_ok t1.1 x1 x2'' (fun _ => fin r2 (-1) t1 t2 t3 t4 t5 (by decide) (by clear hK w q1 q2 t1 t2 j82 fin; grind)) (fun g f k1 k2 => ?_)
      have m1 : 0 ≤ ar r2 23 p0.toNatClampNeg := by have := n2.2.2.2.2.1; clear hK w q1 q2 t1 t2 j82 fin k1 k2; grind
      have m2 := t1.1.2.2.2.2.1.2 _ m1 n2.2.2.2.2.2.1
      refine fin _ _ (SI_22 t1 k1) (Sm_trans t2 (Sm_22 k2)) t3 t4 t5 (by have := m2.1; clear hK w q1 q2 t1 t2 j82 fin k1 k2; grind) (by rw [← f11]; exact m2.2.1)
    refine firstOf_ok q1.1 x1 x2' (fun _ => snd r1 (-1) q1 q2 q3 q4 q5 (by decide) (by clear hK w q1 q2 j82 snd; grind)) (fun g f k1 k2 => ?_)
    have m1 : 0 ≤ ar r1 22 p0.toNatClampNeg := by have := n1.2.2.1; clear hK w q1 q2 j82 snd k1 k2; grind
    have m2 := q1.1.2.2.2.2.1.2 _ m1 n1.2.2.2.1
    exact snd _ _ (SI_22 q1 k1) (Sm_trans q2 (Sm_22 k2)) q3 q4 q5 (by have := m2.1; clear hK w q1 q2 j82 snd k1 k2; grind) (by rw [← e11]; exact m2.2.1)
  unfold qY_handDown
  refine ⟨vi2 x1 x2 w1.2.2.1, haveInst_ok w.2.2.1 (fun _ => ⟨fun z => absurd rfl z, fun _ => ⟨zb1, fun r18 e18 => ?_⟩⟩) (fun _ => ⟨fun _ => j27 r w (Sm_refl r) rfl rfl rfl, fun z => absurd z (by decide)⟩) x3 n0.2.1⟩
  subst e18
  exact j27 _ w (Sm_F (by decide)) rfl rfl rfl
end SETTLE
