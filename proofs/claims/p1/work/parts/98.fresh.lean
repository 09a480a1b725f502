/-! One call on fresh objects: what the law's body needs there. -/
section FRESH
theorem vi5 : vp_in (0 : Int32) 5 ∧ vp_in (0 + 1 : Int32) 5 ∧ vp_in (0 + 2 : Int32) 5 ∧ vp_in (0 + 3 : Int32) 5 ∧ vp_in (0 + 4 : Int32) 5 := by unfold vp_in; decide
def KJ (adf : Nat → Nat) (xs : Nat → Int32) (r : S_) : Prop := q_law_J577 (adf, ln0) 5 xs (q_law_L18 (adf, ln0) 5 xs (fun _ => True) 1) (fun _ => True) r 0
theorem fin5 (adf : Nat → Nat) (xs : Nat → Int32) (r : S_) : KJ adf xs r := by
  unfold KJ q_law_J577
  rw [q_law_L18]
  exact ⟨fun _ => trivial, fun h => absurd (by decide) h⟩
theorem nlt {x y : Int32} (h : ¬ x < y) : y ≤ x := by rw [← Int32.not_lt]; exact h
theorem nle {x y : Int32} (h : ¬ x ≤ y) : y < x := by rw [← Int32.not_le]; exact h
theorem lel {x y : Int32} (h : x ≤ y) : ¬ y < x := by rw [Int32.not_lt]; exact h
/-- the search in an empty table -/
theorem srch0 {adf : Nat → Nat} {K : Int32 → Prop} {p0 p1 p2 : Int32} (h : K (-1)) : qT_search (adf, ln0) r0 K p0 p1 p2 := by
  refine ⟨1, ?_⟩
  rw [qT_search_L3]
  exact ⟨fun _ => h, fun hn => absurd (by decide) hn⟩
theorem keep0 {a : L_} {K1 : S_ → Int32 → Prop} {K2 : S_ → Int32 → Int32 → Int32 → Int32 → Prop} {r : S_} {p0 p1 p2 p3 : Int32} (hr : fi r 22 = 0) (h : K2 r p0 p1 p2 p3) : ∃ n, qM_keepType_L3 a K1 K2 n r p0 p1 p2 p3 0 := by
  refine ⟨1, ?_⟩
  rw [qM_keepType_L3]
  exact ⟨fun _ => h, fun hn => absurd (by rw [hr]; decide) hn⟩
theorem srch0' {adf : Nat → Nat} {K : Int32 → Prop} {p0 p1 p2 : Int32} : qT_search (adf, ln0) r0 K p0 p1 p2 ↔ K (-1) := by
  refine ⟨fun ⟨n, h⟩ => ?_, srch0⟩
  cases n with
  | zero => rw [qT_search_L3] at h; exact h.elim
  | succ n => rw [qT_search_L3] at h; exact h.1 (by decide)
theorem keep0' {a : L_} {K1 : S_ → Int32 → Prop} {K2 : S_ → Int32 → Int32 → Int32 → Int32 → Prop} {r : S_} {p0 p1 p2 p3 : Int32} (hr : fi r 22 = 0) : (∃ n, qM_keepType_L3 a K1 K2 n r p0 p1 p2 p3 0) ↔ K2 r p0 p1 p2 p3 := by
  refine ⟨fun ⟨n, h⟩ => ?_, keep0 hr⟩
  cases n with
  | zero => rw [qM_keepType_L3] at h; exact h.elim
  | succ n => rw [qM_keepType_L3] at h; exact h.1 (by rw [hr]; decide)
theorem s22 {r : S_} (h : fi r 22 = 0) : fi (sF r 20 0) 22 = 0 := by simpa [fi, sF] using h
theorem z01 {x : Int32} (h1 : ¬ x < 0) (h2 : ¬ 1 ≤ x) : x = 0 := by
  rw [Int32.lt_iff_toInt_lt] at h1
  rw [Int32.le_iff_toInt_le] at h2
  apply Int32.toInt_inj.mp
  simp at h1 h2 ⊢
  omega
theorem g01 {x : Int32} (h2 : 1 ≤ x) : 0 < x := by
  rw [Int32.le_iff_toInt_le] at h2
  rw [Int32.lt_iff_toInt_lt]
  simp at h2 ⊢
  omega
theorem m1l {x : Int32} (h : ¬ x < 0) : (-1) < x := by
  have h4 := nlt h
  rw [Int32.le_iff_toInt_le] at h4
  rw [Int32.lt_iff_toInt_lt]
  simp at h4 ⊢
  omega
theorem l78 {x : Int32} (h2 : x < 8) : ¬ 7 < x := by
  intro h
  rw [Int32.lt_iff_toInt_lt] at h h2
  simp at h h2
  omega
theorem g78 {x : Int32} (h2 : ¬ x < 8) : 7 < x := by
  have h4 := nlt h2
  rw [Int32.le_iff_toInt_le] at h4
  rw [Int32.lt_iff_toInt_lt]
  simp at h4 ⊢
  omega
theorem l15 {x : Int32} (h2 : ¬ 16 ≤ x) : ¬ 15 < x := by
  intro h
  rw [Int32.lt_iff_toInt_lt] at h
  rw [Int32.le_iff_toInt_le] at h2
  simp at h h2
  omega
theorem g15 {x : Int32} (h2 : 16 ≤ x) : 15 < x := by
  rw [Int32.le_iff_toInt_le] at h2
  rw [Int32.lt_iff_toInt_lt]
  simp at h2 ⊢
  omega
theorem ng {x y : Int32} (h : y < x) : ¬ x ≤ y := by rw [Int32.not_le]; exact h
theorem zb0 : zb 0 := Or.inl rfl
theorem zb1 : zb 1 := Or.inr rfl
theorem nE {a : L_} {r : S_} {K : Int32 → Prop} {x : Int32} (h : fi r 25 = 0) (hK : K 0) : qM_isExpression a r K x := by
  unfold qM_isExpression
  rw [h]
  exact ⟨fun _ => ⟨zb0, hK⟩, fun h1 => ⟨fun _ => ⟨zb0, hK⟩, fun h2 => absurd (nlt h1) h2⟩⟩
theorem nCl {a : L_} {r : S_} {K : Int32 → Prop} {x : Int32} (h : fi r 23 = 0) (hK : K 0) : qM_isClass a r K x := by
  unfold qM_isClass
  rw [h]
  exact ⟨fun _ => ⟨zb0, hK⟩, fun h1 => ⟨fun _ => ⟨zb0, hK⟩, fun h2 => absurd (nlt h1) h2⟩⟩
theorem nIn {a : L_} {r : S_} {K : Int32 → Prop} {x : Int32} (h : fi r 22 = 0) (hK : K 0) : qM_in a r K x 0 (fi r 22 - 1) := by
  unfold qM_in
  rw [h]
  exact ⟨fun _ => ⟨zb0, hK⟩, fun h1 => ⟨fun _ => ⟨zb0, hK⟩, fun h2 => absurd (m1l h1) h2⟩⟩
theorem inB {a : L_} {r : S_} {K : Int32 → Prop} {x lo hi : Int32} (h0 : K 0) (h1 : K 1) : qM_in a r K x lo hi := by
  unfold qM_in
  exact ⟨fun _ => ⟨zb0, h0⟩, fun _ => ⟨fun _ => ⟨zb0, h0⟩, fun _ => ⟨zb1, h1⟩⟩⟩
theorem nameB {a : L_} {r : S_} {K : Int32 → Prop} {x : Int32} (h0 : K 0) (h1 : K 1) : qI_isName a r K x := by
  unfold qI_isName
  exact ⟨fun _ => ⟨zb0, h0⟩, fun _ => ⟨fun _ => ⟨zb0, h0⟩, fun _ => ⟨zb1, h1⟩⟩⟩
theorem xE {a : L_} {K : Int32 → Prop} {x : Int32} (hK : K 0) : qE_has a r0 K x := by
  unfold qE_has
  exact ⟨fun _ => ⟨zb0, hK⟩, fun h1 => ⟨fun _ => ⟨zb0, hK⟩, fun h2 => absurd (nlt h1) h2⟩⟩
theorem xC {a : L_} {K : Int32 → Prop} {x : Int32} (hK : K 0) : qK_hasClass a r0 K x := by
  unfold qK_hasClass
  exact ⟨fun _ => ⟨zb0, hK⟩, fun h1 => ⟨fun _ => ⟨zb0, hK⟩, fun h2 => absurd (nlt h1) h2⟩⟩
theorem xT {a : L_} {K : Int32 → Prop} {x : Int32} (hK : K 0) : qT_hasType a r0 K x := by
  unfold qT_hasType
  exact ⟨fun _ => ⟨zb0, hK⟩, fun h1 => ⟨fun _ => ⟨zb0, hK⟩, fun h2 => absurd (nlt h1) h2⟩⟩
section ME
variable {a : L_} {K : Int32 → S_ → Prop} {r : S_} {v1 v2 v3 v4 : Int32}
theorem m140 (hK : K (-1) r) : qM_expression_J140 a K r v1 v2 v3 v4 := by
  unfold qM_expression_J140 qM_expression_J141
  exact ⟨fun h => absurd rfl h, fun _ => hK⟩
theorem m117 (h2 : fi r 22 = 0) (hK : K (-1) r) : qM_expression_J117 a K r v1 v2 v3 v4 := by
  unfold qM_expression_J117
  exact ⟨fun _ => m140 hK, fun _ => nIn h2 (fun _ => ⟨fun _ => m140 hK, fun h => absurd rfl h⟩)⟩
theorem m95 (h2 : fi r 22 = 0) (h3 : fi r 23 = 0) (hK : K (-1) r) : qM_expression_J95 a K r v1 v2 v3 v4 := by
  unfold qM_expression_J95
  exact ⟨fun _ => m117 h2 hK, fun _ => nCl h3 (fun _ => ⟨fun _ => m117 h2 hK, fun h => absurd rfl h⟩)⟩
theorem m63 (h2 : fi r 22 = 0) (h3 : fi r 23 = 0) (h5 : fi r 25 = 0) (hK : K (-1) r) : qM_expression_J63 a K r v1 v2 v3 v4 := by
  unfold qM_expression_J63
  exact ⟨fun _ => m95 h2 h3 hK, fun _ => inB (fun _ => ⟨fun _ => m95 h2 h3 hK, fun h => absurd rfl h⟩) (fun _ => ⟨fun h => absurd h (by decide), fun _ => nE h5 (fun _ => ⟨fun _ => m95 h2 h3 hK, fun h => absurd rfl h⟩)⟩)⟩
theorem m42 (h2 : fi r 22 = 0) (h3 : fi r 23 = 0) (h5 : fi r 25 = 0) (hK : K (-1) r) : qM_expression_J42 a K r v1 v2 v3 v4 := by
  unfold qM_expression_J42
  exact ⟨fun _ => m63 h2 h3 h5 hK, fun _ => nE h5 (fun _ => ⟨fun _ => m63 h2 h3 h5 hK, fun h => absurd rfl h⟩)⟩
theorem m19 (h2 : fi r 22 = 0) (h3 : fi r 23 = 0) (h5 : fi r 25 = 0) (hK : K (-1) r) : qM_expression_J19 a K r v1 v2 v3 v4 := by
  unfold qM_expression_J19
  exact ⟨fun _ => m42 h2 h3 h5 hK, fun _ => inB (fun _ => ⟨fun _ => m42 h2 h3 h5 hK, fun h => absurd rfl h⟩) (fun _ => ⟨fun h => absurd h (by decide), fun _ => nE h5 (fun _ => ⟨fun h => absurd rfl h, fun _ => m42 h2 h3 h5 hK⟩)⟩)⟩
end ME

set_option maxHeartbeats 4000000 in
theorem op_constructor (adf : Nat → Nat) (Kf : S_ → Prop) (hK : ∀ r, Kf r) (x1 : Int32) : qI_constructor (adf, ln0) (fun z r5 => vp_in (0 + 1) 5 ∧ qM_constructor (adf, ln0) (fun z7 r8 => (z = z7 → Kf r8) ∧ (¬ z = z7 → (0 : Int32) = (1 : Int32))) r5 x1) r0 x1 := by
  unfold qI_constructor qT_addConstructor qM_constructor qM_in
  by_cases h1 : x1 < 0
  · simp [h1, zb, hK, fi, ar, sF, sA, r0, r0F, r0A, ln, ln0, vi5, vp_in]
  · by_cases h2 : x1 ≤ 2
    · simp [h1, h2, lel h2, zb, hK, fi, ar, sF, sA, r0, r0F, r0A, ln, ln0, vi5, vp_in]
    · simp [h1, h2, nle h2, zb, hK, fi, ar, sF, sA, r0, r0F, r0A, ln, ln0, vi5, vp_in]
set_option maxHeartbeats 4000000 in
theorem op_variable (adf : Nat → Nat) (Kf : S_ → Prop) (hK : ∀ r, Kf r) (x1 : Int32) : qI_variable (adf, ln0) (fun z r5 => vp_in (0 + 1) 5 ∧ qM_variable (adf, ln0) (fun z7 r8 => (z = z7 → Kf r8) ∧ (¬ z = z7 → (0 : Int32) = (1 : Int32))) r5 x1) r0 x1 := by
  unfold qI_variable
  by_cases h1 : x1 < 0
  · unfold qM_variable qM_in
    simp [h1, zb, hK, fi, ar, sF, sA, r0, r0F, r0A, ln, ln0, vi5, vp_in]
  · by_cases h2 : x1 < 8
    · unfold qT_addVariable
      simp only [srch0']
      unfold qT_keep qM_variable qM_in qM_keepType
      simp only [h1, h2, l78 h2, not_false_eq_true, forall_const, false_implies, true_and, and_true, not_true_eq_false, forall_eq, implies_true]
      simp [keep0', zb, hK, fi, ar, sF, sA, r0, r0F, r0A, ln, ln0, vi5, vp_in]
    · unfold qM_variable qM_in
      simp [h1, h2, g78 h2, zb, hK, fi, ar, sF, sA, r0, r0F, r0A, ln, ln0, vi5, vp_in]
set_option maxHeartbeats 4000000 in
theorem op_type (adf : Nat → Nat) (Kf : S_ → Prop) (hK : ∀ r, Kf r) (x1 x2 x3 : Int32) : qI_type (adf, ln0) (fun z r5 => vp_in (0 + 1) 5 ∧ vp_in (0 + 2) 5 ∧ vp_in (0 + 3) 5 ∧ qM_type (adf, ln0) (fun z7 r8 => (z = z7 → Kf r8) ∧ (¬ z = z7 → (0 : Int32) = (1 : Int32))) r5 x1 x2 x3) r0 x1 x2 x3 := by
  unfold qI_type qT_hasConstructor qM_type qM_in
  by_cases h1 : x1 < 0
  · simp [h1, zb, hK, fi, ar, sF, sA, r0, r0F, r0A, ln, ln0, vi5, vp_in]
  · by_cases h2 : 1 ≤ x1
    · simp [h1, h2, g01 h2, ng (g01 h2), zb, hK, fi, ar, sF, sA, r0, r0F, r0A, ln, ln0, vi5, vp_in]
    · have h3 := z01 h1 h2
      subst h3
      unfold qT_partsOf qT_hasType
      by_cases h4 : x2 < 0
      · simp [h4, upd, zb, hK, fi, ar, sF, sA, r0, r0F, r0A, ln, ln0, vi5, vp_in]
      · simp [h4, nlt h4, m1l h4, ng (m1l h4), upd, zb, hK, fi, ar, sF, sA, r0, r0F, r0A, ln, ln0, vi5, vp_in]
set_option maxHeartbeats 4000000 in
theorem op_class0 (adf : Nat → Nat) (Kf : S_ → Prop) (hK : ∀ r, Kf r) (x1 : Int32) : qI_class0 (adf, ln0) (fun z r5 => vp_in (0 + 1) 5 ∧ qM_class0 (adf, ln0) (fun z7 r8 => (z = z7 → Kf r8) ∧ (¬ z = z7 → (0 : Int32) = (1 : Int32))) r5 x1) r0 x1 := by
  unfold qI_class0 qM_class0 qK_hasClass qM_isClass qI_class0_J18 qM_class0_J20 qK_addClass qK_addClass_J51
  by_cases h1 : x1 = -1
  · subst h1
    simp [zb, hK, fi, ar, sF, sA, r0, r0F, r0A, ln, ln0, vi5, vp_in]
  · by_cases h2 : x1 < 0
    · simp [h1, h2, zb, hK, fi, ar, sF, sA, r0, r0F, r0A, ln, ln0, vi5, vp_in]
    · simp [h1, h2, nlt h2, zb, hK, fi, ar, sF, sA, r0, r0F, r0A, ln, ln0, vi5, vp_in]
set_option maxHeartbeats 4000000 in
theorem op_method (adf : Nat → Nat) (Kf : S_ → Prop) (hK : ∀ r, Kf r) (x1 x2 : Int32) : qI_method (adf, ln0) (fun z r5 => vp_in (0 + 1) 5 ∧ vp_in (0 + 2) 5 ∧ qM_method (adf, ln0) (fun z7 r8 => (z = z7 → Kf r8) ∧ (¬ z = z7 → (0 : Int32) = (1 : Int32))) r5 x1 x2) r0 x1 x2 := by
  unfold qI_method qM_method qK_hasClass qM_isClass
  by_cases h2 : x1 < 0
  · simp [h2, zb, hK, fi, ar, sF, sA, r0, r0F, r0A, ln, ln0, vi5, vp_in]
  · simp [h2, nlt h2, zb, hK, fi, ar, sF, sA, r0, r0F, r0A, ln, ln0, vi5, vp_in]
set_option maxHeartbeats 4000000 in
theorem op_instance (adf : Nat → Nat) (Kf : S_ → Prop) (hK : ∀ r, Kf r) (x1 x2 x3 x4 : Int32) : qI_instance (adf, ln0) (fun z r5 => vp_in (0 + 1) 5 ∧ vp_in (0 + 2) 5 ∧ vp_in (0 + 3) 5 ∧ vp_in (0 + 4) 5 ∧ qM_instance (adf, ln0) (fun z7 r8 => (z = z7 → Kf r8) ∧ (¬ z = z7 → (0 : Int32) = (1 : Int32))) r5 x1 x2 x3 x4) r0 x1 x2 x3 x4 := by
  unfold qI_instance qM_instance qK_hasClass qM_isClass
  by_cases h2 : x1 < 0
  · simp [h2, zb, hK, fi, ar, sF, sA, r0, r0F, r0A, ln, ln0, vi5, vp_in]
  · simp [h2, nlt h2, zb, hK, fi, ar, sF, sA, r0, r0F, r0A, ln, ln0, vi5, vp_in]
set_option maxHeartbeats 4000000 in
theorem op_expression (adf : Nat → Nat) (Kf : S_ → Prop) (hK : ∀ r, Kf r) (x1 x2 x3 x4 : Int32) : qI_expression (adf, ln0) (fun z r5 => vp_in (0 + 1) 5 ∧ vp_in (0 + 2) 5 ∧ vp_in (0 + 3) 5 ∧ vp_in (0 + 4) 5 ∧ qM_expression (adf, ln0) (fun z7 r8 => (z = z7 → Kf r8) ∧ (¬ z = z7 → (0 : Int32) = (1 : Int32))) r5 x1 x2 x3 x4) r0 x1 x2 x3 x4 := by
  by_cases k0 : x1 = 0
  · subst k0
    unfold qI_expression qI_mayStand qI_isName qM_expression
    by_cases h1 : x2 < 0
    · unfold qM_expression_J19 qM_expression_J42 qM_expression_J63 qM_expression_J95 qM_expression_J117 qM_expression_J140 qM_expression_J141 qM_in
      simp [h1, zb, hK, fi, ar, sF, sA, r0, r0F, r0A, ln, ln0, vi5, vp_in]
    · by_cases h2 : 16 ≤ x2
      · unfold qM_expression_J19 qM_expression_J42 qM_expression_J63 qM_expression_J95 qM_expression_J117 qM_expression_J140 qM_expression_J141 qM_in
        simp [h1, h2, g15 h2, zb, hK, fi, ar, sF, sA, r0, r0F, r0A, ln, ln0, vi5, vp_in]
      · unfold qE_add qE_nodesOfParts qM_expression_J136 qM_expression_J141 qM_expression_J270 qM_expression_J290 qM_in
        simp [h1, h2, l15 h2, upd, zb, hK, fi, ar, sF, sA, r0, r0F, r0A, ln, ln0, vi5, vp_in]
  · have hm : ∀ (K : Int32 → Prop), zb 0 ∧ K 0 → qI_mayStand (adf, ln0) r0 K x1 x2 x3 x4 := by
      intro K hz
      unfold qI_mayStand
      have hE : ∀ {K' : Int32 → Prop} {x : Int32}, K' 0 → qE_has (adf, ln0) r0 K' x := fun h => xE h
      refine ⟨fun h => absurd h k0, fun _ => ?_, fun _ => ?_, fun _ => ?_, fun _ => ?_, fun _ => ?_, fun _ => hz⟩
      · exact nameB (fun _ => ⟨fun _ => hz, fun h => absurd rfl h⟩) (fun _ => ⟨fun _ => hz, fun _ => xE (fun _ => ⟨fun _ => hz, fun h => absurd rfl h⟩)⟩)
      · exact xE (fun _ => ⟨fun _ => hz, fun h => absurd rfl h⟩)
      · exact nameB (fun _ => ⟨fun _ => hz, fun h => absurd rfl h⟩) (fun _ => ⟨fun _ => hz, fun _ => xE (fun _ => ⟨fun _ => hz, fun h => absurd rfl h⟩)⟩)
      · exact xC (fun _ => ⟨fun _ => hz, fun h => absurd rfl h⟩)
      · exact xT (fun _ => ⟨zb0, hz.2⟩)
    unfold qI_expression
    refine hm _ ⟨zb0, fun _ => ⟨fun h => absurd rfl h, fun _ => ?_⟩⟩
    refine ⟨vi5.2.1, vi5.2.2.1, vi5.2.2.2.1, vi5.2.2.2.2, ?_⟩
    unfold qM_expression
    intro r1 e1
    subst e1
    refine ⟨fun _ => m19 rfl rfl rfl ⟨fun _ => hK _, fun h => absurd rfl h⟩, fun h => absurd h k0⟩
set_option maxHeartbeats 4000000 in
theorem op_infer (adf : Nat → Nat) (Kf : S_ → Prop) (hK : ∀ r, Kf r) (x1 : Int32) : qI_infer0 (adf, ln0) r0 (fun z => vp_in (0 + 1) 5 ∧ qM_infer (adf, ln0) (fun z7 r8 => (z = z7 → Kf r8) ∧ (¬ z = z7 → (0 : Int32) = (1 : Int32))) r0 x1) x1 := by
  unfold qI_infer0 qE_has qM_infer qM_isExpression
  by_cases h1 : x1 < 0
  · simp [h1, zb, hK, fi, ar, sF, sA, r0, r0F, r0A, ln, ln0, vi5, vp_in]
  · simp [h1, nlt h1, zb, hK, fi, ar, sF, sA, r0, r0F, r0A, ln, ln0, vi5, vp_in]
set_option maxHeartbeats 4000000 in
theorem op_shape (adf : Nat → Nat) (Kf : S_ → Prop) (hK : ∀ r, Kf r) (x1 : Int32) : qI_shape (adf, ln0) r0 (fun z => vp_in (0 + 1) 5 ∧ qM_shape (adf, ln0) (fun z7 r8 => (z = z7 → Kf r8) ∧ (¬ z = z7 → (0 : Int32) = (1 : Int32))) r0 x1) x1 := by
  unfold qI_shape qD_headAt qM_shape qM_hasLast
  by_cases h1 : x1 < 0
  · simp [h1, zb, hK, fi, ar, sF, sA, r0, r0F, r0A, ln, ln0, vi5, vp_in]
  · simp [h1, zb, hK, fi, ar, sF, sA, r0, r0F, r0A, ln, ln0, vi5, vp_in]
set_option maxHeartbeats 4000000 in
theorem op_wants (adf : Nat → Nat) (Kf : S_ → Prop) (hK : ∀ r, Kf r) : qI_wants (adf, ln0) r0 (fun z => qM_wants (adf, ln0) (fun z7 r8 => (z = z7 → Kf r8) ∧ (¬ z = z7 → (0 : Int32) = (1 : Int32))) r0 ) := by
  unfold qI_wants qD_wantCount qM_wants
  simp [zb, hK, fi, ar, sF, sA, r0, r0F, r0A, ln, ln0, vi5, vp_in]
set_option maxHeartbeats 4000000 in
theorem op_want (adf : Nat → Nat) (Kf : S_ → Prop) (hK : ∀ r, Kf r) (x1 x2 : Int32) : qI_want (adf, ln0) r0 (fun z => vp_in (0 + 1) 5 ∧ vp_in (0 + 2) 5 ∧ qM_want (adf, ln0) (fun z7 r8 => (z = z7 → Kf r8) ∧ (¬ z = z7 → (0 : Int32) = (1 : Int32))) r0 x1 x2) x1 x2 := by
  unfold qI_want qD_wantCount qM_want qM_in qM_want_J28
  by_cases h1 : x1 < 0
  · simp [h1, zb, hK, fi, ar, sF, sA, r0, r0F, r0A, ln, ln0, vi5, vp_in]
  · have h3 : (-1) < x1 := by
      have h4 := nlt h1
      rw [Int32.le_iff_toInt_le] at h4
      rw [Int32.lt_iff_toInt_lt]
      simp at h4 ⊢
      omega
    have h5 : ¬ x1 ≤ -1 := by rw [Int32.not_le]; exact h3
    simp [h1, nlt h1, h3, h5, zb, hK, fi, ar, sF, sA, r0, r0F, r0A, ln, ln0, vi5, vp_in]
set_option maxHeartbeats 4000000 in
theorem op_passes (adf : Nat → Nat) (Kf : S_ → Prop) (hK : ∀ r, Kf r) : qI_passes (adf, ln0) r0 (fun z => qM_passes (adf, ln0) (fun z7 r8 => (z = z7 → Kf r8) ∧ (¬ z = z7 → (0 : Int32) = (1 : Int32))) r0 ) := by
  unfold qI_passes qD_handedOver qM_passes
  simp [zb, hK, fi, ar, sF, sA, r0, r0F, r0A, ln, ln0, vi5, vp_in]
set_option maxHeartbeats 4000000 in
theorem op_is (adf : Nat → Nat) (Kf : S_ → Prop) (hK : ∀ r, Kf r) (x1 x2 : Int32) : qI_is0 (adf, ln0) r0 (fun z => vp_in (0 + 1) 5 ∧ vp_in (0 + 2) 5 ∧ qM_is (adf, ln0) (fun z7 r8 => (z = z7 → Kf r8) ∧ (¬ z = z7 → (0 : Int32) = (1 : Int32))) r0 x1 x2) x1 x2 := by
  unfold qI_is0 qM_is qK_hasClass qM_isClass
  by_cases h2 : x1 < 0
  · simp [h2, zb, hK, fi, ar, sF, sA, r0, r0F, r0A, ln, ln0, vi5, vp_in]
  · simp [h2, nlt h2, zb, hK, fi, ar, sF, sA, r0, r0F, r0A, ln, ln0, vi5, vp_in]
set_option maxHeartbeats 4000000 in
theorem op_under (adf : Nat → Nat) (Kf : S_ → Prop) (hK : ∀ r, Kf r) (x1 x2 : Int32) : qI_under (adf, ln0) r0 (fun z => vp_in (0 + 1) 5 ∧ vp_in (0 + 2) 5 ∧ qM_under (adf, ln0) (fun z7 r8 => (z = z7 → Kf r8) ∧ (¬ z = z7 → (0 : Int32) = (1 : Int32))) r0 x1 x2) x1 x2 := by
  unfold qI_under qM_under qK_hasClass qM_isClass qM_under_J21
  by_cases h2 : x1 < 0
  · simp [h2, zb, hK, fi, ar, sF, sA, r0, r0F, r0A, ln, ln0, vi5, vp_in]
  · simp [h2, nlt h2, zb, hK, fi, ar, sF, sA, r0, r0F, r0A, ln, ln0, vi5, vp_in]
set_option maxHeartbeats 4000000 in
theorem op_types (adf : Nat → Nat) (Kf : S_ → Prop) (hK : ∀ r, Kf r) : qI_types (adf, ln0) r0 (fun z => qM_types (adf, ln0) (fun z7 r8 => (z = z7 → Kf r8) ∧ (¬ z = z7 → (0 : Int32) = (1 : Int32))) r0 ) := by
  unfold qI_types qM_types
  simp [zb, hK, fi, ar, sF, sA, r0, r0F, r0A, ln, ln0, vi5, vp_in]
set_option maxHeartbeats 4000000 in
theorem op_classes (adf : Nat → Nat) (Kf : S_ → Prop) (hK : ∀ r, Kf r) : qI_classes (adf, ln0) r0 (fun z => qM_classes (adf, ln0) (fun z7 r8 => (z = z7 → Kf r8) ∧ (¬ z = z7 → (0 : Int32) = (1 : Int32))) r0 ) := by
  unfold qI_classes qM_classes
  simp [zb, hK, fi, ar, sF, sA, r0, r0F, r0A, ln, ln0, vi5, vp_in]
set_option maxHeartbeats 4000000 in
theorem op_expressions (adf : Nat → Nat) (Kf : S_ → Prop) (hK : ∀ r, Kf r) : qI_expressions (adf, ln0) r0 (fun z => qM_expressions (adf, ln0) (fun z7 r8 => (z = z7 → Kf r8) ∧ (¬ z = z7 → (0 : Int32) = (1 : Int32))) r0 ) := by
  unfold qI_expressions qM_expressions
  simp [zb, hK, fi, ar, sF, sA, r0, r0F, r0A, ln, ln0, vi5, vp_in]
theorem pure5 (adf : Nat → Nat) (xs : Nat → Int32) : ∃ n : Nat, q_law_L18 (adf, ln0) 5 xs (fun _ => True) n r0 0 := by
  refine ⟨2, ?_⟩
  rw [q_law_L18]
  refine ⟨fun _ => trivial, fun _ => ⟨vi5.1, ?_, ?_, ?_, ?_, ?_, ?_, ?_, ?_, ?_, ?_, ?_, ?_, ?_, ?_, ?_, ?_, ?_, ?_⟩⟩
  · intro _
    exact ⟨vi5.2.1, op_constructor adf (KJ adf xs) (fin5 adf xs) _⟩
  · intro _
    exact ⟨vi5.2.1, op_variable adf (KJ adf xs) (fin5 adf xs) _⟩
  · intro _
    exact ⟨vi5.2.1, vi5.2.2.1, vi5.2.2.2.1, op_type adf (KJ adf xs) (fin5 adf xs) _ _ _⟩
  · intro _
    exact ⟨vi5.2.1, op_class0 adf (KJ adf xs) (fin5 adf xs) _⟩
  · intro _
    exact ⟨vi5.2.1, vi5.2.2.1, op_method adf (KJ adf xs) (fin5 adf xs) _ _⟩
  · intro _
    exact ⟨vi5.2.1, vi5.2.2.1, vi5.2.2.2.1, vi5.2.2.2.2, op_instance adf (KJ adf xs) (fin5 adf xs) _ _ _ _⟩
  · intro _
    exact ⟨vi5.2.1, vi5.2.2.1, vi5.2.2.2.1, vi5.2.2.2.2, op_expression adf (KJ adf xs) (fin5 adf xs) _ _ _ _⟩
  · intro _
    exact ⟨vi5.2.1, op_infer adf (KJ adf xs) (fin5 adf xs) _⟩
  · intro _
    exact ⟨vi5.2.1, op_shape adf (KJ adf xs) (fin5 adf xs) _⟩
  · intro _
    exact op_wants adf (KJ adf xs) (fin5 adf xs)
  · intro _
    exact ⟨vi5.2.1, vi5.2.2.1, op_want adf (KJ adf xs) (fin5 adf xs) _ _⟩
  · intro _
    exact op_passes adf (KJ adf xs) (fin5 adf xs)
  · intro _
    exact ⟨vi5.2.1, vi5.2.2.1, op_is adf (KJ adf xs) (fin5 adf xs) _ _⟩
  · intro _
    exact ⟨vi5.2.1, vi5.2.2.1, op_under adf (KJ adf xs) (fin5 adf xs) _ _⟩
  · intro _
    exact op_types adf (KJ adf xs) (fin5 adf xs)
  · intro _
    exact op_classes adf (KJ adf xs) (fin5 adf xs)
  · intro _
    exact op_expressions adf (KJ adf xs) (fin5 adf xs)
  · intro _
    exact fin5 adf xs r0
theorem pureN (L : Nat) (hL : L ≤ 5) (adf : Nat → Nat) (xs : Nat → Int32) : ∃ n : Nat, q_law_L18 (adf, ln0) L xs (fun _ => True) n r0 0 := by
  by_cases h5 : L = 5
  · subst h5
    exact pure5 adf xs
  · refine ⟨1, ?_⟩
    rw [q_law_L18]
    have h : L = 0 ∨ L = 1 ∨ L = 2 ∨ L = 3 ∨ L = 4 := by omega
    rcases h with rfl | rfl | rfl | rfl | rfl <;> exact ⟨fun _ => trivial, fun h => absurd (by decide) h⟩
end FRESH
