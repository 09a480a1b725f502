/-! One call on fresh objects: what the law's body needs there. -/
section FRESH
theorem vi5 : vp_in (0 : Int32) 5 ∧ vp_in (0 + 1 : Int32) 5 ∧ vp_in (0 + 2 : Int32) 5 ∧ vp_in (0 + 3 : Int32) 5 ∧ vp_in (0 + 4 : Int32) 5 := by unfold vp_in; decide
theorem fin5 (a : L_) (xs : Nat → Int32) (r : S_) : q_law_J577 a 5 xs (q_law_L18 a 5 xs (fun _ => True) 1) (fun _ => True) r 0 := by
  unfold q_law_J577
  rw [q_law_L18]
  exact ⟨fun _ => trivial, fun h => absurd (by decide) h⟩
theorem fe {z w : Int32} {P : Prop} (hP : P) (h : z = w) : (z = w → P) ∧ (¬ z = w → (0 : Int32) = (1 : Int32)) := ⟨fun _ => hP, fun n => absurd h n⟩
theorem ni {x y : Int32} : ¬ x ≤ y ↔ y < x := by rw [Int32.not_le]
theorem op0 (adf : Nat → Nat) (Kf : S_ → Prop) (hK : ∀ r, Kf r) (x : Int32) : qI_constructor (adf, ln0) (fun z r5 => vp_in (0 + 1) 5 ∧ qM_constructor (adf, ln0) (fun z7 r8 => (z = z7 → Kf r8) ∧ (¬ z = z7 → (0 : Int32) = (1 : Int32))) r5 x) r0 x := by
  unfold qI_constructor qT_addConstructor qM_constructor qM_in
  by_cases h1 : x < 0
  · simp [h1, vi5, zb, hK]
  · by_cases h2 : x ≤ 2
    · have h3 : ¬ 2 < x := by rw [Int32.not_lt]; exact h2
      simp [h1, h2, h3, vi5, zb, hK, fi, sF, sA, r0, r0F, ln, ln0]
    · have h3 : 2 < x := by rw [← Int32.not_le]; exact h2
      simp [h1, h2, h3, vi5, zb, hK]
theorem op14 (adf : Nat → Nat) (Kf : S_ → Prop) (hK : ∀ r, Kf r) : qI_types (adf, ln0) r0 (fun z => qM_types (adf, ln0) (fun z7 r8 => (z = z7 → Kf r8) ∧ (¬ z = z7 → (0 : Int32) = (1 : Int32))) r0) := by
  unfold qI_types qM_types
  simp [hK, fi, sF, r0, r0F]
theorem op7 (adf : Nat → Nat) (Kf : S_ → Prop) (hK : ∀ r, Kf r) (x : Int32) : qI_infer (adf, ln0) r0 (fun z => vp_in (0 + 1) 5 ∧ qM_infer (adf, ln0) (fun z7 r8 => (z = z7 → Kf r8) ∧ (¬ z = z7 → (0 : Int32) = (1 : Int32))) r0 x) x := by
  unfold qI_infer qE_has qM_infer qM_isExpression
  by_cases h1 : x < 0
  · simp [h1, vi5, zb, hK]
  · have h2 : 0 ≤ x := by rw [← Int32.not_lt]; exact h1
    simp [h1, h2, vi5, zb, hK, fi, sF, r0, r0F]
end FRESH
