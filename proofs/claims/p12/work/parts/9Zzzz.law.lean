/-! The law, call by call. -/
section LAWP
theorem lawP {L : Nat} {xs : Nat → Int32} (hL : L ≤ 2560) : ∀ (n : Nat) (ad l : Nat → Nat) (r : S_) (kc ks : Nat) (v3 : Int32), INV l r → TAG r → (fi r 13).toInt ≤ 22 * v3.toInt → 0 ≤ (fi r 6).toInt → (fi r 6).toInt ≤ 5 * v3.toInt → pC l ≤ kc → pS l ≤ ks → 0 ≤ v3 → v3.toInt ≤ 3000 → (L : Int) + 1 - v3.toInt ≤ 5 * n → 1 ≤ n → q_lawF_L18 L xs (fun _ _ _ _ => True) n (ad, l) r kc ks v3 := by
  have eL : (Int32.ofNat L - 5).toInt = (L : Int) - 5 := by
    have e := i_ofn (n := L) (by omega)
    rw [i_sub (by rw [e]; simp; omega) (by rw [e]; simp; omega), e]
    rfl
  intro n
  induction n with
  | zero =>
    intro ad l r kc ks v3 _ _ _ _ _ _ _ _ _ _ h
    omega
  | succ n ih =>
    intro ad l r kc ks v3 h hT hv h60 h6 hc hs v0 v1 hn _
    have v0' := v0
    rw [il] at v0'
    simp at v0'
    rw [q_lawF_L18]
    refine ⟨fun _ => trivial, fun g => ?_⟩
    have g' : v3.toInt ≤ (L : Int) - 5 := by
      have z := Int32.not_lt.mp g
      rw [il, eL] at z
      exact z
    have ad1 : ∀ (k : Int32), 0 ≤ k.toInt → k.toInt ≤ 5 → (v3 + k).toInt = v3.toInt + k.toInt := fun k k0 k1 => i_add (by omega) (by omega)
    have vk : ∀ (k : Int32), 0 ≤ k.toInt → k.toInt ≤ 4 → vp_in (v3 + k) L := fun k k0 k1 => vi (by rw [il, ad1 k k0 (by omega)]; simp; omega) (by rw [ad1 k k0 (by omega)]; omega)
    have w0 : vp_in v3 L := vi v0 (by omega)
    have w1 := vk 1 (by decide) (by decide)
    have w2 := vk 2 (by decide) (by decide)
    have w3 := vk 3 (by decide) (by decide)
    have w4 := vk 4 (by decide) (by decide)
    have v5 := ad1 5 (by decide) (by decide)
    have e5 : (5 : Int32).toInt = 5 := rfl
    rw [e5] at v5
    have v50 : 0 ≤ v3 + 5 := by rw [il, v5]; simp; omega
    have go : ∀ (ad2 l2 : Nat → Nat) (r2 : S_) (c2 s2 : Nat), INV l2 r2 → TAG r2 → (fi r2 13).toInt ≤ (fi r 13).toInt + 110 → 0 ≤ (fi r2 6).toInt → (fi r2 6).toInt ≤ (fi r 6).toInt + 25 → pC l2 ≤ c2 → pS l2 ≤ s2 → q_lawF_J577 L xs (q_lawF_L18 L xs (fun _ _ _ _ => True) n) (fun _ _ _ _ => True) (ad2, l2) r2 c2 s2 v3 := fun ad2 l2 r2 c2 s2 i2 j2 f2 g0 g6 p2 q2 => by
      unfold q_lawF_J577
      exact ih ad2 l2 r2 c2 s2 _ i2 j2 (by omega) g0 (by omega) p2 q2 v50 (by omega) (by omega) (by omega)
    have k13 : ∀ r2, kp r2 = kp r → fi r2 13 = fi r 13 := fun r2 q => congrArg (fun x => x.1) q
    have k6 : ∀ r2, kp r2 = kp r → fi r2 6 = fi r 6 := fun r2 q => congrArg (fun x => x.2.1) q
    have HK : ∀ r2, INV l r2 → kp r2 = kp r → q_lawF_J577 L xs (q_lawF_L18 L xs (fun _ _ _ _ => True) n) (fun _ _ _ _ => True) (ad, l) r2 kc ks v3 := fun r2 i2 f2 => go ad l r2 kc ks i2 (TAG_kp hT f2) (by rw [k13 r2 f2]; omega) (by rw [k6 r2 f2]; exact h60) (by rw [k6 r2 f2]; omega) hc hs
    refine ⟨w0, fun _ => ⟨w1, mn_qI_constructor (fun _ _ h1 => ⟨w1, mn_qM_constructor (fun _ _ h2 => h2.2) h1⟩) (constructor_pair h HK)⟩, fun _ => ⟨w1, mn_qI_variable (fun _ _ h1 => ⟨w1, mn_qM_variable (fun _ _ h2 => h2.2) h1⟩) (variable_pair h HK)⟩, fun _ => ⟨w1, w2, w3, mn_qI_type (fun _ _ h1 => ⟨w1, w2, w3, mn_qM_type (fun _ _ h2 => h2.2) h1⟩) (type_pair h HK)⟩, fun _ => ⟨w1, mn_qI_class0 (fun _ _ h1 => ⟨w1, mn_qM_class0 (fun _ _ h2 => h2.2) h1⟩) (class0_pair h HK)⟩, fun _ => ⟨w1, w2, mn_qI_method (fun _ _ h1 => ⟨w1, w2, mn_qM_method (fun _ _ h2 => h2.2) h1⟩) (method_pair h HK)⟩, fun _ => ⟨w1, w2, w3, w4, mn_qI_instance (fun _ _ h1 => ⟨w1, w2, w3, w4, mn_qM_instance (fun _ _ h2 => h2.2) h1⟩) (instance_pair h HK)⟩, fun _ => ⟨w1, w2, w3, w4, mn_qI_expression (fun _ _ h1 => ⟨w1, w2, w3, w4, mn_qM_expression (fun _ _ h2 => h2.2) h1⟩) (expression_pair h HK)⟩, fun _ => ?inf, fun _ => ⟨w1, mn_qI_shape (fun _ h1 => ⟨w1, mn_qM_shape (fun _ _ h2 => h2) h1⟩) (shape_pair h HK)⟩, fun _ => mn_qI_wants (fun _ h1 => mn_qM_wants (fun _ _ h2 => h2.2) h1) (wantsT_pair h hT HK), fun _ => ⟨w1, w2, mn_qI_want (fun _ h1 => ⟨w1, w2, mn_qM_want (fun _ _ h2 => ⟨fun _ => h2.2, fun ne => absurd h2.1 ne⟩) h1⟩) (wantT_pair h hT HK)⟩, fun _ => mn_qI_passes (fun _ h1 => mn_qM_passes (fun _ _ h2 => h2) h1) (wants_pair h HK).2, fun _ => ⟨w1, w2, mn_qI_is (fun _ h1 => ⟨w1, w2, mn_qM_is (fun _ _ h2 => h2.2) h1⟩) (is_pair h HK)⟩, fun _ => ⟨w1, w2, mn_qI_under (fun _ h1 => ⟨w1, w2, mn_qM_under (fun _ _ h2 => h2.2) h1⟩) (under_pair h HK)⟩, fun _ => mn_qI_types (fun _ h1 => mn_qM_types (fun _ _ h2 => h2.2) h1) (counts_pair h HK).1, fun _ => mn_qI_classes (fun _ h1 => mn_qM_classes (fun _ _ h2 => h2.2) h1) (counts_pair h HK).2.1, fun _ => mn_qI_expressions (fun _ h1 => mn_qM_expressions (fun _ _ h2 => h2.2) h1) (counts_pair h HK).2.2, fun _ => HK r h rfl⟩
    refine ⟨w1, ?_⟩
    obtain ⟨l2, r2, k, s, q1, q2, hq⟩ := infer_pairZ (e := xs (v3 + 1).toNatClampNeg) h hT (by omega) ⟨h60, by omega⟩
    refine ⟨k, s, kc - k, ks - s, by omega, by omega, hq ad _ (fun z ad2 _ hM _ => ⟨w1, hM _ (fun r3 i3 f3 g0 g6 t3 => go ad2 l2 r3 (kc - k) (ks - s) i3 t3 f3 g0 g6 (by omega) (by omega))⟩)⟩
theorem pureF {L : Nat} {xs : Nat → Int32} (hL : L ≤ 2560) : ∀ adf : Nat → Nat, ∃ n : Nat, q_lawF_L18 L xs (fun _ _ _ _ => True) n (adf, ln0) r0 393132 6918929 0 := fun adf => ⟨L + 1, lawP hL (L + 1) adf ln0 r0 393132 6918929 0 INV0 TAG0 (by rw [fz 13 (by decide)]; decide) (by rw [fz 6 (by decide)]; decide) (by rw [fz 6 (by decide)]; decide) (by decide) (by decide) (Int32.le_refl _) (by decide) (by simp; omega) (by omega)⟩
end LAWP
