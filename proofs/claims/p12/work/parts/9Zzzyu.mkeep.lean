/-! The reference: what is kept: sizes, passes. -/
section ZMKEEP
variable {a : L_} {r r' r1 : S_} {rh ta : Int32 → Int32} {N : Int32}
def capM (n : Nat) : Int := if 1000000000 < n then 1000000000 else n
def pF (r0 : S_) (rh : Int32 → Int32) (u : Int32) : Int32 := if 0 ≤ u then rh u else -1
def K16 (r0 r : S_) (rh : Int32 → Int32) (v : Nat) : Prop := Fr [] [77, 78, 79, 80] r0 r ∧ ∀ i, i < v → ar r 78 (ar r0 73 i).toNatClampNeg = pF r0 rh (ar r0 66 (ar r0 73 i).toNatClampNeg) ∧ ar r 79 (ar r0 73 i).toNatClampNeg = pF r0 rh (ar r0 67 (ar r0 73 i).toNatClampNeg) ∧ ar r 80 (ar r0 73 i).toNatClampNeg = 0 ∧ ar r 77 (ar r0 73 i).toNatClampNeg = ar r0 65 (ar r0 73 i).toNatClampNeg
theorem ws_keep16 {r0 : S_} (w : MI a r0 rh ta N) (f30 : 0 ≤ fi r0 30) (hX : ∀ i, i < (fi r0 30).toNatClampNeg → vt r0 (ar r0 73 i)) {KX : S_ → Prop} (hK : ∀ r, K16 r0 r rh (fi r0 30).toNatClampNeg → KX r) : ∀ (n : Nat) (r : S_) (v : Int32), K16 r0 r rh v.toNatClampNeg → 0 ≤ v → v ≤ fi r0 30 → wM_keep_L16 a KX n r v := by
  intro n
  induction n with
  | zero => intro r v _ _ _; trivial
  | succ n ih =>
    intro r v s v0 v1
    obtain ⟨F, hs⟩ := s
    rw [wM_keep_L16, F.1 30 (by decide), F.2.1 73 (by decide), F.2.1 65 (by decide)]
    refine ⟨fun g => ?_, fun g _ _ _ r8 e8 _ => ?_⟩
    · have e : v = fi r0 30 := by clear ih hK hs F hX; grind
      rw [e] at hs
      exact hK r ⟨F, hs⟩
    have g' := Int32.not_le.mp g
    obtain ⟨q1, q2, q3⟩ := inc_le v0 g'
    have sv : (v + 1).toNatClampNeg = v.toNatClampNeg + 1 := by have := i_nat q1; have := i_nat v0; omega
    have lv : v.toNatClampNeg < (fi r0 30).toNatClampNeg := by have := i_nat v0; have := i_nat f30; rw [it] at g'; omega
    have vx := hX _ lv
    have l := m_lf w vx
    have F8 : Fr [] [77] r r8 := by rw [e8]; exact Fr_sA (by decide)
    have F08 : Fr [] [77, 78, 79, 80] r0 r8 := Fr_trans F (Fr_mono F8 (by decide) (by decide))
    have w8 : MI a r8 rh ta N := MI_Fr w F08 (by decide) (by decide)
    have x66 : ar r8 66 (ar r0 73 v.toNatClampNeg).toNatClampNeg = ar r0 66 (ar r0 73 v.toNatClampNeg).toNatClampNeg := by rw [F08.2.1 66 (by decide)]
    -- behind both parts
    have fin : ∀ z2 : Int32, ∀ r14 : S_, Fr [] [77, 78, 79, 80] r r14 → (∀ y : Int32, 0 ≤ y → (ar r14 78 y.toNatClampNeg = if y = ar r0 73 v.toNatClampNeg then pF r0 rh (ar r0 66 (ar r0 73 v.toNatClampNeg).toNatClampNeg) else ar r 78 y.toNatClampNeg) ∧ ar r14 79 y.toNatClampNeg = ar r 79 y.toNatClampNeg ∧ ar r14 80 y.toNatClampNeg = ar r 80 y.toNatClampNeg ∧ ar r14 77 y.toNatClampNeg = if y = ar r0 73 v.toNatClampNeg then ar r0 65 (ar r0 73 v.toNatClampNeg).toNatClampNeg else ar r 77 y.toNatClampNeg) → z2 = pF r0 rh (ar r0 67 (ar r0 73 v.toNatClampNeg).toNatClampNeg) → wM_keep_J100 a (wM_keep_L16 a KX n) KX r14 v (ar r0 73 v.toNatClampNeg) z2 (ar r0 73 v.toNatClampNeg) := by
      intro z2 r14 F14 h14 ez
      unfold wM_keep_J100
      intro _ r20 e20 _ r22 e22
      have F22 : Fr [] [77, 78, 79, 80] r r22 := by rw [e22, e20]; exact Fr_trans F14 (Fr_trans (Fr_sA (by decide)) (Fr_sA (by decide)))
      have a78 : ∀ y : Int32, 0 ≤ y → ar r22 78 y.toNatClampNeg = if y = ar r0 73 v.toNatClampNeg then pF r0 rh (ar r0 66 (ar r0 73 v.toNatClampNeg).toNatClampNeg) else ar r 78 y.toNatClampNeg := fun y y0 => by
        rw [e22, e20]
        exact (h14 y y0).1
      have a79 : ∀ y : Int32, 0 ≤ y → ar r22 79 y.toNatClampNeg = if y = ar r0 73 v.toNatClampNeg then z2 else ar r 79 y.toNatClampNeg := fun y y0 => by
        rw [e22, ar_sA, if_neg (by decide), e20, ar_sA, if_pos rfl, updI _ _ vx.1 y0, (h14 y y0).2.1]
      have a80 : ∀ y : Int32, 0 ≤ y → ar r22 80 y.toNatClampNeg = if y = ar r0 73 v.toNatClampNeg then 0 else ar r 80 y.toNatClampNeg := fun y y0 => by
        have e80 : ar r20 80 = ar r14 80 := by rw [e20]; rfl
        rw [e22, ar_sA, if_pos rfl, updI _ _ vx.1 y0, e80, (h14 y y0).2.2.1]
      have a77 : ∀ y : Int32, 0 ≤ y → ar r22 77 y.toNatClampNeg = if y = ar r0 73 v.toNatClampNeg then ar r0 65 (ar r0 73 v.toNatClampNeg).toNatClampNeg else ar r 77 y.toNatClampNeg := fun y y0 => by
        rw [e22, e20]
        exact (h14 y y0).2.2.2
      refine ih r22 _ ⟨Fr_trans F F22, fun i hi => ?_⟩ q1 q2
      rw [sv] at hi
      by_cases ei : ar r0 73 i = ar r0 73 v.toNatClampNeg
      · rw [ei, a78 _ vx.1, a79 _ vx.1, a80 _ vx.1, a77 _ vx.1, if_pos rfl, if_pos rfl, if_pos rfl, if_pos rfl]
        exact ⟨rfl, ez, rfl, rfl⟩
      · have iv : i < v.toNatClampNeg := by
          have : ¬ i = v.toNatClampNeg := fun e => ei (by rw [e])
          omega
        have y0 := (hX i (by omega)).1
        rw [a78 _ y0, a79 _ y0, a80 _ y0, a77 _ y0, if_neg ei, if_neg ei, if_neg ei, if_neg ei]
        exact hs i iv
    have j71 : ∀ z1 : Int32, z1 = pF r0 rh (ar r0 66 (ar r0 73 v.toNatClampNeg).toNatClampNeg) → wM_keep_J71 a (wM_keep_L16 a KX n) KX r8 v (ar r0 73 v.toNatClampNeg) z1 (ar r0 73 v.toNatClampNeg) := by
      intro z1 ez
      unfold wM_keep_J71
      intro _ r14 e14 _
      have F14 : Fr [] [77, 78] r r14 := by rw [e14]; exact Fr_trans (Fr_mono F8 (by decide) (by decide)) (Fr_sA (by decide))
      have x67 : ar r14 67 (ar r0 73 v.toNatClampNeg).toNatClampNeg = ar r0 67 (ar r0 73 v.toNatClampNeg).toNatClampNeg := by rw [F14.2.1 67 (by decide), F.2.1 67 (by decide)]
      have F014 : Fr [] [77, 78, 79, 80] r0 r14 := Fr_trans F (Fr_mono F14 (by decide) (by decide))
      have h14 : ∀ y : Int32, 0 ≤ y → (ar r14 78 y.toNatClampNeg = if y = ar r0 73 v.toNatClampNeg then pF r0 rh (ar r0 66 (ar r0 73 v.toNatClampNeg).toNatClampNeg) else ar r 78 y.toNatClampNeg) ∧ ar r14 79 y.toNatClampNeg = ar r 79 y.toNatClampNeg ∧ ar r14 80 y.toNatClampNeg = ar r 80 y.toNatClampNeg ∧ ar r14 77 y.toNatClampNeg = if y = ar r0 73 v.toNatClampNeg then ar r0 65 (ar r0 73 v.toNatClampNeg).toNatClampNeg else ar r 77 y.toNatClampNeg := fun y y0 => by
        refine ⟨?_, by rw [F14.2.1 79 (by decide)], by rw [F14.2.1 80 (by decide)], by rw [e14, ar_sA, if_neg (by decide), e8, ar_sA, if_pos rfl, updI _ _ vx.1 y0]⟩
        rw [e14, ar_sA, if_pos rfl, updI _ _ vx.1 y0, F8.2.1 78 (by decide), ez]
      rw [x67]
      refine ⟨fun z _ => ws_mfind (MI_Fr w F014 (by decide) (by decide)) z (by rw [F014.1 28 (by decide)]; exact (l.2.2 z).2) (fin _ r14 (Fr_mono F14 (by decide) (by decide)) h14 (by unfold pF; rw [if_pos z])), fun z => fin _ r14 (Fr_mono F14 (by decide) (by decide)) h14 (by unfold pF; rw [if_neg z])⟩
    rw [x66]
    exact ⟨fun z _ => ws_mfind w8 z (by rw [F08.1 28 (by decide)]; exact (l.1.2 z).2) (j71 _ (by unfold pF; rw [if_pos z])), fun z => j71 _ (by unfold pF; rw [if_neg z])⟩
/-- one pass of sizes -/
def KZ (r1 r : S_) (X : Nat → Int32) (nX : Nat) (Nd : Int32 → Nat) : Prop := Fr [] [80] r1 r ∧ ∀ i, i < nX → ar r 80 (X i).toNatClampNeg = 0 ∨ (ar r 80 (X i).toNatClampNeg).toInt = capM (Nd (X i))
def UZ (r1 r : S_) (x : Int32) : Prop := (0 ≤ ar r1 78 x.toNatClampNeg ∧ ar r 80 (ar r1 78 x.toNatClampNeg).toNatClampNeg = 0) ∨ (0 ≤ ar r1 79 x.toNatClampNeg ∧ ar r 80 (ar r1 79 x.toNatClampNeg).toNatClampNeg = 0)
theorem capM_b {n : Nat} : 0 ≤ capM n ∧ capM n ≤ 1000000000 := by unfold capM; split <;> omega
theorem ws_msum {x y : Int32} {m n : Nat} (hx : x.toInt = capM m) (hy : y.toInt = capM n) {K : Int32 → Prop} (hK : ∀ z : Int32, z.toInt = capM (m + n) → K z) : wM_sum a r K x y := by
  have bx := capM_b (n := m)
  have by' := capM_b (n := n)
  have e : (x + y).toInt = x.toInt + y.toInt := i_add (by omega) (by omega)
  unfold wM_sum
  refine ⟨fun g => hK _ ?_, fun g => hK _ ?_⟩
  · rw [il, e, hx, hy] at g
    rw [e, hx, hy]
    simp at g
    unfold capM at g ⊢
    split at g <;> split at g <;> (try split) <;> omega
  · have g' := Int32.not_le.mp g
    rw [it, e, hx, hy] at g'
    simp at g'
    show (1000000000 : Int) = _
    unfold capM at g' ⊢
    split at g' <;> split at g' <;> (try split) <;> omega
theorem ws_keep124 {r1 : S_} {X : Nat → Int32} {nX : Nat} {Nd : Int32 → Nat} (n30 : nX = (fi r1 30).toNatClampNeg) (f30 : 0 ≤ fi r1 30) (e73 : ∀ i, i < nX → ar r1 73 i = X i) (x0 : ∀ i, i < nX → 0 ≤ X i) (hp : ∀ i, i < nX → (ar r1 78 (X i).toNatClampNeg = -1 ∨ ∃ j, j < nX ∧ ar r1 78 (X i).toNatClampNeg = X j) ∧ (ar r1 79 (X i).toNatClampNeg = -1 ∨ ∃ j, j < nX ∧ ar r1 79 (X i).toNatClampNeg = X j)) (hN : ∀ i, i < nX → 1 ≤ Nd (X i) ∧ Nd (X i) = 1 + (if ar r1 78 (X i).toNatClampNeg = -1 then 0 else Nd (ar r1 78 (X i).toNatClampNeg)) + (if ar r1 79 (X i).toNatClampNeg = -1 then 0 else Nd (ar r1 79 (X i).toNatClampNeg))) {KX : S_ → Int32 → Prop} (hK : ∀ r v1, KZ r1 r X nX Nd → (v1 = 0 → ∀ i, i < nX → ar r 80 (X i).toNatClampNeg = 0 → UZ r1 r (X i)) → KX r v1) : ∀ (n : Nat) (r : S_) (v1 v2 : Int32), KZ r1 r X nX Nd → (v1 = 0 → ∀ i, i < v2.toNatClampNeg → ar r 80 (X i).toNatClampNeg = 0 → UZ r1 r (X i)) → 0 ≤ v2 → v2 ≤ fi r1 30 → wM_keep_L124 a KX n r v1 v2 := by
  intro n
  induction n with
  | zero => intro r v1 v2 _ _ _ _; trivial
  | succ n ih =>
    intro r v1 v2 kz hu v0 vl
    have kz' := kz
    obtain ⟨F, hz⟩ := kz
    have eA : ∀ k, ¬ k = 80 → ar r k = ar r1 k := fun k hk => F.2.1 k (by simpa using hk)
    rw [wM_keep_L124, F.1 30 (by decide), eA 73 (by decide), eA 78 (by decide)]
    refine ⟨fun g => ?_, fun g _ _ => ?_⟩
    · have e : v2 = fi r1 30 := by clear ih hK hz F hu hN hp x0 e73; grind
      rw [e, ← n30] at hu
      exact hK r v1 kz' hu
    have g' := Int32.not_le.mp g
    obtain ⟨q1, q2, q3⟩ := inc_le v0 g'
    have sv : (v2 + 1).toNatClampNeg = v2.toNatClampNeg + 1 := by have := i_nat q1; have := i_nat v0; omega
    have lv : v2.toNatClampNeg < nX := by have := i_nat v0; have := i_nat f30; rw [n30]; rw [it] at g'; omega
    rw [e73 _ lv]
    have hpx := hp _ lv
    have hNx := hN _ lv
    have xv := x0 _ lv
    have zp : ∀ u : Int32, (u = -1 ∨ ∃ j, j < nX ∧ u = X j) → 0 ≤ u → ar r 80 u.toNatClampNeg = 0 ∨ (ar r 80 u.toNatClampNeg).toInt = capM (Nd u) := fun u hu u0 => by
      rcases hu with e | ⟨j, j1, j2⟩
      · rw [e] at u0; exact absurd u0 (by decide)
      · rw [j2]; exact hz j j1
    have pos : ∀ u : Int32, (u = -1 ∨ ∃ j, j < nX ∧ u = X j) → 0 ≤ u → (¬ ar r 80 u.toNatClampNeg ≤ 0 ↔ ¬ ar r 80 u.toNatClampNeg = 0) := fun u hu u0 => by
      have nd1 : 1 ≤ Nd u := by
        rcases hu with e | ⟨j, j1, j2⟩
        · rw [e] at u0; exact absurd u0 (by decide)
        · rw [j2]; exact (hN j j1).1
      rcases zp u hu u0 with z | z
      · rw [z]; exact ⟨fun q => absurd (Int32.le_refl _) q, fun q => absurd rfl q⟩
      · have c1 : 1 ≤ capM (Nd u) := by unfold capM; split <;> omega
        refine ⟨fun q e => q (by rw [e]; exact Int32.le_refl _), fun _ q => ?_⟩
        rw [il, z] at q
        simp at q
        omega
    have nx : ∀ r2 v, KZ r1 r2 X nX Nd → (v = 0 → (∀ y : Int32, 0 ≤ y → ar r2 80 y.toNatClampNeg = ar r 80 y.toNatClampNeg) ∧ v1 = 0) → (v = 0 → ar r 80 (X v2.toNatClampNeg).toNatClampNeg = 0 → UZ r1 r (X v2.toNatClampNeg)) → wM_keep_L124 a KX n r2 v (v2 + 1) := by
      intro r2 v k2 h1 h2
      refine ih r2 v (v2 + 1) k2 (fun z i hi h0 => ?_) q1 q2
      obtain ⟨s80, z1⟩ := h1 z
      rw [sv] at hi
      have li : i < nX := by omega
      rw [s80 _ (x0 i li)] at h0
      have back : UZ r1 r (X i) → UZ r1 r2 (X i) := fun q => q.imp (fun q => ⟨q.1, by rw [s80 _ q.1]; exact q.2⟩) (fun q => ⟨q.1, by rw [s80 _ q.1]; exact q.2⟩)
      by_cases ei : i = v2.toNatClampNeg
      · rw [ei] at h0 ⊢
        rw [ei] at back
        exact back (h2 z h0)
      · exact back (hu z1 i (by omega) h0)
    -- left and right sizes A B: what they stand for
    have main : ∀ A B : Int32, (ar r1 78 (X v2.toNatClampNeg).toNatClampNeg = -1 → A = 0) → (0 ≤ ar r1 78 (X v2.toNatClampNeg).toNatClampNeg → A = ar r 80 (ar r1 78 (X v2.toNatClampNeg).toNatClampNeg).toNatClampNeg) → (ar r1 79 (X v2.toNatClampNeg).toNatClampNeg = -1 → B = 0) → (0 ≤ ar r1 79 (X v2.toNatClampNeg).toNatClampNeg → B = ar r 80 (ar r1 79 (X v2.toNatClampNeg).toNatClampNeg).toNatClampNeg) → wM_keep_J189 a (wM_keep_L124 a KX n) KX r v1 v2 (X v2.toNatClampNeg) A B := by
      intro A B hA0 hA1 hB0 hB1
      have no : UZ r1 r (X v2.toNatClampNeg) → wM_keep_J223 a (wM_keep_L124 a KX n) KX r v1 v2 (X v2.toNatClampNeg) A B := fun q => by
        unfold wM_keep_J223 wM_keep_J224 wM_keep_J259
        refine fun _ => ⟨fun _ => nx r v1 kz' (fun z => ⟨fun _ _ => rfl, z⟩) (fun _ _ => q), fun _ => ⟨fun _ => nx r v1 kz' (fun z => ⟨fun _ _ => rfl, z⟩) (fun _ _ => q), fun z => absurd rfl z⟩⟩
      have yes : (0 ≤ ar r1 78 (X v2.toNatClampNeg).toNatClampNeg → ¬ A = 0) → (0 ≤ ar r1 79 (X v2.toNatClampNeg).toNatClampNeg → ¬ B = 0) → wM_keep_J219 a (wM_keep_L124 a KX n) KX r v1 v2 (X v2.toNatClampNeg) A B := fun hA hB => by
        unfold wM_keep_J219 wM_keep_J224 wM_keep_J259
        refine fun _ => ⟨fun z => nx r v1 kz' (fun z => ⟨fun _ _ => rfl, z⟩) (fun _ q => absurd q z), fun z => ⟨fun q => absurd q (by decide), fun _ => ?_⟩⟩
        have cA : A.toInt = capM (if ar r1 78 (X v2.toNatClampNeg).toNatClampNeg = -1 then 0 else Nd (ar r1 78 (X v2.toNatClampNeg).toNatClampNeg)) := by
          rcases hpx.1 with e | ⟨j, j1, j2⟩
          · rw [if_pos e, hA0 e]; rfl
          · have u0 : 0 ≤ ar r1 78 (X v2.toNatClampNeg).toNatClampNeg := by rw [j2]; exact x0 j j1
            rw [if_neg (nm1 u0)]
            rcases zp _ (Or.inr ⟨j, j1, j2⟩) u0 with q | q
            · exact absurd ((hA1 u0).trans q) (hA u0)
            · rw [hA1 u0]; exact q
        have cB : B.toInt = capM (if ar r1 79 (X v2.toNatClampNeg).toNatClampNeg = -1 then 0 else Nd (ar r1 79 (X v2.toNatClampNeg).toNatClampNeg)) := by
          rcases hpx.2 with e | ⟨j, j1, j2⟩
          · rw [if_pos e, hB0 e]; rfl
          · have u0 : 0 ≤ ar r1 79 (X v2.toNatClampNeg).toNatClampNeg := by rw [j2]; exact x0 j j1
            rw [if_neg (nm1 u0)]
            rcases zp _ (Or.inr ⟨j, j1, j2⟩) u0 with q | q
            · exact absurd ((hB1 u0).trans q) (hB u0)
            · rw [hB1 u0]; exact q
        refine ws_msum cA cB (fun z41 h41 => ws_msum (m := 1) (x := 1) rfl h41 (fun z42 h42 _ r44 e44 => ?_))
        have c42 : z42.toInt = capM (Nd (X v2.toNatClampNeg)) := by rw [h42, hNx.2]; congr 1; omega
        have a80 : ∀ y : Int32, 0 ≤ y → ar r44 80 y.toNatClampNeg = if y = X v2.toNatClampNeg then z42 else ar r 80 y.toNatClampNeg := fun y y0 => by rw [e44, ar_sA, if_pos rfl, updI _ _ xv y0]
        refine nx r44 1 ⟨Fr_trans F (by rw [e44]; exact Fr_sA (by decide)), fun i hi => ?_⟩ (fun z => absurd z (by decide)) (fun z => absurd z (by decide))
        rw [a80 _ (x0 i hi)]
        split
        · rename_i e
          right
          rw [c42, e]
        · exact hz i hi
      unfold wM_keep_J189 wM_keep_J205
      rw [eA 78 (by decide), eA 79 (by decide)]
      have second : (0 ≤ ar r1 78 (X v2.toNatClampNeg).toNatClampNeg → ¬ A = 0) → vp_in (X v2.toNatClampNeg) (ln a 79) → ((ar r1 79 (X v2.toNatClampNeg).toNatClampNeg < 0 → wM_keep_J219 a (wM_keep_L124 a KX n) KX r v1 v2 (X v2.toNatClampNeg) A B) ∧ (¬ ar r1 79 (X v2.toNatClampNeg).toNatClampNeg < 0 → (B ≤ 0 → wM_keep_J223 a (wM_keep_L124 a KX n) KX r v1 v2 (X v2.toNatClampNeg) A B) ∧ (¬ B ≤ 0 → wM_keep_J219 a (wM_keep_L124 a KX n) KX r v1 v2 (X v2.toNatClampNeg) A B))) := fun hA _ => ⟨fun z => yes hA (fun q => absurd z (Int32.not_lt.mpr q)), fun z => by
        have u0 := Int32.not_lt.mp z
        have pp := pos _ hpx.2 u0
        rw [hB1 u0]
        rw [hB1 u0] at no yes
        refine ⟨fun q => no (Or.inr ⟨u0, Classical.byContradiction (fun k => pp.mpr k q)⟩), fun q => yes hA (fun _ => pp.mp q)⟩⟩
      refine fun _ => ⟨fun z => second (fun q => absurd z (Int32.not_lt.mpr q)), fun z => ?_⟩
      have u0 := Int32.not_lt.mp z
      have pp := pos _ hpx.1 u0
      refine ⟨fun q => no (Or.inl ⟨u0, Classical.byContradiction (fun k => pp.mpr k (by rw [← hA1 u0]; exact q))⟩), fun q => second (fun _ e => q (by rw [e]; exact Int32.le_refl _))⟩
    have j163 : ∀ A : Int32, (ar r1 78 (X v2.toNatClampNeg).toNatClampNeg = -1 → A = 0) → (0 ≤ ar r1 78 (X v2.toNatClampNeg).toNatClampNeg → A = ar r 80 (ar r1 78 (X v2.toNatClampNeg).toNatClampNeg).toNatClampNeg) → wM_keep_J163 a (wM_keep_L124 a KX n) KX r v1 v2 (X v2.toNatClampNeg) A := by
      intro A h1 h2
      unfold wM_keep_J163
      rw [eA 79 (by decide)]
      refine fun _ => ⟨fun z _ _ => main A _ h1 h2 (fun e => by rw [e] at z; exact absurd z (by decide)) (fun _ => rfl), fun z => main A 0 h1 h2 (fun _ => rfl) (fun q => absurd q z)⟩
    exact ⟨fun z _ _ => j163 _ (fun e => by rw [e] at z; exact absurd z (by decide)) (fun _ => rfl), fun z => j163 0 (fun _ => rfl) (fun q => absurd q z)⟩
end ZMKEEP
