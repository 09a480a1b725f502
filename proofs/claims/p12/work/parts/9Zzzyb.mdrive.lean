/-! The reference: what is wanted is driven to the variables. -/
section ZMDRIVE
variable {a : L_} {r r' : S_} {rh ta : Int32 → Int32} {N : Int32}
def MTB (r : S_) : Prop := (fi r 23 = fi r 2) ∧ KTz r ∧ (∀ c k : Int32, 0 ≤ c → c < 8 → 0 ≤ k → k < 8 → (ar r 86 (8 * c + k).toNatClampNeg = 0 ↔ ar r 9 (8 * c + k).toNatClampNeg = -1)) ∧ ar r 43 = ar r 10 ∧ ar r 44 = ar r 11 ∧ ar r 36 = ar r 0 ∧ ∀ c k c1, kF r 10 c k c1 ∨ kF r 11 c k c1 → c1 < (fi r 2).toNatClampNeg
theorem MTB_Fr {F A : List Nat} (h : MTB r) (f : Fr F A r r') (h1 : 23 ∉ F ∧ 2 ∉ F) (h2 : 86 ∉ A ∧ 9 ∉ A ∧ 43 ∉ A ∧ 10 ∉ A ∧ 44 ∉ A ∧ 11 ∉ A ∧ 36 ∉ A ∧ 0 ∉ A) : MTB r' := by
  have k := h.2.1
  have k' : KTz r' := KTz_eq k (f.1 2 h1.2) (f.2.1 0 h2.2.2.2.2.2.2.2) (f.2.1 9 h2.2.1) (f.2.1 10 h2.2.2.2.1) (f.2.1 11 h2.2.2.2.2.2.1)
  refine ⟨by rw [f.1 23 h1.1, f.1 2 h1.2]; exact h.1, k', ?_, ?_, ?_, ?_, ?_⟩
  · rw [f.2.1 86 h2.1, f.2.1 9 h2.2.1]; exact h.2.2.1
  · rw [f.2.1 43 h2.2.2.1, f.2.1 10 h2.2.2.2.1]; exact h.2.2.2.1
  · rw [f.2.1 44 h2.2.2.2.2.1, f.2.1 11 h2.2.2.2.2.2.1]; exact h.2.2.2.2.1
  · rw [f.2.1 36 h2.2.2.2.2.2.2.1, f.2.1 0 h2.2.2.2.2.2.2.2]; exact h.2.2.2.2.2.1
  · intro c k c1 q
    rw [f.1 2 h1.2]
    exact h.2.2.2.2.2.2 c k c1 (q.imp (kF_eq (f.1 2 h1.2) (f.2.1 10 h2.2.2.2.1)).mp (kF_eq (f.1 2 h1.2) (f.2.1 11 h2.2.2.2.2.2.1)).mp)
theorem slotM {x y : Int32} (x0 : 0 ≤ x) (x1 : x < 8) (y0 : 0 ≤ y) (y1 : y < 8) : (8 * x + y).toNatClampNeg = 8 * x.toNatClampNeg + y.toNatClampNeg := by
  have e : 8 * x = x * 8 := Int32.mul_comm _ _
  rw [e]
  exact slotN x0 x1 y0 y1
theorem gbo {x y : Int32} {i : Nat} : gb (x ||| y) i = true ↔ gb x i = true ∨ gb y i = true := by
  rw [gb_or]
  simp
theorem nbit {x : Int32} (h : ¬ x = 0) : ∃ i, gb x i = true := by
  apply Classical.byContradiction
  intro hn
  refine h (gb_ext (fun i _ => ?_))
  rw [gb_0]
  cases q : gb x i
  · rfl
  · exact absurd ⟨i, q⟩ hn
theorem nbit0 {x : Int32} (h : ∀ i, ¬ gb x i = true) : x = 0 := Classical.byContradiction (fun q => by
  obtain ⟨i, hi⟩ := nbit q
  exact h i hi)
theorem ws_drive172 {r0 : S_} {x v2 v4 : Int32} (tb : MTB r0) (hx : ar r0 65 x.toNatClampNeg < 8) {KX : S_ → Int32 → Int32 → Int32 → Int32 → Prop} (hK0 : ar r0 65 x.toNatClampNeg < 0 → KX r0 v2 x 0 0) (hK : 0 ≤ ar r0 65 x.toNatClampNeg → ∀ r v5 v6, Fr [33] [] r0 r → (∀ c1, gb v5 c1 = true ↔ ∃ c, gb v4 c = true ∧ kF r0 10 c (ar r0 65 x.toNatClampNeg) c1) → (∀ c1, gb v6 c1 = true ↔ ∃ c, gb v4 c = true ∧ kF r0 11 c (ar r0 65 x.toNatClampNeg) c1) → (¬ fi r 33 = 0 ↔ ¬ fi r0 33 = 0 ∨ ∃ c, gb v4 c = true ∧ ¬ kI r0 c (ar r0 65 x.toNatClampNeg)) → KX r v2 x v5 v6) (n : Nat) : wM_drive_L172 a KX n r0 v2 x v4 0 0 0 := by
  obtain ⟨e23, ⟨⟨k0, k8⟩, kt1, kt2, _, _⟩, t86, t43, t44, t36, _⟩ := tb
  by_cases hd : ar r0 65 x.toNatClampNeg < 0
  · cases n with
    | zero => trivial
    | succ n =>
      rw [wM_drive_L172]
      refine ⟨fun _ => hK0 hd, fun _ _ => ⟨fun _ => hK0 hd, fun z => absurd hd z⟩⟩
  have h0 := Int32.not_lt.mp hd
  have key : ∀ (n : Nat) (r : S_) (v5 v6 v7 : Int32), Fr [33] [] r0 r → 0 ≤ v7 → v7 ≤ fi r0 2 → (∀ c1, gb v5 c1 = true ↔ ∃ c, c < v7.toNatClampNeg ∧ gb v4 c = true ∧ kF r0 10 c (ar r0 65 x.toNatClampNeg) c1) → (∀ c1, gb v6 c1 = true ↔ ∃ c, c < v7.toNatClampNeg ∧ gb v4 c = true ∧ kF r0 11 c (ar r0 65 x.toNatClampNeg) c1) → (¬ fi r 33 = 0 ↔ ¬ fi r0 33 = 0 ∨ ∃ c, c < v7.toNatClampNeg ∧ gb v4 c = true ∧ ¬ kI r0 c (ar r0 65 x.toNatClampNeg)) → wM_drive_L172 a KX n r v2 x v4 v5 v6 v7 := by
    intro n
    induction n with
    | zero => intro r v5 v6 v7 _ _ _ _ _ _; trivial
    | succ n ih =>
      intro r v5 v6 v7 F v0 v1 h5 h6 h7
      have f23 : fi r 23 = fi r0 2 := (F.1 23 (by decide)).trans e23
      have e65 : ar r 65 = ar r0 65 := F.2.1 65 (by decide)
      rw [wM_drive_L172, f23, e65]
      refine ⟨fun g => ?_, fun g _ => ⟨fun z => absurd z hd, fun _ => ?_⟩⟩
      · have ev : v7 = fi r0 2 := by clear ih hK hK0 h5 h6 h7 F kt1 kt2 t86; grind
        subst ev
        refine hK h0 r v5 v6 F (fun c1 => ?_) (fun c1 => ?_) ?_
        · rw [h5 c1]
          exact ⟨fun ⟨c, _, h2, h3⟩ => ⟨c, h2, h3⟩, fun ⟨c, h2, h3⟩ => ⟨c, h3.1.1, h2, h3⟩⟩
        · rw [h6 c1]
          exact ⟨fun ⟨c, _, h2, h3⟩ => ⟨c, h2, h3⟩, fun ⟨c, h2, h3⟩ => ⟨c, h3.1.1, h2, h3⟩⟩
        · rw [h7]
          refine or_congr_right ⟨fun ⟨c, _, h2, h3⟩ => ⟨c, h2, h3⟩, fun ⟨c, h2, h3⟩ => ⟨c, ?_, h2, h3⟩⟩
          exact Classical.byContradiction (fun q => h3 (fun z => absurd z q))
      · have g' := Int32.not_le.mp g
        obtain ⟨q1, q2, q3, q4⟩ := inc8 v0 g' k8
        have cl : v7.toNatClampNeg < (fi r0 2).toNatClampNeg := by
          have a1 := i_nat v0
          have a2 := i_nat k0
          rw [it] at g'
          omega
        have slot := slotM v0 q4 h0 hx
        -- what one more class adds
        have ext : ∀ (P : Nat → Prop), (∃ c, c < (v7 + 1).toNatClampNeg ∧ gb v4 c = true ∧ P c) ↔ (∃ c, c < v7.toNatClampNeg ∧ gb v4 c = true ∧ P c) ∨ (gb v4 v7.toNatClampNeg = true ∧ P v7.toNatClampNeg) := fun P => by
          rw [q3]
          constructor
          · rintro ⟨c, c1, c2, c3⟩
            by_cases e : c = v7.toNatClampNeg
            · subst e; exact Or.inr ⟨c2, c3⟩
            · exact Or.inl ⟨c, by omega, c2, c3⟩
          · rintro (⟨c, c1, c2, c3⟩ | ⟨c2, c3⟩)
            · exact ⟨c, by omega, c2, c3⟩
            · exact ⟨v7.toNatClampNeg, by omega, c2, c3⟩
        unfold wM_drive_J295
        refine ⟨fun nb => ih r v5 v6 (v7 + 1) F q1 q2 (fun c1 => ?_) (fun c1 => ?_) ?_, fun hb => ?_⟩
        · rw [h5 c1, ext]
          exact ⟨Or.inl, fun z => z.elim id (fun q => absurd ((bt_m v0 q4).mpr q.1) nb)⟩
        · rw [h6 c1, ext]
          exact ⟨Or.inl, fun z => z.elim id (fun q => absurd ((bt_m v0 q4).mpr q.1) nb)⟩
        · rw [h7, ext]
          exact or_congr_right ⟨Or.inl, fun z => z.elim id (fun q => absurd ((bt_m v0 q4).mpr q.1) nb)⟩
        have gbv := (bt_m v0 q4).mp hb
        have i86 : ar r 86 (8 * v7 + ar r0 65 x.toNatClampNeg).toNatClampNeg = 0 ↔ ¬ kI r0 v7.toNatClampNeg (ar r0 65 x.toNatClampNeg) := by
          rw [F.2.1 86 (by decide), t86 v7 _ v0 q4 h0 hx, slot]
          unfold kI
          exact ⟨fun e h => h cl e, fun h => Classical.byContradiction (fun q => h (fun _ => q))⟩
        have fin : ∀ u0 : Int32, (¬ u0 = 0 ↔ ¬ fi r0 33 = 0 ∨ ∃ c, c < (v7 + 1).toNatClampNeg ∧ gb v4 c = true ∧ ¬ kI r0 c (ar r0 65 x.toNatClampNeg)) → wM_drive_J238 a (wM_drive_L172 a KX n) KX r v2 x v4 v5 v6 v7 (8 * v7 + ar r0 65 x.toNatClampNeg) u0 := by
          intro u0 hu
          unfold wM_drive_J238 wM_drive_J266 wM_drive_J293 wM_drive_J295
          intro _ r28 e28 _
          have F28 : Fr [33] [] r0 r28 := by rw [e28]; exact Fr_trans F (Fr_sF (by decide))
          have a86 : ar r28 86 = ar r 86 := by rw [e28]; rfl
          have a43 : ar r28 43 (8 * v7 + ar r0 65 x.toNatClampNeg).toNatClampNeg = ar r0 10 (8 * v7.toNatClampNeg + (ar r0 65 x.toNatClampNeg).toNatClampNeg) := by rw [F28.2.1 43 (by decide), t43, slot]
          have a44 : ar r28 44 (8 * v7 + ar r0 65 x.toNatClampNeg).toNatClampNeg = ar r0 11 (8 * v7.toNatClampNeg + (ar r0 65 x.toNatClampNeg).toNatClampNeg) := by rw [F28.2.1 44 (by decide), t44, slot]
          have l33 : ¬ fi r28 33 = 0 ↔ ¬ fi r0 33 = 0 ∨ ∃ c, c < (v7 + 1).toNatClampNeg ∧ gb v4 c = true ∧ ¬ kI r0 c (ar r0 65 x.toNatClampNeg) := by rw [e28]; exact hu
          rw [a86]
          refine ⟨fun z => fun _ => ⟨fun _ => ?_, fun z2 => absurd z z2⟩, fun z => fun _ _ => ⟨fun z2 => absurd z2 z, fun _ _ => ?_⟩⟩
          · have nk := i86.mp z
            refine ih r28 v5 v6 (v7 + 1) F28 q1 q2 (fun c1 => ?_) (fun c1 => ?_) l33
            · rw [h5 c1, ext]
              exact ⟨Or.inl, fun z => z.elim id (fun q => absurd (kt1 _ _ _ q.2).1 nk)⟩
            · rw [h6 c1, ext]
              exact ⟨Or.inl, fun z => z.elim id (fun q => absurd (kt2 _ _ _ q.2).1 nk)⟩
          · refine ih r28 _ _ (v7 + 1) F28 q1 q2 (fun c1 => ?_) (fun c1 => ?_) l33
            · rw [gbo, h5 c1, ext, a43]
              exact or_congr_right ⟨fun q => ⟨gbv, ⟨cl, d_lt h0 hx⟩, q⟩, fun q => q.2.2⟩
            · rw [gbo, h6 c1, ext, a44]
              exact or_congr_right ⟨fun q => ⟨gbv, ⟨cl, d_lt h0 hx⟩, q⟩, fun q => q.2.2⟩
        unfold wM_drive_J233
        refine fun _ => ⟨fun z => fin 1 ⟨fun _ => ?_, fun _ => by decide⟩, fun z _ => ⟨fun z2 => fin 0 ⟨fun q => absurd rfl q, fun q => ?_⟩, fun z2 => fin 1 ⟨fun _ => ?_, fun _ => by decide⟩⟩⟩
        · rcases h7.mp z with q | q
          · exact Or.inl q
          · exact Or.inr ((ext _).mpr (Or.inl q))
        · exfalso
          rcases q with q | q
          · exact h7.mpr (Or.inl q) z
          · rcases (ext _).mp q with q | q
            · exact h7.mpr (Or.inr q) z
            · exact z2 (i86.mpr q.2)
        · exact Or.inr ((ext _).mpr (Or.inr ⟨gbv, i86.mp z2⟩))
  refine key n r0 0 0 0 (Fr_refl _) (Int32.le_refl _) k0 (fun c1 => ?_) (fun c1 => ?_) ?_
  · rw [gb_0]
    exact ⟨fun z => absurd z (by decide), fun ⟨c, c1, _⟩ => absurd c1 (Nat.not_lt_zero _)⟩
  · rw [gb_0]
    exact ⟨fun z => absurd z (by decide), fun ⟨c, c1, _⟩ => absurd c1 (Nat.not_lt_zero _)⟩
  · exact ⟨Or.inl, fun z => z.elim id (fun ⟨c, c1, _⟩ => absurd c1 (Nat.not_lt_zero _))⟩
abbrev mNd (r : S_) (W : Int32 → Nat → Prop) : Int32 → Nat → Prop := zNd (kI r) (kF r 10) (kF r 11) (mG r) W
abbrev mLK (r : S_) (W : Int32 → Nat → Prop) : Prop := zLK (kI r) (kF r 10) (kF r 11) (mG r) W
def Onp (r : S_) (v x : Int32) : Prop := ∃ k : Int32, 0 ≤ k ∧ k < v ∧ ar r 72 k.toNatClampNeg = x
theorem kF_l (w : MI a r rh ta N) (tb : MTB r) {x : Int32} (vx : vt r x) (hh : 0 ≤ ar r 65 x.toNatClampNeg) : (∀ c c1, kF r 10 c (ar r 65 x.toNatClampNeg) c1 → 0 ≤ ar r 66 x.toNatClampNeg) ∧ ∀ c c1, kF r 11 c (ar r 65 x.toNatClampNeg) c1 → 0 ≤ ar r 67 x.toNatClampNeg := by
  have n := (w.2.2.2.1 x vx.1 vx.2).2.2.2.2.2 hh
  rw [tb.2.2.2.2.2.1] at n
  exact ⟨fun c c1 h => n.1.mpr (tb.2.1.2.1 _ _ _ h).2, fun c c1 h => n.2.mpr (tb.2.1.2.2.1 _ _ _ h).2⟩
/-- while it is driven; E1, E2: what is still owed to parts -/
def DW (r0 r : S_) (rh : Int32 → Int32) (W B : Int32 → Nat → Prop) (v : Int32) (E1 E2 : Int32 → Nat → Prop) : Prop :=
  (Fr [30, 33] [68, 70, 71, 72, 73] r0 r) ∧
  ((0 ≤ v.toInt ∧ v.toInt ≤ 200000) ∧ ∀ k : Int32, 0 ≤ k → k < v → (vt r0 (ar r 72 k.toNatClampNeg) ∧ rh (ar r 72 k.toNatClampNeg) = ar r 72 k.toNatClampNeg) ∧ ∃ c, gb (ar r 70 (ar r 72 k.toNatClampNeg).toNatClampNeg) c = true) ∧
  ((∀ x, vt r0 x → ∀ c, gb (ar r 70 x.toNatClampNeg) c = true → mNd r0 W x c) ∧ (∀ x, vt r0 x → ∀ c, gb (ar r 71 x.toNatClampNeg) c = true → gb (ar r 70 x.toNatClampNeg) c = true) ∧ (∀ x, vt r0 x → ∀ c, gb (ar r 70 x.toNatClampNeg) c = true → ¬ gb (ar r 71 x.toNatClampNeg) c = true → Onp r v x) ∧ ∀ x : Int32, 0 ≤ x → ∀ c, B x c → gb (ar r 70 x.toNatClampNeg) c = true) ∧
  (∀ x, vt r0 x → ∀ c, gb (ar r 71 x.toNatClampNeg) c = true → 0 ≤ ar r0 65 x.toNatClampNeg → (∀ c1, (kF r0 10 c (ar r0 65 x.toNatClampNeg) c1 → E1 x c ∨ gb (ar r 70 (rh (ar r0 66 x.toNatClampNeg)).toNatClampNeg) c1 = true) ∧ (kF r0 11 c (ar r0 65 x.toNatClampNeg) c1 → E2 x c ∨ gb (ar r 70 (rh (ar r0 67 x.toNatClampNeg)).toNatClampNeg) c1 = true)) ∧ (¬ kI r0 c (ar r0 65 x.toNatClampNeg) → ¬ fi r 33 = 0)) ∧
  ((¬ fi r 33 = 0 → ¬ fi r0 33 = 0 ∨ mLK r0 W) ∧ (¬ fi r0 33 = 0 → ¬ fi r 33 = 0)) ∧
  (0 ≤ fi r 30 ∧ (∀ i, i < (fi r 30).toNatClampNeg → (vt r0 (ar r 73 i) ∧ rh (ar r 73 i) = ar r 73 i) ∧ ar r 68 (ar r 73 i).toNatClampNeg = fi r0 29 ∧ ∃ c, gb (ar r 70 (ar r 73 i).toNatClampNeg) c = true) ∧ DJ (ar r 73) (fi r 30).toNatClampNeg ∧ (∀ x, vt r0 x → ar r 68 x.toNatClampNeg = fi r0 29 → ∃ i, i < (fi r 30).toNatClampNeg ∧ ar r 73 i = x)) ∧
  ((∀ x, vt r0 x → ar r 68 x.toNatClampNeg = ar r0 68 x.toNatClampNeg ∨ ar r 68 x.toNatClampNeg = fi r0 29) ∧ ∀ x, vt r0 x → ∀ c, gb (ar r 71 x.toNatClampNeg) c = true → ar r 68 x.toNatClampNeg = fi r0 29)
theorem DW_push {r0 : S_} {W B E1 E2 : Int32 → Nat → Prop} {v y b : Int32} (w0 : MI a r0 rh ta N) (tb : MTB r0) (h : DW r0 r rh W B v E1 E2) (vp : vp_in v (ln a 72)) (vy : vt r0 y) (ry : rh y = y) (hb : ∀ c, gb b c = true → mNd r0 W y c) (nb : ∃ c, gb b c = true) {r2 : S_} (e2 : r2 = sA (sA r 70 (upd (ar r 70) y.toNatClampNeg (ar r 70 y.toNatClampNeg ||| b))) 72 (upd (ar r 72) v.toNatClampNeg y)) : DW r0 r2 rh W B (v + 1) E1 E2 ∧ (∀ x : Int32, 0 ≤ x → ∀ c, gb (ar r 70 x.toNatClampNeg) c = true → gb (ar r2 70 x.toNatClampNeg) c = true) ∧ (∀ c, gb b c = true → gb (ar r2 70 y.toNatClampNeg) c = true) ∧ Fr [] [70, 72] r r2 := by
  obtain ⟨d1, ⟨d2, d2'⟩, ⟨d3, d4, d5, dB⟩, d6, d7, ⟨d80, d81, d82, d83⟩, d9, d10⟩ := h
  obtain ⟨v1, vl⟩ := inc_v d2.1 vp w0.1
  have z0 : 0 ≤ v := by rw [il]; simpa using d2.1
  have F : Fr [] [70, 72] r r2 := by rw [e2]; exact Fr_trans (Fr_sA (by decide)) (Fr_sA (by decide))
  have a70 : ∀ x : Int32, 0 ≤ x → ar r2 70 x.toNatClampNeg = if x = y then ar r 70 y.toNatClampNeg ||| b else ar r 70 x.toNatClampNeg := fun x x0 => by
    rw [e2]
    show upd (ar r 70) y.toNatClampNeg (ar r 70 y.toNatClampNeg ||| b) x.toNatClampNeg = _
    rw [updI _ _ vy.1 x0]
  have a72 : ∀ k : Int32, 0 ≤ k → ar r2 72 k.toNatClampNeg = if k = v then y else ar r 72 k.toNatClampNeg := fun k q0 => by
    rw [e2]
    show upd (ar r 72) v.toNatClampNeg y k.toNatClampNeg = _
    rw [updI _ _ z0 q0]
  have e71 : ar r2 71 = ar r 71 := F.2.1 71 (by decide)
  have e68 : ar r2 68 = ar r 68 := F.2.1 68 (by decide)
  have e73 : ar r2 73 = ar r 73 := F.2.1 73 (by decide)
  have f30 : fi r2 30 = fi r 30 := F.1 30 (by decide)
  have f33 : fi r2 33 = fi r 33 := F.1 33 (by decide)
  have mo : ∀ x : Int32, 0 ≤ x → ∀ c, gb (ar r 70 x.toNatClampNeg) c = true → gb (ar r2 70 x.toNatClampNeg) c = true := fun x x0 c hc => by
    rw [a70 x x0]
    split
    · rename_i e; rw [e] at hc; exact gbo.mpr (Or.inl hc)
    · exact hc
  have ony : Onp r2 (v + 1) y := ⟨v, z0, by rw [it, v1]; omega, by rw [a72 v z0, if_pos rfl]⟩
  have ono : ∀ x, Onp r v x → Onp r2 (v + 1) x := fun x ⟨k, k0, k1, k2⟩ => by
    rw [it] at k1
    exact ⟨k, k0, by rw [it, v1]; omega, by rw [a72 k k0, if_neg (by rw [ie]; omega)]; exact k2⟩
  have new : ∀ c, gb b c = true → gb (ar r2 70 y.toNatClampNeg) c = true := fun c hc => by
    rw [a70 y vy.1, if_pos rfl]
    exact gbo.mpr (Or.inr hc)
  refine ⟨⟨Fr_trans d1 (Fr_mono F (by decide) (by decide)), ⟨⟨by omega, by omega⟩, fun k k0 k1 => ?_⟩, ⟨fun x vx c hc => ?_, fun x vx c hc => ?_, fun x vx c hc nc => ?_, fun x x0 c hc => mo x x0 c (dB x x0 c hc)⟩, fun x vx c hc hh => ?_, by rw [f33]; exact d7, ⟨by rw [f30]; exact d80, fun i hi => ?_, by rw [f30, e73]; exact d82, by rw [f30, e68, e73]; exact d83⟩, by rw [e68]; exact d9, by rw [e71, e68]; exact d10⟩, mo, new, F⟩
  · rw [a72 k k0]
    split
    · obtain ⟨c, hc⟩ := nb
      exact ⟨⟨vy, ry⟩, c, new c hc⟩
    · rename_i q
      rw [it, v1] at k1
      rw [ie] at q
      have en := d2' k k0 (by rw [it]; omega)
      obtain ⟨c, hc⟩ := en.2
      exact ⟨en.1, c, mo _ en.1.1.1 c hc⟩
  · rw [a70 x vx.1] at hc
    split at hc
    · rename_i e
      rw [e]
      rcases gbo.mp hc with hc | hc
      · exact d3 y vy c hc
      · exact hb c hc
    · exact d3 x vx c hc
  · rw [e71] at hc
    exact mo x vx.1 c (d4 x vx c hc)
  · rw [e71] at nc
    rw [a70 x vx.1] at hc
    split at hc
    · rename_i e; rw [e]; exact ony
    · exact ono x (d5 x vx c hc nc)
  · rw [e71] at hc
    rw [f33]
    have k := d6 x vx c hc hh
    have l := kF_l w0 tb vx hh
    have m := m_lf w0 vx
    exact ⟨fun c1 => ⟨fun q => ((k.1 c1).1 q).imp id (mo _ (m_rr w0 (m.1.2 (l.1 _ _ q))).1.1 c1), fun q => ((k.1 c1).2 q).imp id (mo _ (m_rr w0 (m.2.2 (l.2 _ _ q))).1.1 c1)⟩, k.2⟩
  · rw [f30] at hi
    rw [e73, e68]
    have k := d81 i hi
    obtain ⟨c, hc⟩ := k.2.2
    exact ⟨k.1, k.2.1, c, mo _ k.1.1.1 c hc⟩
abbrev nE : Int32 → Nat → Prop := fun _ _ => False
theorem DW_E {r0 : S_} {W B E1 E2 E1' E2' : Int32 → Nat → Prop} {v : Int32} (h : DW r0 r rh W B v E1 E2) (h1 : ∀ x, vt r0 x → ∀ c c1, 0 ≤ ar r0 65 x.toNatClampNeg → kF r0 10 c (ar r0 65 x.toNatClampNeg) c1 → E1 x c → E1' x c ∨ gb (ar r 70 (rh (ar r0 66 x.toNatClampNeg)).toNatClampNeg) c1 = true) (h2 : ∀ x, vt r0 x → ∀ c c1, 0 ≤ ar r0 65 x.toNatClampNeg → kF r0 11 c (ar r0 65 x.toNatClampNeg) c1 → E2 x c → E2' x c ∨ gb (ar r 70 (rh (ar r0 67 x.toNatClampNeg)).toNatClampNeg) c1 = true) : DW r0 r rh W B v E1' E2' := by
  obtain ⟨d1, d2, d3, d6, d7, d8⟩ := h
  refine ⟨d1, d2, d3, fun x vx c hc hh => ⟨fun c1 => ⟨fun q => ?_, fun q => ?_⟩, (d6 x vx c hc hh).2⟩, d7, d8⟩
  · exact (((d6 x vx c hc hh).1 c1).1 q).elim (h1 x vx c c1 hh q) Or.inr
  · exact (((d6 x vx c hc hh).1 c1).2 q).elim (h2 x vx c c1 hh q) Or.inr
theorem ws_drive134 {r0 : S_} {W B : Int32 → Nat → Prop} {x v : Int32} {KX : S_ → Prop} {n : Nat} (w0 : MI a r0 rh ta N) (tb : MTB r0) (ih : ∀ (r : S_) (v : Int32), DW r0 r rh W B v nE nE → wM_drive_L77 a KX n r v) (h : DW r0 r rh W B v nE nE) (d1 : (v + -1).toInt = v.toInt - 1) (hv : 0 < v.toInt) (ex : ar r 72 (v + -1).toNatClampNeg = x) (mx : ar r 68 x.toNatClampNeg = fi r0 29) : wM_drive_J134 a (wM_drive_L77 a KX n) KX r (v + -1) x := by
  have k0 : 0 ≤ v + -1 := by rw [il, d1]; simp; omega
  have en := h.2.1.2 _ k0 (by rw [it, d1]; omega)
  rw [ex] at en
  obtain ⟨⟨vx, rx⟩, nb⟩ := en
  have h0 := h
  obtain ⟨q1, ⟨q2, q2'⟩, ⟨q3, q4, q5, qB⟩, q6, q7, ⟨q80, q81, q82, q83⟩, q9, q10⟩ := h
  unfold wM_drive_J134
  intro _ _ z18 e18 _ _ r21 e21 m
  have F21 : Fr [] [71] r r21 := by rw [e21]; exact Fr_sA (by decide)
  have a71 : ∀ y : Int32, 0 ≤ y → ar r21 71 y.toNatClampNeg = if y = x then ar r 70 x.toNatClampNeg else ar r 71 y.toNatClampNeg := fun y y0 => by
    rw [e21]
    show upd (ar r 71) x.toNatClampNeg (ar r 70 x.toNatClampNeg) y.toNatClampNeg = _
    rw [updI _ _ vx.1 y0]
  have gz : ∀ c, gb z18 c = true ↔ gb (ar r 70 x.toNatClampNeg) c = true ∧ ¬ gb (ar r 71 x.toNatClampNeg) c = true := fun c => by
    rw [e18, gb_and]
    by_cases hc : c < 32
    · rw [gb_nm hc]; simp
    · constructor
      · intro z
        simp at z
        exact absurd (gb_lt z.1) hc
      · intro z
        exact absurd (gb_lt z.1) hc
  have e65 : ar r21 65 = ar r0 65 := (F21.2.1 65 (by decide)).trans (q1.2.1 65 (by decide))
  have F021 : Fr [30, 33] [68, 70, 71, 72, 73] r0 r21 := Fr_trans q1 (Fr_mono F21 (by decide) (by decide))
  have tb21 : MTB r21 := MTB_Fr tb F021 (by decide) (by decide)
  have kIe : kI r21 = kI r0 := by unfold kI; rw [F021.1 2 (by decide), F021.2.1 9 (by decide)]
  have kFe : ∀ k, k = 10 ∨ k = 11 → kF r21 k = kF r0 k := fun k hk => by
    unfold kF
    rw [F021.1 2 (by decide), F021.2.1 k (by rcases hk with e | e <;> rw [e] <;> decide)]
  have hx8 : ar r0 65 x.toNatClampNeg < 8 := by
    have n1 := (w0.2.2.2.1 x vx.1 vx.2).2.1.2
    exact zo3 n1 w0.2.1.2
  -- behind the classes' loop
  have mid : ∀ (r3 : S_), Fr [33] [] r21 r3 → (0 ≤ ar r0 65 x.toNatClampNeg → ∀ c, gb z18 c = true → ¬ kI r0 c (ar r0 65 x.toNatClampNeg) → ¬ fi r3 33 = 0) → (¬ fi r3 33 = 0 → ¬ fi r0 33 = 0 ∨ mLK r0 W) → (¬ fi r 33 = 0 → ¬ fi r3 33 = 0) → DW r0 r3 rh W B (v + -1) (fun y c => y = x ∧ gb z18 c = true) (fun y c => y = x ∧ gb z18 c = true) := by
    intro r3 F3 lk ls lo
    have e70 : ar r3 70 = ar r 70 := (F3.2.1 70 (by decide)).trans (F21.2.1 70 (by decide))
    have e68 : ar r3 68 = ar r 68 := (F3.2.1 68 (by decide)).trans (F21.2.1 68 (by decide))
    have e72 : ar r3 72 = ar r 72 := (F3.2.1 72 (by decide)).trans (F21.2.1 72 (by decide))
    have e73 : ar r3 73 = ar r 73 := (F3.2.1 73 (by decide)).trans (F21.2.1 73 (by decide))
    have f30 : fi r3 30 = fi r 30 := (F3.1 30 (by decide)).trans (F21.1 30 (by decide))
    have b71 : ∀ y : Int32, 0 ≤ y → ar r3 71 y.toNatClampNeg = if y = x then ar r 70 x.toNatClampNeg else ar r 71 y.toNatClampNeg := fun y y0 => by rw [F3.2.1 71 (by decide)]; exact a71 y y0
    refine ⟨Fr_trans F021 (Fr_mono F3 (by decide) (by decide)), ⟨⟨by omega, by omega⟩, fun k i0 i1 => ?_⟩, ⟨by rw [e70]; exact q3, fun y vy c hc => ?_, fun y vy c hc nc => ?_, by rw [e70]; exact qB⟩, fun y vy c hc hh => ?_, ⟨ls, fun z => lo (q7.2 z)⟩, ⟨by rw [f30]; exact q80, by rw [f30, e73, e68, e70]; exact q81, by rw [f30, e73]; exact q82, by rw [f30, e68, e73]; exact q83⟩, by rw [e68]; exact q9, fun y vy c hc => ?_⟩
    · rw [e72, e70]
      refine q2' k i0 ?_
      rw [it, d1] at i1
      rw [it]
      omega
    · rw [e70]
      rw [b71 y vy.1] at hc
      split at hc
      · rename_i e; rw [e]; exact hc
      · exact q4 y vy c hc
    · rw [e70] at hc
      rw [b71 y vy.1] at nc
      split at nc
      · rename_i e; rw [e] at hc; exact absurd hc nc
      · rename_i ne
        obtain ⟨k, i0, i1, i2⟩ := q5 y vy c hc nc
        refine ⟨k, i0, ?_, by rw [e72]; exact i2⟩
        have : ¬ k = v + -1 := fun e => ne (by rw [← i2, e, ex])
        rw [ie, d1] at this
        rw [it] at i1
        rw [it, d1]
        omega
    · rw [b71 y vy.1] at hc
      rw [e70]
      split at hc
      · rename_i e
        rw [e] at hh ⊢
        by_cases od : gb (ar r 71 x.toNatClampNeg) c = true
        · have k := q6 x vx c od hh
          exact ⟨fun c1 => ⟨fun q => Or.inr (((k.1 c1).1 q).resolve_left id), fun q => Or.inr (((k.1 c1).2 q).resolve_left id)⟩, fun q => lo (k.2 q)⟩
        · have nz := (gz c).mpr ⟨hc, od⟩
          exact ⟨fun c1 => ⟨fun _ => Or.inl ⟨rfl, nz⟩, fun _ => Or.inl ⟨rfl, nz⟩⟩, lk hh c nz⟩
      · have k := q6 y vy c hc hh
        exact ⟨fun c1 => ⟨fun q => Or.inr (((k.1 c1).1 q).resolve_left id), fun q => Or.inr (((k.1 c1).2 q).resolve_left id)⟩, fun q => lo (k.2 q)⟩
    · rw [e68]
      rw [b71 y vy.1] at hc
      split at hc
      · rename_i e; rw [e]; exact mx
      · exact q10 y vy c hc
  have f33 : fi r21 33 = fi r 33 := F21.1 33 (by decide)
  refine ws_drive172 tb21 (by rw [e65]; exact hx8) (fun hd => ?_) (fun hd r3 v5 v6 F3 g5 g6 g7 => ?_) m
  · rw [e65] at hd
    have nh : ¬ 0 ≤ ar r0 65 x.toNatClampNeg := fun z => absurd hd (Int32.not_lt.mpr z)
    have dw := mid r21 (Fr_refl _) (fun z => absurd z nh) (by rw [f33]; exact q7.1) (by rw [f33]; exact id)
    have dw2 := DW_E (E1' := nE) (E2' := nE) dw (fun y _ c c1 hh _ e => absurd hh (by rw [e.1]; exact nh)) (fun y _ c c1 hh _ e => absurd hh (by rw [e.1]; exact nh))
    unfold wM_drive_J301 wM_drive_J346 wM_drive_J391
    exact ⟨fun _ => ⟨fun _ => ih r21 _ dw2, fun z => absurd rfl z⟩, fun z => absurd rfl z⟩
  · rw [e65] at hd g5 g6 g7
    rw [kFe 10 (Or.inl rfl)] at g5
    rw [kFe 11 (Or.inr rfl)] at g6
    rw [kIe, f33] at g7
    have mnx : ∀ c, gb z18 c = true → mNd r0 W x c := fun c hc => q3 x vx c ((gz c).mp hc).1
    have hroot : gR (mG r0) x = x := by rw [mgR w0 vx]; exact rx
    have dw := mid r3 F3 (fun _ c hc nk => g7.mpr (Or.inr ⟨c, hc, nk⟩)) (fun z => by
      rcases g7.mp z with z | ⟨c, hc, nk⟩
      · exact q7.1 z
      · exact Or.inr ⟨x, c, mnx c hc, hd, nk⟩) (fun z => g7.mpr (Or.inl z))
    have l := kF_l w0 tb vx hd
    have ml' := m_lf w0 vx
    have nd1 : ∀ c1, gb v5 c1 = true → mNd r0 W (rh (ar r0 66 x.toNatClampNeg)) c1 := fun c1 h => by
      obtain ⟨c, hc, hk⟩ := (g5 c1).mp h
      have k := zNd_1 (mnx c hc) hd (tb.2.1.2.1 _ _ _ hk).1 hk
      rw [show gF (mG r0) x = ar r0 66 x.toNatClampNeg from rfl, mgR w0 (ml'.1.2 (l.1 _ _ hk))] at k
      exact k
    have nd2 : ∀ c1, gb v6 c1 = true → mNd r0 W (rh (ar r0 67 x.toNatClampNeg)) c1 := fun c1 h => by
      obtain ⟨c, hc, hk⟩ := (g6 c1).mp h
      have k := zNd_2 (mnx c hc) hd (tb.2.1.2.2.1 _ _ _ hk).1 hk
      rw [show gS (mG r0) x = ar r0 67 x.toNatClampNeg from rfl, mgR w0 (ml'.2.2 (l.2 _ _ hk))] at k
      exact k
    -- the second part
    have j346 : ∀ (r4 : S_) (v' : Int32), DW r0 r4 rh W B v' nE (fun y c => y = x ∧ gb z18 c = true) → wM_drive_J346 a (wM_drive_L77 a KX n) KX r4 v' x v6 := by
      intro r4 v' dw4
      have F4 := dw4.1
      unfold wM_drive_J346 wM_drive_J391
      refine ⟨fun z => ih r4 v' (DW_E dw4 (fun _ _ _ _ _ _ e => e.elim) (fun y vy c c1 hh hk e => ?_)), fun z _ => ?_⟩
      · have : gb v6 c1 = true := (g6 c1).mpr ⟨c, e.2, by rw [← e.1]; exact hk⟩
        rw [z, gb_0] at this
        exact absurd this (by decide)
      · obtain ⟨b, hb⟩ := nbit z
        obtain ⟨c, hc, hk⟩ := (g6 b).mp hb
        have q0 := l.2 _ _ hk
        have vl := ml'.2.2 q0
        have w4 : MI a r4 rh ta N := MI_Fr w0 F4 (by decide) (by decide)
        rw [F4.2.1 67 (by decide)]
        refine ws_mfind w4 q0 (by rw [F4.1 28 (by decide)]; exact vl.2) (fun _ _ r44 e44 vp r46 e46 => ?_)
        have rr := m_rr w0 vl
        obtain ⟨p1, p2, p3, p4⟩ := DW_push w0 tb dw4 vp rr.1 rr.2.1 nd2 ⟨b, hb⟩ (r2 := r46) (by rw [e46, e44]; rfl)
        refine ih r46 _ (DW_E p1 (fun _ _ _ _ _ _ e => e.elim) (fun y vy c c1 hh hk e => Or.inr ?_))
        rw [e.1]
        exact p3 c1 ((g6 c1).mpr ⟨c, e.2, by rw [← e.1]; exact hk⟩)
    unfold wM_drive_J301
    refine ⟨fun z => j346 r3 _ (DW_E dw (fun y vy c c1 hh hk e => ?_) (fun y vy c c1 hh hk e => Or.inl e)), fun z _ => ?_⟩
    · have : gb v5 c1 = true := (g5 c1).mpr ⟨c, e.2, by rw [← e.1]; exact hk⟩
      rw [z, gb_0] at this
      exact absurd this (by decide)
    · obtain ⟨b, hb⟩ := nbit z
      obtain ⟨c, hc, hk⟩ := (g5 b).mp hb
      have q0 := l.1 _ _ hk
      have vl := ml'.1.2 q0
      have F4 := dw.1
      have w4 : MI a r3 rh ta N := MI_Fr w0 F4 (by decide) (by decide)
      rw [F4.2.1 66 (by decide)]
      refine ws_mfind w4 q0 (by rw [F4.1 28 (by decide)]; exact vl.2) (fun _ _ r51 e51 vp r53 e53 => ?_)
      have rr := m_rr w0 vl
      obtain ⟨p1, p2, p3, p4⟩ := DW_push w0 tb dw vp rr.1 rr.2.1 nd1 ⟨b, hb⟩ (r2 := r53) (by rw [e53, e51]; rfl)
      refine j346 r53 _ (DW_E p1 (fun y vy c c1 hh hk e => Or.inr ?_) (fun y vy c c1 hh hk e => Or.inl e))
      rw [e.1]
      exact p3 c1 ((g5 c1).mpr ⟨c, e.2, by rw [← e.1]; exact hk⟩)
end ZMDRIVE
