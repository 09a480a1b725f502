/-! The class's settling: what it comes to. -/
section ZCSETTLE
variable {a : L_} {r r' : S_} {rh ta rk : Int32 → Int32} {N : Int32}
theorem kI_eq {r1 : S_} (h2 : fi r 2 = fi r1 2) (h9 : ar r 9 = ar r1 9) {c : Nat} {k : Int32} : kI r c k ↔ kI r1 c k := by
  unfold kI
  rw [h2, h9]
theorem kF_eq {r1 : S_} {m : Nat} (h2 : fi r 2 = fi r1 2) (h9 : ar r m = ar r1 m) {c c1 : Nat} {k : Int32} : kF r m c k c1 ↔ kF r1 m c k c1 := by
  unfold kF
  rw [h2, h9]
theorem kU_eq {r1 : S_} (h2 : fi r 2 = fi r1 2) (h9 : ar r 7 = ar r1 7) {c c1 : Nat} : kU r c c1 ↔ kU r1 c c1 := by
  unfold kU
  rw [h2, h9]
theorem ws_sv {r1 : S_} {W : Int32 → Nat → Prop} {v3 v : Int32} (k0 : 0 ≤ fi r1 2) (k8 : fi r1 2 ≤ 8) (n8 : ∀ x c, cNd r1 W x c → c < 8) (o : ORD r1 rh) (vb : fi r1 12 < 20000) (h : SLI a r1 r rh ta N W v3 v) (v0 : 0 ≤ v) (v1 : v < fi r1 12) (hv : ar r1 21 (ar r1 30 v.toNatClampNeg).toNatClampNeg = -1) (hz : ¬ ar r 29 (ar r1 30 v.toNatClampNeg).toNatClampNeg = 0) {K : Int32 → S_ → Prop} (hK : ∀ z r', SLI a r1 r' rh ta N W (v3 + z) (v - 1) → K z r') : wY_settleVariable a K r (ar r1 30 v.toNatClampNeg) (ar r 29 (ar r1 30 v.toNatClampNeg).toNatClampNeg) := by
  have F := h.2.2.1
  have e26 : ar r 26 = ar r1 26 := F.2.1 26 (by decide)
  have e27 : ar r 27 = ar r1 27 := F.2.1 27 (by decide)
  have e7 : ar r 7 = ar r1 7 := F.2.1 7 (by decide)
  have f6 : fi r 6 = fi r1 6 := F.1 6 (by decide)
  have f2 : fi r 2 = fi r1 2 := F.1 2 (by decide)
  have z0 : v3 + 0 = v3 := by grind
  unfold wY_settleVariable
  rw [e26, e27, f6]
  refine fun _ => ⟨fun g _ => ⟨fun g2 _ r5 e5 => ?_, fun g2 _ _ r9 e9 => ?_⟩, fun g => ?_⟩
  · rw [e5]
    refine hK 0 _ ?_
    rw [z0]
    exact SLI_amb o h v0 v1 hv hz g g2
  · rw [e9]
    refine hK 0 _ ?_
    rw [z0]
    exact SLI_bound o h v0 v1 hv g g2
  · refine ws_lowest (by rw [f2]; exact k0) (by rw [f2]; exact k8) (fun z hl _ r12 e12 _ => ?_)
    have hl' : ∀ d, d < 32 → (gb z d = true ↔ gb (ar r 29 (ar r1 30 v.toNatClampNeg).toNatClampNeg) d = true ∧ ∀ c, gb (ar r 29 (ar r1 30 v.toNatClampNeg).toNatClampNeg) c = true → ¬ c = d → ¬ kU r1 c d) := by
      intro d hd
      rw [hl d hd]
      exact ⟨fun q => ⟨q.1, fun c q1 q2 q3 => q.2 c q1 q2 ((kU_eq f2 e7).mpr q3)⟩, fun q => ⟨q.1, fun c q1 q2 q3 => q.2 c q1 q2 ((kU_eq f2 e7).mp q3)⟩⟩
    have er : ar r12 25 (ar r1 30 v.toNatClampNeg).toNatClampNeg = z := by
      rw [e12]
      show upd (ar r 25) (ar r1 30 v.toNatClampNeg).toNatClampNeg z (ar r1 30 v.toNatClampNeg).toNatClampNeg = z
      rw [pk_us]
    rw [er]
    refine ws_bc (fun i hi i8 => ?_) (hK _ _ ?_)
    · cases e : gb z i with
      | false => rfl
      | true =>
        have q := ((hl' i hi).mp e).1
        have := n8 _ _ (h.2.2.2.1 v v0 v1 i q)
        omega
    · rw [e12]
      exact SLI_open o h v0 v1 vb hv g hz hl'
theorem ws_hd {r1 : S_} {W : Int32 → Nat → Prop} {v3 v : Int32} (k0 : 0 ≤ fi r1 2) (k8 : fi r1 2 ≤ 8) (o : ORD r1 rh) (hI1 : GI a r1 rh ta N) (ay : AYc r1) (fa1 : ∀ c k c1, kF r1 10 c k c1 → kI r1 c k ∧ 0 < ar r1 0 k.toNatClampNeg) (fa2 : ∀ c k c1, kF r1 11 c k c1 → kI r1 c k ∧ 1 < ar r1 0 k.toNatClampNeg) (h : SLI a r1 r rh ta N W v3 v) (v0 : 0 ≤ v) (v1 : v < fi r1 12) (hv : 0 ≤ ar r1 21 (ar r1 30 v.toNatClampNeg).toNatClampNeg) {K : S_ → Prop} (hK : ∀ r', SLI a r1 r' rh ta N W v3 (v - 1) → K r') : wY_handDown a K r (ar r1 30 v.toNatClampNeg) (ar r 29 (ar r1 30 v.toNatClampNeg).toNatClampNeg) := by
  have F := h.2.2.1
  have hI := h.1
  have hf := h.2.1
  have e21 : ar r 21 = ar r1 21 := F.2.1 21 (by decide)
  have e23 : ar r 23 = ar r1 23 := F.2.1 23 (by decide)
  have e9 : ar r 9 = ar r1 9 := F.2.1 9 (by decide)
  have e10' : ar r 10 = ar r1 10 := F.2.1 10 (by decide)
  have e11' : ar r 11 = ar r1 11 := F.2.1 11 (by decide)
  have f2 : fi r 2 = fi r1 2 := F.1 2 (by decide)
  have f11 : fi r 11 = fi r1 11 := F.1 11 (by decide)
  obtain ⟨⟨u0, u1, u2⟩, u3, u4⟩ := o.2.2 v v0 v1
  have nn := hI1.2.2.2.1 _ u0 u1
  have h8 : ar r1 21 (ar r1 30 v.toNatClampNeg).toNatClampNeg < 8 := nn.2.1
  have pz : ∀ y : Int32, -1 ≤ y → ¬ y = -1 → 0 ≤ y := fun y y0 y1 => by clear h o hI1 ay fa1 fa2 hI hf F nn u3 u4; grind
  unfold wY_handDown
  rw [e21]
  -- behind the instances
  have rest : ∀ r2 : S_, (r2 = r ∨ r2 = sF r 9 1) → (¬ fi r2 9 = 0 ↔ ¬ fi r 9 = 0 ∨ ∃ c, gb (ar r 29 (ar r1 30 v.toNatClampNeg).toNatClampNeg) c = true ∧ ¬ kI r1 c (ar r1 21 (ar r1 30 v.toNatClampNeg).toNatClampNeg)) → wY_handDown_J27 a K r2 (ar r1 30 v.toNatClampNeg) (ar r 29 (ar r1 30 v.toNatClampNeg).toNatClampNeg) (ar r1 21 (ar r1 30 v.toNatClampNeg).toNatClampNeg) := by
    intro r2 hr2 hl
    have F2 : Fr [9, 10] [22, 24, 25, 29] r1 r2 := by
      rcases hr2 with e | e
      · rw [e]; exact F
      · rw [e]; exact Fr_trans F (Fr_sF (by decide))
    have I2 : GI a r2 rh ta N := by rcases hr2 with e | e <;> rw [e] <;> exact hI
    have S2 : FS (fi r1 11) (ar r1 21) (ar r1 22) (ar r2 22) := by rcases hr2 with e | e <;> rw [e] <;> exact hf
    have x24 : ar r2 24 = ar r 24 := by rcases hr2 with e | e <;> rw [e] <;> rfl
    have x25 : ar r2 25 = ar r 25 := by rcases hr2 with e | e <;> rw [e] <;> rfl
    have x29 : ar r2 29 = ar r 29 := by rcases hr2 with e | e <;> rw [e] <;> rfl
    have x10 : fi r2 10 = fi r 10 := by rcases hr2 with e | e <;> rw [e] <;> rfl
    have y11 : fi r2 11 = fi r1 11 := F2.1 11 (by decide)
    have y21 : ar r2 21 = ar r1 21 := F2.2.1 21 (by decide)
    have y23 : ar r2 23 = ar r1 23 := F2.2.1 23 (by decide)
    have ef : ar r2 22 (ar r1 30 v.toNatClampNeg).toNatClampNeg = ar r1 22 (ar r1 30 v.toNatClampNeg).toNatClampNeg := S2 _ u0 u1 u2
    unfold wY_handDown_J27
    -- the end: with values val2 behind both
    have fin : ∀ (r3 : S_), GI a r3 rh ta N → FS (fi r1 11) (ar r1 21) (ar r1 22) (ar r3 22) → Fr [9, 10] [22, 24, 25, 29] r1 r3 → ar r3 24 = ar r 24 → ar r3 25 = ar r 25 → fi r3 10 = fi r 10 → fi r3 9 = fi r2 9 → HDv r1 r r3 rh (ar r1 30 v.toNatClampNeg) → K r3 := by
      intro r3 q1 q2 q3 q4 q5 q6 q7 q8
      exact hK r3 (SLI_hand o hI1 ay fa1 fa2 h v0 v1 hv q1 q2 q3 q4 q5 q6 q8 (by rw [q7]; exact hl))
    have snd : ∀ (r3 : S_) (z6 : Int32), GI a r3 rh ta N → FS (fi r1 11) (ar r1 21) (ar r1 22) (ar r3 22) → Fr [9, 10] [22, 24, 25, 29] r1 r3 → ar r3 24 = ar r 24 → ar r3 25 = ar r 25 → fi r3 10 = fi r 10 → fi r3 9 = fi r2 9 → (∀ x : Int32, 0 ≤ x → ∀ c1, gb (ar r3 29 x.toNatClampNeg) c1 = true ↔ gb (ar r 29 x.toNatClampNeg) c1 = true ∨ (¬ ar r1 22 (ar r1 30 v.toNatClampNeg).toNatClampNeg = -1 ∧ x = rh (ar r1 22 (ar r1 30 v.toNatClampNeg).toNatClampNeg) ∧ ∃ c, gb (ar r 29 (ar r1 30 v.toNatClampNeg).toNatClampNeg) c = true ∧ kF r1 10 c (ar r1 21 (ar r1 30 v.toNatClampNeg).toNatClampNeg) c1)) → ((ar r1 23 (ar r1 30 v.toNatClampNeg).toNatClampNeg = -1 ∧ z6 = -1) ∨ (¬ ar r1 23 (ar r1 30 v.toNatClampNeg).toNatClampNeg = -1 ∧ z6 = rh (ar r1 23 (ar r1 30 v.toNatClampNeg).toNatClampNeg) ∧ 0 ≤ z6)) → wY_handDown_J82 a K r3 (ar r 29 (ar r1 30 v.toNatClampNeg).toNatClampNeg) (ar r1 21 (ar r1 30 v.toNatClampNeg).toNatClampNeg) z6 := by
      intro r3 z6 q1 q2 q3 q4 q5 q6 q7 q8 q9
      have g2 : fi r3 2 = fi r1 2 := q3.1 2 (by decide)
      have g11 : ar r3 11 = ar r1 11 := q3.2.1 11 (by decide)
      unfold wY_handDown_J82
      refine ⟨fun e => fin r3 q1 q2 q3 q4 q5 q6 q7 (fun x x0 c1 => ?_), fun e _ => ws_joined (by rw [g2]; exact k0) (by rw [g2]; exact k8) hv h8 (fun z hz _ r13 e13 => ?_)⟩
      · rw [q8 x x0 c1]
        rcases q9 with m | m
        · constructor
          · rintro (k | k)
            · exact Or.inl k
            · exact Or.inr (Or.inl k)
          · rintro (k | k | k)
            · exact Or.inl k
            · exact Or.inr k
            · exact absurd m.1 k.1
        · rw [e] at m
          exact absurd m.2.2 (by decide)
      · rcases q9 with m | ⟨m1, m2, m3⟩
        · exact absurd m.2 e
        · rw [e13]
          refine fin _ q1 q2 (Fr_trans q3 (Fr_sA (by decide))) q4 q5 q6 q7 (fun x x0 c1 => ?_)
          show gb (upd (ar r3 29) z6.toNatClampNeg (ar r3 29 z6.toNatClampNeg ||| z) x.toNatClampNeg) c1 = true ↔ _
          rw [updI _ _ m3 x0]
          by_cases ex : x = z6
          · rw [if_pos ex, gb_or, Bool.or_eq_true, ← ex, q8 x x0 c1, hz c1]
            constructor
            · rintro ((k | k) | ⟨c, k1, k2⟩)
              · exact Or.inl k
              · exact Or.inr (Or.inl k)
              · exact Or.inr (Or.inr ⟨m1, by rw [ex, m2], c, k1, (kF_eq g2 g11).mp k2⟩)
            · rintro (k | k | ⟨_, _, c, k1, k2⟩)
              · exact Or.inl (Or.inl k)
              · exact Or.inl (Or.inr k)
              · exact Or.inr ⟨c, k1, (kF_eq g2 g11).mpr k2⟩
          · rw [if_neg ex, q8 x x0 c1]
            constructor
            · rintro (k | k)
              · exact Or.inl k
              · exact Or.inr (Or.inl k)
            · rintro (k | k | ⟨_, k, _⟩)
              · exact Or.inl k
              · exact Or.inr k
              · exact absurd (k.trans m2.symm) ex
    -- between the two parts
    have mid : ∀ (r3 : S_) (z4 : Int32), GI a r3 rh ta N → FS (fi r1 11) (ar r1 21) (ar r1 22) (ar r3 22) → Fr [9, 10] [22, 24, 25, 29] r1 r3 → ar r3 24 = ar r 24 → ar r3 25 = ar r 25 → fi r3 10 = fi r 10 → fi r3 9 = fi r2 9 → ar r3 29 = ar r 29 → ((ar r1 22 (ar r1 30 v.toNatClampNeg).toNatClampNeg = -1 ∧ z4 = -1) ∨ (¬ ar r1 22 (ar r1 30 v.toNatClampNeg).toNatClampNeg = -1 ∧ z4 = rh (ar r1 22 (ar r1 30 v.toNatClampNeg).toNatClampNeg) ∧ 0 ≤ z4)) → wG_secondOf a (fun z6 r7 => ((z4 = (-1)) → wY_handDown_J82 a K r7 (ar r 29 (ar r1 30 v.toNatClampNeg).toNatClampNeg) (ar r1 21 (ar r1 30 v.toNatClampNeg).toNatClampNeg) z6) ∧ ((¬ z4 = (-1)) → vp_in z4 (ln a 29) → wK_joined a r7 10 (fun z15 => vp_in z4 (ln a 29) → ∀ r17 : S_, r17 = sA r7 29 (upd (ar r7 29) z4.toNatClampNeg ((ar r7 29 z4.toNatClampNeg) ||| z15)) → wY_handDown_J82 a K r17 (ar r 29 (ar r1 30 v.toNatClampNeg).toNatClampNeg) (ar r1 21 (ar r1 30 v.toNatClampNeg).toNatClampNeg) z6) (ar r 29 (ar r1 30 v.toNatClampNeg).toNatClampNeg) (ar r1 21 (ar r1 30 v.toNatClampNeg).toNatClampNeg))) r3 (ar r1 30 v.toNatClampNeg) := by
      intro r3 z4 q1 q2 q3 q4 q5 q6 q7 q8 q9
      have g11 : fi r3 11 = fi r1 11 := q3.1 11 (by decide)
      have g21 : ar r3 21 = ar r1 21 := q3.2.1 21 (by decide)
      have g23 : ar r3 23 = ar r1 23 := q3.2.1 23 (by decide)
      have both : ∀ (r7 : S_) (z6 : Int32), GI a r7 rh ta N → FS (fi r1 11) (ar r1 21) (ar r1 22) (ar r7 22) → Fr [9, 10] [22, 24, 25, 29] r1 r7 → ar r7 24 = ar r 24 → ar r7 25 = ar r 25 → fi r7 10 = fi r 10 → fi r7 9 = fi r2 9 → ar r7 29 = ar r 29 → ((ar r1 23 (ar r1 30 v.toNatClampNeg).toNatClampNeg = -1 ∧ z6 = -1) ∨ (¬ ar r1 23 (ar r1 30 v.toNatClampNeg).toNatClampNeg = -1 ∧ z6 = rh (ar r1 23 (ar r1 30 v.toNatClampNeg).toNatClampNeg) ∧ 0 ≤ z6)) → ((z4 = (-1)) → wY_handDown_J82 a K r7 (ar r 29 (ar r1 30 v.toNatClampNeg).toNatClampNeg) (ar r1 21 (ar r1 30 v.toNatClampNeg).toNatClampNeg) z6) ∧ ((¬ z4 = (-1)) → vp_in z4 (ln a 29) → wK_joined a r7 10 (fun z15 => vp_in z4 (ln a 29) → ∀ r17 : S_, r17 = sA r7 29 (upd (ar r7 29) z4.toNatClampNeg ((ar r7 29 z4.toNatClampNeg) ||| z15)) → wY_handDown_J82 a K r17 (ar r 29 (ar r1 30 v.toNatClampNeg).toNatClampNeg) (ar r1 21 (ar r1 30 v.toNatClampNeg).toNatClampNeg) z6) (ar r 29 (ar r1 30 v.toNatClampNeg).toNatClampNeg) (ar r1 21 (ar r1 30 v.toNatClampNeg).toNatClampNeg)) := by
        intro r7 z6 p1 p2 p3 p4 p5 p6 p7 p8 p9
        have g2 : fi r7 2 = fi r1 2 := p3.1 2 (by decide)
        have g10 : ar r7 10 = ar r1 10 := p3.2.1 10 (by decide)
        refine ⟨fun e => snd r7 z6 p1 p2 p3 p4 p5 p6 p7 (fun x x0 c1 => ?_) p9, fun e _ => ws_joined (by rw [g2]; exact k0) (by rw [g2]; exact k8) hv h8 (fun z hz _ r17 e17 => ?_)⟩
        · rw [p8]
          rcases q9 with m | m
          · exact ⟨Or.inl, fun k => k.elim id (fun k => absurd m.1 k.1)⟩
          · rw [e] at m
            exact absurd m.2.2 (by decide)
        · rcases q9 with m | ⟨m1, m2, m3⟩
          · exact absurd m.2 e
          · rw [e17]
            refine snd _ z6 p1 p2 (Fr_trans p3 (Fr_sA (by decide))) p4 p5 p6 p7 (fun x x0 c1 => ?_) p9
            show gb (upd (ar r7 29) z4.toNatClampNeg (ar r7 29 z4.toNatClampNeg ||| z) x.toNatClampNeg) c1 = true ↔ _
            rw [updI _ _ m3 x0, p8]
            by_cases ex : x = z4
            · rw [if_pos ex, gb_or, Bool.or_eq_true, ← ex, hz c1]
              constructor
              · rintro (k | ⟨c, k1, k2⟩)
                · exact Or.inl k
                · exact Or.inr ⟨m1, by rw [ex, m2], c, k1, (kF_eq g2 g10).mp k2⟩
              · rintro (k | ⟨_, _, c, k1, k2⟩)
                · exact Or.inl k
                · exact Or.inr ⟨c, k1, (kF_eq g2 g10).mpr k2⟩
            · rw [if_neg ex]
              exact ⟨Or.inl, fun k => k.elim id (fun k => absurd (k.2.1.trans m2.symm) ex)⟩
      refine ws_secondOf q1 u0 (by rw [g11]; exact u1) (fun e => ?_) (fun e f k1 k2 => ?_)
      · rw [g23] at e
        exact both r3 (-1) q1 q2 q3 q4 q5 q6 q7 q8 (Or.inl ⟨e, rfl⟩)
      · rw [g23] at e ⊢
        have p0 := pz _ nn.2.2.2.2.1 e
        have b := hI1.2.2.2.2.1.2 _ p0 nn.2.2.2.2.2.1
        exact both (sA r3 22 f) _ k1 (fun x x0 x1 x2 => (k2 x x0 (by rw [g11]; exact x1) (by rw [g21]; exact x2)).trans (q2 x x0 x1 x2)) (Fr_trans q3 (Fr_sA (by decide))) q4 q5 q6 q7 q8 (Or.inr ⟨e, rfl, b.1⟩)
    refine ws_firstOf I2 u0 (by rw [y11]; exact u1) (fun e => ?_) (fun e f k1 k2 => ?_)
    · rw [ef] at e
      exact mid r2 (-1) I2 S2 F2 x24 x25 x10 rfl x29 (Or.inl ⟨e, rfl⟩)
    · rw [ef] at e ⊢
      have p0 := pz _ nn.2.2.1 e
      have b := hI1.2.2.2.2.1.2 _ p0 nn.2.2.2.1
      exact mid (sA r2 22 f) _ k1 (fun x x0 x1 x2 => (k2 x x0 (by rw [y11]; exact x1) (by rw [y21]; exact x2)).trans (S2 x x0 x1 x2)) (Fr_trans F2 (Fr_sA (by decide))) x24 x25 x10 rfl x29 (Or.inr ⟨e, rfl, b.1⟩)
  refine fun _ => ws_have (by rw [f2]; exact k0) (by rw [f2]; exact k8) hv h8 (fun hall _ => ⟨fun _ => rest r (Or.inl rfl) ⟨Or.inl, fun k => k.elim id (fun ⟨c, c1, c2⟩ => absurd ((kI_eq f2 e9).mp (hall c c1)) c2)⟩, fun z => absurd z (by decide)⟩) (fun ⟨c, c1, c2⟩ _ => ⟨fun z => absurd rfl z, fun _ _ r18 e18 => ?_⟩)
  exact rest r18 (Or.inr e18) ⟨fun _ => Or.inr ⟨c, c1, fun z => c2 ((kI_eq f2 e9).mpr z)⟩, fun _ => by rw [e18]; show ¬ (1 : Int32) = 0; decide⟩
theorem ws_set37 {r1 : S_} {W : Int32 → Nat → Prop} (k0 : 0 ≤ fi r1 2) (k8 : fi r1 2 ≤ 8) (n8 : ∀ x c, cNd r1 W x c → c < 8) (o : ORD r1 rh) (vb : fi r1 12 < 20000) (hI1 : GI a r1 rh ta N) (ay : AYc r1) (fa1 : ∀ c k c1, kF r1 10 c k c1 → kI r1 c k ∧ 0 < ar r1 0 k.toNatClampNeg) (fa2 : ∀ c k c1, kF r1 11 c k c1 → kI r1 c k ∧ 1 < ar r1 0 k.toNatClampNeg) {KX : S_ → Int32 → Prop} (hK : ∀ r' z, SLI a r1 r' rh ta N W z (-1) → KX r' z) : ∀ (n : Nat) (r : S_) (v3 v : Int32), SLI a r1 r rh ta N W v3 v → -1 ≤ v → v < fi r1 12 → wY_settle_L37 a KX n r v3 v := by
  intro n
  induction n with
  | zero => intro r v3 v _ _ _; trivial
  | succ n ih =>
    intro r v3 v h v0 v1
    have F := h.2.2.1
    have e30 : ar r 30 = ar r1 30 := F.2.1 30 (by decide)
    have e21 : ar r 21 = ar r1 21 := F.2.1 21 (by decide)
    rw [wY_settle_L37]
    unfold wY_settle_J120
    refine ⟨fun g => ?_, fun g _ _ => ?_⟩
    · have e : v = -1 := by clear h ih o; grind
      rw [e] at h
      exact hK r v3 h
    · have v00 : 0 ≤ v := Int32.not_lt.mp g
      have c1 : -1 ≤ v - 1 := by clear h ih o; grind
      have c2 : v - 1 < fi r1 12 := ltt (kdec3 v00) v1
      obtain ⟨⟨u0, u1, u2⟩, _⟩ := o.2.2 v v00 v1
      rw [e30, kdec4 v00]
      refine ⟨fun gz => ?_, fun gz => ih r v3 (v - 1) (SLI_skip o h v00 v1 gz) c1 c2⟩
      unfold wG_isVariable
      rw [e21]
      refine fun _ => ⟨fun gv _ _ => ⟨fun _ _ => ws_hd k0 k8 o hI1 ay fa1 fa2 h v00 v1 ?_ (fun r' h' => ih r' v3 (v - 1) h' c1 c2), fun z => absurd rfl z⟩, fun gv _ _ => ⟨fun z => absurd z (by decide), fun _ _ => ws_sv k0 k8 n8 o vb h v00 v1 gv gz (fun z r' h' => ih r' (v3 + z) (v - 1) h' c1 c2)⟩⟩
      have b := (hI1.2.2.2.1 _ u0 u1).1
      clear h ih o hI1 ay fa1 fa2
      grind
end ZCSETTLE
