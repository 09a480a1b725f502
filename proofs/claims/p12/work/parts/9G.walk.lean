/-! The walk's loop. -/
section WALK5
variable {a : L_} {r r' : S_} {rh ta rk : Int32 → Int32} {N px pp : Int32} {acy : Prop} {d : Nat}
def ms (r : S_) : Int := 3 * ((fi r 11).toInt - (cnt (fun i => ar r 28 i == fi r 13) (fi r 11).toNatClampNeg : Int)) + (fi r 14).toInt
theorem ms0 (w : WI a r rh ta N acy rk px pp d) : 0 ≤ ms r ∧ ms r ≤ 30000 := by
  obtain ⟨w1, w2, w3, w4, w5, w6, w7⟩ := w
  have k := nv_le w1 (V := ar r 28) (v := fi r 13)
  have h := w3.2.1
  have h3 := w3.2.2.1
  rw [il, show (0 : Int32).toInt = 0 from rfl] at h
  unfold ms
  omega
theorem WI_any (w : WI a r rh ta N acy rk px pp 0) (p q : Int32) : WI a r rh ta N acy rk p q 0 := by
  obtain ⟨w1, w2, w3, w4, w5, w6, w7⟩ := w
  refine ⟨w1, w2, w3, w4, ?_, fun ha => ?_, fun z => absurd z (by decide)⟩
  · intro x k1 k2 k3
    obtain ⟨b1, b2, b3, b4, b5, b6⟩ := w5 x k1 k2 k3
    exact ⟨b1, b2, b3, b4, fun g _ => b5 g (fun _ => rfl), fun g _ => b6 g (fun _ => by decide)⟩
  · obtain ⟨d0, d1, d2, d3⟩ := w6 ha
    refine ⟨d0, d1, fun p k1 k2 k3 => ?_, d3⟩
    obtain ⟨b1, b2⟩ := d2 p k1 k2 k3
    exact ⟨fun g _ => b1 g (fun _ => rfl), fun g _ => b2 g (fun _ => by decide)⟩
theorem cap (w : WI a r rh ta N acy rk px pp d) : (fi r 14).toInt < ln a 31 ∧ ln a 31 < 100000 := by
  obtain ⟨w1, w2, w3, w4, w5, w6, w7⟩ := w
  have k := nv_le w1 (V := ar r 28) (v := fi r 13)
  have h3 := w3.2.2.1
  have e1 := w1.1.2.2.2.2.2.2.2.2.2.1
  have e2 := w1.1.2.2.2.2.2.2.2.2.2.2.2
  have e3 := w1.2.2.1
  omega
theorem Fw_22 {f : Nat → Int32} (hf : FS (fi r 11) (ar r 21) (ar r 22) f) : Fw r (sA r 22 f) := by
  refine ⟨fun _ _ _ => rfl, fun k k1 _ _ _ _ => ?_, fun _ => rfl, hf, fun _ _ _ h => h⟩
  rw [ar_sA, if_neg k1]
theorem Fw_push {y g : Int32} : Fw r (sF (sA r 31 (upd (ar r 31) (fi r 14).toNatClampNeg y)) 14 g) := by
  refine ⟨fun k _ k2 => ?_, fun k _ _ _ _ k5 => ?_, fun _ => rfl, fun _ _ _ _ => rfl, fun _ _ _ h => h⟩
  · rw [fi_sF, if_neg k2, fi_sA]
  · rw [ar_sF, ar_sA, if_neg k5]
theorem J142_ok {KB : S_ → Int32 → Prop} {KX : S_ → Prop} {v2 : Int32} (w : WI a r rh ta N acy rk px pp 1) (hrec : ∀ r2, WI a r2 rh ta N acy rk px pp 0 → Fw r r2 → ms r2 ≤ ms r + 1 → KB r2 (v2 + 1)) : qG_walk_J142 a KB KX r v2 px := by
  have hp := px_in w
  have w1 := w.1
  have n := w1.2.2.2.1 px hp.1 hp.2.1
  have hv : vp_in px (ln a 22) := vi2 hp.1 hp.2.1 (by rw [w1.1.1]; exact w1.2.2.1)
  unfold qG_walk_J142 qG_walk_J166
  refine ⟨hv, fun g => ?_, fun g => ⟨hv, ?_⟩⟩
  · exact hrec r (WI_skipF w g) (Fw_refl r) (by omega)
  · refine settled_ok w1 (by clear w w1 hrec; grind) n.2.2.2.1 (fun f k1 k2 => ?_)
    have w2 := WI_fs w k1 k2
    have hc := cap w2
    have ho := (o_lt w2).2
    have e : (ar (sA r 22 f) 22) px.toNatClampNeg = ar r 22 px.toNatClampNeg := k2 px hp.1 hp.2.1 hp.2.2
    have w3 := WI_pushF w2 (by rw [e]; exact g)
    rw [e] at w3
    refine push_ok w2.2.2.1.2.1 hc.1 hc.2 (hrec _ w3 (Fw_trans (Fw_22 k2) Fw_push) ?_)
    have e5 := i_inc ho
    show 3 * ((fi r 11).toInt - (cnt (fun i => ar r 28 i == fi r 13) (fi r 11).toNatClampNeg : Int)) + (fi (sA r 22 f) 14 + 1).toInt ≤ ms r + 1
    rw [e5]
    show 3 * ((fi r 11).toInt - (cnt (fun i => ar r 28 i == fi r 13) (fi r 11).toNatClampNeg : Int)) + ((fi r 14).toInt + 1) ≤ ms r + 1
    unfold ms
    omega
theorem JS_ok {KB : S_ → Int32 → Prop} {KX : S_ → Prop} {v2 : Int32} (w : WI a r rh ta N acy rk px pp 2) (hrec : ∀ r2, WI a r2 rh ta N acy rk px pp 0 → Fw r r2 → ms r2 ≤ ms r + 2 → KB r2 (v2 + 1)) : vp_in px (ln a 23) ∧ ((ar r 23 px.toNatClampNeg = -1) → qG_walk_J142 a KB KX r v2 px) ∧ ((¬ ar r 23 px.toNatClampNeg = -1) → vp_in px (ln a 23) ∧ qG_settled a (fun z26 r27 => qG_push a (fun r28 => qG_walk_J142 a KB KX r28 v2 px) r27 z26) r (ar r 23 px.toNatClampNeg)) := by
  have hp := px_in w
  have w1 := w.1
  have n := w1.2.2.2.1 px hp.1 hp.2.1
  have hv : vp_in px (ln a 23) := vi2 hp.1 hp.2.1 (by rw [w1.1.2.1]; exact w1.2.2.1)
  refine ⟨hv, fun g => ?_, fun g => ⟨hv, ?_⟩⟩
  · exact J142_ok (WI_skipS w g) (fun r2 k1 k2 k3 => hrec r2 k1 k2 (by omega))
  · refine settled_ok w1 (by clear w w1 hrec; grind) n.2.2.2.2.2.1 (fun f k1 k2 => ?_)
    have w2 := WI_fs w k1 k2
    have hc := cap w2
    have ho := (o_lt w2).2
    have w3 := WI_pushS w2 g
    refine push_ok w2.2.2.1.2.1 hc.1 hc.2 (J142_ok w3 (fun r2 q1 q2 q3 => hrec r2 q1 (Fw_trans (Fw_trans (Fw_22 k2) Fw_push) q2) ?_))
    have e5 := i_inc ho
    have q4 : ms r2 ≤ 3 * ((fi r 11).toInt - (cnt (fun i => ar r 28 i == fi r 13) (fi r 11).toNatClampNeg : Int)) + (fi (sA r 22 f) 14 + 1).toInt + 1 := q3
    rw [e5] at q4
    have q5 : ms r2 ≤ 3 * ((fi r 11).toInt - (cnt (fun i => ar r 28 i == fi r 13) (fi r 11).toNatClampNeg : Int)) + ((fi r 14).toInt + 1) + 1 := q4
    unfold ms at q5 ⊢
    omega
theorem ms_visit (w : WI a r rh ta N acy rk px pp 0) {x : Int32} (h1 : 0 ≤ x) (h2 : x < fi r 11) (h3 : ¬ ar r 28 x.toNatClampNeg = fi r 13) : (cnt (fun i => upd (ar r 28) x.toNatClampNeg (fi r 13) i == fi r 13) (fi r 11).toNatClampNeg) = cnt (fun i => ar r 28 i == fi r 13) (fi r 11).toNatClampNeg + 1 := by
  refine cnt_more (i := x.toNatClampNeg) ?_ (by simp [h3]) (by simp [pk_us]) (fun j _ hj => by rw [pk_un hj])
  have k1 := i_nat h1
  have k3 := i_nat w.1.2.1
  rw [it] at h2
  omega
theorem walk_L {r0 : S_} {tg : Int32} (t0 : 0 ≤ tg) (t1 : tg < fi r0 11) {KX : S_ → Prop} (hK : ∀ r', WI a r' rh ta N acy rk 0 0 0 → fi r' 14 = 0 → Fw r0 r' → ar r' 28 tg.toNatClampNeg = fi r' 13 → KX r') : ∀ (n : Nat) (r : S_) (v2 : Int32), WI a r rh ta N acy rk 0 0 0 → Fw r0 r → (ar r 28 tg.toNatClampNeg = fi r 13 ∨ (0 < fi r 14 ∧ ar r 31 (fi r 14 - 1).toNatClampNeg = tg)) → ms r < n → 0 ≤ v2 → v2.toInt + ms r ≤ 30000 → qG_walk_L16 a KX n r v2 := by
  intro n
  induction n with
  | zero =>
    intro r v2 w hF ht hm hv hs
    have := ms0 w
    omega
  | succ n ih =>
    intro r v2 w hF ht hm hv hs
    have hms := ms0 w
    have ho := o_lt w
    have hcap := cap w
    have w1 := w.1
    rw [qG_walk_L16]
    have ec : fi r 11 = fi r0 11 := hF.1 11 (by decide) (by decide)
    refine ⟨fun g => hK r w ?_ hF ?_, fun g => ⟨fun g2 => ?_, fun g2 r7 e7 => ?_⟩⟩
    · have := w.2.2.1.2.1
      clear w w1 ih hK
      grind
    · rcases ht with ht | ht
      · exact ht
      · exact absurd ht.1 (fun z => by clear w w1 ih hK; grind)
    · rw [il, show (1000000 : Int32).toInt = 1000000 from rfl] at g2
      omega
    · have h0 : 0 < fi r 14 := Int32.not_le.mp g
      have p3 := pl3 h0
      have v3 : (v2 + 1).toInt = v2.toInt + 1 := i_inc (y := 1000000) (Int32.not_le.mp g2)
      have v4 : 0 ≤ v2 + 1 := by rw [il, v3]; rw [il] at hv; simp at hv ⊢; omega
      have hd1 : (fi r 14 - 1).toInt = (fi r 14).toInt - 1 := by
        have := ir (fi r 14)
        have h9 := h0
        rw [it] at h9
        exact i_sub (by simp at h9 ⊢; omega) (by simp at h9 ⊢; omega)
      subst e7
      simp only [fi_sF, fi_sA, ar_sF, ar_sA, la_sF, la_sA, reduceIte, Nat.reduceEqDiff]
      have hin : vp_in (fi r 14 - 1) (ln a 31) := vi p3.1 (by rw [hd1]; omega)
      refine ⟨hin, fun g3 => ?_, fun g3 => ?_⟩
      · have b := (w.2.2.2.1.2 _ p3.1 p3.2).1 g3
        have i28 : vp_in (ar r 31 (fi r 14 - 1).toNatClampNeg) (ln a 28) := vi2 g3 b.1 (by rw [w1.1.2.2.2.2.2.2.1]; exact w1.2.2.1)
        have i29 : vp_in (ar r 31 (fi r 14 - 1).toNatClampNeg) (ln a 29) := vi2 g3 b.1 (by rw [w1.1.2.2.2.2.2.2.2.1]; exact w1.2.2.1)
        refine ⟨i28, fun g4 => ⟨i28, fun r13 e13 => ⟨i29, fun r15 e15 => ?_⟩⟩, fun g4 => ?_⟩
        · subst e13
          subst e15
          have w2 := WI_visit w h0 g3 g4 (g := fi r 14 - 1 + 1) (by clear w w1 ih hK; grind)
          refine push_ok ?_ ?_ hcap.2 ?_
          · exact p3.1
          · show (fi r 14 - 1).toInt < _
            rw [hd1]
            omega
          refine JS_ok w2 (fun r2 q1 q2 q3 => ?_)
          have mv := ms_visit w g3 b.1 g4
          have q4 : ms r2 ≤ 3 * ((fi r 11).toInt - (cnt (fun i => upd (ar r 28) (ar r 31 (fi r 14 - 1).toNatClampNeg).toNatClampNeg (fi r 13) i == fi r 13) (fi r 11).toNatClampNeg : Int)) + (fi r 14 - 1 + 1).toInt + 2 := q3
          rw [mv, show fi r 14 - 1 + 1 = fi r 14 by clear w w1 ih hK; grind] at q4
          have q5 : ms r2 ≤ ms r - 1 := by unfold ms at q4 ⊢; omega
          refine ih r2 (v2 + 1) (WI_any q1 0 0) (Fw_trans (Fw_trans hF ?_) q2) (Or.inl ?_) (by omega) v4 (by omega)
          rotate_left
          · have e13 : fi r2 13 = fi r 13 := q2.1 13 (by decide) (by decide)
            rw [e13]
            refine q2.2.2.2.2 tg t0 (by rw [← ec] at t1; exact t1) ?_
            show upd (ar r 28) (ar r 31 (fi r 14 - 1).toNatClampNeg).toNatClampNeg (fi r 13) tg.toNatClampNeg = fi r 13
            rcases ht with ht | ht
            · rw [updI _ _ g3 t0]
              split
              · rfl
              · exact ht
            · rw [ht.2, pk_us]
          refine ⟨fun k k1 k2 => ?_, fun k k1 k2 k3 k4 k5 => ?_, fun _ => rfl, fun _ _ _ _ => rfl, fun x k1 k2 k3 => ?_⟩
          · simp [fi_sF, fi_sA, k2]
          · simp [ar_sF, ar_sA, k2, k3, k5]
          · show upd (ar r 28) (ar r 31 (fi r 14 - 1).toNatClampNeg).toNatClampNeg (fi r 13) x.toNatClampNeg = fi r 13
            rw [updI _ _ g3 k1]
            split
            · rfl
            · exact k3
        · unfold qG_walk_J166
          have w2 := WI_pop w h0 g3 g4
          refine ih _ (v2 + 1) w2 (Fw_trans hF ?_) (Or.inl ?_) ?_ v4 ?_
          rotate_left
          · rcases ht with ht | ht
            · exact ht
            · rw [ht.2] at g4
              exact g4
          rotate_right
          · exact ⟨fun k k1 k2 => by rw [fi_sF, if_neg k2], fun _ _ _ _ _ _ => rfl, fun _ => rfl, fun _ _ _ _ => rfl, fun _ _ _ h => h⟩
          · show 3 * ((fi r 11).toInt - (cnt (fun i => ar r 28 i == fi r 13) (fi r 11).toNatClampNeg : Int)) + (fi r 14 - 1).toInt < n
            unfold ms at hm
            omega
          · show (v2 + 1).toInt + (3 * ((fi r 11).toInt - (cnt (fun i => ar r 28 i == fi r 13) (fi r 11).toNatClampNeg : Int)) + (fi r 14 - 1).toInt) ≤ 30000
            unfold ms at hs
            omega
      · have g4 : ar r 31 (fi r 14 - 1).toNatClampNeg < 0 := Int32.not_le.mp g3
        have w2 := WI_mark w h0 g4
        have a3 := w.2.2.1
        have k := nv_le w1 (V := ar r 28) (v := fi r 13)
        have hpre := cnt_pre (p := fun i => decide (ar r 31 i < 0)) h0
        simp [g4] at hpre
        have i30 : vp_in (fi r 12) (ln a 30) := vi a3.1 (by
          have := a3.2.2.2
          have := w1.2.2.1
          rw [w1.1.2.2.2.2.2.2.2.2.1]
          omega)
        refine ⟨i30, fun r30 e30 r31 e31 => ?_⟩
        subst e30
        subst e31
        unfold qG_walk_J166
        refine ih _ (v2 + 1) w2 (Fw_trans hF ?_) (Or.inl ?_) ?_ v4 ?_
        rotate_left
        · rcases ht with ht | ht
          · exact ht
          · rw [ht.2] at g4
            exact absurd g4 (fun z => nl0 t0 z)
        rotate_right
        · exact ⟨fun k k1 k2 => by simp [fi_sF, fi_sA, k1, k2], fun k k1 k2 k3 k4 k5 => by simp [ar_sF, ar_sA, k4], fun _ => rfl, fun _ _ _ _ => rfl, fun _ _ _ h => h⟩
        · show 3 * ((fi r 11).toInt - (cnt (fun i => ar r 28 i == fi r 13) (fi r 11).toNatClampNeg : Int)) + (fi r 14 - 1).toInt < n
          unfold ms at hm
          omega
        · show (v2 + 1).toInt + (3 * ((fi r 11).toInt - (cnt (fun i => ar r 28 i == fi r 13) (fi r 11).toNatClampNeg : Int)) + (fi r 14 - 1).toInt) ≤ 30000
          unfold ms at hs
          omega
end WALK5
