/-! The reference: reaching, the loop. -/
section REACH3
variable {a : L_} {r r' : S_} {rh ta : Int32 → Int32} {N : Int32}
theorem RX_visit {r0 : S_} {t v x : Int32} (w0 : MI a r0 rh ta N) (w : RJ a r0 r rh t v) (hr : 0 ≤ fi r0 30) (hr2 : (fi r0 30).toInt + (fi r0 28).toInt ≤ 40000) (hd : (v + -1).toInt = v.toInt - 1) (hv : 0 < v.toInt) (hx : x = rh (ar r 72 (v + -1).toNatClampNeg)) (h : ¬ ar r 68 x.toNatClampNeg = fi r0 29) : RX a r0 (sF (sA (sA r 68 (upd (ar r 68) x.toNatClampNeg (fi r0 29))) 73 (upd (ar r 73) (fi r 30).toNatClampNeg x)) 30 (fi r 30 + 1)) rh t (v + -1) x True True 2 ∧ vp_in (fi r 30) (ln a 73) ∧ (0 ≤ x ∧ x < fi r0 28) ∧ (cM (sF (sA (sA r 68 (upd (ar r 68) x.toNatClampNeg (fi r0 29))) 73 (upd (ar r 73) (fi r 30).toNatClampNeg x)) 30 (fi r 30 + 1)) (fi r0 29) (fi r0 28)) = cM r (fi r0 29) (fi r0 28) + 1 := by
  obtain ⟨w1, ⟨w21, w22⟩, w3, w4, w5, w6, w7, w8, w9⟩ := w
  have v10 : 0 ≤ v + -1 := by rw [il, hd]; simp; omega
  have b := w3 (v + -1) v10 (by rw [it, hd]; omega)
  have rb := w0.2.2.2.2.1.2 _ b.1 b.2
  rw [← hx] at rb
  have c0 := w0.2.2.1.1
  have c0n := i_nat c0
  have xn := i_nat rb.1.1
  have x2 := rb.1.2
  rw [it] at x2
  have l73 : ln a 73 = 40000 := ml w0.1 (by decide) (by decide) rfl
  have cl : (cM r (fi r0 29) (fi r0 28) : Int) < (fi r0 28).toInt := by
    have : cM r (fi r0 29) (fi r0 28) < (fi r0 28).toNatClampNeg := cnt_lt (i := x.toNatClampNeg) (by omega) (by simp [h])
    omega
  have r30 : (fi r 30).toInt < 40000 := by omega
  have hr' : 0 ≤ (fi r0 30).toInt := by rw [il] at hr; simpa using hr
  have h68 : ∀ y : Int32, 0 ≤ y → y < fi r0 28 → ar r0 68 y.toNatClampNeg = fi r0 29 → ar r 68 y.toNatClampNeg = fi r0 29 := fun y y1 y2 y3 => by
    rcases w4 y y1 y2 with e | e
    · rw [e]; exact y3
    · exact e.1
  have cge : (cM r0 (fi r0 29) (fi r0 28)) ≤ cM r (fi r0 29) (fi r0 28) := by
    have key : ∀ n : Nat, n ≤ (fi r0 28).toNatClampNeg → cnt (fun i => ar r0 68 i == fi r0 29) n ≤ cnt (fun i => ar r 68 i == fi r0 29) n := by
      intro n
      induction n with
      | zero => intro _; simp [cnt]
      | succ n ih =>
        intro hn
        rw [cnt, cnt]
        have := ih (by omega)
        have ei := i_ofn (n := n) (by have := ir (fi r0 28); omega)
        have y1 : 0 ≤ Int32.ofNat n := by rw [il, ei]; simp
        have y3 := i_nat y1
        have y4 : (Int32.ofNat n).toNatClampNeg = n := by omega
        have q := h68 (Int32.ofNat n) y1 (by rw [it, ei]; omega)
        rw [y4] at q
        by_cases e : ar r0 68 n = fi r0 29
        · simp [e, q e]; omega
        · simp [e]; omega
    exact key _ (Nat.le_refl _)
  have r30n : 0 ≤ (fi r 30).toInt := by omega
  have r300 : 0 ≤ fi r 30 := by rw [il]; simpa using r30n
  have rge : (fi r0 30).toInt ≤ (fi r 30).toInt := by omega
  have r31 : (fi r 30 + 1).toInt = (fi r 30).toInt + 1 := i_add (by simp; omega) (by simp; omega)
  have m1 : cM (sF (sA (sA r 68 (upd (ar r 68) x.toNatClampNeg (fi r0 29))) 73 (upd (ar r 73) (fi r 30).toNatClampNeg x)) 30 (fi r 30 + 1)) (fi r0 29) (fi r0 28) = cM r (fi r0 29) (fi r0 28) + 1 := by
    show cnt (fun i => upd (ar r 68) x.toNatClampNeg (fi r0 29) i == fi r0 29) (fi r0 28).toNatClampNeg = cnt (fun i => ar r 68 i == fi r0 29) (fi r0 28).toNatClampNeg + 1
    exact cnt_more (i := x.toNatClampNeg) (by omega) (by simp [h]) (by simp [pk_us]) (fun j _ hj => by rw [pk_un hj])
  have k68 : ∀ y : Int32, 0 ≤ y → ar (sF (sA (sA r 68 (upd (ar r 68) x.toNatClampNeg (fi r0 29))) 73 (upd (ar r 73) (fi r 30).toNatClampNeg x)) 30 (fi r 30 + 1)) 68 y.toNatClampNeg = if y = x then fi r0 29 else ar r 68 y.toNatClampNeg := fun y y1 => by
    show upd (ar r 68) x.toNatClampNeg (fi r0 29) y.toNatClampNeg = _
    exact updI _ _ rb.1.1 y1
  have k73 : ∀ k : Int32, 0 ≤ k → ar (sF (sA (sA r 68 (upd (ar r 68) x.toNatClampNeg (fi r0 29))) 73 (upd (ar r 73) (fi r 30).toNatClampNeg x)) 30 (fi r 30 + 1)) 73 k.toNatClampNeg = if k = fi r 30 then x else ar r 73 k.toNatClampNeg := fun k k1 => by
    show upd (ar r 73) (fi r 30).toNatClampNeg x k.toNatClampNeg = _
    exact updI _ _ r300 k1
  have k72 : ar (sF (sA (sA r 68 (upd (ar r 68) x.toNatClampNeg (fi r0 29))) 73 (upd (ar r 73) (fi r 30).toNatClampNeg x)) 30 (fi r 30 + 1)) 72 = ar r 72 := rfl
  have f30 : fi (sF (sA (sA r 68 (upd (ar r 68) x.toNatClampNeg (fi r0 29))) 73 (upd (ar r 73) (fi r 30).toNatClampNeg x)) 30 (fi r 30 + 1)) 30 = fi r 30 + 1 := rfl
  have lt30 : fi r 30 < fi r 30 + 1 := by rw [it, r31]; omega
  have lts : ∀ k : Int32, k < fi r 30 + 1 → ¬ k = fi r 30 → k < fi r 30 := fun k k1 k2 => by
    rw [it, r31] at k1
    rw [ie] at k2
    rw [it]
    omega
  have h0x : ¬ ar r0 68 x.toNatClampNeg = fi r0 29 := fun z => h (h68 x rb.1.1 rb.1.2 z)
  have mono : ∀ y : Int32, 0 ≤ y → ar r 68 y.toNatClampNeg = fi r0 29 → (if y = x then fi r0 29 else ar r 68 y.toNatClampNeg) = fi r0 29 := fun y _ y3 => by
    split
    · rfl
    · exact y3
  have nn := fun y y1 y2 => w0.2.2.2.1 y y1 y2
  have top : ∀ y : Int32, 0 ≤ y → y < fi r0 28 → (ar r 68 (rh y).toNatClampNeg = fi r0 29 ∨ ∃ k : Int32, 0 ≤ k ∧ k < v ∧ ar r 72 k.toNatClampNeg = y) → (if rh y = x then fi r0 29 else ar r 68 (rh y).toNatClampNeg) = fi r0 29 ∨ ∃ k : Int32, 0 ≤ k ∧ k < v + -1 ∧ ar r 72 k.toNatClampNeg = y := by
    intro y y1 y2 hy
    have ry := (w0.2.2.2.2.1.2 y y1 y2).1.1
    rcases hy with e | ⟨k, k1, k2, k3⟩
    · exact Or.inl (mono _ ry e)
    · by_cases e : k = v + -1
      · left
        rw [e] at k3
        rw [k3] at hx
        rw [if_pos hx.symm]
      · exact Or.inr ⟨k, k1, lt_sub2 hd k2 e, k3⟩
  refine ⟨⟨Fr_trans w1 (Fr_trans (Fr_sA (by decide)) (Fr_trans (Fr_sA (by decide)) (Fr_sF (by decide)))), ⟨by omega, by rw [m1]; omega⟩, fun k k1 k2 => w3 k k1 (lt_sub hd k2), fun y y1 y2 => ?_, ⟨fun k k1 k2 => ?_, fun k k1 k2 => ?_⟩, by rw [m1, f30, r31]; omega, fun y y1 y2 y3 y4 => ?_, ?_, fun A h1 h2 => ⟨fun y y1 y2 y3 y4 => ?_, fun k k1 k2 => (w9 A h1 h2).2 k k1 (lt_sub hd k2)⟩, rb.1, ?_, h0x⟩, vi r300 (by rw [l73]; exact r30), rb.1, m1⟩
  · rw [k68 y y1]
    by_cases e : y = x
    · right
      rw [if_pos e, e]
      exact ⟨rfl, h0x, by have := rb.2.1; exact this, fi r 30, by rw [il]; exact rge, by rw [f30]; exact lt30, by rw [k73 _ r300, if_pos rfl]⟩
    · rw [if_neg e]
      rcases w4 y y1 y2 with e1 | ⟨e1, e2, e3, k, k1, k2, k3⟩
      · exact Or.inl e1
      · refine Or.inr ⟨e1, e2, e3, k, k1, by rw [f30]; exact ltt k2 lt30, ?_⟩
        have k0 : 0 ≤ k := by rw [il] at k1 ⊢; simp; omega
        rw [k73 k k0, if_neg (fun z => by rw [z] at k2; exact irr k2)]
        exact k3
  · have k0 : 0 ≤ k := by rw [il] at k1 ⊢; simp; omega
    rw [k73 k k0]
    by_cases e : k = fi r 30
    · rw [if_pos e, k68 x rb.1.1, if_pos rfl]
      exact ⟨rb.1, rb.2.1, rfl, h0x⟩
    · rw [if_neg e]
      have q := w5.1 k k1 (lts k k2 e)
      refine ⟨q.1, q.2.1, ?_, q.2.2.2⟩
      rw [k68 _ q.1.1]
      exact mono _ q.1.1 q.2.2.1
  · rw [k73 k k1, if_neg (fun z => by rw [z, it] at k2; omega)]
    exact w5.2 k k1 k2
  · rw [k68 y y1] at y3
    by_cases e : y = x
    · refine ⟨fun _ => Or.inr (Or.inr ⟨e, trivial⟩), fun _ => Or.inr (Or.inr ⟨e, trivial⟩)⟩
    · rw [if_neg e] at y3
      have q := w7 y y1 y2 y3 y4
      have ny := nn y y1 y2
      refine ⟨fun g => ?_, fun g => ?_⟩
      · have ry := (w0.2.2.2.2.1.2 _ g ny.2.2.1.2).1.1
        rw [k68 _ ry, k72]
        rcases top _ g ny.2.2.1.2 (q.1 g) with e1 | e1
        · exact Or.inl e1
        · exact Or.inr (Or.inl e1)
      · have ry := (w0.2.2.2.2.1.2 _ g ny.2.2.2.1.2).1.1
        rw [k68 _ ry, k72]
        rcases top _ g ny.2.2.2.1.2 (q.2 g) with e1 | e1
        · exact Or.inl e1
        · exact Or.inr (Or.inl e1)
  · by_cases e : 0 ≤ rh t
    · rw [k68 _ e, k72]
      rcases w8 with e1 | ⟨k, k1, k2, k3⟩
      · exact Or.inl (mono _ e e1)
      · by_cases e2 : k = v + -1
        · left
          rw [e2] at k3
          rw [k3] at hx
          rw [if_pos hx.symm]
        · exact Or.inr ⟨k, k1, lt_sub2 hd k2 e2, k3⟩
    · rcases w8 with e1 | ⟨k, k1, k2, k3⟩
      · left
        show upd (ar r 68) x.toNatClampNeg (fi r0 29) (rh t).toNatClampNeg = fi r0 29
        by_cases e3 : (rh t).toNatClampNeg = x.toNatClampNeg
        · rw [e3, pk_us]
        · rw [pk_un e3]; exact e1
      · by_cases e2 : k = v + -1
        · exfalso
          rw [e2] at k3
          rw [k3] at hx
          rw [← hx] at e
          exact e rb.1.1
        · exact Or.inr ⟨k, k1, lt_sub2 hd k2 e2, k3⟩
  · rw [k68 y y1] at y3
    by_cases e : y = x
    · rw [e, hx]
      have at0 := (w9 A h1 h2).2 (v + -1) v10 (by rw [it, hd]; omega)
      exact Cld_rh w0 h1 b.1 b.2 at0
    · rw [if_neg e] at y3
      exact (w9 A h1 h2).1 y y1 y2 y3 y4
  · rw [k68 x rb.1.1, if_pos rfl]
theorem cM_72 {q : S_} {f : Nat → Int32} {mk c : Int32} : cM (sA q 72 f) mk c = cM q mk c := by
  unfold cM
  rw [ar_sA, if_neg (by decide)]
/-- what reaching comes to -/
def RP (a : L_) (r0 r : S_) (rh : Int32 → Int32) (t : Int32) : Prop := ∃ v : Int32, RJ a r0 r rh t v ∧ v.toInt = 0
theorem reach_L {r0 : S_} {t : Int32} (w0 : MI a r0 rh ta N) (hr : 0 ≤ fi r0 30) (hr2 : (fi r0 30).toInt + (fi r0 28).toInt ≤ 40000) {KX : S_ → Prop} (hK : ∀ r, RP a r0 r rh t → KX r) : ∀ (n : Nat) (r : S_) (v : Int32), RJ a r0 r rh t v → 2 * ((fi r0 28).toInt - cM r (fi r0 29) (fi r0 28)) + v.toInt < n → qM_reach_L9 a KX n r v := by
  intro n
  induction n with
  | zero =>
    intro r v w hm
    have := w.2.1.1
    have := cM_le (q := r) (mk := fi r0 29) w0.2.2.1.1
    omega
  | succ n ih =>
    intro r v w hm
    have w' := w
    obtain ⟨w1, ⟨w21, w22⟩, w3, w4, w5, w6, w7, w8, w9⟩ := w
    have cl := cM_le (q := r) (mk := fi r0 29) w0.2.2.1.1
    have c4 := w0.2.2.1.2
    have l72 : ln a 72 = 200000 := ml w0.1 (by decide) (by decide) rfl
    rw [qM_reach_L9]
    refine ⟨fun g => hK r ⟨v, w', by rw [il] at g; simp at g; omega⟩, fun g => ?_⟩
    have g1 : 0 < v := Int32.not_le.mp g
    have hv : 0 < v.toInt := by rw [it] at g1; simpa using g1
    have hd : (v + -1).toInt = v.toInt - 1 := by
      rw [i_add (by simp; omega) (by simp; omega)]
      simp
      omega
    have v10 : 0 ≤ v + -1 := by rw [il, hd]; simp; omega
    have b := w3 (v + -1) v10 (by rw [it, hd]; omega)
    have m : MI a r rh ta N := MI_Fr w0 w1 (by decide) (by decide)
    have e28 : fi r 28 = fi r0 28 := w1.1 28 (by decide)
    have e29 : fi r 29 = fi r0 29 := w1.1 29 (by decide)
    have e64 : ar r 64 = ar r0 64 := w1.2.1 64 (by decide)
    have e66 : ar r 66 = ar r0 66 := w1.2.1 66 (by decide)
    have e67 : ar r 67 = ar r0 67 := w1.2.1 67 (by decide)
    refine ⟨vi v10 (by rw [l72]; omega), find_ok m b.1 (by rw [e28]; exact b.2) ?_⟩
    have rb := w0.2.2.2.2.1.2 _ b.1 b.2
    obtain ⟨x, hx⟩ : ∃ x, x = rh (ar r 72 (v + -1).toNatClampNeg) := ⟨_, rfl⟩
    rw [← hx]
    rw [← hx] at rb
    have t68 : vp_in x (ln a 68) := tin w0 rb.1.1 rb.1.2 (by decide) (by decide) rfl
    have t66 : vp_in x (ln a 66) := tin w0 rb.1.1 rb.1.2 (by decide) (by decide) rfl
    have t67 : vp_in x (ln a 67) := tin w0 rb.1.1 rb.1.2 (by decide) (by decide) rfl
    rw [e29]
    refine ⟨t68, fun g2 => ?_, fun g2 => ⟨t68, fun r9 e9 => ?_⟩⟩
    · unfold qM_reach_J118
      exact ih r (v + -1) (RJ_pop w0 w' hd hv (by rw [← hx]; exact g2)) (by omega)
    · obtain ⟨q1, q2, q3, q4⟩ := RX_visit w0 w' hr hr2 hd hv hx g2
      subst e9
      refine ⟨q2, fun r11 e11 r12 e12 => ?_⟩
      have e12' : r12 = sF (sA (sA r 68 (upd (ar r 68) x.toNatClampNeg (fi r0 29))) 73 (upd (ar r 73) (fi r 30).toNatClampNeg x)) 30 (fi r 30 + 1) := by rw [e12, e11]; rfl
      rw [← e12'] at q1 q4
      have f66 : ar r12 66 = ar r0 66 := q1.1.2.1 66 (by decide)
      have f67 : ar r12 67 = ar r0 67 := q1.1.2.1 67 (by decide)
      have j94 : ∀ (r2 : S_) (v2 : Int32), RX a r0 r2 rh t v2 x False True 1 → v2.toInt ≤ v.toInt → cM r2 (fi r0 29) (fi r0 28) = cM r12 (fi r0 29) (fi r0 28) → qM_reach_J94 a (qM_reach_L9 a KX n) KX r2 v2 x := by
        intro r2 v2 u1 u2 u3
        have h67 : ar r2 67 = ar r0 67 := u1.1.2.1 67 (by decide)
        unfold qM_reach_J94 qM_reach_J118
        rw [h67]
        refine ⟨t67, fun g3 => ?_, fun g3 => ?_⟩
        · exact ih r2 v2 (RX_skipR (d := 0) u1 (fun z => nl0 z g3) (by omega)) (by rw [u3, q4]; omega)
        · have g4 : 0 ≤ ar r0 67 x.toNatClampNeg := by clear w0 w' w1 w3 w4 w5 w6 w7 w8 w9 q1 u1 ih hK m; grind
          obtain ⟨p1, p2, p3⟩ := RX_pushR (d := 0) w0 u1 g4 (by omega)
          refine ⟨t67, p3, fun r19 e19 => ?_⟩
          subst e19
          exact ih _ _ p1 (by rw [cM_72, u3, q4]; omega)
      refine ⟨t66, fun g3 => ?_, fun g3 => ?_⟩
      · rw [f66] at g3
        exact j94 r12 (v + -1) (RX_skipL (d := 1) q1 (fun z => nl0 z g3) (by omega)) (by omega) rfl
      · rw [f66] at g3
        have g4 : 0 ≤ ar r0 66 x.toNatClampNeg := by clear w0 w' w1 w3 w4 w5 w6 w7 w8 w9 q1 ih hK m j94; grind
        obtain ⟨p1, p2, p3⟩ := RX_pushL (d := 1) w0 q1 g4 (by omega)
        have hle : (v + -1 + 1).toInt ≤ v.toInt := by rw [p2, hd, Int.sub_add_cancel]; exact Int.le_refl _
        refine ⟨t66, p3, fun r22 e22 => ?_⟩
        rw [f66] at e22
        rw [e22]
        exact j94 _ _ p1 hle cM_72
theorem reach_ok (w0 : MI a r rh ta N) (hr : 0 ≤ fi r 30) (hr2 : (fi r 30).toInt + (fi r 28).toInt ≤ 40000) {t : Int32} (h1 : 0 ≤ t) (h2 : t < fi r 28) {K : S_ → Prop} (hK : ∀ r', RP a r r' rh t → K r') : qM_reach a K r t := by
  have l72 : ln a 72 = 200000 := ml w0.1 (by decide) (by decide) rfl
  have cl := cM_le (q := r) (mk := fi r 29) w0.2.2.1.1
  unfold qM_reach
  refine ⟨vi (by decide) (by rw [l72]; decide), fun r2 e2 => ⟨(2 * (fi r 28).toInt + 3).toNat, ?_⟩⟩
  have rd : ∀ k : Int32, 0 ≤ k → k < 1 → ar r2 72 k.toNatClampNeg = t := fun k k1 k2 => by
    have : k = 0 := by clear w0 hK; grind
    rw [e2, ar_sA, if_pos rfl, this, pk_us]
  have f68 : ar r2 68 = ar r 68 := by rw [e2]; rfl
  have f73 : ar r2 73 = ar r 73 := by rw [e2]; rfl
  have f30 : fi r2 30 = fi r 30 := by rw [e2]; rfl
  have cm : cM r2 (fi r 29) (fi r 28) = cM r (fi r 29) (fi r 28) := by unfold cM; rw [f68]
  refine reach_L w0 hr hr2 hK _ r2 1 ⟨by rw [e2]; exact Fr_sA (by decide), ⟨by decide, by rw [cm]; simp⟩, fun k k1 k2 => by rw [rd k k1 k2]; exact ⟨h1, h2⟩, fun x _ _ => Or.inl (by rw [f68]), ⟨fun k k1 k2 => ?_, fun k _ _ => by rw [f73]⟩, by rw [cm, f30], fun x _ _ k3 k4 => ?_, Or.inr ⟨0, by decide, by decide, rd 0 (by decide) (by decide)⟩, fun A h3 h4 => ⟨fun x _ _ k3 k4 => ?_, fun k k1 k2 => by rw [rd k k1 k2]; exact h4⟩⟩ ?_
  · rw [f30] at k2
    exact absurd k2 (by rw [Int32.not_lt]; exact k1)
  · rw [f68] at k3
    exact absurd k3 k4
  · rw [f68] at k3
    exact absurd k3 k4
  · rw [cm]
    simp
    omega
end REACH3
