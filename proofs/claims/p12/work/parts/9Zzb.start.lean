/-! Between calls: the class's infer; the start. -/
section STARTI
theorem INV_inf {l l' : Nat → Nat} {r r' : S_} (h : INV l r) (c : CR l' r') (tb : Tb r r') (fm : Fm r r') (fl : FL l l') : INV l' r' := by
  obtain ⟨hcr, htq, hML, hlast, hkq, hwq, hmtq, hsq⟩ := h
  have f : ∀ k, (k < 5 ∨ 20 ≤ k) → fi r' k = fi r k := fun k hk => hk.elim (tb.1 k) (fm.1 k)
  have g : ∀ k, (k < 17 ∨ 36 ≤ k) → ar r' k = ar r k := fun k hk => hk.elim (tb.2 k) (fm.2 k)
  refine ⟨c, ?_, fun k k1 k2 => (fl k (Or.inr ⟨k1, k2⟩)).trans (hML k k1 k2), ?_, ?_, ?_, ?_, ?_⟩
  · unfold TQ
    rw [f 21 (by decide), f 0 (by decide), f 22 (by decide), f 1 (by decide), f 23 (by decide), f 2 (by decide), f 24 (by decide), f 3 (by decide), f 25 (by decide), f 4 (by decide), g 36 (by decide), g 0 (by decide), g 37 (by decide), g 1 (by decide), g 38 (by decide), g 2 (by decide), g 39 (by decide), g 3 (by decide), g 40 (by decide), g 4 (by decide), g 41 (by decide), g 6 (by decide), g 42 (by decide), g 8 (by decide), g 86 (by decide), g 9 (by decide), g 43 (by decide), g 10 (by decide), g 44 (by decide), g 11 (by decide), g 45 (by decide), g 12 (by decide), g 46 (by decide), g 13 (by decide), g 47 (by decide), g 14 (by decide), g 48 (by decide), g 15 (by decide), g 49 (by decide), g 16 (by decide)]
    exact htq
  · unfold LAST KND KN0 UVr NI
    rw [f 38 (by decide), f 37 (by decide), f 4 (by decide), f 1 (by decide), g 0 (by decide), g 1 (by decide), g 9 (by decide), g 10 (by decide), g 11 (by decide), g 12 (by decide), g 78 (by decide), g 79 (by decide), g 80 (by decide)]
    exact hlast
  · unfold KQ
    rw [f 2 (by decide), g 6 (by decide), g 7 (by decide)]
    exact hkq
  · unfold WQ
    rw [f 3 (by decide), f 0 (by decide), f 2 (by decide), g 9 (by decide), g 43 (by decide), g 36 (by decide), g 44 (by decide)]
    exact hwq
  · unfold MTQ
    rw [f 2 (by decide), f 1 (by decide), g 8 (by decide), g 5 (by decide)]
    exact hmtq
  · unfold SQ szP btP aryP
    rw [f 1 (by decide), f 0 (by decide), g 0 (by decide), g 1 (by decide), g 2 (by decide), g 3 (by decide), g 4 (by decide), g 5 (by decide)]
    exact hsq
theorem nov0 {x c : Int32} (h : c = 0) (h0 : 0 ≤ x) (h1 : x < c) : False := by
  rw [h, it] at h1
  rw [il] at h0
  simp at h0 h1
  omega
theorem az (k : Nat) (h : ¬ k = 0 ∧ ¬ k = 9 ∧ ¬ k = 36 ∧ ¬ k = 42) : ar r0 k = fun _ => 0 := by
  show r0A k = _
  unfold r0A
  rw [if_neg h.1, if_neg h.2.1, if_neg h.2.2.1, if_neg h.2.2.2]
theorem fz (k : Nat) (h : ¬ k = 0 ∧ ¬ k = 21) : fi r0 k = 0 := by
  show r0F k = _
  unfold r0F
  rw [if_neg h.1, if_neg h.2]
theorem f00 : fi r0 0 = 1 ∧ fi r0 21 = 1 := ⟨rfl, rfl⟩
theorem a00 : ar r0 36 = ar r0 0 := rfl
theorem a000 : ar r0 0 0 = 2 := rfl
theorem a09 {k : Nat} (h : k < 64) : ar r0 9 k = -1 := by
  have e : ar r0 9 = rf_fill (fun _ => 0) 64 (-1) := rfl
  rw [e]
  unfold rf_fill
  rw [if_pos h]
theorem a042 : ∀ c : Int32, 0 ≤ c → c < 8 → ar r0 42 c.toNatClampNeg = -1 := fun c c0 c1 => by
  rcases v8 c0 c1 with e | e | e | e | e | e | e | e <;> rw [e] <;> rfl
theorem INV0 : INV ln0 r0 := by
  have z : ∀ k, (¬ k = 0 ∧ ¬ k = 21) → ∀ x : Int32, 0 ≤ x → x < fi r0 k → False := fun k hk x x0 x1 => nov0 (fz k hk) x0 x1
  have only0 : ∀ n : Int32, only 0 n := fun n i _ h => by
    rw [gb_0] at h
    exact absurd h (by decide)
  refine ⟨⟨?_, Or.inl rfl, ⟨by rw [fz 13 (by decide)]; decide, fun i => by rw [az 28 (by decide), fz 13 (by decide)]; exact Int32.le_refl _⟩, ⟨⟨⟨by rw [f00.1]; decide, by rw [f00.1]; decide, by rw [fz 1 (by decide)]; decide, by rw [fz 1 (by decide)]; decide⟩, ⟨rfl, rfl, rfl, rfl, rfl, rfl, rfl⟩, fun c c0 c1 => ?_, fun t t0 t1 => (z 1 (by decide) t t0 t1).elim⟩, ⟨by rw [fz 2 (by decide)]; decide, by rw [fz 2 (by decide)]; decide, rfl, rfl, rfl, rfl, rfl, rfl⟩, ⟨⟨by rw [fz 4 (by decide)]; decide, by rw [fz 4 (by decide)]; decide⟩, ⟨rfl, rfl, rfl, rfl, rfl⟩, fun e e0 e1 => (z 4 (by decide) e e0 e1).elim⟩⟩, ?_, rfl, rfl, rfl⟩, ?_, fun k _ _ => rfl, ?_, fun c c0 c1 => (z 2 (by decide) c c0 c1).elim, ⟨⟨by rw [fz 3 (by decide)]; decide, ?_⟩, fun c k c0 c1 k0 k1 => ?_⟩, fun c c0 c1 => (z 2 (by decide) c c0 c1).elim, fun t t0 t1 => (z 1 (by decide) t t0 t1).elim⟩
  · unfold GL
    decide
  · have e : c = 0 := by
      rw [f00.1, it] at c1
      rw [il] at c0
      rw [ie]
      simp at c0 c1 ⊢
      omega
    have e0 : ((0 : Int32)).toNatClampNeg = 0 := by decide
    rw [e, e0, a000]
    decide
  · refine ⟨⟨?_, ⟨by rw [fz 16 (by decide)]; decide, by rw [fz 16 (by decide)]; decide⟩, fun j j0 j1 => (z 16 (by decide) j j0 j1).elim⟩, by rw [fz 17 (by decide)]; decide, by rw [fz 17 (by decide), fz 16 (by decide)]; decide⟩
    unfold TL
    decide
  · unfold TQ
    refine ⟨⟨rfl, rfl⟩, ⟨rfl, ?_, ?_, ?_, ?_⟩, ⟨rfl, ?_, fun c c0 c1 => (z 2 (by decide) c c0 c1).elim, fun c c0 c1 => a042 c (by rw [fz 2 (by decide)] at c0; exact c0) c1⟩, ⟨rfl, fun k k0 k1 => ?gk, ?_, ?_⟩, ⟨rfl, ?_, ?_, ?_, ?_, ?_⟩⟩
    case gk =>
      have kn : k.toNatClampNeg < 64 := by
        have e := i_nat k0
        rw [it] at k1
        simp at k1
        omega
      rw [az 86 (by decide), a09 kn]
      exact ⟨zb0, ⟨fun _ => rfl, fun _ => rfl⟩⟩
    all_goals rw [az _ (by decide), az _ (by decide)]
  · unfold LAST
    refine ⟨⟨by rw [fz 38 (by decide)]; decide, by rw [fz 38 (by decide)]; decide, a000, fun e e0 e1 => (z 4 (by decide) e e0 e1).elim, fun i j i0 i1 => (z 1 (by decide) i i0 i1).elim, fun i _ _ => ⟨by rw [az 10 (by decide)], by rw [az 11 (by decide)]⟩⟩, fun x => x = 0, fz 37 (by decide), fun x hx => ?_⟩
    rw [az 78 (by decide), az 79 (by decide), az 80 (by decide), hx]
    exact ⟨⟨by decide, by decide⟩, ⟨by decide, fun _ => rfl⟩, ⟨by decide, fun _ => rfl⟩, fun h => absurd h (by decide), ⟨by decide, by decide⟩, by decide⟩
  · rw [fz 3 (by decide)]
    show (0 : Int) ≤ _
    omega
  · rw [az 43 (by decide), az 44 (by decide)]
    exact ⟨fun h => absurd rfl h, fun h => absurd rfl h, only0 _, only0 _⟩
end STARTI
