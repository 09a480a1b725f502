/-! Calls on both sides: shape, wants, want, passes; safe. -/
section SHAPE
theorem cmp_lt {x y : Int64} : lg_cmp x y < 0 ↔ x.toInt < y.toInt := by
  unfold lg_cmp
  by_cases h : x > y
  · rw [if_pos h]
    have h2 := (l_lt y x).mp h
    exact ⟨fun z => absurd z (by decide), fun z => by omega⟩
  · rw [if_neg h]
    have h2 : ¬ y.toInt < x.toInt := fun z => h ((l_lt y x).mpr z)
    by_cases e : x = y
    · rw [if_pos e, e]
      exact ⟨fun z => absurd z (by decide), fun z => by omega⟩
    · rw [if_neg e]
      have : ¬ x.toInt = y.toInt := fun z => e (Int64.toInt_inj.mp z)
      exact ⟨fun _ => by omega, fun _ => by decide⟩
theorem ge0 {x : Int32} (h : -1 ≤ x) (h2 : ¬ x = -1) : 0 ≤ x := by grind
theorem pre1 {x : Int32} (h : 0 ≤ x) (h2 : ¬ x = 0) : 0 ≤ x - 1 ∧ x - 1 < x := by grind
theorem t64 (x : Int32) : x.toInt64.toInt = x.toInt := by simp
theorem t32 {z : Int64} (h0 : 0 ≤ z.toInt) (h1 : z.toInt < 2147483648) : z.toInt32.toInt = z.toInt := by
  rw [Int64.toInt_toInt32, Int.bmod_eq_of_le] <;> omega
theorem sub32 {x y : Int32} (h0 : 0 ≤ x.toInt - y.toInt) (h1 : x.toInt - y.toInt < 2147483648) : (x - y).toInt = x.toInt - y.toInt := by
  rw [Int32.toInt_sub, Int.bmod_eq_of_le] <;> omega
theorem dec32 {x : Int32} (h0 : 0 < x.toInt) : (x + (-1)).toInt = x.toInt - 1 := by
  have := Int32.toInt_lt x
  have e : (-1 : Int32).toInt = -1 := rfl
  rw [Int32.toInt_add, e, Int.bmod_eq_of_le] <;> omega
theorem sz_pos {r : S_} {x : Int32} (h : 0 < sz r x) : ¬ x = -1 := fun q => by
  unfold sz at h
  rw [if_pos q] at h
  exact Int.lt_irrefl 0 h
theorem sz_n {r : S_} {x : Int32} (h : ¬ x = -1) : sz r x = (la r 0 x.toNatClampNeg).toInt := by
  unfold sz
  rw [if_neg h]
theorem psh1 {a b c : Int} (h1 : 0 < a) (h2 : a - 1 < b) (h3 : b = c) : 0 < c := by omega
theorem psh2 {v z la s1 s2 : Int} (h : ¬ v - 1 < z) (h1 : z = s1) (h2 : v < la) (h3 : la ≤ 1 + s1 + s2) (h4 : 0 ≤ z) (hv : v < 2147483648) : 0 < s2 ∧ v - 1 - z < s2 ∧ 0 ≤ v - 1 - z ∧ v - 1 - z < 2147483648 ∧ z < 2147483648 := by omega
theorem psh3 {v : Int} {n : Nat} (h : v < (n + 1 : Nat)) : v - 1 < n := by omega
theorem psh4 {v z : Int} {n : Nat} (h : v < (n + 1 : Nat)) (hz : 0 ≤ z) : v - 1 - z < n := by omega
theorem psh5 {a b c d : Int} (h : a - 1 < b) (h2 : b = c) (h3 : c = d) : a - 1 < d := by omega
theorem psh6 {a : Int} (h : 0 < a) : 0 ≤ a - 1 := by omega
theorem headAt_safe {ad l : Nat → Nat} {r : S_} (w : TD0 l r) {p : Int32} {K : Int32 → Prop} (hK : ∀ z, K z) : qD_headAt (ad, l) r K p := by
  obtain ⟨⟨t1, t2, t3, t4, t5⟩, ⟨c1, c2⟩, hj⟩ := w
  have key : ∀ (n : Nat) (v2 v3 v4 : Int32), 0 ≤ v2 → v2 < fi r 16 → 0 ≤ v3.toInt → v3.toInt < (la r 0 v2.toNatClampNeg).toInt → v3.toInt < n → qD_headAt_L43 (ad, l) r (fun v2 => qD_headAt_J108 (ad, l) r K v2) n v2 v3 v4 := by
    intro n
    induction n with
    | zero =>
      intro v2 v3 v4 a1 a2 a0 a3 a4
      omega
    | succ n ih =>
      intro v2 v3 v4 a1 a2 a0 a3 a4
      have vv : ∀ q, l q = l 32 → vp_in v2 (ln (ad, l) q) := fun q hq => vi2 a1 a2 (by show (fi r 16).toInt ≤ l q; rw [hq]; exact c2)
      have ex : qD_headAt_J108 (ad, l) r K v2 := ⟨vv 32 rfl, hK _⟩
      obtain ⟨⟨b1, b2⟩, ⟨b3, b4⟩, b5, b6, b7⟩ := hj v2 a1 a2
      rw [qD_headAt_L43]
      refine ⟨fun _ => ex, fun g => ⟨fun _ => ex, fun _ => ⟨vv 33 t1, ?_⟩⟩⟩
      have g0 : 0 < v3.toInt := by
        have := Int32.not_le.mp g
        rw [it] at this
        simpa using this
      have e1 := dec32 g0
      have step : ∀ z8 : Int64, z8.toInt = sz r (ar r 33 v2.toNatClampNeg) → 0 ≤ z8.toInt → ((0 ≤ (lg_cmp ((v3 + (-1)).toInt64) z8)) → vp_in v2 (ln (ad, l) 34) ∧ qD_headAt_J102 (ad, l) r (qD_headAt_L43 (ad, l) r (fun v2 => qD_headAt_J108 (ad, l) r K v2) n) (fun v2 => qD_headAt_J108 (ad, l) r K v2) (ar r 34 v2.toNatClampNeg) ((v3 + (-1)) - z8.toInt32) v4) ∧ ((¬ 0 ≤ (lg_cmp ((v3 + (-1)).toInt64) z8)) → vp_in v2 (ln (ad, l) 33) ∧ qD_headAt_J102 (ad, l) r (qD_headAt_L43 (ad, l) r (fun v2 => qD_headAt_J108 (ad, l) r K v2) n) (fun v2 => qD_headAt_J108 (ad, l) r K v2) (ar r 33 v2.toNatClampNeg) (v3 + (-1)) v4) := by
        intro z8 h8 h80
        have cm := cmp_lt (x := (v3 + (-1)).toInt64) (y := z8)
        rw [t64, e1] at cm
        unfold qD_headAt_J102
        refine ⟨fun z => ⟨vv 34 t2, ?_⟩, fun z => ⟨vv 33 t1, ?_⟩⟩
        · have nl : ¬ v3.toInt - 1 < z8.toInt := fun q => (Int32.not_lt.mpr z) (cm.mpr q)
          have f := psh2 nl h8 a3 b7 h80 (Int32.toInt_lt v3)
          have e8 := t32 h80 f.2.2.2.2
          have e9 : ((v3 + (-1)) - z8.toInt32).toInt = v3.toInt - 1 - z8.toInt := by
            rw [sub32 (by rw [e1, e8]; exact f.2.2.1) (by rw [e1, e8]; exact f.2.2.2.1), e1, e8]
          have rn := sz_pos f.1
          have f2 := f.2.1
          rw [sz_n rn] at f2
          refine ih _ _ _ (ge0 b3 rn) (ltt b4 a2) ?_ ?_ ?_
          · rw [e9]; exact f.2.2.1
          · rw [e9]; exact f2
          · rw [e9]; exact psh4 a4 h80
        · have nl : v3.toInt - 1 < z8.toInt := cm.mp (Int32.not_le.mp z)
          have rn := sz_pos (psh1 g0 nl h8)
          refine ih _ _ _ (ge0 b1 rn) (ltt b2 a2) ?_ ?_ ?_
          · rw [e1]; exact psh6 g0
          · rw [e1]; exact psh5 nl h8 (sz_n rn)
          · rw [e1]; exact psh3 a4
      unfold qD_sizeOf
      refine ⟨fun q => ?_, fun q => ?_⟩
      · have r0 : 0 ≤ ar r 33 v2.toNatClampNeg := ge0 b1 q
        have bb := hj _ r0 (ltt b2 a2)
        refine ⟨vi2 r0 (ltt b2 a2) (by show (fi r 16).toInt ≤ l 89; rw [t4]; exact c2), step _ ?_ (by omega)⟩
        unfold sz
        rw [if_neg q]
      · refine step 0 ?_ (by decide)
        unfold sz
        rw [if_pos q]
        rfl
  unfold qD_headAt
  refine ⟨fun _ => hK _, fun g => ⟨fun _ => hK _, fun g2 => ?_⟩⟩
  have e1 : 0 ≤ fi r 16 - 1 ∧ fi r 16 - 1 < fi r 16 := pre1 c1 g2
  refine ⟨vi2 e1.1 e1.2 (by show (fi r 16).toInt ≤ l 89; rw [t4]; exact c2), fun z => ⟨p.toInt.toNat + 1, key _ _ _ _ e1.1 e1.2 (by have := Int32.not_lt.mp g; rw [il] at this; simpa using this) ?_ (by omega)⟩, fun _ => hK _⟩
  have := cmp_lt.mp z
  rw [t64] at this
  exact this
end SHAPE
