/-! The walk: one loop, and the whole. -/
section WALK4
def WI (a : L_) (r : S_) (rh ta : Int32 → Int32) (N : Int32) (acy : Prop) (rk : Int32 → Int32) (px pp : Int32) (d : Nat) : Prop := GI a r rh ta N ∧ (0 ≤ fi r 13 ∧ ∀ i, ar r 28 i ≤ fi r 13) ∧ WA (fi r 11) (ar r 28) (fi r 13) (fi r 12) (ar r 31) (fi r 14) d ∧ WB (fi r 11) (ar r 21) (ar r 28) (fi r 13) (ar r 30) (fi r 12) (ar r 31) (fi r 14) ∧ WC (fi r 11) (ar r 21) (ar r 22) (ar r 23) rh (ar r 28) (fi r 13) (ar r 29) (ar r 30) (fi r 12) (ar r 31) (fi r 14) px d ∧ (acy → ACY (fi r 11) (ar r 21) (ar r 22) (ar r 23) rh rk ∧ WD1 rk (ar r 31) (fi r 14) ∧ WD2 (ar r 22) (ar r 23) rh (ar r 30) (fi r 12) (ar r 31) (fi r 14) px d ∧ WD3 (ar r 22) (ar r 23) rh (ar r 30) (fi r 12)) ∧ (0 < d → WE (ar r 31) (fi r 14) px pp)
def Fw (r r' : S_) : Prop := (∀ k, k ≠ 12 → k ≠ 14 → fi r' k = fi r k) ∧ (∀ k, k ≠ 22 → k ≠ 28 → k ≠ 29 → k ≠ 30 → k ≠ 31 → ar r' k = ar r k) ∧ (∀ k, la r' k = la r k) ∧ FS (fi r 11) (ar r 21) (ar r 22) (ar r' 22) ∧ ∀ x : Int32, 0 ≤ x → x < fi r 11 → ar r 28 x.toNatClampNeg = fi r 13 → ar r' 28 x.toNatClampNeg = fi r 13
variable {a : L_} {r r' : S_} {rh ta rk : Int32 → Int32} {N px pp : Int32} {acy : Prop} {d : Nat}
theorem Fw_refl (r : S_) : Fw r r := ⟨fun _ _ _ => rfl, fun _ _ _ _ _ _ => rfl, fun _ => rfl, fun _ _ _ _ => rfl, fun _ _ _ h => h⟩
theorem Fw_trans {r1 r2 r3 : S_} (w : Fw r1 r2) (w2 : Fw r2 r3) : Fw r1 r3 := by
  obtain ⟨a1, a2, a3, a4, a5⟩ := w
  obtain ⟨b1, b2, b3, b4, b5⟩ := w2
  have e11 : fi r2 11 = fi r1 11 := a1 11 (by decide) (by decide)
  have e13 : fi r2 13 = fi r1 13 := a1 13 (by decide) (by decide)
  have e21 : ar r2 21 = ar r1 21 := a2 21 (by decide) (by decide) (by decide) (by decide) (by decide)
  refine ⟨fun k k1 k2 => (b1 k k1 k2).trans (a1 k k1 k2), fun k k1 k2 k3 k4 k5 => (b2 k k1 k2 k3 k4 k5).trans (a2 k k1 k2 k3 k4 k5), fun k => (b3 k).trans (a3 k), ?_, ?_⟩
  · intro x k1 k2 k3
    rw [b4 x k1 (by rw [e11]; exact k2) (by rw [e21]; exact k3), a4 x k1 k2 k3]
  · intro x k1 k2 k3
    rw [← e13]
    exact b5 x k1 (by rw [e11]; exact k2) (by rw [e13]; exact a5 x k1 k2 k3)
theorem nv_le (hI : GI a r rh ta N) {V : Nat → Int32} {v : Int32} : (cnt (fun i => V i == v) (fi r 11).toNatClampNeg : Int) ≤ (fi r 11).toInt ∧ cnt (fun i => V i == v) (fi r 11).toNatClampNeg ≤ 5000 ∧ (fi r 11).toInt ≤ 4096 := by
  obtain ⟨hL, hc0, hcl, hN, hR, hn⟩ := hI
  have h1 := cnt_le (fun i => V i == v) (fi r 11).toNatClampNeg
  have h2 := i_nat hc0
  have h3 := hL.2.2.2.2.2.2.2.2.2.2.2
  omega
theorem rh0 (hI : GI a r rh ta N) : ∀ x, 0 ≤ x → x < fi r 11 → 0 ≤ rh x := fun x h1 h2 => (hI.2.2.2.2.1.2 x h1 h2).1
theorem WI_fs (w : WI a r rh ta N acy rk px pp d) {f : Nat → Int32} (hI : GI a (sA r 22 f) rh ta N) (hf : FS (fi r 11) (ar r 21) (ar r 22) f) : WI a (sA r 22 f) rh ta N acy rk px pp d := by
  obtain ⟨w1, w2, w3, w4, w5, w6, w7⟩ := w
  refine ⟨hI, w2, w3, w4, ?_, fun ha => ?_, w7⟩
  · intro x k1 k2 k3
    have b := w5 x k1 k2 k3
    have e : (ar (sA r 22 f) 22) x.toNatClampNeg = ar r 22 x.toNatClampNeg := hf x k1 k2 b.1
    rw [e]
    exact b
  · obtain ⟨d0, d1, d2, d3⟩ := w6 ha
    refine ⟨fun x k1 k2 k3 => ?_, d1, fun p k1 k2 k3 => ?_, fun k k1 k2 => ?_⟩
    · have e : (ar (sA r 22 f) 22) x.toNatClampNeg = ar r 22 x.toNatClampNeg := hf x k1 k2 k3
      rw [e]
      exact d0 x k1 k2 k3
    · have b := (w4.2 p k1 k2).2 k3
      have e : (ar (sA r 22 f) 22) (-1 - ar (sA r 22 f) 31 p.toNatClampNeg).toNatClampNeg = ar r 22 (-1 - ar r 31 p.toNatClampNeg).toNatClampNeg := hf _ b.1 b.2.1 b.2.2.1
      rw [e]
      exact d2 p k1 k2 k3
    · have b := w4.1 k k1 k2
      have e : (ar (sA r 22 f) 22) (ar (sA r 22 f) 30 k.toNatClampNeg).toNatClampNeg = ar r 22 (ar r 30 k.toNatClampNeg).toNatClampNeg := hf _ b.1 b.2.1 b.2.2.1
      rw [e]
      exact d3 k k1 k2
theorem WI_pop (w : WI a r rh ta N acy rk px pp 0) (h0 : 0 < fi r 14) (h1 : 0 ≤ ar r 31 (fi r 14 - 1).toNatClampNeg) (h2 : ar r 28 (ar r 31 (fi r 14 - 1).toNatClampNeg).toNatClampNeg = fi r 13) : WI a (sF r 14 (fi r 14 - 1)) rh ta N acy rk px pp 0 := by
  obtain ⟨w1, w2, w3, w4, w5, w6, w7⟩ := w
  have p3 := pl3 h0
  have b := (w4.2 _ p3.1 p3.2).1 h1
  refine ⟨w1, w2, WA_pop w3 h0 h1, WB_pop w4 h0, WC_pop w5 h0 h1 h2, fun ha => ?_, fun z => absurd z (by decide)⟩
  obtain ⟨d0, d1, d2, d3⟩ := w6 ha
  exact ⟨d0, WD1_pop d1 h0, WD2_pop d2 d1 h0 h1 (w5 _ h1 b.1 h2).2.2.2.1, d3⟩
theorem o_lt (w : WI a r rh ta N acy rk px pp d) : fi r 12 < 10000 ∧ fi r 14 < 20000 := by
  obtain ⟨w1, w2, w3, w4, w5, w6, w7⟩ := w
  have k := nv_le w1 (V := ar r 28) (v := fi r 13)
  obtain ⟨a1, a2, a3, a4⟩ := w3
  rw [it, it, show (10000 : Int32).toInt = 10000 from rfl, show (20000 : Int32).toInt = 20000 from rfl]
  omega
theorem WI_mark (w : WI a r rh ta N acy rk px pp 0) (h0 : 0 < fi r 14) (h1 : ar r 31 (fi r 14 - 1).toNatClampNeg < 0) : WI a (sF (sA (sF r 14 (fi r 14 - 1)) 30 (upd (ar r 30) (fi r 12).toNatClampNeg (-1 - ar r 31 (fi r 14 - 1).toNatClampNeg))) 12 (fi r 12 + 1)) rh ta N acy rk px pp 0 := by
  have ho := (o_lt w).1
  obtain ⟨w1, w2, w3, w4, w5, w6, w7⟩ := w
  have ho2 : fi r 12 < 20000 := by clear w1 w2 w3 w4 w5 w6 w7; grind
  have k := nv_le w1 (V := ar r 28) (v := fi r 13)
  refine ⟨w1, w2, WA_mark w3 k.2.1 h0 h1, WB_mark w4 h0 w3.1 ho h1, WC_mark w5 (rh0 w1) w1.2.2.2.1 h0 w3.1 ho2 h1, fun ha => ?_, fun z => absurd z (by decide)⟩
  obtain ⟨d0, d1, d2, d3⟩ := w6 ha
  exact ⟨d0, WD1_pop d1 h0, WD2_mark d2 h0 w3.1 ho2 h1, WD3_mark d3 d2 h0 w3.1 ho2 h1⟩
theorem WI_visit (w : WI a r rh ta N acy rk px pp 0) (h0 : 0 < fi r 14) (h1 : 0 ≤ ar r 31 (fi r 14 - 1).toNatClampNeg) (h2 : ¬ ar r 28 (ar r 31 (fi r 14 - 1).toNatClampNeg).toNatClampNeg = fi r 13) {g : Int32} (hg : g = fi r 14) : WI a (sF (sA (sA (sA (sF r 14 (fi r 14 - 1)) 28 (upd (ar r 28) (ar r 31 (fi r 14 - 1).toNatClampNeg).toNatClampNeg (fi r 13))) 29 (upd (ar r 29) (ar r 31 (fi r 14 - 1).toNatClampNeg).toNatClampNeg (ar r 31 (fi r 14 - 1).toNatClampNeg))) 31 (upd (ar r 31) (fi r 14 - 1).toNatClampNeg (-1 - ar r 31 (fi r 14 - 1).toNatClampNeg))) 14 g) rh ta N acy rk (ar r 31 (fi r 14 - 1).toNatClampNeg) (fi r 14 - 1) 2 := by
  subst hg
  obtain ⟨w1, w2, w3, w4, w5, w6, w7⟩ := w
  have p3 := pl3 h0
  have b := (w4.2 _ p3.1 p3.2).1 h1
  refine ⟨w1, ⟨w2.1, fun i => ?_⟩, WA_visit w3 h0 h1 b.1 h2, WB_visit w4 h0 h1, WC_visit w5 (rh0 w1) w1.2.2.2.1 h0 h1 b.1 b.2 h2, fun ha => ?_, fun _ => WE_visit h0 h1⟩
  · show upd (ar r 28) (ar r 31 (fi r 14 - 1).toNatClampNeg).toNatClampNeg (fi r 13) i ≤ fi r 13
    by_cases e : i = (ar r 31 (fi r 14 - 1).toNatClampNeg).toNatClampNeg
    · rw [e, pk_us]; exact Int32.le_refl _
    · rw [pk_un e]; exact w2.2 i
  · obtain ⟨d0, d1, d2, d3⟩ := w6 ha
    exact ⟨d0, WD1_visit d1 h0 h1, WD2_visit d2 h0 h1, d3⟩
theorem WI_skipS (w : WI a r rh ta N acy rk px pp 2) (h1 : ar r 23 px.toNatClampNeg = -1) : WI a r rh ta N acy rk px pp 1 := by
  obtain ⟨w1, w2, w3, w4, w5, w6, w7⟩ := w
  refine ⟨w1, w2, WA_skip w3, w4, WC_skipS w5 h1, fun ha => ?_, fun _ => w7 (by decide)⟩
  obtain ⟨d0, d1, d2, d3⟩ := w6 ha
  exact ⟨d0, d1, WD2_skipS d2 h1, d3⟩
theorem WI_skipF (w : WI a r rh ta N acy rk px pp 1) (h1 : ar r 22 px.toNatClampNeg = -1) : WI a r rh ta N acy rk px pp 0 := by
  obtain ⟨w1, w2, w3, w4, w5, w6, w7⟩ := w
  refine ⟨w1, w2, WA_skip w3, w4, WC_skipF w5 h1, fun ha => ?_, fun z => absurd z (by decide)⟩
  obtain ⟨d0, d1, d2, d3⟩ := w6 ha
  exact ⟨d0, d1, WD2_skipF d2 h1, d3⟩
theorem px_in (w : WI a r rh ta N acy rk px pp (d + 1)) : 0 ≤ px ∧ px < fi r 11 ∧ ¬ ar r 21 px.toNatClampNeg = -2 := by
  obtain ⟨w1, w2, w3, w4, w5, w6, w7⟩ := w
  obtain ⟨e1, e2, e3, e4, e5⟩ := w7 (by omega)
  have b := (w4.2 pp e1 e2).2 (by rw [e3]; exact m1n e4)
  rw [e3, m1m] at b
  exact ⟨e4, b.2.1, b.2.2.1⟩
theorem WI_pushS (w : WI a r rh ta N acy rk px pp 2) (h1 : ¬ ar r 23 px.toNatClampNeg = -1) : WI a (sF (sA r 31 (upd (ar r 31) (fi r 14).toNatClampNeg (rh (ar r 23 px.toNatClampNeg)))) 14 (fi r 14 + 1)) rh ta N acy rk px pp 1 := by
  have ho := (o_lt w).2
  have hp := px_in w
  obtain ⟨w1, w2, w3, w4, w5, w6, w7⟩ := w
  have k := nv_le w1 (V := ar r 28) (v := fi r 13)
  have n := w1.2.2.2.1 px hp.1 hp.2.1
  have n5 : 0 ≤ ar r 23 px.toNatClampNeg := by clear w1 w2 w3 w4 w5 w6 w7; grind
  have m := w1.2.2.2.2.1.2 _ n5 n.2.2.2.2.2.1
  refine ⟨w1, w2, WA_push w3 k.2.1 m.1, WB_push w4 w3.2.1 ho m.1 m.2.1 m.2.2.1, WC_pushS w5 w3.2.1 ho, fun ha => ?_, fun _ => WE_push (w7 (by decide)) w3.2.1 ho m.1⟩
  obtain ⟨d0, d1, d2, d3⟩ := w6 ha
  exact ⟨d0, WD1_push d1 (w7 (by decide)) w3.2.1 ho m.1 ((d0 px hp.1 hp.2.1 hp.2.2).2 h1), WD2_pushS d2 w3.2.1 ho m.1, d3⟩
theorem WI_pushF (w : WI a r rh ta N acy rk px pp 1) (h1 : ¬ ar r 22 px.toNatClampNeg = -1) : WI a (sF (sA r 31 (upd (ar r 31) (fi r 14).toNatClampNeg (rh (ar r 22 px.toNatClampNeg)))) 14 (fi r 14 + 1)) rh ta N acy rk px pp 0 := by
  have ho := (o_lt w).2
  have hp := px_in w
  obtain ⟨w1, w2, w3, w4, w5, w6, w7⟩ := w
  have k := nv_le w1 (V := ar r 28) (v := fi r 13)
  have n := w1.2.2.2.1 px hp.1 hp.2.1
  have n5 : 0 ≤ ar r 22 px.toNatClampNeg := by clear w1 w2 w3 w4 w5 w6 w7; grind
  have m := w1.2.2.2.2.1.2 _ n5 n.2.2.2.1
  refine ⟨w1, w2, WA_push w3 k.2.1 m.1, WB_push w4 w3.2.1 ho m.1 m.2.1 m.2.2.1, WC_pushF w5 w3.2.1 ho, fun ha => ?_, fun z => absurd z (by decide)⟩
  obtain ⟨d0, d1, d2, d3⟩ := w6 ha
  exact ⟨d0, WD1_push d1 (w7 (by decide)) w3.2.1 ho m.1 ((d0 px hp.1 hp.2.1 hp.2.2).1 h1), WD2_pushF d2 w3.2.1 ho m.1, d3⟩
end WALK4
