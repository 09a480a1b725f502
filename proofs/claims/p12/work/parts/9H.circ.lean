/-! Walks, begun and ended; whether a type is a part of itself. -/
section CIRC
variable {a : L_} {r r' : S_} {rh ta rk : Int32 → Int32} {N : Int32} {acy : Prop}
def VB (r : S_) : Prop := 0 ≤ fi r 13 ∧ ∀ i, ar r 28 i ≤ fi r 13
/-- between walks -/
def PW (a : L_) (r : S_) (rh ta : Int32 → Int32) (N : Int32) (acy : Prop) (rk : Int32 → Int32) : Prop := WI a (sF r 14 0) rh ta N acy rk 0 0 0
theorem PW_start (hI : GI a r rh ta N) (hv : VB r) (hb : fi r 13 < 2000000000) (ha : acy → ACY (fi r 11) (ar r 21) (ar r 22) (ar r 23) rh rk) : PW a (sF (sF r 13 (fi r 13 + 1)) 12 0) rh ta N acy rk := by
  have h1 : 0 ≤ fi r 13 + 1 := by have := hv.1; clear hv hI; grind
  have h2 : ∀ i, ar r 28 i < fi r 13 + 1 := fun i => by have := hv.2 i; have := hv.1; clear hv hI; grind
  refine ⟨hI, ⟨h1, fun i => by have := h2 i; exact Int32.le_of_lt this⟩, ⟨by show (0 : Int32) ≤ 0; decide, by show (0 : Int32) ≤ 0; decide, ?_, ?_⟩, ⟨fun k k1 k2 => absurd (show k < 0 from k2) (fun z => nl0 k1 z), fun k k1 k2 => absurd (show k < 0 from k2) (fun z => nl0 k1 z)⟩, fun x k1 k2 k3 => ?_, fun z => ⟨ha z, fun p q k1 k2 k3 _ => ?_, fun p k1 k2 _ => ?_, fun k k1 k2 => ?_⟩, fun z => absurd z (by decide)⟩
  · show (0 : Int32).toInt + _ ≤ _
    simp
    try omega
  · show (0 : Int32).toInt + ((cnt _ ((0 : Int32)).toNatClampNeg : Nat) : Int) ≤ _
    have : ((0 : Int32)).toNatClampNeg = 0 := rfl
    rw [this]
    simp [cnt]
    try omega
  · have k4 : ar r 28 x.toNatClampNeg = fi r 13 + 1 := k3
    have := h2 x.toNatClampNeg
    rw [k4] at this
    exact absurd this (fun z => irr z)
  · exact absurd (show q < 0 from k3) (fun z => nl0 (le0 k1 k2) z)
  · exact absurd (show p < 0 from k2) (fun z => nl0 k1 z)
  · exact absurd (show k < 0 from k2) (fun z => nl0 k1 z)
theorem startWalk_ok {K : S_ → Prop} (hK : K (sF (sF r 13 (fi r 13 + 1)) 12 0)) : qG_startWalk a K r := by
  unfold qG_startWalk
  intro r1 e1 r2 e2
  subst e1
  subst e2
  exact hK
theorem s14 (h : fi r 14 = 0) : sF r 14 0 = r := by
  obtain ⟨r1, r2, r3⟩ := r
  unfold sF
  congr 1
  funext j
  by_cases e : j = 14
  · rw [if_pos e, e]; exact h.symm
  · rw [if_neg e]
theorem WI_push0 (w : WI a r rh ta N acy rk 0 0 0) (h0 : fi r 14 = 0) {y : Int32} (h1 : 0 ≤ y) (h2 : y < fi r 11) (h3 : ¬ ar r 21 y.toNatClampNeg = -2) : WI a (sF (sA r 31 (upd (ar r 31) (fi r 14).toNatClampNeg y)) 14 (fi r 14 + 1)) rh ta N acy rk 0 0 0 := by
  have ho := (o_lt w).2
  obtain ⟨w1, w2, w3, w4, w5, w6, w7⟩ := w
  have k := nv_le w1 (V := ar r 28) (v := fi r 13)
  have hh : 0 ≤ fi r 14 := w3.2.1
  have hx : ∀ k, 0 ≤ k → k < fi r 14 → False := fun k k1 k2 => by rw [h0] at k2; exact nl0 k1 k2
  have hz : ∀ k, 0 ≤ k → k < fi r 14 + 1 → k = 0 := fun k k1 k2 => by rw [h0] at k2; clear w1 w2 w3 w4 w5 w6 w7 hx; grind
  refine ⟨w1, w2, ?_, WB_push w4 hh ho h1 h2 h3, fun x k1 k2 k3 => ?_, fun ha => ?_, fun z => absurd z (by decide)⟩
  · have w8 : WA (fi r 11) (ar r 28) (fi r 13) (fi r 12) (ar r 31) (fi r 14) 1 := by
      obtain ⟨a1, a2, a3, a4⟩ := w3
      refine ⟨a1, a2, ?_, a4⟩
      rw [h0, show (0 : Int32).toInt = 0 from rfl]
      omega
    exact WA_push w8 k.2.1 h1
  · obtain ⟨b1, b2, b3, b4, b5, b6⟩ := w5 x k1 k2 k3
    refine ⟨b1, b2, b3, ?_, fun g g2 => ?_, fun g g2 => ?_⟩
    · rcases b4 with b | ⟨k, q1, q2, q3⟩
      · exact Or.inl b
      · exact (hx k q1 q2).elim
    · rcases b5 g g2 with b | ⟨k, q1, q2, q3⟩
      · exact Or.inl b
      · exact (hx k q1 q2).elim
    · rcases b6 g g2 with b | ⟨k, q1, q2, q3⟩
      · exact Or.inl b
      · exact (hx k q1 q2).elim
  · obtain ⟨d0, d1, d2, d3⟩ := w6 ha
    refine ⟨d0, fun p q k1 k2 k3 k4 => ?_, fun p k1 k2 k3 => ?_, d3⟩
    · have e1 := hz q (le0 k1 k2) k3
      rw [e1] at k2
      exact (nl0 k1 k2).elim
    · have e1 := hz p k1 k2
      subst e1
      have k4 : upd (ar r 31) (fi r 14).toNatClampNeg y ((0 : Int32)).toNatClampNeg < 0 := k3
      rw [h0, pk_us] at k4
      exact (nl0 h1 k4).elim
theorem walk_ok {p0 : Int32} (w : PW a r rh ta N acy rk) (h1 : 0 ≤ p0) (h2 : p0 < fi r 11) {K : S_ → Prop} (hK : ∀ r', PW a r' rh ta N acy rk → Fw r r' → ar r' 28 (rh p0).toNatClampNeg = fi r' 13 → K r') : qG_walk a K r p0 := by
  unfold qG_walk
  intro r1 e1
  have w0 : WI a r1 rh ta N acy rk 0 0 0 := by rw [e1]; exact w
  have h14 : fi r1 14 = 0 := by rw [e1]; rfl
  have h11 : fi r1 11 = fi r 11 := by rw [e1]; rfl
  have f1 : Fw r r1 := by
    rw [e1]
    exact ⟨fun k k1 k2 => by rw [fi_sF, if_neg k2], fun _ _ _ _ _ _ => rfl, fun _ => rfl, fun _ _ _ _ => rfl, fun _ _ _ h => h⟩
  clear e1 w
  have hr := w0.1.2.2.2.2.1.2 p0 h1 (by rw [h11]; exact h2)
  refine settled_ok w0.1 h1 (by rw [h11]; exact h2) (fun f k1 k2 => ?_)
  have w2 := WI_fs w0 k1 k2
  have hc := cap w2
  have w3 := WI_push0 w2 h14 hr.1 hr.2.1 hr.2.2.1
  refine push_ok w2.2.2.1.2.1 hc.1 hc.2 ⟨30001, ?_⟩
  have hms := ms0 w3
  refine walk_L (r0 := r) hr.1 (by rw [← h11]; exact hr.2.1) ?_ _ _ _ w3 (Fw_trans f1 (Fw_trans (Fw_22 k2) Fw_push)) (Or.inr ?_) (by omega) (by decide) (by simp; omega)
  · intro r' q1 q2 q3 q4
    refine hK r' ?_ q3 q4
    unfold PW
    rw [s14 q2]
    exact q1
  · have e14 : fi (sA r1 22 f) 14 = 0 := h14
    refine ⟨?_, ?_⟩
    · show 0 < fi (sA r1 22 f) 14 + 1
      rw [e14]; decide
    · show upd (ar (sA r1 22 f) 31) (fi (sA r1 22 f) 14).toNatClampNeg (rh p0) (fi (sA r1 22 f) 14 + 1 - 1).toNatClampNeg = rh p0
      rw [show fi (sA r1 22 f) 14 + 1 - 1 = fi (sA r1 22 f) 14 by rw [e14]; decide, pk_us]
def Fr (F A : List Nat) (r r' : S_) : Prop := (∀ k, k ∉ F → fi r' k = fi r k) ∧ (∀ k, k ∉ A → ar r' k = ar r k) ∧ ∀ k, la r' k = la r k
theorem Fr_refl {F A : List Nat} (r : S_) : Fr F A r r := ⟨fun _ _ => rfl, fun _ _ => rfl, fun _ => rfl⟩
theorem Fr_trans {F A : List Nat} {r1 r2 r3 : S_} (w : Fr F A r1 r2) (w2 : Fr F A r2 r3) : Fr F A r1 r3 := ⟨fun k h => (w2.1 k h).trans (w.1 k h), fun k h => (w2.2.1 k h).trans (w.2.1 k h), fun k => (w2.2.2 k).trans (w.2.2 k)⟩
theorem Fr_mono {F A F2 A2 : List Nat} {r1 r2 : S_} (w : Fr F A r1 r2) (h1 : ∀ k, k ∈ F → k ∈ F2) (h2 : ∀ k, k ∈ A → k ∈ A2) : Fr F2 A2 r1 r2 := ⟨fun k h => w.1 k (fun z => h (h1 k z)), fun k h => w.2.1 k (fun z => h (h2 k z)), w.2.2⟩
theorem Fr_w {r1 r2 : S_} (w : Fw r1 r2) : Fr [12, 13, 14] [22, 28, 29, 30, 31] r1 r2 := by
  refine ⟨fun k h => ?_, fun k h => ?_, w.2.2.1⟩
  · simp at h
    exact w.1 k h.1 h.2.2
  · simp at h
    exact w.2.1 k h.1 h.2.1 h.2.2.1 h.2.2.2.1 h.2.2.2.2
theorem Fr_sF {F A : List Nat} {k : Nat} {v : Int32} (h : k ∈ F) : Fr F A r (sF r k v) := ⟨fun j hj => by rw [fi_sF, if_neg (fun e : j = k => hj (by rw [e]; exact h))], fun _ _ => rfl, fun _ => rfl⟩
theorem Fr_sA {F A : List Nat} {k : Nat} {f : Nat → Int32} (h : k ∈ A) : Fr F A r (sA r k f) := ⟨fun _ _ => rfl, fun j hj => by rw [ar_sA, if_neg (fun e : j = k => hj (by rw [e]; exact h))], fun _ => rfl⟩
theorem circ_L6 {r0 : S_} {KX : S_ → Prop} (hK : ∀ r', PW a r' rh ta N acy rk → Fw r0 r' → (∀ j, 0 ≤ j → j < fi r' 11 → ar r' 28 (rh j).toNatClampNeg = fi r' 13) → KX r') : ∀ (n : Nat) (r : S_) (v : Int32), PW a r rh ta N acy rk → Fw r0 r → 0 ≤ v → v ≤ fi r 11 → (∀ j, 0 ≤ j → j < v → ar r 28 (rh j).toNatClampNeg = fi r 13) → (fi r 11).toInt - v.toInt < n → qG_isCircular_L6 a KX n r v := by
  intro n
  induction n with
  | zero =>
    intro r v w hF h0 h1 h2 h3
    rw [il] at h1
    omega
  | succ n ih =>
    intro r v w hF h0 h1 h2 h3
    rw [qG_isCircular_L6]
    refine ⟨fun g => hK r w hF (fun j j1 j2 => h2 j j1 ?_), fun g => ?_⟩
    · clear w hF h2 ih hK
      grind
    · have hlt : v < fi r 11 := Int32.not_le.mp g
      refine walk_ok w h0 hlt (fun r' q1 q2 q3 => ?_)
      have e11 : fi r' 11 = fi r 11 := q2.1 11 (by decide) (by decide)
      have e13 : fi r' 13 = fi r 13 := q2.1 13 (by decide) (by decide)
      have hi := i_inc hlt
      refine ih r' (v + 1) q1 (Fw_trans hF q2) ?_ ?_ (fun j j1 j2 => ?_) (by rw [e11]; omega)
      · clear w hF h2 ih hK q1 q2 q3; grind
      · rw [e11]; clear w hF h2 ih hK q1 q2 q3; grind
      · by_cases e : j = v
        · rw [e]; exact q3
        · have j3 : j < v := by clear w hF h2 ih hK q1 q2 q3; grind
          have rj := w.1.2.2.2.2.1.2 j j1 (show j < fi r 11 from ltt j3 hlt)
          rw [e13]
          exact q2.2.2.2.2 (rh j) rj.1 rj.2.1 (h2 j j1 j3)
theorem ord_in (w : PW a r rh ta N acy rk) {k : Int32} (h1 : 0 ≤ k) (h2 : k < fi r 12) : 0 ≤ ar r 30 k.toNatClampNeg ∧ ar r 30 k.toNatClampNeg < fi r 11 ∧ ¬ ar r 21 (ar r 30 k.toNatClampNeg).toNatClampNeg = -2 ∧ ar r 28 (ar r 30 k.toNatClampNeg).toNatClampNeg = fi r 13 ∧ vp_in k (ln a 30) := by
  have b := w.2.2.2.1.1 k h1 h2
  refine ⟨b.1, b.2.1, b.2.2.1, b.2.2.2, ?_⟩
  have a3 := w.2.2.1
  have kk := nv_le (r := r) (show GI a r rh ta N from w.1) (V := ar r 28) (v := fi r 13)
  have e1 := w.1.1.2.2.2.2.2.2.2.2.1
  have e2 : (fi r 11).toInt ≤ ln a 21 := w.1.2.2.1
  have a4 : (fi r 12).toInt + _ ≤ ((cnt (fun i => ar r 28 i == fi r 13) (fi r 11).toNatClampNeg : Nat) : Int) := a3.2.2.2
  refine vi2 h1 h2 ?_
  rw [e1]
  omega
theorem ordL (w : PW a r rh ta N acy rk) : 0 ≤ fi r 12 ∧ (fi r 12).toInt ≤ (fi r 11).toInt := by
  have a3 := w.2.2.1
  have kk := nv_le (r := r) (show GI a r rh ta N from w.1) (V := ar r 28) (v := fi r 13)
  have a4 : (fi r 12).toInt + _ ≤ ((cnt (fun i => ar r 28 i == fi r 13) (fi r 11).toNatClampNeg : Nat) : Int) := a3.2.2.2
  exact ⟨a3.1, by omega⟩
theorem circ_L27 {KX : S_ → Prop} (w : PW a r rh ta N acy rk) (hK : ∀ g, (∀ k, 0 ≤ k → k < fi r 12 → ∃ j, 0 ≤ j ∧ j < fi r 12 ∧ ar r 30 j.toNatClampNeg = ar r 30 k.toNatClampNeg ∧ g (ar r 30 k.toNatClampNeg).toNatClampNeg = j) → KX (sA r 29 g)) : ∀ (n : Nat) (g : Nat → Int32) (v : Int32), 0 ≤ v → v ≤ fi r 12 → (∀ k, 0 ≤ k → k < v → ∃ j, 0 ≤ j ∧ j < v ∧ ar r 30 j.toNatClampNeg = ar r 30 k.toNatClampNeg ∧ g (ar r 30 k.toNatClampNeg).toNatClampNeg = j) → (fi r 12).toInt - v.toInt < n → qG_isCircular_L27 a KX n (sA r 29 g) v := by
  intro n
  induction n with
  | zero =>
    intro g v h0 h1 h2 h3
    rw [il] at h1
    omega
  | succ n ih =>
    intro g v h0 h1 h2 h3
    rw [qG_isCircular_L27]
    refine ⟨fun z => hK g (fun k k1 k2 => ?_), fun z => ?_⟩
    · have z2 : v = fi r 12 := by
        have z3 : fi r 12 ≤ v := z
        clear w h2 ih hK z; grind
      rw [← z2]
      exact h2 k k1 (by rw [z2]; exact k2)
    · have hlt : v < fi r 12 := Int32.not_le.mp z
      have b := ord_in w h0 hlt
      have e29 := w.1.1.2.2.2.2.2.2.2.1
      refine ⟨b.2.2.2.2, vi2 b.1 b.2.1 (by rw [e29]; exact w.1.2.2.1), fun r7 e7 => ?_⟩
      have e8 : r7 = sA r 29 (upd g (ar r 30 v.toNatClampNeg).toNatClampNeg v) := by rw [e7]; exact sA_sA _ _ _ _
      rw [e8]
      have hi := i_inc hlt
      have v1 : 0 ≤ v + 1 := by clear w h2 ih hK; grind
      have v2 : v < v + 1 := by clear w h2 ih hK; grind
      refine ih _ (v + 1) v1 (by clear w h2 ih hK; grind) (fun k k1 k2 => ?_) (by omega)
      by_cases e : ar r 30 k.toNatClampNeg = ar r 30 v.toNatClampNeg
      · exact ⟨v, h0, v2, e.symm, by rw [e, pk_us]⟩
      · have k3 : k < v := by
          have : ¬ k = v := fun e2 => e (by rw [e2])
          clear w h2 ih hK; grind
        obtain ⟨j, j1, j2, j3, j4⟩ := h2 k k1 k3
        refine ⟨j, j1, ltt j2 v2, j3, ?_⟩
        have bk := ord_in w k1 (ltt k3 hlt)
        rw [updI g _ b.1 bk.1, if_neg e, j4]
theorem circ_L55 {KA KB : S_ → Prop} (w : PW a r rh ta N acy rk) (hA : ∀ f, GI a (sA r 22 f) rh ta N → FS (fi r 11) (ar r 21) (ar r 22) f → KA (sA r 22 f)) (hB : ∀ f, GI a (sA r 22 f) rh ta N → FS (fi r 11) (ar r 21) (ar r 22) f → (∀ k, 0 ≤ k → k < fi r 12 → (¬ ar r 22 (ar r 30 k.toNatClampNeg).toNatClampNeg = -1 → ar r 29 (rh (ar r 22 (ar r 30 k.toNatClampNeg).toNatClampNeg)).toNatClampNeg < k) ∧ (¬ ar r 23 (ar r 30 k.toNatClampNeg).toNatClampNeg = -1 → ar r 29 (rh (ar r 23 (ar r 30 k.toNatClampNeg).toNatClampNeg)).toNatClampNeg < k)) → KB (sA r 22 f)) : ∀ (n : Nat) (f : Nat → Int32) (v : Int32), GI a (sA r 22 f) rh ta N → FS (fi r 11) (ar r 21) (ar r 22) f → 0 ≤ v → v ≤ fi r 12 → (∀ k, 0 ≤ k → k < v → (¬ ar r 22 (ar r 30 k.toNatClampNeg).toNatClampNeg = -1 → ar r 29 (rh (ar r 22 (ar r 30 k.toNatClampNeg).toNatClampNeg)).toNatClampNeg < k) ∧ (¬ ar r 23 (ar r 30 k.toNatClampNeg).toNatClampNeg = -1 → ar r 29 (rh (ar r 23 (ar r 30 k.toNatClampNeg).toNatClampNeg)).toNatClampNeg < k)) → (fi r 12).toInt - v.toInt < n → qG_isCircular_L55 a KA KB n (sA r 22 f) v := by
  intro n
  have e29 := w.1.1.2.2.2.2.2.2.2.1
  induction n with
  | zero =>
    intro f v i1 i2 h0 h1 h2 h3
    rw [il] at h1
    omega
  | succ n ih =>
    intro f v i1 i2 h0 h1 h2 h3
    rw [qG_isCircular_L55]
    refine ⟨fun z => hB f i1 i2 (fun k k1 k2 => h2 k k1 ?_), fun z => ?_⟩
    · have z3 : fi r 12 ≤ v := z
      clear w h2 ih hA hB z i1 i2; grind
    · have hlt : v < fi r 12 := Int32.not_le.mp z
      have b := ord_in w h0 hlt
      have ef : f (ar r 30 v.toNatClampNeg).toNatClampNeg = ar r 22 (ar r 30 v.toNatClampNeg).toNatClampNeg := i2 _ b.1 b.2.1 b.2.2.1
      have nn := w.1.2.2.2.1 _ b.1 b.2.1
      have hi := i_inc hlt
      have rr : ∀ y, 0 ≤ y → y < fi r 11 → vp_in (rh y) (ln a 29) := fun y y1 y2 => by
        have q := w.1.2.2.2.2.1.2 y y1 y2
        exact vi2 q.1 q.2.1 (by rw [e29]; exact w.1.2.2.1)
      have n22 : -1 ≤ ar r 22 (ar r 30 v.toNatClampNeg).toNatClampNeg ∧ ar r 22 (ar r 30 v.toNatClampNeg).toNatClampNeg < fi r 11 := ⟨nn.2.2.1, nn.2.2.2.1⟩
      have n23 : -1 ≤ ar r 23 (ar r 30 v.toNatClampNeg).toNatClampNeg ∧ ar r 23 (ar r 30 v.toNatClampNeg).toNatClampNeg < fi r 11 := ⟨nn.2.2.2.2.1, nn.2.2.2.2.2.1⟩
      have fin : ∀ f3, GI a (sA r 22 f3) rh ta N → FS (fi r 11) (ar r 21) (ar r 22) f3 → (¬ ar r 22 (ar r 30 v.toNatClampNeg).toNatClampNeg = -1 → ar r 29 (rh (ar r 22 (ar r 30 v.toNatClampNeg).toNatClampNeg)).toNatClampNeg < v) → (¬ ar r 23 (ar r 30 v.toNatClampNeg).toNatClampNeg = -1 → ar r 29 (rh (ar r 23 (ar r 30 v.toNatClampNeg).toNatClampNeg)).toNatClampNeg < v) → qG_isCircular_L55 a KA KB n (sA r 22 f3) (v + 1) := by
        intro f3 q1 q2 q3 q4
        refine ih f3 (v + 1) q1 q2 (by clear w h2 ih hA hB i1 i2 q1 q2 q3 q4 rr; grind) (by clear w h2 ih hA hB i1 i2 q1 q2 q3 q4 rr; grind) (fun k k1 k2 => ?_) (by omega)
        by_cases e : k = v
        · rw [e]; exact ⟨q3, q4⟩
        · exact h2 k k1 (by clear w h2 ih hA hB i1 i2 q1 q2 q3 q4 rr; grind)
      have snd : ∀ f2, GI a (sA r 22 f2) rh ta N → FS (fi r 11) (ar r 21) (ar r 22) f2 → (¬ ar r 22 (ar r 30 v.toNatClampNeg).toNatClampNeg = -1 → ar r 29 (rh (ar r 22 (ar r 30 v.toNatClampNeg).toNatClampNeg)).toNatClampNeg < v) → qG_secondOf a (fun z15 r16 => qG_comesLater a r16 (fun z17 => zb z17 → ((z17 = 0) → (qG_isCircular_L55 a KA KB n) r16 (v + 1)) ∧ ((¬ z17 = 0) → KA r16)) z15 v) (sA r 22 f2) (ar r 30 v.toNatClampNeg) := by
        intro f2 q1 q2 q3
        refine secondOf_ok q1 b.1 b.2.1 (fun g => ?_) (fun g f3 k1 k2 => ?_)
        · unfold qG_comesLater
          exact ⟨fun _ => ⟨zb0, fun _ => ⟨fun _ => fin f2 q1 q2 q3 (fun g2 => absurd g g2), fun g2 => absurd rfl g2⟩⟩, fun g2 => absurd rfl g2⟩
        · have e22 : sA (sA r 22 f2) 22 f3 = sA r 22 f3 := sA_sA _ _ _ _
          rw [e22] at k1 ⊢
          have k3 : FS (fi r 11) (ar r 21) (ar r 22) f3 := fun x x1 x2 x3 => (k2 x x1 x2 x3).trans (q2 x x1 x2 x3)
          have g2 : ¬ ar r 23 (ar r 30 v.toNatClampNeg).toNatClampNeg = -1 := g
          have y1 : 0 ≤ ar r 23 (ar r 30 v.toNatClampNeg).toNatClampNeg := by have := n23.1; clear w h2 ih hA hB i1 i2 q1 q2 q3 rr fin k1 k2 k3; grind
          have q := w.1.2.2.2.2.1.2 _ y1 n23.2
          unfold qG_comesLater
          refine ⟨fun g3 => absurd q.1 (by show ¬ 0 ≤ rh (ar r 23 (ar r 30 v.toNatClampNeg).toNatClampNeg); rw [show rh (ar r 23 (ar r 30 v.toNatClampNeg).toNatClampNeg) = -1 from g3]; decide), fun _ => ⟨rr _ y1 n23.2, fun g3 => ⟨zb0, fun _ => ⟨fun _ => fin f3 k1 k3 q3 (fun _ => g3), fun g2 => absurd rfl g2⟩⟩, fun g3 => ⟨zb1, fun _ => ⟨fun g2 => absurd g2 (by decide), fun _ => hA f3 k1 k3⟩⟩⟩⟩
      refine ⟨b.2.2.2.2, ?_⟩
      refine firstOf_ok i1 b.1 b.2.1 (fun g => ?_) (fun g f2 k1 k2 => ?_)
      · have g0 : f (ar r 30 v.toNatClampNeg).toNatClampNeg = -1 := g
        rw [ef] at g0
        unfold qG_comesLater
        exact ⟨fun _ => ⟨zb0, fun _ => ⟨fun g2 => absurd rfl g2, fun _ => ⟨b.2.2.2.2, snd f i1 i2 (fun g2 => absurd g0 g2)⟩⟩⟩, fun g2 => absurd rfl g2⟩
      · have g0 : ¬ f (ar r 30 v.toNatClampNeg).toNatClampNeg = -1 := g
        rw [ef] at g0
        have e22 : sA (sA r 22 f) 22 f2 = sA r 22 f2 := sA_sA _ _ _ _
        rw [e22] at k1 ⊢
        have k3 : FS (fi r 11) (ar r 21) (ar r 22) f2 := fun x x1 x2 x3 => (k2 x x1 x2 x3).trans (i2 x x1 x2 x3)
        have e5 : ar (sA r 22 f) 22 (ar r 30 v.toNatClampNeg).toNatClampNeg = ar r 22 (ar r 30 v.toNatClampNeg).toNatClampNeg := ef
        rw [e5]
        have y1 : 0 ≤ ar r 22 (ar r 30 v.toNatClampNeg).toNatClampNeg := by have := n22.1; clear w h2 ih hA hB i1 i2 rr fin k1 k2 k3 snd; grind
        have q := w.1.2.2.2.2.1.2 _ y1 n22.2
        unfold qG_comesLater
        refine ⟨fun g3 => absurd q.1 (by rw [g3]; decide), fun _ => ⟨rr _ y1 n22.2, fun g3 => ⟨zb0, fun _ => ⟨fun g2 => absurd rfl g2, fun _ => ⟨b.2.2.2.2, snd f2 k1 k3 (fun _ => g3)⟩⟩⟩, fun g3 => ⟨zb1, fun _ => ⟨fun _ => hA f2 k1 k3, fun g2 => absurd g2 (by decide)⟩⟩⟩⟩
theorem PW_val {g : Nat → Int32} (w : PW a r rh ta N acy rk) (h : ∀ x, 0 ≤ x → x < fi r 11 → ar r 28 x.toNatClampNeg = fi r 13 → 0 ≤ g x.toNatClampNeg ∧ g x.toNatClampNeg < fi r 11) : PW a (sA r 29 g) rh ta N acy rk := by
  obtain ⟨w1, w2, w3, w4, w5, w6, w7⟩ := w
  refine ⟨w1, w2, w3, w4, fun x k1 k2 k3 => ?_, w6, w7⟩
  obtain ⟨b1, b2, b3, b4, b5, b6⟩ := w5 x k1 k2 k3
  have := h x k1 k2 k3
  exact ⟨b1, this.1, this.2, b4, b5, b6⟩
theorem vis_ord (w : PW a r rh ta N acy rk) {x : Int32} (h1 : 0 ≤ x) (h2 : x < fi r 11) (h3 : ar r 28 x.toNatClampNeg = fi r 13) : ∃ k, 0 ≤ k ∧ k < fi r 12 ∧ ar r 30 k.toNatClampNeg = x := by
  rcases (w.2.2.2.2.1 x h1 h2 h3).2.2.2.1 with b | ⟨k, k1, k2, k3⟩
  · exact b
  · exact (nl0 k1 (show k < 0 from k2)).elim
theorem isCircular_ok (hI : GI a r rh ta N) (hv : VB r) (hb : fi r 13 < 2000000000) {K : Int32 → S_ → Prop} (hK : ∀ z r', GI a r' rh ta N → VB r' → Fr [12, 13, 14] [22, 28, 29, 30, 31] r r' → FS (fi r 11) (ar r 21) (ar r 22) (ar r' 22) → fi r' 13 = fi r 13 + 1 → (z = 0 → ∃ rk, ACY (fi r' 11) (ar r' 21) (ar r' 22) (ar r' 23) rh rk) → zb z → K z r') : qG_isCircular a K r := by
  unfold qG_isCircular
  refine startWalk_ok ⟨(fi r 11).toNatClampNeg + 1, ?_⟩
  have w0 := PW_start (acy := False) (rk := id) hI hv hb (fun z => z.elim)
  have c0 := i_nat hI.2.1
  refine circ_L6 (r0 := sF (sF r 13 (fi r 13 + 1)) 12 0) ?_ _ _ _ w0 (Fw_refl _) (by decide) hI.2.1 (fun j j1 j2 => (nl0 j1 j2).elim) ?_
  · intro r1 q1 q2 q3
    have o1 := ordL q1
    have o2 := i_nat o1.1
    refine ⟨(fi r1 12).toNatClampNeg + 1, ?_⟩
    have fr1 : Fr [12, 13, 14] [22, 28, 29, 30, 31] r r1 := Fr_trans (Fr_trans (Fr_sF (by decide)) (Fr_sF (by decide))) (Fr_w q2)
    have e13 : fi r1 13 = fi r 13 + 1 := q2.1 13 (by decide) (by decide)
    have fs1 : FS (fi r 11) (ar r 21) (ar r 22) (ar r1 22) := q2.2.2.2.1
    have e11 : fi r1 11 = fi r 11 := q2.1 11 (by decide) (by decide)
    have e21 : ar r1 21 = ar r 21 := q2.2.1 21 (by decide) (by decide) (by decide) (by decide) (by decide)
    have vb1 : VB r1 := q1.2.1
    have key := circ_L27 (KX := fun r => ∃ n21 : Nat, qG_isCircular_L55 a (fun r => zb 1 ∧ K 1 r) (fun r => zb 0 ∧ K 0 r) n21 r 0) q1 ?_ ((fi r1 12).toNatClampNeg + 1) (ar r1 29) 0 (by decide) o1.1 (fun k k1 k2 => (nl0 k1 k2).elim) ?_
    · rw [sA_id] at key
      exact key
    · intro g hg
      have w3 : PW a (sA r1 29 g) rh ta N False id := by
        refine PW_val q1 (fun x x1 x2 x3 => ?_)
        obtain ⟨k, k1, k2, k3⟩ := vis_ord q1 x1 x2 x3
        obtain ⟨j, j1, j2, j3, j4⟩ := hg k k1 k2
        rw [k3] at j4
        rw [j4]
        refine ⟨j1, ?_⟩
        rw [it] at j2 ⊢
        omega
      refine ⟨(fi r1 12).toNatClampNeg + 1, ?_⟩
      have fin : ∀ f, GI a (sA (sA r1 29 g) 22 f) rh ta N → FS (fi r1 11) (ar r1 21) (ar r1 22) f → ∀ z, zb z → (z = 0 → ∃ rk, ACY (fi r1 11) (ar r1 21) f (ar r1 23) rh rk) → K z (sA (sA r1 29 g) 22 f) := by
        intro f k1 k2 z hz hac
        refine hK z _ k1 vb1 (Fr_trans fr1 (Fr_trans (Fr_sA (by decide)) (Fr_sA (by decide)))) ?_ e13 hac hz
        intro x x1 x2 x3
        have := k2 x x1 (by rw [e11]; exact x2) (by rw [e21]; exact x3)
        exact this.trans (fs1 x x1 x2 x3)
      have key2 := circ_L55 (KA := fun r => zb 1 ∧ K 1 r) (KB := fun r => zb 0 ∧ K 0 r) w3 (fun f k1 k2 => ⟨zb1, fin f k1 k2 1 zb1 (fun z => absurd z (by decide))⟩) (fun f k1 k2 k3 => ⟨zb0, fin f k1 k2 0 zb0 (fun _ => ⟨fun x => g x.toNatClampNeg, fun x x1 x2 x3 => ?_⟩)⟩) ((fi r1 12).toNatClampNeg + 1) (ar r1 22) 0 ?_ (fun _ _ _ _ => rfl) (by decide) o1.1 (fun k k1 k2 => (nl0 k1 k2).elim) ?_
      · rw [show sA (sA r1 29 g) 22 (ar r1 22) = sA r1 29 g from sA_id (sA r1 29 g) 22] at key2
        exact key2
      · have xr : rh x = x := (q1.1.2.2.2.2.1.2 x x1 x2).2.2.2.1 x3
        have xv := q3 x x1 x2
        rw [xr] at xv
        obtain ⟨k, p1, p2, p3⟩ := vis_ord q1 x1 x2 xv
        obtain ⟨j, j1, j2, j3, j4⟩ := hg k p1 p2
        rw [p3] at j3 j4
        have ck := k3 j j1 j2
        have e30 : ar (sA r1 29 g) 30 j.toNatClampNeg = x := j3
        rw [e30] at ck
        have ef : f x.toNatClampNeg = ar r1 22 x.toNatClampNeg := k2 x x1 x2 x3
        rw [ef]
        show (¬ ar r1 22 x.toNatClampNeg = -1 → g (rh (ar r1 22 x.toNatClampNeg)).toNatClampNeg < g x.toNatClampNeg) ∧ (¬ ar r1 23 x.toNatClampNeg = -1 → g (rh (ar r1 23 x.toNatClampNeg)).toNatClampNeg < g x.toNatClampNeg)
        rw [j4]
        exact ck
      · rw [show sA (sA r1 29 g) 22 (ar r1 22) = sA r1 29 g from sA_id (sA r1 29 g) 22]
        exact w3.1
      · show (fi r1 12).toInt - (0 : Int32).toInt < _
        rw [show (0 : Int32).toInt = 0 from rfl]
        omega
    · rw [show (0 : Int32).toInt = 0 from rfl]
      omega
  · show (fi r 11).toInt - (0 : Int32).toInt < _
    rw [show (0 : Int32).toInt = 0 from rfl]
    omega
end CIRC
