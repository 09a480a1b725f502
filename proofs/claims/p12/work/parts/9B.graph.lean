/-! The class's graph: what keeps it safe. -/
section GRAPH
/-- lengths -/
def GL (a : L_) : Prop := ln a 22 = ln a 21 ∧ ln a 23 = ln a 21 ∧ ln a 24 = ln a 21 ∧ ln a 25 = ln a 21 ∧ ln a 26 = ln a 21 ∧ ln a 27 = ln a 21 ∧ ln a 28 = ln a 21 ∧ ln a 29 = ln a 21 ∧ ln a 30 = ln a 21 ∧ ln a 31 = 2 * ln a 21 + 4 ∧ 64 ≤ ln a 21 ∧ ln a 21 ≤ 4096
/-- the nodes' parts are nodes -/
def GN (c : Int32) (h f s : Nat → Int32) : Prop := ∀ x : Int32, 0 ≤ x → x < c → -2 ≤ h x.toNatClampNeg ∧ h x.toNatClampNeg < 8 ∧ -1 ≤ f x.toNatClampNeg ∧ f x.toNatClampNeg < c ∧ -1 ≤ s x.toNatClampNeg ∧ s x.toNatClampNeg < c ∧ (h x.toNatClampNeg = -2 → 0 ≤ f x.toNatClampNeg)
/-- where nodes have moved to in the end: rh, and when: ta -/
def GR (c : Int32) (h f : Nat → Int32) (rh : Int32 → Int32) (ta : Int32 → Int32) (N : Int32) : Prop := N ≤ c ∧ ∀ x : Int32, 0 ≤ x → x < c → 0 ≤ rh x ∧ rh x < c ∧ ¬ h (rh x).toNatClampNeg = -2 ∧ (¬ h x.toNatClampNeg = -2 → rh x = x) ∧ (h x.toNatClampNeg = -2 → rh (f x.toNatClampNeg) = rh x ∧ 0 ≤ ta x ∧ ta x < N ∧ (h (f x.toNatClampNeg).toNatClampNeg = -2 → ta x < ta (f x.toNatClampNeg)))
def nmv (h : Nat → Int32) (c : Int32) : Nat := cnt (fun i => h i == -2) c.toNatClampNeg
def GI (a : L_) (r : S_) (rh ta : Int32 → Int32) (N : Int32) : Prop := GL a ∧ 0 ≤ fi r 11 ∧ (fi r 11).toInt ≤ ln a 21 ∧ GN (fi r 11) (ar r 21) (ar r 22) (ar r 23) ∧ GR (fi r 11) (ar r 21) (ar r 22) rh ta N ∧ N.toInt = nmv (ar r 21) (fi r 11)
/-- firsts changed at moved nodes alone -/
def FS (c : Int32) (h f f2 : Nat → Int32) : Prop := ∀ x : Int32, 0 ≤ x → x < c → ¬ h x.toNatClampNeg = -2 → f2 x.toNatClampNeg = f x.toNatClampNeg
theorem settled_L {a : L_} {r : S_} {rh ta : Int32 → Int32} {N : Int32} (hI : GI a r rh ta N) {p0 : Int32} {KX : S_ → Int32 → Int32 → Prop} (hK : KX r p0 (rh p0)) : ∀ (n : Nat) (x st : Int32), 0 ≤ x → x < fi r 11 → 0 ≤ st → st ≤ fi r 11 → rh x = rh p0 → (ar r 21 x.toNatClampNeg = -2 → st ≤ ta x) → (fi r 11).toInt - st.toInt < n → qG_settled_L4 a KX n r p0 x st := by
  obtain ⟨hL, hc0, hcl, hN, hR, hn⟩ := hI
  intro n
  induction n with
  | zero => 
    intro x st h1 h2 h3 h3b h4 h5 h6
    rw [il] at h3b
    omega
  | succ n ih =>
    intro x st h1 h2 h3 h3b h4 h5 h6
    rw [qG_settled_L4]
    have e1 := hR.2 x h1 h2
    have e2 := hR.1
    have e3 := hN x h1 h2
    refine ⟨vi2 h1 h2 hcl, fun g => ?_, fun g => ⟨fun g2 => ?_, fun g2 => ⟨vi2 h1 h2 (by rw [hL.1]; exact hcl), ?_⟩⟩⟩
    · rw [show x = rh p0 from by rw [← h4, e1.2.2.2.1 g]]
      exact hK
    · grind
    · refine ih _ _ (by grind) (by grind) (by grind) (by grind) (by grind) (by grind) ?_
      have := i_inc (Int32.not_le.mp g2)
      omega
theorem GI_f {a : L_} {r : S_} {rh ta : Int32 → Int32} {N : Int32} (hI : GI a r rh ta N) {x : Int32} (h1 : 0 ≤ x) (h2 : x < fi r 11) (h3 : ar r 21 x.toNatClampNeg = -2) : GI a (sA r 22 (upd (ar r 22) x.toNatClampNeg (rh x))) rh ta N := by
  obtain ⟨hL, hc0, hcl, hN, hR, hn⟩ := hI
  have e1 := hR.2 x h1 h2
  have e2 := hR.2 (rh x) e1.1 e1.2.1
  refine ⟨hL, hc0, hcl, ?_, ?_, hn⟩
  · intro y g1 g2
    have := hN y g1 g2
    have := updI (ar r 22) (rh x) h1 g1
    simp only [fi_sF, fi_sA, ar_sF, ar_sA, la_sF, la_sA, reduceIte, Nat.reduceEqDiff]
    grind
  · refine ⟨hR.1, ?_⟩
    intro y g1 g2
    have := hR.2 y g1 g2
    have := updI (ar r 22) (rh x) h1 g1
    simp only [fi_sF, fi_sA, ar_sF, ar_sA, la_sF, la_sA, reduceIte, Nat.reduceEqDiff]
    grind
theorem settled_ok {a : L_} {r : S_} {rh ta : Int32 → Int32} {N : Int32} (hI : GI a r rh ta N) {p0 : Int32} (h1 : 0 ≤ p0) (h2 : p0 < fi r 11) {K : Int32 → S_ → Prop} (hK : ∀ f, GI a (sA r 22 f) rh ta N → FS (fi r 11) (ar r 21) (ar r 22) f → K (rh p0) (sA r 22 f)) : qG_settled a K r p0 := by
  unfold qG_settled
  refine ⟨(fi r 11).toInt.toNat + 1, settled_L hI ?_ _ _ _ h1 h2 (by decide) (hI.2.1) rfl (fun g => ?_) ?_⟩
  · unfold qG_settled_J36
    have e1 := hI.2.2.2.2.1.2 p0 h1 h2
    constructor
    · intro g
      have := hK (ar r 22) (by rw [sA_id]; exact hI) (fun _ _ _ _ => rfl)
      rw [sA_id] at this
      exact this
    · intro g
      refine ⟨vi2 h1 h2 (by rw [hI.1.1]; exact hI.2.2.1), ?_⟩
      intro r7 e
      subst e
      have g2 : ar r 21 p0.toNatClampNeg = -2 := by
        by_cases g3 : ar r 21 p0.toNatClampNeg = -2
        · exact g3
        · exact absurd (e1.2.2.2.1 g3) g
      refine hK _ (GI_f hI h1 h2 g2) ?_
      intro x k1 k2 k3
      have := updI (ar r 22) (rh p0) h1 k1
      grind
  · exact (hI.2.2.2.2.1.2 p0 h1 h2).2.2.2.2 g |>.2.1
  · have := hI.2.1
    rw [il, show (0 : Int32).toInt = 0 from rfl] at this
    rw [show (0 : Int32).toInt = 0 from rfl]
    omega
theorem firstOf_ok {a : L_} {r : S_} {rh ta : Int32 → Int32} {N : Int32} (hI : GI a r rh ta N) {p0 : Int32} (h1 : 0 ≤ p0) (h2 : p0 < fi r 11) {K : Int32 → S_ → Prop} (hK0 : ar r 22 p0.toNatClampNeg = -1 → K (-1) r) (hK : ¬ ar r 22 p0.toNatClampNeg = -1 → ∀ f, GI a (sA r 22 f) rh ta N → FS (fi r 11) (ar r 21) (ar r 22) f → K (rh (ar r 22 p0.toNatClampNeg)) (sA r 22 f)) : qG_firstOf a K r p0 := by
  unfold qG_firstOf
  have e3 := hI.2.2.2.1 p0 h1 h2
  have e4 : vp_in p0 (ln a 22) := vi2 h1 h2 (by rw [hI.1.1]; exact hI.2.2.1)
  refine ⟨e4, ?_, ?_⟩
  · intro g
    first | exact hK0 g | exact ⟨e4, settled_ok hI (by grind) (by grind) (hK g)⟩
  · intro g
    first | exact hK0 g | exact ⟨e4, settled_ok hI (by grind) (by grind) (hK g)⟩
theorem secondOf_ok {a : L_} {r : S_} {rh ta : Int32 → Int32} {N : Int32} (hI : GI a r rh ta N) {p0 : Int32} (h1 : 0 ≤ p0) (h2 : p0 < fi r 11) {K : Int32 → S_ → Prop} (hK0 : ar r 23 p0.toNatClampNeg = -1 → K (-1) r) (hK : ¬ ar r 23 p0.toNatClampNeg = -1 → ∀ f, GI a (sA r 22 f) rh ta N → FS (fi r 11) (ar r 21) (ar r 22) f → K (rh (ar r 23 p0.toNatClampNeg)) (sA r 22 f)) : qG_secondOf a K r p0 := by
  unfold qG_secondOf
  have e3 := hI.2.2.2.1 p0 h1 h2
  have e4 : vp_in p0 (ln a 23) := vi2 h1 h2 (by rw [hI.1.2.1]; exact hI.2.2.1)
  refine ⟨e4, ?_, ?_⟩
  · intro g
    first | exact hK0 g | exact ⟨e4, settled_ok hI (by grind) (by grind) (hK g)⟩
  · intro g
    first | exact hK0 g | exact ⟨e4, settled_ok hI (by grind) (by grind) (hK g)⟩
theorem push_ok {a : L_} {r : S_} {p0 : Int32} (h1 : 0 ≤ fi r 14) (h2 : (fi r 14).toInt < ln a 31) (h3 : ln a 31 < 100000) {K : S_ → Prop} (hK : K (sF (sA r 31 (upd (ar r 31) (fi r 14).toNatClampNeg p0)) 14 (fi r 14 + 1))) : qG_push a K r p0 := by
  unfold qG_push
  have e := i_ofn (n := ln a 31) (by omega)
  constructor
  · intro g
    first | (refine ⟨vi h1 h2, ?_⟩; intro r3 e3; subst e3; intro r4 e4; subst e4; exact hK) | (rw [il] at g; omega) | (rw [it] at g; omega)
  · intro g
    first | (refine ⟨vi h1 h2, ?_⟩; intro r3 e3; subst e3; intro r4 e4; subst e4; exact hK) | (rw [il] at g; omega) | (rw [it] at g; omega)
theorem valueOf_ok {a : L_} {r : S_} {rh ta : Int32 → Int32} {N : Int32} (hI : GI a r rh ta N) {p0 : Int32} (h1 : -1 ≤ p0) (h2 : p0 < fi r 11) {K : Int32 → S_ → Prop} (hK0 : p0 = -1 → K (-1) r) (hK : ¬ p0 = -1 → ∀ f, GI a (sA r 22 f) rh ta N → FS (fi r 11) (ar r 21) (ar r 22) f → K (ar r 29 (rh p0).toNatClampNeg) (sA r 22 f)) : qG_valueOf a K r p0 := by
  unfold qG_valueOf
  have e5 : ln a 29 = ln a 21 := hI.1.2.2.2.2.2.2.2.1
  have e6 : ¬ p0 = -1 → qG_settled a (fun z2 r3 => vp_in z2 (ln a 29) ∧ K (ar r3 29 z2.toNatClampNeg) r3) r p0 := by
    intro g
    refine settled_ok hI (by grind) h2 (fun f k1 k2 => ?_)
    have e1 := hI.2.2.2.2.1.2 p0 (by grind) h2
    refine ⟨vi2 e1.1 e1.2.1 (by rw [e5]; exact hI.2.2.1), ?_⟩
    exact hK g f k1 k2
  constructor
  · intro g
    first | exact hK0 g | exact e6 g
  · intro g
    first | exact hK0 g | exact e6 g
end GRAPH
