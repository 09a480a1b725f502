/-! The class tells: sizes, variables, wants. -/
section ZTELLZ
variable {a : L_} {r r0 r' : S_} {rh ta : Int32 → Int32} {N i : Int32} {Nd : Int32 → Nat}
def cap40 (n : Nat) : Int := if 1099511627776 < n then 1099511627776 else n
theorem cap40_b {n : Nat} : 0 ≤ cap40 n ∧ cap40 n ≤ 1099511627776 := by unfold cap40; split <;> omega
def isv (r0 : S_) (k : Nat) : Bool := decide (ar r0 21 (ar r0 30 k).toNatClampNeg = -1)
def sbv (r0 : S_) : Nat → Nat
  | 0 => 0
  | n + 1 => sbv r0 n + (if isv r0 n = true then bn (ar r0 25 (ar r0 30 n).toNatClampNeg) else 0)
theorem cnt_lt_of {p : Nat → Bool} {j : Nat} : ∀ {n : Nat}, j < n → p j = true → cnt p j < cnt p n := by
  intro n
  induction n with
  | zero => intro h; omega
  | succ n ih =>
    intro h hp
    rw [cnt]
    by_cases e : j = n
    · rw [← e, hp, if_pos rfl]
      omega
    · have := ih (by omega) hp
      omega
theorem uL {f : Nat → Int64} {k j : Nat} {v : Int64} : vp_updL f k v j = if j = k then v else f j := rfl
theorem ws_built {K : S_ → Prop} {p0 p1 p2 : Int32} {m1 m2 : Nat} (hl : ¬ Int32.ofNat (ln a 32) ≤ fi r 16) (s1 : ¬ p1 = -1 → (la r 0 p1.toNatClampNeg).toInt = cap40 m1) (z1 : p1 = -1 → m1 = 0) (s2 : ¬ p2 = -1 → (la r 0 p2.toNatClampNeg).toInt = cap40 m2) (z2 : p2 = -1 → m2 = 0) (hK : ∀ v : Int64, v.toInt = cap40 (1 + m1 + m2) → K (sF (sL (sA (sA (sA r 32 (upd (ar r 32) (fi r 16).toNatClampNeg p0)) 33 (upd (ar r 33) (fi r 16).toNatClampNeg p1)) 34 (upd (ar r 34) (fi r 16).toNatClampNeg p2)) 0 (vp_updL (la r 0) (fi r 16).toNatClampNeg v)) 16 (fi r 16 + 1))) : wD_addBuilt a K r p0 p1 p2 := by
  unfold wD_addBuilt
  refine ⟨fun g => absurd g hl, fun _ _ r3 e3 _ r5 e5 _ r7 e7 => ?_⟩
  have e7' : r7 = sA (sA (sA r 32 (upd (ar r 32) (fi r 16).toNatClampNeg p0)) 33 (upd (ar r 33) (fi r 16).toNatClampNeg p1)) 34 (upd (ar r 34) (fi r 16).toNatClampNeg p2) := by rw [e7, e5, e3]; rfl
  have el : la r7 0 = la r 0 := by rw [e7']; rfl
  have e16 : fi r7 16 = fi r 16 := by rw [e7']; rfl
  have fin : ∀ x y : Int64, x.toInt = cap40 m1 → y.toInt = cap40 m2 → ∀ r11 : S_, r11 = sL r7 0 (vp_updL (la r7 0) (fi r7 16).toNatClampNeg (if 1099511627776 < ((1 + x) + y) then 1099511627776 else ((1 + x) + y))) → ∀ r12 : S_, r12 = sF r11 16 (fi r11 16 + 1) → K r12 := fun x y hx hy r11 e11 r12 e12 => by
    have b1 := cap40_b (n := m1)
    have b2 := cap40_b (n := m2)
    have o1 : (1 : Int64).toInt = 1 := rfl
    have a1 : (1 + x).toInt = 1 + x.toInt := l_add (by rw [o1]; omega) (by rw [o1]; omega)
    have a2 : ((1 + x) + y).toInt = 1 + x.toInt + y.toInt := by rw [l_add (by rw [a1]; omega) (by rw [a1]; omega), a1]
    have big : (1099511627776 : Int64).toInt = 1099511627776 := rfl
    have hv : (if 1099511627776 < ((1 + x) + y) then (1099511627776 : Int64) else ((1 + x) + y)).toInt = cap40 (1 + m1 + m2) := by
      rw [apply_ite Int64.toInt]
      simp only [l_lt, a2, big, hx, hy]
      unfold cap40
      split <;> split <;> split <;> (try split) <;> omega
    have := hK _ hv
    rw [e12, e11, el, e16, e7']
    exact this
  unfold wD_sizeOf
  refine ⟨fun q1 _ => ⟨fun q2 _ _ => fin _ _ (by rw [el]; exact s1 q1) (by rw [el]; exact s2 q2), fun q2 _ => fin _ _ (by rw [el]; exact s1 q1) (by rw [z2 q2]; rfl)⟩, fun q1 => ⟨fun q2 _ _ => fin _ _ (by rw [z1 q1]; rfl) (by rw [el]; exact s2 q2), fun q2 _ => fin _ _ (by rw [z1 q1]; rfl) (by rw [z2 q2]; rfl)⟩⟩
/-- each round of telling -/
def TLI (r0 : S_) (a : L_) (r : S_) (rh ta : Int32 → Int32) (N : Int32) (Nd : Int32 → Nat) (i : Int32) : Prop := GI a r rh ta N ∧ (fi r 12 = fi r0 12 ∧ fi r 11 = fi r0 11 ∧ fi r 16 = i) ∧ (ar r 30 = ar r0 30 ∧ ar r 21 = ar r0 21 ∧ ar r 23 = ar r0 23 ∧ ar r 25 = ar r0 25) ∧ FS (fi r0 11) (ar r0 21) (ar r0 22) (ar r 22) ∧ (∀ j, j < i.toNatClampNeg → ar r 29 (ar r0 30 j).toNatClampNeg = Int32.ofNat j ∧ (la r 0 j).toInt = cap40 (Nd (ar r0 30 j))) ∧ (fi r 17 = Int32.ofNat (cnt (isv r0) i.toNatClampNeg) ∧ (∀ j, j < i.toNatClampNeg → isv r0 j = true → ar r 35 (cnt (isv r0) j) = ar r0 25 (ar r0 30 j).toNatClampNeg) ∧ fi r 18 = Int32.ofNat (sbv r0 i.toNatClampNeg))
theorem TLI_val {p : Int32} (i0 : 0 ≤ i) (i2 : i < 20000) (h : TLI r0 a r rh ta N Nd i) (p1 : -1 ≤ p) (p2 : p < fi r0 11) (hj : ¬ p = -1 → ∃ j : Int32, 0 ≤ j ∧ j < i ∧ ar r0 30 j.toNatClampNeg = rh p) {K : Int32 → S_ → Prop} (hK : ∀ z r', TLI r0 a r' rh ta N Nd i → la r' 0 = la r 0 → (p = -1 → z = -1) → (¬ p = -1 → ¬ z = -1 ∧ (la r 0 z.toNatClampNeg).toInt = cap40 (Nd (rh p))) → K z r') : wG_valueOf a K r p := by
  have h' := h
  obtain ⟨g, ⟨f12, f11, f16⟩, ⟨a30, a21, a23, a25⟩, fs, hv, hw⟩ := h
  refine ws_valueOf g p1 (by rw [f11]; exact p2) (fun q => hK _ r h' rfl (fun _ => rfl) (fun z => absurd q z)) (fun q f g2 fs2 => ?_)
  obtain ⟨j, j0, j1, je⟩ := hj q
  have n1 := i_nat j0
  have n2 := i_nat i0
  have ji := j1
  rw [it] at ji i2
  simp at i2
  have v := hv j.toNatClampNeg (by omega)
  have e : ar r 29 (rh p).toNatClampNeg = Int32.ofNat j.toNatClampNeg := by rw [← je]; exact v.1
  have nb := ofNs (n := j.toNatClampNeg) (by omega)
  refine hK _ _ ⟨g2, ⟨f12, f11, f16⟩, ⟨a30, a21, a23, a25⟩, fun x x0 x1 nm => ?_, hv, hw⟩ rfl (fun z => absurd z q) (fun _ => ⟨fun z => ?_, ?_⟩)
  · have k := fs2 x x0 (by rw [f11]; exact x1) (by rw [a21]; exact nm)
    exact k.trans (fs x x0 x1 nm)
  · rw [e] at z
    have := nb.2.1
    rw [z] at this
    exact absurd this (by decide)
  · rw [e, nb.2.2, ← je]
    exact v.2
theorem ws_tellL {KX : L_ → S_ → Prop} (hI0 : GI a r0 rh ta N) (o : ORD r0 rh) (ob : fi r0 12 < 20000) (l32 : (fi r0 12).toInt ≤ ln a 32) (l35 : ln a 35 = ln a 32) (lb : ln a 32 ≤ 8192) (bk : ∀ k : Int32, 0 ≤ k → k < fi r0 12 → ∀ c, gb (ar r0 25 (ar r0 30 k.toNatClampNeg).toNatClampNeg) c = true → c < 8) (hNd : ∀ k : Int32, 0 ≤ k → k < fi r0 12 → (ar r0 21 (ar r0 30 k.toNatClampNeg).toNatClampNeg = -1 → Nd (ar r0 30 k.toNatClampNeg) = 1) ∧ (¬ ar r0 21 (ar r0 30 k.toNatClampNeg).toNatClampNeg = -1 → Nd (ar r0 30 k.toNatClampNeg) = 1 + (if ar r0 22 (ar r0 30 k.toNatClampNeg).toNatClampNeg = -1 then 0 else Nd (rh (ar r0 22 (ar r0 30 k.toNatClampNeg).toNatClampNeg))) + (if ar r0 23 (ar r0 30 k.toNatClampNeg).toNatClampNeg = -1 then 0 else Nd (rh (ar r0 23 (ar r0 30 k.toNatClampNeg).toNatClampNeg))))) (hK : ∀ r, TLI r0 a r rh ta N Nd (fi r0 12) → KX a r) : ∀ (n : Nat) (r : S_) (i : Int32), TLI r0 a r rh ta N Nd i → 0 ≤ i → i ≤ fi r0 12 → wY_tell_L35 KX n a r i := by
  intro n
  induction n with
  | zero => intro r i _ _ _; trivial
  | succ n ih =>
    intro r i h i0 i1
    have h' := h
    obtain ⟨g, ⟨f12, f11, f16⟩, ⟨a30, a21, a23, a25⟩, fs, hv, h17, h35, h18⟩ := h
    rw [wY_tell_L35, f12]
    refine ⟨fun q => ?_, fun q _ => ?_⟩
    · have e : i = fi r0 12 := by
        rw [il] at i1 q
        rw [ie]
        omega
      rw [e] at h'
      exact hK r h'
    have q' := Int32.not_le.mp q
    have st := o.2.2 i i0 q'
    have nd := hNd i i0 q'
    obtain ⟨c0, c1, c2⟩ := inc_le i0 q'
    have n1 := i_nat i0
    have n2 := i_nat c0
    have ii : (i + 1).toInt = i.toInt + 1 := i_inc q'
    have sn : (i + 1).toNatClampNeg = i.toNatClampNeg + 1 := by omega
    have iq := q'
    have ob' := ob
    rw [it] at iq ob'
    simp at ob'
    have ei : i = Int32.ofNat i.toNatClampNeg := by
      rw [ie, (ofNs (n := i.toNatClampNeg) (by omega)).1]
      omega
    have o32 := ofNs (n := ln a 32) (by omega)
    have gr : ¬ Int32.ofNat (ln a 32) ≤ fi r 16 := by
      rw [f16, il, o32.1]
      omega
    have dj : ∀ j, j < i.toNatClampNeg → ¬ (ar r0 30 j).toNatClampNeg = (ar r0 30 i.toNatClampNeg).toNatClampNeg := fun j hj e => by
      have b := ofNs (n := j) (by omega)
      have jl : Int32.ofNat j < i := by rw [it, b.1]; omega
      have s2 := o.2.2 (Int32.ofNat j) b.2.1 (ltt jl q')
      rw [b.2.2] at s2
      have e2 : ar r0 30 j = ar r0 30 i.toNatClampNeg := by
        rw [ie]
        have x1 := i_nat s2.1.1
        have x2 := i_nat st.1.1
        omega
      exact o.2.1 (Int32.ofNat j) i b.2.1 jl q' (by rw [b.2.2]; exact e2)
    unfold wG_isVariable
    rw [a30, a21]
    -- the round's end
    have nxt : ∀ r20 : S_, GI a r20 rh ta N → (fi r20 12 = fi r0 12 ∧ fi r20 11 = fi r0 11 ∧ fi r20 16 = i + 1) → (ar r20 30 = ar r0 30 ∧ ar r20 21 = ar r0 21 ∧ ar r20 23 = ar r0 23 ∧ ar r20 25 = ar r0 25) → FS (fi r0 11) (ar r0 21) (ar r0 22) (ar r20 22) → (∀ j, j < i.toNatClampNeg → ar r20 29 (ar r0 30 j).toNatClampNeg = Int32.ofNat j ∧ (la r20 0 j).toInt = cap40 (Nd (ar r0 30 j))) → (la r20 0 i.toNatClampNeg).toInt = cap40 (Nd (ar r0 30 i.toNatClampNeg)) → (fi r20 17 = Int32.ofNat (cnt (isv r0) (i.toNatClampNeg + 1)) ∧ (∀ j, j < i.toNatClampNeg + 1 → isv r0 j = true → ar r20 35 (cnt (isv r0) j) = ar r0 25 (ar r0 30 j).toNatClampNeg) ∧ fi r20 18 = Int32.ofNat (sbv r0 (i.toNatClampNeg + 1))) → wY_tell_J136 (wY_tell_L35 KX n) KX a r20 i (ar r0 30 i.toNatClampNeg) := fun r20 g1 g2 g3 g4 g5 g6 g7 => by
      unfold wY_tell_J136
      intro _ r22 e22
      refine ih r22 (i + 1) ?_ c0 c1
      rw [e22]
      refine ⟨g1, g2, g3, g4, fun j hj => ?_, by rw [sn]; exact g7⟩
      rw [sn] at hj
      show upd (ar r20 29) (ar r0 30 i.toNatClampNeg).toNatClampNeg i (ar r0 30 j).toNatClampNeg = _ ∧ (la r20 0 j).toInt = _
      by_cases e : j = i.toNatClampNeg
      · rw [e, pk_us]
        exact ⟨ei, g6⟩
      · rw [pk_un (dj j (by omega))]
        exact g5 j (by omega)
    intro _
    refine ⟨fun hd _ _ => ⟨fun _ _ => ?_, fun z => absurd rfl z⟩, fun hd _ _ => ⟨fun z => absurd z (by decide), fun _ _ => ?_⟩⟩
    · have nk := hI0.2.2.2.1 _ st.1.1 st.1.2.1
      have e22 : ar r 22 (ar r0 30 i.toNatClampNeg).toNatClampNeg = ar r0 22 (ar r0 30 i.toNatClampNeg).toNatClampNeg := fs _ st.1.1 st.1.2.1 st.1.2.2
      have nv : isv r0 i.toNatClampNeg = false := by unfold isv; exact decide_eq_false hd
      rw [e22]
      refine TLI_val i0 (ltt q' ob) h' nk.2.2.1 nk.2.2.2.1 st.2.1 (fun z14 r15 t15 l15 y1 y2 _ => ?_)
      rw [t15.2.2.1.2.2.1]
      refine TLI_val i0 (ltt q' ob) t15 nk.2.2.2.2.1 nk.2.2.2.2.2.1 st.2.2 (fun z17 r18 t18 l18 x1 x2 _ => ?_)
      have e18 : la r18 0 = la r 0 := l18.trans l15
      obtain ⟨k1, ⟨k12, k11, k16⟩, k3, k4, k5, k17, k35, k18⟩ := t18
      refine ws_built (m1 := if ar r0 22 (ar r0 30 i.toNatClampNeg).toNatClampNeg = -1 then 0 else Nd (rh (ar r0 22 (ar r0 30 i.toNatClampNeg).toNatClampNeg))) (m2 := if ar r0 23 (ar r0 30 i.toNatClampNeg).toNatClampNeg = -1 then 0 else Nd (rh (ar r0 23 (ar r0 30 i.toNatClampNeg).toNatClampNeg))) (by rw [k16, ← f16]; exact gr) (fun u => ?_) (fun u => ?_) (fun u => ?_) (fun u => ?_) (fun v hv2 => ?_)
      · have nn : ¬ ar r0 22 (ar r0 30 i.toNatClampNeg).toNatClampNeg = -1 := fun w => u (y1 w)
        rw [if_neg nn, e18]
        exact (y2 nn).2
      · by_cases w : ar r0 22 (ar r0 30 i.toNatClampNeg).toNatClampNeg = -1
        · rw [if_pos w]
        · exact absurd u (y2 w).1
      · have nn : ¬ ar r0 23 (ar r0 30 i.toNatClampNeg).toNatClampNeg = -1 := fun w => u (x1 w)
        rw [if_neg nn, l18]
        exact (x2 nn).2
      · by_cases w : ar r0 23 (ar r0 30 i.toNatClampNeg).toNatClampNeg = -1
        · rw [if_pos w]
        · exact absurd u (x2 w).1
      · refine nxt _ k1 ⟨k12, k11, by show fi r18 16 + 1 = i + 1; rw [k16]⟩ k3 k4 (fun j hj => ⟨(k5 j hj).1, ?_⟩) ?_ ⟨?_, fun j hj hi => ?_, ?_⟩
        · show (vp_updL (la r18 0) (fi r18 16).toNatClampNeg v j).toInt = _
          rw [uL, if_neg (by rw [k16]; omega)]
          exact (k5 j hj).2
        · show (vp_updL (la r18 0) (fi r18 16).toNatClampNeg v i.toNatClampNeg).toInt = _
          rw [uL, if_pos (by rw [k16]), nd.2 hd]
          exact hv2
        · show fi r18 17 = _
          rw [k17, cnt, nv, if_neg (by decide)]
          rfl
        · by_cases e : j = i.toNatClampNeg
          · rw [e, nv] at hi
            exact absurd hi (by decide)
          · exact k35 j (by omega) hi
        · show fi r18 18 = _
          rw [k18, sbv, nv, if_neg (by decide)]
          rfl
    · have yv : isv r0 i.toNatClampNeg = true := by unfold isv; exact decide_eq_true hd
      have cl := cnt_le (isv r0) i.toNatClampNeg
      have c17 := ofNs (n := cnt (isv r0) i.toNatClampNeg) (by omega)
      unfold wD_addVariable
      rw [a25]
      refine ⟨fun w => ?_, fun _ _ r3 e3 r4 e4 => ?_⟩
      · rw [l35, h17, il, o32.1, c17.1] at w
        omega
      refine ws_bc (fun c c32 c8 => ?_) (fun r6 e6 => ?_)
      · by_cases w : gb (ar r0 25 (ar r0 30 i.toNatClampNeg).toNatClampNeg) c = true
        · have := bk i i0 q' c w
          omega
        · exact Bool.eq_false_iff.mpr w
      have e6' : r6 = sF (sF (sA r 35 (upd (ar r 35) (fi r 17).toNatClampNeg (ar r0 25 (ar r0 30 i.toNatClampNeg).toNatClampNeg))) 17 (fi r 17 + 1)) 18 (fi r 18 + Int32.ofNat (bn (ar r0 25 (ar r0 30 i.toNatClampNeg).toNatClampNeg))) := by rw [e6, e4, e3]; rfl
      have g16 : fi r6 16 = i := by rw [e6']; exact f16
      refine ws_built (m1 := 0) (m2 := 0) (by rw [g16, ← f16]; exact gr) (fun u => absurd rfl u) (fun _ => rfl) (fun u => absurd rfl u) (fun _ => rfl) (fun v hv2 => ?_)
      have el : la r6 0 = la r 0 := by rw [e6']; rfl
      refine nxt _ (by rw [e6']; exact g) ⟨by rw [e6']; exact f12, by rw [e6']; exact f11, by show fi r6 16 + 1 = i + 1; rw [g16]⟩ (by rw [e6']; exact ⟨a30, a21, a23, a25⟩) (by rw [e6']; exact fs) (fun j hj => ⟨by rw [e6']; exact (hv j hj).1, ?_⟩) ?_ ⟨?_, fun j hj hi => ?_, ?_⟩
      · show (vp_updL (la r6 0) (fi r6 16).toNatClampNeg v j).toInt = _
        rw [uL, if_neg (by rw [g16]; omega), el]
        exact (hv j hj).2
      · show (vp_updL (la r6 0) (fi r6 16).toNatClampNeg v i.toNatClampNeg).toInt = _
        rw [uL, if_pos (by rw [g16]), nd.1 hd]
        exact hv2
      · show fi r6 17 = _
        have e : fi r6 17 = fi r 17 + 1 := by rw [e6']; rfl
        have c18 := ofNs (n := cnt (isv r0) i.toNatClampNeg + 1) (by omega)
        rw [e, h17, cnt, yv, if_pos rfl, ie, c18.1, i_add (by rw [c17.1]; simp; omega) (by rw [c17.1]; simp; omega), c17.1]
        rfl
      · show ar r6 35 _ = _
        have e : ar r6 35 = upd (ar r 35) (cnt (isv r0) i.toNatClampNeg) (ar r0 25 (ar r0 30 i.toNatClampNeg).toNatClampNeg) := by
          rw [e6']
          show upd (ar r 35) (fi r 17).toNatClampNeg _ = _
          rw [h17, c17.2.2]
        rw [e]
        by_cases ee : j = i.toNatClampNeg
        · rw [ee, pk_us]
        · have lt : cnt (isv r0) j < cnt (isv r0) i.toNatClampNeg := cnt_lt_of (by omega) hi
          rw [pk_un (by omega)]
          exact h35 j (by omega) hi
      · show fi r6 18 = _
        have e : fi r6 18 = fi r 18 + Int32.ofNat (bn (ar r0 25 (ar r0 30 i.toNatClampNeg).toNatClampNeg)) := by rw [e6']; rfl
        rw [e, h18, sbv, yv, if_pos rfl, Int32.ofNat_add]
end ZTELLZ
