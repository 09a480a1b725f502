/-! The reference: copying, the loops. -/
section COPY2
variable {a : L_} {r : S_} {rh ta : Int32 → Int32} {N : Int32}
theorem cop_L101 {r0 : S_} {U : List Int32} {G2 Gc : Int32 → Prop} {t ard z v1 : Int32} (w : MI a r0 rh ta N) (cg : CGr r0 rh) (lu : LU r0 G2 Gc t U) (k1 : ∀ x, G2 x → ar r0 68 (rh x).toNatClampNeg = ard) (k2 : ∀ x, vt r0 x → ar r0 68 x.toNatClampNeg = ard → (0 ≤ ar r0 66 x.toNatClampNeg → ar r0 68 (rh (ar r0 66 x.toNatClampNeg)).toNatClampNeg = ard) ∧ (0 ≤ ar r0 67 x.toNatClampNeg → ar r0 68 (rh (ar r0 67 x.toNatClampNeg)).toNatClampNeg = ard)) (hz : vt r0 z) (m0 : ¬ fi r0 29 = 0) (h28 : (fi r0 28).toInt ≤ 20000) (hl : U.length ≤ 2000) {KX : S_ → Int32 → Int32 → Prop} (hK : ∀ (r : S_) (v x : Int32), CJ r0 r rh U G2 ard z v x False False 0 → v.toInt = 0 → KX r v1 z) : ∀ (n : Nat) (r : S_) (v x : Int32), CJ r0 r rh U G2 ard z v x False False 0 → 2 * ((U.length : Int) - (fi r 30).toInt) + v.toInt < n → qM_copyOf_L101 a KX n r v1 ard z v := by
  intro n
  induction n with
  | zero =>
    intro r v x h hn
    have hlen := CJ_len h
    have := h.2.2.2.2.2.2.2.2.2.1
    omega
  | succ n ih =>
    intro r v x0 h hn
    have hlen := CJ_len h
    have h' := h
    obtain ⟨h1, h2, ⟨h30, h3⟩, h4, h5, h6, h7, h8, h9, h10⟩ := h
    rw [qM_copyOf_L101]
    refine ⟨fun g => hK r v x0 h' ?_, fun g => ?_⟩
    · rw [il] at g
      simp at g
      omega
    have hv : 0 < v.toInt := by
      have g3 : 0 < v := Int32.not_le.mp g
      rw [it] at g3
      simpa using g3
    have hd : (v + -1).toInt = v.toInt - 1 := by
      rw [i_add (by simp; omega) (by simp; omega)]
      simp
      omega
    have d0 : 0 ≤ v + -1 := by rw [il, hd]; simp; omega
    have v0 : 0 ≤ v := by rw [il]; simp; omega
    have dn : (v + -1).toNatClampNeg < v.toNatClampNeg := by
      have e1 := i_nat d0
      have e2 := i_nat v0
      omega
    have wk := h7 _ dn
    obtain ⟨x, ex⟩ : ∃ x, x = rh (ar r 72 (v + -1).toNatClampNeg) := ⟨_, rfl⟩
    have b := w.2.2.2.2.1.2 _ wk.1.1 wk.1.2
    rw [← ex] at b
    have hx : vt r0 x := b.1
    have rx := b.2.1
    have e29 : fi r 29 = fi r0 29 := h1.1 29 (by decide)
    have l72 : ln a 72 = 200000 := ml w.1 (by decide) (by decide) rfl
    have t40 : ∀ k, 36 ≤ k → k < 89 → ln0 k = 40000 → vp_in x (ln a k) := fun k k1 k2 k3 => tin w hx.1 hx.2 k1 k2 k3
    refine ⟨vi d0 (by rw [l72]; omega), find_ok2 w (fun y y1 y2 => h2 y ⟨y1, y2⟩ 64 (by decide) (by decide) (by decide) (by decide)) wk.1.1 wk.1.2 ?_⟩
    rw [← ex, e29]
    unfold qM_copyOf_J253
    have ok : okm r0 r ard (rh (ar r 72 (v + -1).toNatClampNeg)) → qM_copyOf_L101 a KX n r v1 ard z (v + -1) := fun o => ih r _ x0 (CJ_pop h' hv hd o) (by omega)
    refine ⟨t40 68 (by decide) (by decide) rfl, fun gm => ok (Or.inl (by rw [← ex]; exact gm)), fun gm => ⟨t40 68 (by decide) (by decide) rfl, fun ga => ok (Or.inr (by rw [← ex]; exact ga)), fun ga => ⟨t40 68 (by decide) (by decide) rfl, fun r25 e25 => ?_⟩⟩⟩
    have xU : x ∈ U := by
      have k := LU_root w cg lu (RR := fun y => ar r0 68 y.toNatClampNeg = ard) k1 k2 wk.1 wk.2
      rw [← ex] at k
      rcases k with k | k
      · exact k
      · rcases h5 x hx with y | y
        · rw [← y] at k
          exact absurd k ga
        · exact absurd y.1 gm
    subst e25
    have z30 := h30
    rw [il] at z30
    simp at z30
    have l1 : (fi r 30).toInt < 40000 := by omega
    refine ⟨vi h30 (by rw [ml (n := 40000) w.1 (by decide) (by decide) rfl]; exact l1), fun r27 e27 => ?_⟩
    subst e27
    intro r28 e28
    have e28' : r28 = sF (sA (sA r 68 (upd (ar r 68) x.toNatClampNeg (fi r0 29))) 73 (upd (ar r 73) (fi r 30).toNatClampNeg x)) 30 (fi r 30 + 1) := e28
    clear e28
    subst e28'
    have c0 := w.2.2.1.1
    rw [il] at c0
    simp at c0
    have hd65 : ar (sF (sA (sA r 68 (upd (ar r 68) x.toNatClampNeg (fi r0 29))) 73 (upd (ar r 73) (fi r 30).toNatClampNeg x)) 30 (fi r 30 + 1)) 65 x.toNatClampNeg = ar r0 65 x.toNatClampNeg := h2 x hx 65 (by decide) (by decide) (by decide) (by decide)
    refine ⟨t40 65 (by decide) (by decide) rfl, ?_⟩
    rw [hd65]
    refine newTerm_ok w.1 (by show 0 ≤ fi r 28; rw [il, h3]; simp; omega) (by show (fi r 28).toInt < 40000; rw [h3]; omega) (fun r31 hN => ⟨t40 69 (by decide) (by decide) rfl, fun r33 e33 => ?_⟩)
    have V := CJ_visit w h' hv hd ex.symm hx rx hz xU gm m0 h28 hl hN
    have e33' : r33 = sA r31 69 (upd (ar r31 69) x.toNatClampNeg (fi r 28)) := e33
    rw [← e33'] at V
    have f30 : (fi r33 30).toInt = (fi r 30).toInt + 1 := by
      have e : fi r33 30 = fi r 30 + 1 := by
        rw [e33']
        exact hN.2.1.1 30 (by decide)
      rw [e]
      exact i_add (by simp; omega) (by simp; omega)
    have a66 : ar r33 66 x.toNatClampNeg = ar r0 66 x.toNatClampNeg := V.2.1 x hx 66 (by decide) (by decide) (by decide) (by decide)
    have vn := (MI_VN w x hx).2
    have lux := lu.2.1 x xU
    have j226 : ∀ (r2 : S_) (v2 : Int32), CJ r0 r2 rh U G2 ard z v2 x False True 1 → fi r2 30 = fi r33 30 → v2.toInt ≤ v.toInt → qM_copyOf_J226 a (qM_copyOf_L101 a KX n) KX r2 v1 ard z v2 x := fun r2 v2 V2 e2 hv2 => by
      unfold qM_copyOf_J226 qM_copyOf_J253
      have a67 : ar r2 67 x.toNatClampNeg = ar r0 67 x.toNatClampNeg := V2.2.1 x hx 67 (by decide) (by decide) (by decide) (by decide)
      rw [a67]
      refine ⟨t40 67 (by decide) (by decide) rfl, fun g => ih r2 v2 x (CJ_skipR (d := 0) V2 (Int32.not_le.mpr g)) (by rw [e2]; omega), fun g => ⟨t40 67 (by decide) (by decide) rfl, ?_⟩⟩
      have g' := Int32.not_lt.mp g
      obtain ⟨P1, P2, P3⟩ := CJ_pushR (a := a) (d := 0) V2 (by omega) g' (vn.2 g') (lux.2.2.2 g') hl w.1
      refine ⟨P2, fun r40 e40 => ?_⟩
      rw [e40]
      exact ih _ _ x P1 (by show 2 * ((U.length : Int) - (fi r2 30).toInt) + (v2 + 1).toInt < n; rw [e2, P3]; omega)
    rw [a66]
    refine ⟨t40 66 (by decide) (by decide) rfl, fun g => j226 r33 _ (CJ_skipL (d := 1) V (Int32.not_le.mpr g)) rfl (by omega), fun g => ⟨t40 66 (by decide) (by decide) rfl, ?_⟩⟩
    have g' := Int32.not_lt.mp g
    obtain ⟨P1, P2, P3⟩ := CJ_pushL (a := a) (d := 1) V (by omega) g' (vn.1 g') (lux.2.2.1 g') hl w.1
    refine ⟨P2, fun r43 e43 => ?_⟩
    rw [e43]
    exact j226 _ _ P1 rfl (by rw [P3]; omega)
/-- parts of copies -/
def CL (r1 r : S_) (rh : Int32 → Int32) (T : Int32) (v : Nat) : Prop := Fr [] [66, 67] r1 r ∧ (∀ y : Int32, 0 ≤ y → y < T → ar r 66 y.toNatClampNeg = ar r1 66 y.toNatClampNeg ∧ ar r 67 y.toNatClampNeg = ar r1 67 y.toNatClampNeg) ∧ ∀ i, i < (fi r1 30).toNatClampNeg → (i < v → ar r 66 (ar r1 69 (ar r1 73 i).toNatClampNeg).toNatClampNeg = cpd r1 rh (ar r1 66 (ar r1 73 i).toNatClampNeg) ∧ ar r 67 (ar r1 69 (ar r1 73 i).toNatClampNeg).toNatClampNeg = cpd r1 rh (ar r1 67 (ar r1 73 i).toNatClampNeg))
theorem cop_L259 {r0 r1 : S_} {U : List Int32} {G2 : Int32 → Prop} {ard z vv x v1 v3 : Int32} (w : MI a r0 rh ta N) (h : CJ r0 r1 rh U G2 ard z vv x False False 0) (h28 : (fi r0 28).toInt ≤ 20000) (hl : U.length ≤ 2000) {KX : S_ → Int32 → Int32 → Prop} (hK : ∀ r, CL r1 r rh (fi r0 28) (fi r1 30).toNatClampNeg → KX r v1 v3) : ∀ (n : Nat) (r : S_) (v5 : Int32), CL r1 r rh (fi r0 28) v5.toNatClampNeg → 0 ≤ v5 → v5 ≤ fi r1 30 → (fi r1 30).toInt - v5.toInt < n → qM_copyOf_L259 a KX n r v1 v3 v5 := by
  have hlen := CJ_len h
  obtain ⟨h1, h2, ⟨h30, h3⟩, h4, h5, h6, h7, h8, h9, h10⟩ := h
  have c0 := w.2.2.1.1
  rw [il] at c0
  simp at c0
  intro n
  induction n with
  | zero =>
    intro r v5 _ _ q1 q
    rw [il] at q1
    omega
  | succ n ih =>
    intro r v5 hc q0 q1 q
    obtain ⟨F, g1, g2⟩ := hc
    have e30 : fi r 30 = fi r1 30 := F.1 30 List.not_mem_nil
    have e29 : fi r 29 = fi r1 29 := F.1 29 List.not_mem_nil
    have aE : ∀ k, ¬ k = 66 → ¬ k = 67 → ar r k = ar r1 k := fun k k1 k2 => F.2.1 k (by simp [k1, k2])
    rw [qM_copyOf_L259, e30, aE 73 (by decide) (by decide), aE 69 (by decide) (by decide)]
    refine ⟨fun g => hK r ⟨F, g1, ?_⟩, fun g => ?_⟩
    · have e : v5 = fi r1 30 := by
        rw [il] at g q1
        rw [ie]
        omega
      rw [e] at g2
      exact g2
    · have g' := Int32.not_le.mp g
      obtain ⟨p1, p2, p3⟩ := inc_le q0 g'
      have vn := nl q0 g'
      have sv : (v5 + 1).toNatClampNeg = v5.toNatClampNeg + 1 := by
        have e1 := i_nat q0
        have e2 := i_nat p1
        omega
      obtain ⟨y, ey⟩ : ∃ y, y = ar r1 73 v5.toNatClampNeg := ⟨_, rfl⟩
      have ky := h4 _ vn
      rw [← ey] at ky ⊢
      obtain ⟨c, ec⟩ : ∃ c, c = ar r1 69 y.toNatClampNeg := ⟨_, rfl⟩
      have hci : c.toInt = (fi r0 28).toInt + v5.toNatClampNeg := by rw [ec]; exact ky.2.2.2.2.1
      rw [← ec]
      have n5 := i_nat q0
      have gt := g'
      rw [it] at gt
      have c00 : 0 ≤ c := by rw [il, hci]; simp; omega
      have cl4 : c.toInt < 40000 := by omega
      have cT : ∀ y : Int32, 0 ≤ y → y < fi r0 28 → ¬ y = c := fun y _ y2 e => by
        rw [e, it, hci] at y2
        omega
      have t40 : ∀ k, 36 ≤ k → k < 89 → ln0 k = 40000 → vp_in y (ln a k) := fun k k1 k2 k3 => tin w ky.1.1 ky.1.2 k1 k2 k3
      have i30 : vp_in v5 (ln a 73) := vi2 q0 g' (by rw [ml (n := 40000) w.1 (by decide) (by decide) rfl]; omega)
      have o66 : ar r 66 y.toNatClampNeg = ar r0 66 y.toNatClampNeg := ((g1 y ky.1.1 ky.1.2).1).trans (h2 y ky.1 66 (by decide) (by decide) (by decide) (by decide))
      have o67 : ar r 67 y.toNatClampNeg = ar r0 67 y.toNatClampNeg := ((g1 y ky.1.1 ky.1.2).2).trans (h2 y ky.1 67 (by decide) (by decide) (by decide) (by decide))
      have o66' : ar r1 66 y.toNatClampNeg = ar r0 66 y.toNatClampNeg := h2 y ky.1 66 (by decide) (by decide) (by decide) (by decide)
      have o67' : ar r1 67 y.toNatClampNeg = ar r0 67 y.toNatClampNeg := h2 y ky.1 67 (by decide) (by decide) (by decide) (by decide)
      have nb := w.2.2.2.1 y ky.1.1 ky.1.2
      have s64 : ∀ (r2 : S_), ar r2 64 = ar r1 64 → ∀ y : Int32, 0 ≤ y → y < fi r0 28 → ar r2 64 y.toNatClampNeg = ar r0 64 y.toNatClampNeg := fun r2 e y y1 y2 => by rw [e]; exact h2 y ⟨y1, y2⟩ 64 (by decide) (by decide) (by decide) (by decide)
      have ce : ∀ (r2 : S_) (t : Int32), ar r2 68 = ar r1 68 → ar r2 69 = ar r1 69 → fi r2 29 = fi r1 29 → cpd r2 rh t = cpd r1 rh t := fun r2 t e1 e2 e3 => by unfold cpd; rw [e1, e2, e3]
      refine ⟨i30, t40 69 (by decide) (by decide) rfl, t40 66 (by decide) (by decide) rfl, ?_⟩
      rw [o66]
      refine copied_ok w (s64 r (aE 64 (by decide) (by decide))) nb.2.2.1.2 ⟨vi c00 (by rw [ml (n := 40000) w.1 (by decide) (by decide) rfl]; exact cl4), fun r50 e50 => ?_⟩
      rw [ce r _ (aE 68 (by decide) (by decide)) (aE 69 (by decide) (by decide)) e29] at e50
      have b50 : ∀ k, ¬ k = 66 → ar r50 k = ar r k := fun k hk => by rw [e50, ar_sA, if_neg hk]
      have f50 : fi r50 29 = fi r1 29 := by rw [e50]; exact e29
      have o50 : ar r50 67 y.toNatClampNeg = ar r0 67 y.toNatClampNeg := by rw [b50 67 (by decide)]; exact o67
      have a50 : ar r50 69 = ar r1 69 := (b50 69 (by decide)).trans (aE 69 (by decide) (by decide))
      rw [o50, a50, ← ec]
      refine ⟨t40 69 (by decide) (by decide) rfl, t40 67 (by decide) (by decide) rfl, copied_ok w (s64 r50 ((b50 64 (by decide)).trans (aE 64 (by decide) (by decide)))) nb.2.2.2.1.2 ⟨vi c00 (by rw [ml (n := 40000) w.1 (by decide) (by decide) rfl]; exact cl4), fun r55 e55 => ?_⟩⟩
      rw [ce r50 _ ((b50 68 (by decide)).trans (aE 68 (by decide) (by decide))) a50 f50] at e55
      have a55_66 : ar r55 66 = upd (ar r 66) c.toNatClampNeg (cpd r1 rh (ar r0 66 y.toNatClampNeg)) := by rw [e55, e50]; rfl
      have a55_67 : ar r55 67 = upd (ar r 67) c.toNatClampNeg (cpd r1 rh (ar r0 67 y.toNatClampNeg)) := by rw [e55, e50]; rfl
      refine ih r55 _ ⟨?_, fun u u1 u2 => ?_, fun i hi hlt => ?_⟩ p1 p2 (by omega)
      · rw [e55, e50]
        exact Fr_trans F (Fr_trans (Fr_sA (by decide)) (Fr_sA (by decide)))
      · rw [a55_66, a55_67, updI _ _ c00 u1, updI _ _ c00 u1, if_neg (cT u u1 u2), if_neg (cT u u1 u2)]
        exact g1 u u1 u2
      · have ki := (h4 i hi).2.2.2.2.1
        have ki0 : 0 ≤ ar r1 69 (ar r1 73 i).toNatClampNeg := by rw [il, ki]; simp; omega
        rw [a55_66, a55_67, updI _ _ c00 ki0, updI _ _ c00 ki0]
        by_cases e : i = v5.toNatClampNeg
        · have ee : ar r1 69 (ar r1 73 i).toNatClampNeg = c := by rw [e, ← ey, ec]
          rw [if_pos ee, if_pos ee, e, ← ey, o66', o67']
          exact ⟨rfl, rfl⟩
        · have ee : ¬ ar r1 69 (ar r1 73 i).toNatClampNeg = c := fun z => by
            rw [ie, ki, hci] at z
            omega
          rw [if_neg ee, if_neg ee]
          rw [sv] at hlt
          exact g2 i hi (by omega)
end COPY2
