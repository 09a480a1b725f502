/-! The reference: a type of the table, written out. -/
section ZMSTAT
variable {ad l : Nat → Nat} {rI r r' : S_} {rh ta : Int32 → Int32} {N : Int32}

def TYM (l : Nat → Nat) (r : S_) : Prop := TT l r ∧ TYz r ∧ (ar r 37 = ar r 1 ∧ ar r 38 = ar r 2 ∧ ar r 39 = ar r 3) ∧ (∀ t : Int32, 0 ≤ t → t < fi r 1 → ar r 1 t.toNatClampNeg < fi r 21) ∧ ar r 36 = ar r 0 ∧ UVr r
def ptS (r : S_) (x : Int32) : Int32 := if 0 ≤ x then ar r 74 x.toNatClampNeg else -1
def SVW (r0 r : S_) (v : Int32) : Prop := (Fr [28] [64, 65, 66, 67, 68, 70, 71, 74] r0 r ∧ ∀ x, vt r0 x → ∀ k, ¬ k = 74 → ar r k x.toNatClampNeg = ar r0 k x.toNatClampNeg) ∧ (fi r0 28 ≤ fi r 28 ∧ (fi r 28).toInt ≤ 40000) ∧ (∀ k : Int32, 0 ≤ k → k < v → ¬ ar r0 88 k.toNatClampNeg = 0 → (fi r0 28 ≤ ar r 74 k.toNatClampNeg ∧ ar r 74 k.toNatClampNeg < fi r 28) ∧ ar r 64 (ar r 74 k.toNatClampNeg).toNatClampNeg = ar r 74 k.toNatClampNeg ∧ ar r 65 (ar r 74 k.toNatClampNeg).toNatClampNeg = (if 0 ≤ ar r0 1 k.toNatClampNeg then ar r0 1 k.toNatClampNeg else -1) ∧ ar r 66 (ar r 74 k.toNatClampNeg).toNatClampNeg = ptS r (ar r0 2 k.toNatClampNeg) ∧ ar r 67 (ar r 74 k.toNatClampNeg).toNatClampNeg = ptS r (ar r0 3 k.toNatClampNeg)) ∧ (∀ k k' : Int32, 0 ≤ k → k < v → 0 ≤ k' → k' < v → ¬ ar r0 88 k.toNatClampNeg = 0 → ¬ ar r0 88 (k').toNatClampNeg = 0 → ar r 74 k.toNatClampNeg = ar r 74 (k').toNatClampNeg → k = k') ∧ ∀ y : Int32, fi r0 28 ≤ y → y < fi r 28 → (∃ k : Int32, 0 ≤ k ∧ k < v ∧ ¬ ar r0 88 k.toNatClampNeg = 0 ∧ ar r 74 k.toNatClampNeg = y) ∧ ar r 68 y.toNatClampNeg = 0 ∧ ar r 70 y.toNatClampNeg = 0 ∧ ar r 71 y.toNatClampNeg = 0
theorem ws_cst7 {r0 : S_} {t : Int32} (c0 : 0 ≤ fi r0 28) (hM : ML (ad, l)) (tz : TYz r0) (e37 : ar r0 37 = ar r0 1) (e38 : ar r0 38 = ar r0 2) (e39 : ar r0 39 = ar r0 3) (t1 : t < fi r0 1) (cl : ∀ k : Int32, 0 ≤ k → k ≤ t → ¬ ar r0 88 k.toNatClampNeg = 0 → (0 ≤ ar r0 2 k.toNatClampNeg → ¬ ar r0 88 (ar r0 2 k.toNatClampNeg).toNatClampNeg = 0) ∧ (0 ≤ ar r0 3 k.toNatClampNeg → ¬ ar r0 88 (ar r0 3 k.toNatClampNeg).toNatClampNeg = 0)) {KX : S_ → Int32 → Prop} (hK : ∀ r v, t < v → v.toInt ≤ t.toInt + 1 → SVW r0 r v → KX r t) : ∀ (n : Nat) (r : S_) (v : Int32), SVW r0 r v → 0 ≤ v → v.toInt ≤ t.toInt + 1 → wM_copyStatic_L7 (ad, l) KX n r t v := by
  intro n
  induction n with
  | zero => intro r v _ _ _; trivial
  | succ n ih =>
    intro r v s v0 vl
    have F := s.1.1
    rw [wM_copyStatic_L7, F.2.1 88 (by decide), F.2.1 38 (by decide), e38]
    refine ⟨fun g => hK r v g vl s, fun g _ => ?_⟩
    have g' := Int32.not_lt.mp g
    have gi := g'
    rw [il] at gi
    have v1 : v < fi r0 1 := by rw [it] at t1 ⊢; omega
    have c60 : (fi r0 1).toInt ≤ 60 := by have := tz.1.2; rw [il] at this; simpa using this
    have v1i := v1
    rw [it] at v1i
    have iv : (v + 1).toInt = v.toInt + 1 := i_inc (y := 60) (by rw [it]; simp; omega)
    have v10 : 0 ≤ v + 1 := by rw [il, iv]; rw [il] at v0; simp at v0 ⊢; omega
    have lv : ∀ k : Int32, k < v + 1 → ¬ k = v → k < v := fun k k1 k2 => by
      rw [it, iv] at k1
      rw [ie] at k2
      rw [it]
      omega
    have lv' : ∀ k : Int32, k < v → k < v + 1 := fun k k1 => by rw [it] at k1 ⊢; omega
    have p := tz.2.1 v v0 v1
    have q := tz.2.2 v v0 v1
    obtain ⟨⟨s1, s1'⟩, ⟨s2, s2'⟩, s3, s4, s5⟩ := s
    refine ⟨fun um => ?_, fun mk => ?_⟩
    · unfold wM_copyStatic_J107
      have nv : ∀ k : Int32, k < v + 1 → ¬ ar r0 88 k.toNatClampNeg = 0 → k < v := fun k k1 k2 => lv k k1 (fun e => k2 (by rw [e]; exact um))
      refine ih r (v + 1) ⟨⟨s1, s1'⟩, ⟨s2, s2'⟩, fun k k0 k1 k2 => s3 k k0 (nv k k1 k2) k2, fun k k' k0 k1 k0' k1' k2 k2' => s4 k k' k0 (nv k k1 k2) k0' (nv k' k1' k2') k2 k2', fun y y0 y1 => ?_⟩ v10 (by omega)
      obtain ⟨⟨k, k0, k1, k2⟩, k3⟩ := s5 y y0 y1
      exact ⟨⟨k, k0, lv' k k1, k2⟩, k3⟩
    · -- a new one, with parts x y
      have clv := cl v v0 g' mk
      have pin : ∀ u : Int32, (0 ≤ u → u < v ∧ ¬ ar r0 88 u.toNatClampNeg = 0) → ptS r u = -1 ∨ (fi r0 28 ≤ ptS r u ∧ ptS r u < fi r 28) := fun u hu => by
        unfold ptS
        by_cases e : 0 ≤ u
        · rw [if_pos e]
          exact Or.inr (s3 u e (hu e).1 (hu e).2).1
        · rw [if_neg e]
          exact Or.inl rfl
      have make : ∀ (h : Int32), h = (if 0 ≤ ar r0 1 v.toNatClampNeg then ar r0 1 v.toNatClampNeg else -1) → ∀ x y, x = ptS r (ar r0 2 v.toNatClampNeg) → y = ptS r (ar r0 3 v.toNatClampNeg) → wM_newTerm (ad, l) (fun z16 r17 => wM_copyStatic_J106 (ad, l) (wM_copyStatic_L7 (ad, l) KX n) KX r17 t v z16 v) r h x y := by
        intro h eh x y ex ey
        refine ws_mnew' hM (fun r17 t0 t4 hN => ?_)
        obtain ⟨n28, nF, nold, n64, n65, n66, n67, n68, n70, n71⟩ := hN
        unfold wM_copyStatic_J106 wM_copyStatic_J107
        intro _ r19 e19
        have tt1 : (fi r 28 + 1).toInt = (fi r 28).toInt + 1 := i_inc (y := 40000) (by rw [it]; simp; omega)
        have g28 : fi r19 28 = fi r 28 + 1 := by rw [e19]; exact n28
        have a74 : ∀ k : Int32, 0 ≤ k → ar r19 74 k.toNatClampNeg = if k = v then fi r 28 else ar r 74 k.toNatClampNeg := fun k k0 => by
          rw [e19, ar_sA, if_pos rfl, updI _ _ v0 k0, nF.2.1 74 (by decide)]
        have old : ∀ y, 0 ≤ y → y < fi r 28 → ∀ k, ¬ k = 74 → ar r19 k y.toNatClampNeg = ar r k y.toNatClampNeg := fun y y0 y1 k k1 => by
          rw [e19, ar_sA, if_neg k1]
          exact nold y y0 y1 k
        have nw : ∀ k, ¬ k = 74 → ar r19 k (fi r 28).toNatClampNeg = ar r17 k (fi r 28).toNatClampNeg := fun k k1 => by rw [e19, ar_sA, if_neg k1]
        have le0 := s2
        have r00 : 0 ≤ fi r 28 := zo2 c0 s2
        have lt0 : ∀ x, vt r0 x → 0 ≤ x ∧ x < fi r 28 := fun x vx => ⟨vx.1, zo3 vx.2 s2⟩
        have up : ∀ y : Int32, y < fi r 28 → y < fi r19 28 := fun y hy => by rw [it] at hy; rw [it, g28, tt1]; omega
        have ptE : ∀ u : Int32, (0 ≤ u → u < v) → ptS r19 u = ptS r u := fun u hu => by
          unfold ptS
          by_cases e : 0 ≤ u
          · rw [if_pos e, if_pos e, a74 u e, if_neg (fun z => by have := hu e; rw [z] at this; exact irr this)]
          · rw [if_neg e, if_neg e]
        refine ih r19 (v + 1) ⟨⟨?_, fun x vx k k1 => ?_⟩, ⟨by rw [il] at s2; rw [il, g28, tt1]; omega, by rw [g28, tt1]; omega⟩, fun k k0 k1 k2 => ?_, fun k k' k0 k1 k0' k1' k2 k2' k3 => ?_, fun y y0 y1 => ?_⟩ v10 (by omega)
        · rw [e19]
          exact Fr_trans s1 (Fr_trans (Fr_mono nF (by decide) (by decide)) (Fr_sA (by decide)))
        · rw [old x (lt0 x vx).1 (lt0 x vx).2 k k1]
          exact s1' x vx k k1
        · by_cases e : k = v
          · rw [e, a74 v v0, if_pos rfl, nw 64 (by decide), nw 65 (by decide), nw 66 (by decide), nw 67 (by decide), n64, n65, n66, n67, ptE _ (fun _ => p.1.2), ptE _ (fun _ => p.2.2)]
            exact ⟨⟨s2, by rw [it, g28, tt1]; omega⟩, rfl, eh, ex, ey⟩
          · have kv := lv k k1 e
            have k3 := s3 k k0 kv k2
            have pk := tz.2.1 k k0 (ltt kv v1)
            have kr0 : 0 ≤ ar r 74 k.toNatClampNeg := zo2 c0 k3.1.1
            rw [a74 k k0, if_neg e, old _ kr0 k3.1.2 64 (by decide), old _ kr0 k3.1.2 65 (by decide), old _ kr0 k3.1.2 66 (by decide), old _ kr0 k3.1.2 67 (by decide), ptE _ (fun _ => ltt pk.1.2 kv), ptE _ (fun _ => ltt pk.2.2 kv)]
            exact ⟨⟨k3.1.1, up _ k3.1.2⟩, k3.2⟩
        · rw [a74 k k0, a74 k' k0'] at k3
          by_cases e : k = v
          · by_cases e' : k' = v
            · rw [e, e']
            · rw [if_pos e, if_neg e'] at k3
              have := (s3 k' k0' (lv k' k1' e') k2').1.2
              rw [← k3] at this
              exact absurd this (irr)
          · by_cases e' : k' = v
            · rw [if_neg e, if_pos e'] at k3
              have := (s3 k k0 (lv k k1 e) k2).1.2
              rw [k3] at this
              exact absurd this (irr)
            · rw [if_neg e, if_neg e'] at k3
              exact s4 k k' k0 (lv k k1 e) k0' (lv k' k1' e') k2 k2' k3
        · by_cases e : y = fi r 28
          · rw [e, nw 68 (by decide), nw 70 (by decide), nw 71 (by decide)]
            exact ⟨⟨v, v0, by rw [it, iv]; omega, mk, by rw [a74 v v0, if_pos rfl]⟩, n68, n70, n71⟩
          · have yl : y < fi r 28 := by
              rw [it, g28, tt1] at y1
              rw [ie] at e
              rw [it]
              omega
            obtain ⟨⟨k, k0, k1, k2, k3⟩, k4⟩ := s5 y y0 yl
            have y00 : 0 ≤ y := zo2 c0 y0
            rw [old y y00 yl 68 (by decide), old y y00 yl 70 (by decide), old y y00 yl 71 (by decide)]
            exact ⟨⟨k, k0, lv' k k1, k2, by rw [a74 k k0, if_neg (fun z => by rw [z] at k1; exact irr k1)]; exact k3⟩, k4⟩
      have j70 : ∀ x y, x = ptS r (ar r0 2 v.toNatClampNeg) → y = ptS r (ar r0 3 v.toNatClampNeg) → wM_copyStatic_J70 (ad, l) (wM_copyStatic_L7 (ad, l) KX n) KX r t v x y := by
        intro x y ex ey
        unfold wM_copyStatic_J70 wM_fresh
        rw [F.2.1 37 (by decide), e37]
        refine fun _ => ⟨fun h0 _ => make _ (by rw [if_pos h0]) x y ex ey, fun h0 => make _ (by rw [if_neg h0]) _ _ ?_ ?_⟩
        · rw [(q.2.1 (Int32.not_le.mp h0)).1]
          rfl
        · rw [(q.2.1 (Int32.not_le.mp h0)).2]
          rfl
      have j45 : ∀ x, x = ptS r (ar r0 2 v.toNatClampNeg) → wM_copyStatic_J45 (ad, l) (wM_copyStatic_L7 (ad, l) KX n) KX r t v x := by
        intro x ex
        unfold wM_copyStatic_J45
        rw [F.2.1 39 (by decide), e39]
        refine fun _ => ⟨fun h0 _ _ => j70 x _ ex (by unfold ptS; rw [if_pos h0]), fun h0 => j70 x _ ex (by unfold ptS; rw [if_neg h0])⟩
      refine fun _ => ⟨fun h0 _ _ => j45 _ (by unfold ptS; rw [if_pos h0]), fun h0 => j45 _ (by unfold ptS; rw [if_neg h0])⟩
end ZMSTAT
