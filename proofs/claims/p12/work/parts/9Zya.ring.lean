/-! The reference: no ring; least, ones; wants and needs taken. -/
section RING
variable {a : L_} {r : S_} {rh ta : Int32 → Int32} {N : Int32}
def tc (r : S_) (c : Int32) : Nat := cnt (fun i => decide (¬ ar r 87 i = 0)) c.toNatClampNeg
theorem lt0 {v c : Int32} (h0 : 0 ≤ v) (h : v < c) : 0 ≤ c := by grind
theorem isTold_ok {r0 : S_} (w : MI a r0 rh ta N) (F : Fr [] [87] r0 r) {p : Int32} (h : p < fi r0 28) {K : Int32 → Prop} (hK : ∀ z, zb z → K z) : qM_isTold a r K p := by
  have w' : MI a r rh ta N := MI_Fr w F (by decide) (by decide)
  have e28 := F.1 28 (by decide)
  unfold qM_isTold qM_isTold_J17
  refine ⟨fun _ => ⟨zb1, hK 1 zb1⟩, fun g => ?_⟩
  have p0 := Int32.not_lt.mp g
  have p1 : p < fi r 28 := by rw [e28]; exact h
  have b := (w'.2.2.2.2.1.2 p p0 p1).1
  exact find_ok w' p0 p1 ⟨tin w' b.1 b.2 (by decide) (by decide) rfl, fun _ => ⟨zb0, hK 0 zb0⟩, fun _ => ⟨zb1, hK 1 zb1⟩⟩
theorem fu {c : Int32} (h : 0 ≤ c) : c.toInt - (0 : Int32).toInt < ((c.toInt.toNat + 1 : Nat) : Int) := by
  rw [il] at h
  have e : (0 : Int32).toInt = 0 := rfl
  omega
theorem inc_le {v c : Int32} (h0 : 0 ≤ v) (h : v < c) : 0 ≤ v + 1 ∧ v + 1 ≤ c ∧ (v + 1).toInt = v.toInt + 1 := by
  have e := i_inc h
  rw [il] at h0
  rw [it] at h
  simp at h0
  refine ⟨?_, ?_, e⟩
  · rw [il, e]; simp; omega
  · rw [il, e]; omega
theorem ring_L2 {r0 : S_} (w : MI a r0 rh ta N) {KX : S_ → Prop} (hK : ∀ r, Fr [] [87] r0 r → KX r) : ∀ (n : Nat) (r : S_) (v : Int32), Fr [] [87] r0 r → 0 ≤ v → v ≤ fi r0 28 → (fi r0 28).toInt - v.toInt < n → qM_needNoRing_L2 a KX n r v := by
  intro n
  induction n with
  | zero =>
    intro r v _ _ h1 h
    rw [il] at h1
    omega
  | succ n ih =>
    intro r v F h0 h1 h
    rw [qM_needNoRing_L2, F.1 28 (by decide)]
    refine ⟨fun _ => hK r F, fun g => ?_⟩
    have g' := Int32.not_le.mp g
    obtain ⟨q1, q2, q3⟩ := inc_le h0 g'
    refine ⟨tin w h0 g' (by decide) (by decide) rfl, fun r3 e3 => ?_⟩
    rw [e3]
    exact ih _ _ (Fr_trans F (Fr_sA (by decide))) q1 q2 (by omega)
theorem tc_upd {v c u : Int32} (h0 : 0 ≤ v) (h1 : v < c) (h : ar r 87 v.toNatClampNeg = 0) : (u = 0 → tc (sA r 87 (upd (ar r 87) v.toNatClampNeg u)) c = tc r c) ∧ (¬ u = 0 → tc (sA r 87 (upd (ar r 87) v.toNatClampNeg u)) c = tc r c + 1) := by
  have hn := i_nat h0
  have hc := i_nat (lt0 h0 h1)
  have h1' := h1
  rw [it] at h1'
  unfold tc
  rw [ar_sA, if_pos rfl]
  refine ⟨fun e => cnt_congr (fun i hi => ?_), fun e => cnt_more (i := v.toNatClampNeg) (by omega) (by simp [h]) (by rw [pk_us]; simp [e]) (fun j _ hj => by rw [pk_un hj])⟩
  by_cases g : i = v.toNatClampNeg
  · rw [g, pk_us, e, h]
  · rw [pk_un g]
theorem ring_L44 {r0 : S_} (w : MI a r0 rh ta N) {c0 : Nat} {KX : S_ → Int32 → Int32 → Prop} (hK : ∀ r v1 v2, Fr [] [87] r0 r → (v1 = 0 ∨ c0 < tc r (fi r0 28)) → KX r v1 v2) : ∀ (n : Nat) (r : S_) (v1 v2 v3 : Int32), Fr [] [87] r0 r → 0 ≤ v3 → v3 ≤ fi r0 28 → c0 ≤ tc r (fi r0 28) → (v1 = 0 ∨ c0 < tc r (fi r0 28)) → (fi r0 28).toInt - v3.toInt < n → qM_needNoRing_L44 a KX n r v1 v2 v3 := by
  intro n
  induction n with
  | zero =>
    intro r v1 v2 v3 _ _ h1 _ _ h
    rw [il] at h1
    omega
  | succ n ih =>
    intro r v1 v2 v3 F h0 h1 hc hv h
    rw [qM_needNoRing_L44, F.1 28 (by decide)]
    refine ⟨fun _ => hK r v1 v2 F hv, fun g => ?_⟩
    have g' := Int32.not_le.mp g
    obtain ⟨q1, q2, q3⟩ := inc_le h0 g'
    have nx : ∀ (r2 : S_) (u1 u2 : Int32), Fr [] [87] r0 r2 → c0 ≤ tc r2 (fi r0 28) → (u1 = 0 ∨ c0 < tc r2 (fi r0 28)) → qM_needNoRing_L44 a KX n r2 u1 u2 (v3 + 1) := fun r2 u1 u2 F2 k1 k2 => ih r2 u1 u2 _ F2 q1 q2 k1 k2 (by omega)
    have t87 : vp_in v3 (ln a 87) := tin w h0 g' (by decide) (by decide) rfl
    have nb := w.2.2.2.1 v3 h0 g'
    have e66 : ar r 66 = ar r0 66 := F.2.1 66 (by decide)
    have e67 : ar r 67 = ar r0 67 := F.2.1 67 (by decide)
    have j126 : ∀ (r2 : S_) (u1 u2 : Int32), Fr [] [87] r0 r2 → c0 ≤ tc r2 (fi r0 28) → (u1 = 0 ∨ c0 < tc r2 (fi r0 28)) → qM_needNoRing_J126 a (qM_needNoRing_L44 a KX n) KX r2 u2 v3 u1 := fun r2 u1 u2 F2 k1 k2 => by
      unfold qM_needNoRing_J126 qM_needNoRing_J144 qM_needNoRing_J145 qM_needNoRing_J146
      exact ⟨fun _ => nx r2 u1 0 F2 k1 k2, fun _ => ⟨t87, fun _ => nx r2 u1 0 F2 k1 k2, fun _ => nx r2 u1 1 F2 k1 k2⟩⟩
    have j107 : ar r 87 v3.toNatClampNeg = 0 → ∀ u0 : Int32, zb u0 → qM_needNoRing_J107 a (qM_needNoRing_L44 a KX n) KX r v1 v2 v3 u0 v3 := fun hz u0 hu => by
      unfold qM_needNoRing_J107 qM_needNoRing_J121
      refine ⟨t87, fun r15 e15 => ?_⟩
      have en : vp_nar .boolean u0 = u0 := by
        rcases hu with e | e <;> rw [e] <;> rfl
      rw [en] at e15
      have F15 : Fr [] [87] r0 r15 := by rw [e15]; exact Fr_trans F (Fr_sA (by decide))
      have tu := tc_upd (c := fi r0 28) (u := u0) h0 g' hz
      rw [← e15] at tu
      have a15 : ar r15 87 v3.toNatClampNeg = u0 := by rw [e15, ar_sA, if_pos rfl, pk_us]
      have le : tc r (fi r0 28) ≤ tc r15 (fi r0 28) := by
        by_cases e : u0 = 0
        · rw [tu.1 e]; exact Nat.le_refl _
        · rw [tu.2 e]; omega
      refine ⟨fun g1 => j126 r15 1 v2 F15 (by omega) (Or.inr ?_), fun g1 => ⟨t87, fun _ => j126 r15 0 v2 F15 (by omega) (Or.inl rfl), fun g2 => j126 r15 1 v2 F15 (by omega) (Or.inr ?_)⟩⟩
      · rcases hv with z | z
        · exact absurd z g1
        · omega
      · rw [a15] at g2
        rw [tu.2 g2]
        omega
    refine ⟨tin w h0 g' (by decide) (by decide) rfl, fun _ => nx r v1 v2 F hc hv, fun _ => ⟨t87, fun _ => nx r v1 v2 F hc hv, fun hz => ⟨tin w h0 g' (by decide) (by decide) rfl, ?_⟩⟩⟩
    unfold qM_needNoRing_J106
    rw [e66]
    refine isTold_ok w F nb.2.2.1.2 (fun z12 hz12 _ => ⟨fun _ => j107 hz 0 zb0, fun _ => ⟨tin w h0 g' (by decide) (by decide) rfl, ?_⟩⟩)
    rw [e67]
    exact isTold_ok w F nb.2.2.2.1.2 (fun z23 hz23 _ => ⟨fun _ => j107 hz 0 zb0, fun _ => j107 hz 1 zb1⟩)
theorem ring_L27 {r0 : S_} (w : MI a r0 rh ta N) {KX : S_ → Int32 → Prop} (hK : ∀ r v2, Fr [] [87] r0 r → KX r v2) : ∀ (n : Nat) (r : S_) (v1 v2 : Int32), Fr [] [87] r0 r → 1 ≤ n → (v1 = 0 ∨ (fi r0 28).toNatClampNeg + 1 < n + tc r (fi r0 28)) → qM_needNoRing_L27 a KX n r v1 v2 := by
  intro n
  induction n with
  | zero =>
    intro r v1 v2 _ h _
    omega
  | succ n ih =>
    intro r v1 v2 F _ h
    rw [qM_needNoRing_L27]
    refine ⟨fun _ => hK r v2 F, fun g => ⟨fun _ => hK r v2 F, fun _ => ?_⟩⟩
    have tl : tc r (fi r0 28) ≤ (fi r0 28).toNatClampNeg := cnt_le _ _
    have h' : (fi r0 28).toNatClampNeg + 1 < n + 1 + tc r (fi r0 28) := h.resolve_left g
    have c0 := w.2.2.1.1
    refine ⟨(fi r0 28).toInt.toNat + 1, ring_L44 w (c0 := tc r (fi r0 28)) (fun r2 u1 u2 F2 k => ih r2 u1 u2 F2 (by omega) (k.imp id (fun z => by omega))) _ r 0 1 0 F (Int32.le_refl _) c0 (Nat.le_refl _) (Or.inl rfl) (fu c0)⟩
theorem needNoRing_ok (w : MI a r rh ta N) {K : S_ → Prop} (hK : ∀ r', Fr [32] [87] r r' → zb (fi r' 32) → (fi r' 32 = 0 → fi r 32 = 0) → K r') : qM_needNoRing a K r := by
  have c0 := w.2.2.1.1
  unfold qM_needNoRing
  refine ⟨(fi r 28).toInt.toNat + 1, ring_L2 w (fun r2 F2 => ?_) _ r 0 (Fr_refl r) (Int32.le_refl _) c0 (fu c0)⟩
  refine ⟨(fi r 28).toNatClampNeg + 2, ring_L27 w (fun r3 v2 F3 => ?_) _ r2 1 1 F2 (by omega) (Or.inr (by omega))⟩
  have F3' : Fr [32] [87] r r3 := Fr_mono F3 (fun _ z => absurd z List.not_mem_nil) (fun _ z => z)
  have e32 := F3.1 32 (by decide)
  unfold qM_needNoRing_J155 qM_needNoRing_J167 qM_needNoRing_J172
  refine ⟨fun g => ⟨zb1, fun r4 e4 => ?_⟩, fun g => ⟨fun _ => ⟨zb0, fun r4 e4 => ?_⟩, fun _ => ⟨zb1, fun r4 e4 => ?_⟩⟩⟩
  · rw [e4]
    exact hK _ (Fr_trans F3' (Fr_sF (by decide))) zb1 (fun z => absurd z (by rw [fi_sF, if_pos rfl]; decide))
  · rw [e4]
    exact hK _ (Fr_trans F3' (Fr_sF (by decide))) zb0 (fun _ => e32 ▸ g)
  · rw [e4]
    exact hK _ (Fr_trans F3' (Fr_sF (by decide))) zb1 (fun z => absurd z (by rw [fi_sF, if_pos rfl]; decide))
theorem least_ok {r0 : S_} (hM : ML a) (kq : KQ r0) (k0 : 0 ≤ fi r0 2) (k8 : fi r0 2 ≤ 8) (e41 : ar r 41 = ar r0 6) (e23 : fi r 23 = fi r0 2) {p : Int32} {K : Int32 → Prop} (hK : ∀ z, K z) : qM_least a r K p := by
  have L31 : ∀ (KX : Int32 → Int32 → Int32 → Int32 → Prop) (v3 : Int32), 0 ≤ v3 → v3 < fi r0 2 → ∀ v1 : Int32, (∀ v2 v4, KX v1 v2 v3 v4) → ∀ (n : Nat) (v2 v4 v5 : Int32), 0 ≤ v5 → v5 ≤ fi r0 2 → (fi r0 2).toInt - v5.toInt < n → qM_least_L31 a r KX n v1 v2 v3 v4 v5 := by
    intro KX v3 h3 h3' v1 hX n
    induction n with
    | zero =>
      intro v2 v4 v5 _ h1 h
      rw [il] at h1
      omega
    | succ n ih =>
      intro v2 v4 v5 h0 h1 h
      rw [qM_least_L31, e23]
      refine ⟨fun _ => hX _ _, fun g => ?_⟩
      have g' := Int32.not_le.mp g
      obtain ⟨q1, q2, q3⟩ := inc_le h0 g'
      have nx : ∀ u, qM_least_L31 a r KX n v1 v2 v3 u (v5 + 1) := fun u => ih _ _ _ q1 q2 (by omega)
      unfold qM_least_J74 qM_least_J70 qM_least_J75
      refine ⟨fun _ => nx 0, fun _ => ⟨fun _ => nx 1, fun _ => ⟨fun _ => nx 1, fun _ => ?_⟩⟩⟩
      have v3l : v3 < 8 := by
        rw [it] at h3' ⊢
        rw [il] at k8
        omega
      exact isUnder_ok (r0 := r0) hM kq k8 e41 h0 g' h3 v3l (fun _ => ⟨fun _ => nx 0, fun z => absurd z (by decide)⟩) (fun _ => ⟨fun z => absurd rfl z, fun _ => nx 1⟩)
  have L4 : ∀ (n : Nat) (v1 v2 v3 : Int32), 0 ≤ v3 → v3 ≤ fi r0 2 → (fi r0 2).toInt - v3.toInt < n → qM_least_L4 a r (fun v2 => K v2) n v1 v2 v3 := by
    intro n
    induction n with
    | zero =>
      intro v1 v2 v3 _ h1 h
      rw [il] at h1
      omega
    | succ n ih =>
      intro v1 v2 v3 h0 h1 h
      rw [qM_least_L4, e23]
      refine ⟨fun _ => hK _, fun g => ?_⟩
      have g' := Int32.not_le.mp g
      obtain ⟨q1, q2, q3⟩ := inc_le h0 g'
      have j26 : ∀ u, qM_least_J26 a r (qM_least_L4 a r (fun v2 => K v2) n) (fun v2 => K v2) v1 v2 v3 u := fun u => by
        unfold qM_least_J26 qM_least_J97
        refine ⟨(fi r0 2).toInt.toNat + 1, L31 _ v3 h0 g' v1 (fun u2 u4 => ?_) _ v2 u 0 (Int32.le_refl _) k0 (fu k0)⟩
        exact ⟨fun _ => ih _ _ _ q1 q2 (by omega), fun _ => ih _ _ _ q1 q2 (by omega)⟩
      exact ⟨fun _ => j26 0, fun _ => j26 1⟩
  unfold qM_least
  exact ⟨(fi r0 2).toInt.toNat + 1, L4 _ p 0 0 (Int32.le_refl _) k0 (fu k0)⟩
theorem ones_ok {p : Int32} {K : Int32 → Prop} (hK : ∀ z, K z) : qM_ones a r K p := by
  have L : ∀ (n : Nat) (v0 v1 v2 : Int32), 0 ≤ v2 → v2 ≤ 8 → 8 - v2.toInt < n → qM_ones_L4 a r (fun v1 => K v1) n v0 v1 v2 := by
    intro n
    induction n with
    | zero =>
      intro v0 v1 v2 _ h1 h
      rw [il] at h1
      simp at h1
      omega
    | succ n ih =>
      intro v0 v1 v2 h0 h1 h
      rw [qM_ones_L4]
      refine ⟨fun _ => hK _, fun g => ?_⟩
      obtain ⟨q1, q2, q3⟩ := inc_le h0 (Int32.not_le.mp g)
      exact ih _ _ _ q1 q2 (by omega)
  unfold qM_ones
  exact ⟨9, L 9 p 0 0 (by decide) (by decide) (by decide)⟩
/-- the state with one want more -/
def aw (r : S_) (p b : Int32) : S_ := sF (sA (sA r 75 (upd (ar r 75) (fi r 31).toNatClampNeg p)) 76 (upd (ar r 76) (fi r 31).toNatClampNeg b)) 31 (fi r 31 + 1)
theorem addWant_ok (hM : ML a) (h0 : 0 ≤ fi r 31) (h1 : (fi r 31).toInt < 20000) {p b : Int32} {K : S_ → Prop} (hK : K (aw r p b)) : qM_addWant a K r p b := by
  have i75 : vp_in (fi r 31) (ln a 75) := vi h0 (by rw [ml (n := 20000) hM (by decide) (by decide) rfl]; exact h1)
  have i76 : vp_in (fi r 31) (ln a 76) := vi h0 (by rw [ml (n := 20000) hM (by decide) (by decide) rfl]; exact h1)
  unfold qM_addWant
  refine ⟨i75, fun r2 e2 => ?_⟩
  subst e2
  refine ⟨i76, fun r4 e4 => ?_⟩
  subst e4
  intro r5 e5
  subst e5
  exact hK
def DJ (f : Nat → Int32) (c : Nat) : Prop := ∀ i j, i < c → j < c → f i = f j → i = j
theorem DJ_le {f : Nat → Int32} {c : Nat} {m : Int32} (h0 : 0 ≤ m) (h : DJ f c) (hv : ∀ i, i < c → 0 ≤ f i ∧ f i < m) : c ≤ m.toNatClampNeg := by
  have k := pig f c ((List.range m.toNatClampNeg).map Int32.ofNat) (fun i hi => List.mem_map.mpr ⟨(f i).toNatClampNeg, List.mem_range.mpr ?_, ?_⟩) h
  · simpa using k
  · have b := hv i hi
    have e := i_nat b.1
    have e2 := i_nat h0
    have b2 := b.2
    rw [it] at b2
    omega
  · have b := hv i hi
    have e := i_nat b.1
    rw [ie, i_ofn (by have := ir (f i); omega)]
    omega
/-- what taking the needs comes to -/
def TN (r r' : S_) : Prop := Fr [40] [70, 71, 84, 85] r r' ∧ (0 ≤ fi r' 40 ∧ fi r' 40 ≤ fi r 30) ∧ (∀ i, i < (fi r' 40).toNatClampNeg → vt r (ar r' 84 i)) ∧ DJ (ar r' 84) (fi r' 40).toNatClampNeg ∧ (∀ x : Int32, vt r x → (ar r' 70 x.toNatClampNeg = ar r 70 x.toNatClampNeg ∧ ar r' 71 x.toNatClampNeg = ar r 71 x.toNatClampNeg) ∨ ar r' 71 x.toNatClampNeg = 0)
theorem nl {v c : Int32} (h0 : 0 ≤ v) (h : v < c) : v.toNatClampNeg < c.toNatClampNeg := by
  have e1 := i_nat h0
  have e2 := i_nat (lt0 h0 h)
  rw [it] at h
  omega
theorem take_L {r0 : S_} (hM : ML a) (h28 : (fi r0 28).toInt ≤ 40000) (h30 : (fi r0 30).toInt ≤ 40000) (hv : ∀ i, i < (fi r0 30).toNatClampNeg → vt r0 (ar r0 73 i)) (hd : DJ (ar r0 73) (fi r0 30).toNatClampNeg) {KX : S_ → Prop} (hK : ∀ r, TN r0 r → KX r) : ∀ (n : Nat) (r : S_) (v : Int32), Fr [40] [70, 71, 84, 85] r0 r → (0 ≤ fi r 40 ∧ fi r 40 ≤ v) → 0 ≤ v → v ≤ fi r0 30 → (∀ i, i < (fi r 40).toNatClampNeg → ∃ j, j < v.toNatClampNeg ∧ ar r 84 i = ar r0 73 j) → DJ (ar r 84) (fi r 40).toNatClampNeg → (∀ x : Int32, vt r0 x → (ar r 70 x.toNatClampNeg = ar r0 70 x.toNatClampNeg ∧ ar r 71 x.toNatClampNeg = ar r0 71 x.toNatClampNeg) ∨ ar r 71 x.toNatClampNeg = 0) → (fi r0 30).toInt - v.toInt < n → qM_takeNeeds_L7 a KX n r v := by
  intro n
  induction n with
  | zero =>
    intro r v _ _ _ h1 _ _ _ h
    rw [il] at h1
    omega
  | succ n ih =>
    intro r v F f40 h0 h1 hf hj h7 h
    have e30 := F.1 30 (by decide)
    have e73 : ar r 73 = ar r0 73 := F.2.1 73 (by decide)
    have e65 : ar r 65 = ar r0 65 := F.2.1 65 (by decide)
    rw [qM_takeNeeds_L7, e30, e73]
    refine ⟨fun g => hK r ⟨F, ⟨f40.1, ?_⟩, fun i hi => ?_, hj, h7⟩, fun g => ?_⟩
    · have f := f40.2
      rw [il] at f h1 ⊢
      omega
    · obtain ⟨j, j1, j2⟩ := hf i hi
      rw [j2]
      refine hv j ?_
      have e1 := i_nat h0
      have e2 := i_nat (Int32.le_trans h0 h1)
      rw [il] at h1
      omega
    · have g' := Int32.not_le.mp g
      obtain ⟨q1, q2, q3⟩ := inc_le h0 g'
      have vn := nl h0 g'
      obtain ⟨x, ex⟩ : ∃ x, x = ar r0 73 v.toNatClampNeg := ⟨_, rfl⟩
      have vx : vt r0 x := by rw [ex]; exact hv _ vn
      rw [← ex]
      have t : ∀ k, 36 ≤ k → k < 89 → ln0 k = 40000 → vp_in x (ln a k) := fun k k1 k2 k3 => vi2 vx.1 vx.2 (by rw [ml hM k1 k2 k3]; exact h28)
      have sv : (v + 1).toNatClampNeg = v.toNatClampNeg + 1 := by
        have e1 := i_nat h0
        have e2 := i_nat q1
        omega
      have j66 : ∀ r2 : S_, Fr [40] [70, 71, 84, 85] r0 r2 → (0 ≤ fi r2 40 ∧ fi r2 40 ≤ v + 1) → (∀ i, i < (fi r2 40).toNatClampNeg → ∃ j, j < v.toNatClampNeg + 1 ∧ ar r2 84 i = ar r0 73 j) → DJ (ar r2 84) (fi r2 40).toNatClampNeg → (∀ x : Int32, vt r0 x → (ar r2 70 x.toNatClampNeg = ar r0 70 x.toNatClampNeg ∧ ar r2 71 x.toNatClampNeg = ar r0 71 x.toNatClampNeg) ∨ ar r2 71 x.toNatClampNeg = 0) → qM_takeNeeds_J66 a (qM_takeNeeds_L7 a KX n) KX r2 v x := by
        intro r2 F2 k1 k2 k3 k4
        unfold qM_takeNeeds_J66
        refine ⟨t 70 (by decide) (by decide) rfl, fun r7 e7 => ⟨t 71 (by decide) (by decide) rfl, fun r9 e9 => ?_⟩⟩
        subst e7
        subst e9
        refine ih _ _ (Fr_trans F2 (Fr_trans (Fr_sA (by decide)) (Fr_sA (by decide)))) k1 q1 q2 (by rw [sv]; exact k2) k3 (fun y hy => ?_) (by omega)
        have k := k4 y hy
        simp only [ar_sA, reduceIte, Nat.reduceEqDiff]
        rw [updI _ _ vx.1 hy.1, updI _ _ vx.1 hy.1]
        by_cases e : y = x
        · right; rw [if_pos e]
        · rw [if_neg e, if_neg e]; exact k
      have f40' : fi r 40 ≤ v + 1 := by
        have f := f40.2
        rw [il] at f ⊢
        omega
      have mono : ∀ i, i < (fi r 40).toNatClampNeg → ∃ j, j < v.toNatClampNeg + 1 ∧ ar r 84 i = ar r0 73 j := fun i hi => by
        obtain ⟨j, j1, j2⟩ := hf i hi
        exact ⟨j, by omega, j2⟩
      refine ⟨vi h0 (by rw [ml (n := 40000) hM (by decide) (by decide) rfl]; rw [it] at g'; omega), t 65 (by decide) (by decide) rfl, fun _ => j66 r F ⟨f40.1, f40'⟩ mono hj h7, fun _ => ?_⟩
      have fl : (fi r 40).toInt < 40000 := by
        have f := f40.2
        rw [il] at f
        rw [it] at g'
        omega
      have i40 : ∀ k, 36 ≤ k → k < 89 → ln0 k = 40000 → vp_in (fi r 40) (ln a k) := fun k k1 k2 k3 => vi f40.1 (by rw [ml hM k1 k2 k3]; exact fl)
      refine ⟨i40 84 (by decide) (by decide) rfl, fun r11 e11 => ⟨t 70 (by decide) (by decide) rfl, ?_⟩⟩
      subst e11
      refine ⟨i40 85 (by decide) (by decide) rfl, fun r14 e14 => ?_⟩
      subst e14
      intro r15 e15
      have n1 : (fi r 40 + 1).toInt = (fi r 40).toInt + 1 := i_inc (y := 40000) (by rw [it]; simpa using fl)
      have n0 : 0 ≤ fi r 40 + 1 := by
        have f := f40.1
        rw [il] at f ⊢
        rw [n1]
        simp at f ⊢
        omega
      have nn : (fi r 40 + 1).toNatClampNeg = (fi r 40).toNatClampNeg + 1 := by
        have e1 := i_nat f40.1
        have e2 := i_nat n0
        omega
      have f15 : fi r15 40 = fi r 40 + 1 := by rw [e15]; rfl
      have a15 : ar r15 84 = upd (ar r 84) (fi r 40).toNatClampNeg x := by rw [e15]; rfl
      refine j66 r15 (by rw [e15]; exact Fr_trans F (Fr_trans (Fr_sA (by decide)) (Fr_trans (Fr_sA (by decide)) (Fr_sF (by decide))))) ⟨by rw [f15]; exact n0, ?_⟩ (fun i hi => ?_) (fun i j hi hj' hij => ?_) (fun y hy => by
        have e1 : ar r15 70 = ar r 70 := by rw [e15]; rfl
        have e2 : ar r15 71 = ar r 71 := by rw [e15]; rfl
        rw [e1, e2]
        exact h7 y hy)
      · rw [f15]
        have f := f40.2
        rw [il] at f ⊢
        omega
      · rw [a15]
        rw [f15, nn] at hi
        by_cases e : i = (fi r 40).toNatClampNeg
        · exact ⟨v.toNatClampNeg, by omega, by rw [e, pk_us, ex]⟩
        · rw [pk_un e]
          exact mono i (by omega)
      · rw [a15] at hij
        rw [f15, nn] at hi hj'
        have ne : ∀ i, i < (fi r 40).toNatClampNeg → ¬ ar r 84 i = x := fun i hi e => by
          obtain ⟨j, j1, j2⟩ := hf i hi
          rw [j2, ex] at e
          have := hd j v.toNatClampNeg (by omega) vn e
          omega
        by_cases ei : i = (fi r 40).toNatClampNeg
        · by_cases ej : j = (fi r 40).toNatClampNeg
          · omega
          · rw [ei, pk_us, pk_un ej] at hij
            exact absurd hij.symm (ne j (by omega))
        · by_cases ej : j = (fi r 40).toNatClampNeg
          · rw [ej, pk_us, pk_un ei] at hij
            exact absurd hij (ne i (by omega))
          · rw [pk_un ei, pk_un ej] at hij
            exact hj i j (by omega) (by omega) hij
theorem takeNeeds_ok (hM : ML a) (h28 : (fi r 28).toInt ≤ 40000) (h300 : 0 ≤ fi r 30) (h30 : (fi r 30).toInt ≤ 40000) (hv : ∀ i, i < (fi r 30).toNatClampNeg → vt r (ar r 73 i)) (hd : DJ (ar r 73) (fi r 30).toNatClampNeg) {K : S_ → Prop} (hK : ∀ r', TN r r' → K r') : qM_takeNeeds a K r := by
  unfold qM_takeNeeds
  intro r1 e1
  subst e1
  refine ⟨(fi r 30).toInt.toNat + 1, take_L (r0 := r) hM h28 h30 hv hd hK _ _ 0 (Fr_sF (by decide)) ⟨by rw [fi_sF, if_pos rfl]; decide, by rw [fi_sF, if_pos rfl]; decide⟩ (by decide) h300 (fun i hi => ?_) (fun i j hi => ?_) (fun x _ => Or.inl ⟨rfl, rfl⟩) (fu h300)⟩
  · rw [fi_sF, if_pos rfl] at hi
    exact absurd hi (Nat.not_lt_zero _)
  · rw [fi_sF, if_pos rfl] at hi
    exact absurd hi (Nat.not_lt_zero _)
end RING
