/-! A copy in the class's graph: what it is. -/
section ZCCOP
theorem ws_cp11 {r0 : S_} {rh ta0 : Int32 → Int32} {N0 : Int32} {a0 : L_} {p0 : Int32} (hI0 : GI a0 r0 rh ta0 N0) (ay0 : AYc r0) (o : ORD r0 rh) (ob : fi r0 12 < 20000) (ole : fi r0 12 ≤ fi r0 11) (hE : ∀ L : List Int32, L.Nodup → (∀ y, y ∈ L → ∃ k : Int32, 0 ≤ k ∧ k < fi r0 12 ∧ ar r0 30 k.toNatClampNeg = y ∧ ar r0 26 y.toNatClampNeg = 1) → (fi r0 11).toInt + L.length ≤ 4096) {KX : L_ → S_ → Int32 → Prop} (hK : ∀ ad l r rh' ta N m, CPI r0 rh l r rh' ta N m (fi r0 12) → KX (ad, l) r p0) : ∀ (n : Nat) (ad l : Nat → Nat) (r : S_) (rh' ta : Int32 → Int32) (N : Int32) (m : Int32 → Int32) (i : Int32), CPI r0 rh l r rh' ta N m i → 0 ≤ i → i ≤ fi r0 12 → wG_copyOf_L11 KX n (ad, l) r p0 i := by
  intro n
  induction n with
  | zero => intro ad l r rh' ta N m i _ _ _; trivial
  | succ n ih =>
    intro ad l r rh' ta N m i h i0 io
    have h12 := h.2.2.1.2.1
    rw [wG_copyOf_L11]
    unfold wG_copyOf_J92
    rw [h12]
    refine ⟨fun g => ?_, fun g _ _ => ?_⟩
    · have e : i = fi r0 12 := by clear h ih hI0 ay0 o hE hK; grind
      rw [e] at h
      exact hK ad l r rh' ta N m h
    · have il : i < fi r0 12 := Int32.not_le.mp g
      have ib : i < 20000 := ltt il ob
      have c1 : 0 ≤ i + 1 := by clear h ih hI0 ay0 o hE hK; grind
      have c2 : i + 1 ≤ fi r0 12 := by clear h ih hI0 ay0 o hE hK; grind
      have st := o.2.2 i i0 il
      have e30 : ar r 30 i.toNatClampNeg = ar r0 30 i.toNatClampNeg := h.2.2.2.1 i i0 il
      have old := h.2.2.2.2.1 _ st.1.1 st.1.2.1
      rw [e30, old.1.2.2.2.2.1]
      refine ⟨fun q => ih ad l r rh' ta N m (i + 1) (CPI_skip o i0 il ib h q) c1 c2, fun q _ _ => ?_⟩
      have nk := hI0.2.2.2.1 _ st.1.1 st.1.2.1
      rw [old.2 st.1.2.2]
      refine CPI_val hI0 o i0 il h nk.2.2.1 nk.2.2.2.1 st.2.1 (fun r2 h2 F2 z1 z2 _ => ?_)
      have e23 : ar r2 23 (ar r0 30 i.toNatClampNeg).toNatClampNeg = ar r0 23 (ar r0 30 i.toNatClampNeg).toNatClampNeg := (h2.2.2.2.2.1 _ st.1.1 st.1.2.1).1.2.1
      rw [e23]
      refine CPI_val hI0 o i0 il h2 nk.2.2.2.2.1 nk.2.2.2.2.2.1 st.2.2 (fun r3 h3 F3 y1 y2 => ?_)
      have f3 : fi r3 11 = fi r2 11 := F3.1 11 (by simp)
      have e21 : ar r 21 (ar r0 30 i.toNatClampNeg).toNatClampNeg = ar r0 21 (ar r0 30 i.toNatClampNeg).toNatClampNeg := old.1.1
      rw [e21]
      -- room for one more
      have lt : fi r3 11 < 4096 := by
        obtain ⟨L, l1, l2, l3⟩ := h3.2.2.2.2.2.2.2.2.2.2
        have := hE (L ++ [ar r0 30 i.toNatClampNeg]) ?_ ?_
        · rw [it, show (4096 : Int32).toInt = 4096 from rfl]
          simp at this
          omega
        · refine List.nodup_append.mpr ⟨l1, by simp, fun p hp q' hq e => ?_⟩
          rw [List.mem_singleton.mp hq] at e
          obtain ⟨k, k0, k1, k2, _⟩ := l2 p hp
          exact o.2.1 k i k0 k1 il (by rw [k2, e])
        · intro y hy
          rcases List.mem_append.mp hy with w | w
          · obtain ⟨k, k0, k1, k2⟩ := l2 y w
            exact ⟨k, k0, ltt k1 il, k2⟩
          · rw [List.mem_singleton.mp w]
            exact ⟨i, i0, il, rfl, q⟩
      refine ws_new (l := l) h3.1.1 h3.1.2.1 h3.1.2.2.1 (by have := nk.1; have := st.1.2.2; clear h ih hI0 ay0 o hE hK h2 h3; grind) nk.2.1 z1.1 (Or.inl (by rw [f3]; exact z1.2)) y1.1 (Or.inl y1.2) (fun z a' r4 hn hnn => ?_)
      obtain ⟨ad', l'⟩ := a'
      intro _ _ r22 e22 _ _ _ r26 e26
      have g3 : ar r4 0 = ar r3 0 := by
        obtain ⟨_, _, _, _, _, n5, _⟩ := hn
        exact n5.2.1 0 (by decide)
      have er : r26 = sA (sA r4 29 (upd (ar r4 29) (ar r0 30 i.toNatClampNeg).toNatClampNeg z)) 24 (upd (ar r4 24) z.toNatClampNeg (ar r4 24 z.toNatClampNeg ||| ar r4 25 (ar r0 30 i.toNatClampNeg).toNatClampNeg)) := by
        rw [e26, e22]
        rfl
      obtain ⟨rh4, h4⟩ := CPI_next hI0 ay0 o i0 il ib h3 q z2 y2 hn hnn lt g3 ole er
      exact ih ad' l' r26 rh4 ta N _ (i + 1) h4 c1 c2
/-- what a copy is: t copied comes to z, m says what stands for what -/
def CPF (r r' : S_) (rh rh' : Int32 → Int32) (t z : Int32) (m : Int32 → Int32) : Prop := z = m (rh t) ∧ (∀ x, Rq r rh t x → (ar r 26 x.toNatClampNeg = 1 → (fi r 11 ≤ m x ∧ m x < fi r' 11) ∧ ar r' 21 (m x).toNatClampNeg = ar r 21 x.toNatClampNeg ∧ ar r' 22 (m x).toNatClampNeg = cc rh m (ar r 22 x.toNatClampNeg) ∧ ar r' 23 (m x).toNatClampNeg = cc rh m (ar r 23 x.toNatClampNeg) ∧ ar r' 24 (m x).toNatClampNeg = ar r 25 x.toNatClampNeg ∧ ar r' 25 (m x).toNatClampNeg = 0 ∧ ar r' 26 (m x).toNatClampNeg = 0 ∧ ar r' 27 (m x).toNatClampNeg = 0) ∧ (¬ ar r 26 x.toNatClampNeg = 1 → m x = x)) ∧ (∀ x : Int32, 0 ≤ x → x < fi r 11 → (ar r' 21 x.toNatClampNeg = ar r 21 x.toNatClampNeg ∧ ar r' 23 x.toNatClampNeg = ar r 23 x.toNatClampNeg ∧ ar r' 24 x.toNatClampNeg = ar r 24 x.toNatClampNeg ∧ ar r' 25 x.toNatClampNeg = ar r 25 x.toNatClampNeg ∧ ar r' 26 x.toNatClampNeg = ar r 26 x.toNatClampNeg ∧ ar r' 27 x.toNatClampNeg = ar r 27 x.toNatClampNeg) ∧ (¬ ar r 21 x.toNatClampNeg = -2 → ar r' 22 x.toNatClampNeg = ar r 22 x.toNatClampNeg) ∧ rh' x = rh x) ∧ (∀ w : Int32, fi r 11 ≤ w → w < fi r' 11 → ∃ x, Rq r rh t x ∧ ar r 26 x.toNatClampNeg = 1 ∧ m x = w) ∧ (∀ x y, Rq r rh t x → Rq r rh t y → ar r 26 x.toNatClampNeg = 1 → ar r 26 y.toNatClampNeg = 1 → m x = m y → x = y) ∧ (fi r 11 ≤ fi r' 11 ∧ fi r' 15 = fi r 15 ∧ ∃ L : List Int32, L.Nodup ∧ (∀ y, y ∈ L → Rq r rh t y ∧ ar r 26 y.toNatClampNeg = 1) ∧ (fi r' 11).toInt = (fi r 11).toInt + L.length)
theorem ws_copyOf {ad l : Nat → Nat} {r : S_} {rh ta rk : Int32 → Int32} {N t : Int32} (hI : GI (A0 l) r rh ta N) (hp : PL l) (ay : AYc r) (hv : VB r) (hb : fi r 13 < 2000000000) (ac : ACY (fi r 11) (ar r 21) (ar r 22) (ar r 23) rh rk) (t0 : 0 ≤ t) (t1 : t < fi r 11) (hE : ∀ L : List Int32, L.Nodup → (∀ y, y ∈ L → Rq r rh t y ∧ ar r 26 y.toNatClampNeg = 1) → (fi r 11).toInt + L.length ≤ 4096) {K : Int32 → L_ → S_ → Prop} (hK : ∀ z ad' l' r' rh' ta' N' m, GI (A0 l') r' rh' ta' N' → AYc r' → CPF r r' rh rh' t z m → K z (ad', l') r') : wG_copyOf K (ad, l) r t := by
  unfold wG_copyOf
  refine ws_start ?_
  have w0 := PW_start (acy := True) (rk := rk) hI hv hb (fun _ => ac)
  have none0 : ∀ x : Int32, ¬ ar r 28 x.toNatClampNeg = fi r 13 + 1 := by
    intro x h2
    have h3 := hv.2 x.toNatClampNeg
    have h4 := hv.1
    rw [h2] at h3
    clear w0 hI ac hv ay hE
    grind
  refine ws_walk (a := (ad, l)) (r := sF (sF r 13 (fi r 13 + 1)) 12 0) (S := Rq (sF (sF r 13 (fi r 13 + 1)) 12 0) rh t) w0 t0 t1 Rq_cl Rq_0 DO0_start (fun r0 w F q3 q4 qv d n => ?_)
  have f11 : fi r0 11 = fi r 11 := F.1 11 (by decide) (by decide)
  have f13 : fi r0 13 = fi r 13 + 1 := F.1 13 (by decide) (by decide)
  have f15 : fi r0 15 = fi r 15 := F.1 15 (by decide) (by decide)
  have ae : ∀ k, ¬ k = 22 → ¬ k = 28 → ¬ k = 29 → ¬ k = 30 → ¬ k = 31 → ar r0 k = ar r k := fun k k1 k2 k3 k4 k5 => F.2.1 k k1 k2 k3 k4 k5
  have e21 : ar r0 21 = ar r 21 := ae 21 (by decide) (by decide) (by decide) (by decide) (by decide)
  have e23 : ar r0 23 = ar r 23 := ae 23 (by decide) (by decide) (by decide) (by decide) (by decide)
  have e24 : ar r0 24 = ar r 24 := ae 24 (by decide) (by decide) (by decide) (by decide) (by decide)
  have e25 : ar r0 25 = ar r 25 := ae 25 (by decide) (by decide) (by decide) (by decide) (by decide)
  have e26 : ar r0 26 = ar r 26 := ae 26 (by decide) (by decide) (by decide) (by decide) (by decide)
  have e27 : ar r0 27 = ar r 27 := ae 27 (by decide) (by decide) (by decide) (by decide) (by decide)
  have e0 : ar r0 0 = ar r 0 := ae 0 (by decide) (by decide) (by decide) (by decide) (by decide)
  have hfs : FS (fi r 11) (ar r 21) (ar r 22) (ar r0 22) := F.2.2.2.1
  have rq : ∀ {x y}, Rq r0 rh x y ↔ Rq r rh x y := fun {x y} => Rq_fs f11 e21 e23 hfs
  have ay0 : AYc r0 := AYc_fs f11 e0 e21 e23 hfs ay
  have od := PW_ORD w d
  have hin : ∀ x, vs r0 x ↔ Rq r rh t x := by
    intro x
    constructor
    · rintro ⟨h1, h2, h3⟩
      rw [f11] at h2
      rcases q4 x h1 h2 (by rw [f13] at h3; exact h3) with k | k
      · exact absurd (show ar r 28 x.toNatClampNeg = fi r 13 + 1 from k) (none0 x)
      · exact k
    · intro h2
      have b := hI.2.2.2.2.1.2 t t0 t1
      exact rq.mpr h2 (vs r0) (PW_cl w) ⟨b.1, by rw [f11]; exact b.2.1, q3⟩
  have ordx : ∀ x, Rq r rh t x ↔ ∃ k : Int32, 0 ≤ k ∧ k < fi r0 12 ∧ ar r0 30 k.toNatClampNeg = x := fun x => (hin x).symm.trans (PW_vs w)
  have ole : fi r0 12 ≤ fi r0 11 := by rw [il]; exact (ordL w).2
  have ob : fi r0 12 < 20000 := by
    have h1 := (ordL w).2
    have h2 := hI.2.2.1
    have h3 := hI.1.2.2.2.2.2.2.2.2.2.2.2
    rw [it, show (20000 : Int32).toInt = 20000 from rfl]
    rw [f11] at h1
    omega
  have b0 := hI.2.2.2.2.1.2 t t0 t1
  have hI0 : GI (A0 l) r0 rh ta N := w.1
  have start : CPI r0 rh l r0 rh ta N id 0 := by
    refine ⟨⟨hI0, hp, w.2.1, ay0⟩, fun _ _ _ => rfl, ⟨Int32.le_refl _, rfl, rfl, rfl⟩, fun _ _ _ => rfl, fun _ _ _ => ⟨⟨rfl, rfl, rfl, rfl, rfl, rfl⟩, fun _ => rfl⟩, fun k k0 k1 => ?_, fun _ _ _ _ => rfl, fun k k0 k1 => (nl0 k0 k1).elim, fun z z0 z1 => absurd z0 (fun q => by clear w0 hI ac hv ay hE w od; grind), fun k _ k0 k1 => (nl0 k0 k1).elim, [], List.nodup_nil, fun y hy => absurd hy (List.not_mem_nil), by simp⟩
    have b := ord_in w k0 k1
    refine qv _ b.1 (show ar r0 30 k.toNatClampNeg < fi r 11 by rw [← f11]; exact b.2.1) (show ar r0 28 (ar r0 30 k.toNatClampNeg).toNatClampNeg = fi r 13 + 1 by rw [← f13]; exact b.2.2.2.1) ?_
    exact none0 _
  refine ws_cp11 hI0 ay0 od ob ole (fun L l1 l2 => ?_) (fun ad' l' r' rh' ta' N' m h => ?_) n ad l r0 rh ta N id 0 start (by decide) od.1
  · rw [f11]
    refine hE L l1 (fun y hy => ?_)
    obtain ⟨k, k0, k1, k2, k3⟩ := l2 y hy
    rw [e26] at k3
    exact ⟨(ordx y).mpr ⟨k, k0, k1, k2⟩, k3⟩
  · obtain ⟨⟨h1, h2, h3, h4⟩, h5, h6, h7, h8, h9, h10, h11, h12, h13, L, l1, l2, l3⟩ := h
    obtain ⟨k, k0, k1, k2⟩ := (ordx (rh t)).mp Rq_0
    -- the end: valueOf t
    have fin : ∀ f, GI (A0 l') (sA r' 22 f) rh' ta' N' → FS (fi r' 11) (ar r' 21) (ar r' 22) f → K (m (rh t)) (ad', l') (sA r' 22 f) := by
      intro f g1 g2
      refine hK (m (rh t)) ad' l' (sA r' 22 f) rh' ta' N' m g1 (AYc_22 g2 h4) ⟨rfl, fun x hx => ?_, fun x x0 x1 => ?_, fun w' w0' w1' => ?_, fun x y hx hy ox oy e => ?_, ?_, ?_, L, l1, fun y hy => ?_, ?_⟩
      · obtain ⟨j, j0, j1, j2⟩ := (ordx x).mp hx
        refine ⟨fun ho => ?_, fun ho => ?_⟩
        · have q := h11 j j0 j1 (by rw [j2, e26]; exact ho)
          have nm : ¬ ar r' 21 (m (ar r0 30 j.toNatClampNeg)).toNatClampNeg = -2 := by rw [q.2.1]; exact (od.2.2 j j0 j1).1.2.2
          have z0 : 0 ≤ m (ar r0 30 j.toNatClampNeg) := zo2 hI0.2.1 q.1.1
          have fz : f (m (ar r0 30 j.toNatClampNeg)).toNatClampNeg = ar r' 22 (m (ar r0 30 j.toNatClampNeg)).toNatClampNeg := g2 _ z0 q.1.2 nm
          have xr := Rq_in hI t0 t1 hx
          have ef : ar r0 22 x.toNatClampNeg = ar r 22 x.toNatClampNeg := hfs x xr.1.1 xr.1.2 xr.2.1
          rw [j2, e21, ef, e23, e25] at q
          rw [j2] at fz
          rw [f11] at q
          refine ⟨q.1, q.2.1, ?_, q.2.2.2⟩
          show f (m x).toNatClampNeg = _
          rw [fz]
          exact q.2.2.1
        · have q := h10 j j0 j1 (Or.inl (by rw [j2, e26]; exact ho))
          rw [j2] at q
          exact q
      · have q := h8 x x0 (by rw [f11]; exact x1)
        rw [e21, e23, e24, e25, e26, e27] at q
        refine ⟨q.1, fun e => ?_, h5 x x0 (by rw [f11]; exact x1)⟩
        show f x.toNatClampNeg = _
        rw [g2 x x0 (zo3 x1 (by rw [← f11]; exact h6.1)) (by rw [q.1.1]; exact e), q.2 e]
        exact hfs x x0 x1 e
      · obtain ⟨j, j0, j1, j2, j3⟩ := h12 w' (by rw [f11]; exact w0') w1'
        rw [e26] at j2
        exact ⟨_, (ordx _).mpr ⟨j, j0, j1, rfl⟩, j2, j3⟩
      · obtain ⟨j, j0, j1, j2⟩ := (ordx x).mp hx
        obtain ⟨i, i0, i1, i2⟩ := (ordx y).mp hy
        have := h13 j i j0 j1 i0 i1 (by rw [j2, e26]; exact ox) (by rw [i2, e26]; exact oy) (by rw [j2, i2]; exact e)
        rw [← j2, ← i2, this]
      · rw [← f11]; exact h6.1
      · exact h6.2.2.1.trans f15
      · obtain ⟨j, j0, j1, j2, j3⟩ := l2 y hy
        rw [e26] at j3
        exact ⟨(ordx y).mpr ⟨j, j0, j1, j2⟩, j3⟩
      · rw [← f11]; exact l3
    have ev : ar r' 29 (rh' t).toNatClampNeg = m (rh t) := by
      rw [h5 t t0 (by rw [f11]; exact t1), ← k2]
      exact h9 k k0 k1
    refine ws_valueOf (a := (ad', l')) h1 (by clear w0 hI ac hv ay hE w od; grind) (zo3 t1 (by rw [← f11]; exact h6.1)) (fun e => by rw [e] at t0; exact absurd t0 (by decide)) (fun _ f g1 g2 => ?_)
    rw [ev]
    exact fin f g1 g2
end ZCCOP
