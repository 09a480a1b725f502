/-! The reference's typing: visits of inner nodes. -/
section VISIT
variable {r : S_} {rh ta : Int32 → Int32} {N : Int32} {l ad : Nat → Nat} {rI : S_}
theorem TS_mono {r' : S_} {G G' : Int32 → Prop} {R : List Int32} (s : TS r r' G' R) (h : ∀ x, G' x → G x) : TS r r' G R := ⟨s.1, s.2.1, s.2.2.1, fun D hD cD gD => s.2.2.2 D hD cD (fun x hx => gD x (h x hx))⟩
theorem pc0 (hI : INV l rI) (F : Fr FFl AAl rI r) : ar r 36 ((0 : Int32)).toNatClampNeg = 2 ∧ 1 ≤ fi r 21 := by
  have e : ((0 : Int32)).toNatClampNeg = 0 := by decide
  rw [e, F.2.1 36 (by decide), hI.2.1.1.2, F.1 21 (by decide), hI.2.1.1.1]
  exact ⟨hI.2.2.2.1.1.2.2.1, hI.1.2.2.2.1.1.1.1⟩
/-- what a visit of n comes to -/
def SR (a : L_) (rI r r' : S_) (n : Int32) (G : Int32 → Prop) (R : List Int32) : Prop := (∃ rh ta N, QI a rI r' rh ta N ∧ CGr r' rh) ∧ fi r' 32 = 0 ∧ TS r r' G R ∧ NFr r r' [n] ∧ ar r' 60 = ar r 60 ∧ (fi r' 27 = fi r 27 ∧ fi r' 29 = fi r 29 ∧ fi r' 31 = fi r 31)
/-- a node's own row is written: nothing else -/
theorem SR_row {k : Nat} {n z : Int32} {G : Int32 → Prop} (q : QI (ad, l) rI r rh ta N) (cg : CGr r rh) (f32 : fi r 32 = 0) (n0 : 0 ≤ n) (hk : nda k) : SR (ad, l) rI r (sA r k (upd (ar r k) n.toNatClampNeg z)) n G [] := by
  have hA : k ∈ ATl ∧ k ∈ AAl ∧ ¬ k = 60 ∧ ¬ k = 36 ∧ ¬ k = 62 ∧ ¬ k = 64 ∧ ¬ k = 65 ∧ ¬ k = 66 ∧ ¬ k = 67 ∧ ¬ k = 68 ∧ ¬ k = 70 ∧ ¬ k = 71 ∧ ¬ k = 75 := by
    rcases hk with e | e | e | e | e | e <;> subst e <;> decide
  have F : Fr [] [k] r (sA r k (upd (ar r k) n.toNatClampNeg z)) := Fr_sA (by simp)
  have ns : ∀ j, ¬ k = j → j ∉ [k] := fun j h z => h (List.mem_singleton.mp z).symm
  refine ⟨⟨rh, ta, N, QI_Fr q F (fun j hj => absurd hj List.not_mem_nil) (fun j hj => by rw [List.mem_singleton.mp hj]; exact hA.2.1) (by decide) ⟨ns _ hA.2.2.2.1, ns _ hA.2.2.2.2.1, ns _ hA.2.2.2.2.2.1, ns _ hA.2.2.2.2.2.2.1, ns _ hA.2.2.2.2.2.2.2.1, ns _ hA.2.2.2.2.2.2.2.2.1, ns _ hA.2.2.2.2.2.2.2.2.2.1, ns _ hA.2.2.2.2.2.2.2.2.2.2.1, ns _ hA.2.2.2.2.2.2.2.2.2.2.2.1, ns _ hA.2.2.2.2.2.2.2.2.2.2.2.2⟩, CGr_eq cg rfl (F.2.1 65 (ns _ hA.2.2.2.2.2.2.1)) (F.2.1 66 (ns _ hA.2.2.2.2.2.2.2.1)) (F.2.1 67 (ns _ hA.2.2.2.2.2.2.2.2.1))⟩, f32, TS_refl q.2.1.2.2.1.1 rfl (fun x _ => by rw [F.2.1 64 (ns _ hA.2.2.2.2.2.1), F.2.1 66 (ns _ hA.2.2.2.2.2.2.2.1), F.2.1 67 (ns _ hA.2.2.2.2.2.2.2.2.1)]; exact ⟨rfl, rfl, rfl⟩), NFr_sA hA.1 n0 (List.mem_singleton.mpr rfl), F.2.1 60 (ns _ hA.2.2.1), rfl, rfl, rfl⟩
theorem SR_trans {a : L_} {r1 r2 : S_} {n : Int32} {G G' : Int32 → Prop} {R R' : List Int32} (s : SR a rI r r1 n G R) (t : SR a rI r1 r2 n G' R') (hG : ∀ D : Int32 → Prop, (∀ x, D x → vt r x) → Cld r D → (∀ x, G x → D x) → ∀ x, G' x → D x ∨ x ∈ R) : SR a rI r r2 n G (R ++ R') := by
  obtain ⟨_, _, s3, s4, s5, s6⟩ := s
  obtain ⟨t1, t2, t3, t4, t5, t6⟩ := t
  exact ⟨t1, t2, TS_trans s3 t3 hG, NFr_trans s4 t4 (fun x hx => hx) (fun x hx => hx), t5.trans s5, t6.1.trans s6.1, t6.2.1.trans s6.2.1, t6.2.2.trans s6.2.2⟩
theorem SR_new {r' : S_} {n h x y : Int32} (q : QI (ad, l) rI r rh ta N) (cg : CGr r rh) (f32 : fi r 32 = 0) (hN : NT r r' h x y) (tl : (fi r 28).toInt < 20000) (h1 : -1 ≤ h ∧ h < fi r 21) (hx : x = -1 ∨ vt r x) (hy : y = -1 ∨ vt r y) (hn : h < 0 → x = -1 ∧ y = -1) (hp : 0 ≤ h → (0 ≤ x ↔ 0 < ar r 36 h.toNatClampNeg) ∧ (0 ≤ y ↔ 1 < ar r 36 h.toNatClampNeg)) : SR (ad, l) rI r r' n (fun u => (u = x ∨ u = y) ∧ 0 ≤ u) [fi r 28] ∧ vt r' (fi r 28) ∧ (fi r' 28).toInt = (fi r 28).toInt + 1 ∧ Fr [28] [64, 65, 66, 67, 68, 70, 71] r r' := by
  obtain ⟨k1, k2, k3, k4, k5⟩ := nt_step q cg hN tl h1 hx hy hn hp
  exact ⟨⟨k1, by rw [k5.1 32 (by decide)]; exact f32, k2, NFr_of k5 (by decide) (by unfold nda; decide) [n], k5.2.1 60 (by decide), k5.1 27 (by decide), k5.1 29 (by decide), k5.1 31 (by decide)⟩, k3, k4, k5⟩
theorem vis_lam0 {n : Int32} (hI : INV l rI) (q : QI (ad, l) rI r rh ta N) (cg : CGr r rh) (f32 : fi r 32 = 0) (nk : nodeOK r n) (hk : kd r n = 1) (hs : ar r 59 n.toNatClampNeg = 0) (tl : (fi r 28).toInt < 20000) {K : Int32 → S_ → Prop} (hK : ∀ r', SR (ad, l) rI r r' n (fun _ => False) [fi r 28] → vt r' (fi r 28) → ar r' 56 n.toNatClampNeg = fi r 28 → ar r' 59 n.toNatClampNeg = 1 → (fi r' 28).toInt = (fi r 28).toInt + 1 → K (ar r 53 n.toNatClampNeg) r') : qM_visit (ad, l) K r n := by
  have hM : ML (ad, l) := q.2.1.1
  have n0 := nk.1.1
  unfold qM_visit
  refine kindOf_ok hM nk ⟨nd25 hM nk (by decide) (by decide) rfl, nd25 hM nk (by decide) (by decide) rfl, fun r4 e4 => ?_⟩
  have k0 : ¬ kd r n = 0 := by rw [hk]; decide
  have k4 : ¬ kd r n = 4 := by rw [hk]; decide
  have k5 : ¬ kd r n = 5 := by rw [hk]; decide
  refine ⟨fun _ => ⟨fun _ => ⟨fun _ => ⟨fun z => absurd hk z, fun _ => ⟨fun z => absurd hs z, fun _ => ?_⟩⟩, fun z => absurd z k5⟩, fun z => absurd z k4⟩, fun z => absurd z k0⟩
  have s4 := SR_row (G := fun _ => False) (k := 59) (z := ar r 59 n.toNatClampNeg + 1) q cg f32 n0 (by unfold nda; decide)
  rw [← e4] at s4
  obtain ⟨rh4, ta4, N4, q4, cg4⟩ := s4.1
  have f4 : ∀ k, fi r4 k = fi r k := fun k => by rw [e4]; rfl
  have a4 : ∀ k, ¬ k = 59 → ar r4 k = ar r k := fun k hk => by rw [e4, ar_sA, if_neg hk]
  have st4 : ar r4 59 n.toNatClampNeg = 1 := by rw [e4, ar_sA, if_pos rfl, pk_us, hs]; rfl
  unfold qM_fresh
  refine newTerm_ok hM q4.2.1.2.2.1.1 (by rw [f4]; omega) (fun r44 hN => ⟨nd25 hM nk (by decide) (by decide) rfl, fun r46 e46 => ⟨nd25 hM nk (by decide) (by decide) rfl, ?_⟩⟩)
  have p21 := (pc0 hI q4.1).2
  obtain ⟨m1, m2, m3, m4⟩ := SR_new (n := n) q4 cg4 s4.2.1 hN (by rw [f4]; exact tl) ⟨by decide, by rw [il] at p21; rw [it]; simp at p21 ⊢; omega⟩ (Or.inl rfl) (Or.inl rfl) (fun _ => ⟨rfl, rfl⟩) (fun z => absurd z (by decide))
  obtain ⟨rh5, ta5, N5, q5, cg5⟩ := m1.1
  have s6 := SR_row (G := fun _ => False) (k := 56) (z := fi r4 28) q5 cg5 m1.2.1 n0 (by unfold nda; decide)
  rw [← e46] at s6
  have t1 := SR_trans s4 (SR_trans m1 s6 (fun D _ _ _ x hx => hx.elim)) (fun D _ _ _ x hx => by
    exfalso
    obtain ⟨e, h0⟩ := hx
    rcases e with e | e <;> rw [e] at h0 <;> exact absurd h0 (by decide))
  have e53 : ar r46 53 = ar r 53 := by
    have e : ar r46 53 = ar r44 53 := by rw [e46]; rfl
    rw [e, m4.2.1 53 (by decide), a4 53 (by decide)]
  rw [e53]
  refine hK r46 (by rw [f4] at t1; simpa using t1) ?_ ?_ ?_ ?_
  · have e : fi r46 28 = fi r44 28 := by rw [e46]; rfl
    rw [f4] at m2
    exact (vt_eq e).mpr m2
  · rw [e46, ar_sA, if_pos rfl, pk_us, f4]
  · have e : ar r46 59 = ar r44 59 := by rw [e46]; rfl
    rw [e, m4.2.1 59 (by decide)]
    exact st4
  · have e : fi r46 28 = fi r44 28 := by rw [e46]; rfl
    rw [e, m3, f4]
theorem vis_lam1 {n : Int32} (hI : INV l rI) (q : QI (ad, l) rI r rh ta N) (cg : CGr r rh) (f32 : fi r 32 = 0) (nk : nodeOK r n) (hk : kd r n = 1) (hs : ¬ ar r 59 n.toNatClampNeg = 0) (tl : (fi r 28).toInt < 20000) (v1 : vt r (ar r 56 n.toNatClampNeg)) (s0 : 0 ≤ ar r 53 n.toNatClampNeg) (s1 : ar r 53 n.toNatClampNeg < 25) (v2 : vt r (ar r 55 (ar r 53 n.toNatClampNeg).toNatClampNeg)) {K : Int32 → S_ → Prop} (hK : ∀ r', SR (ad, l) rI r r' n (fun u => u = ar r 56 n.toNatClampNeg ∨ u = ar r 55 (ar r 53 n.toNatClampNeg).toNatClampNeg) [fi r 28] → vt r' (fi r 28) → ar r' 55 n.toNatClampNeg = fi r 28 → (fi r' 28).toInt = (fi r 28).toInt + 1 → K (-1) r') : qM_visit (ad, l) K r n := by
  have hM : ML (ad, l) := q.2.1.1
  have n0 := nk.1.1
  unfold qM_visit
  refine kindOf_ok hM nk ⟨nd25 hM nk (by decide) (by decide) rfl, nd25 hM nk (by decide) (by decide) rfl, fun r4 e4 => ?_⟩
  have k0 : ¬ kd r n = 0 := by rw [hk]; decide
  have k4 : ¬ kd r n = 4 := by rw [hk]; decide
  have k5 : ¬ kd r n = 5 := by rw [hk]; decide
  refine ⟨fun _ => ⟨fun _ => ⟨fun _ => ⟨fun z => absurd hk z, fun _ => ⟨fun _ => ?_, fun z => absurd z hs⟩⟩, fun z => absurd z k5⟩, fun z => absurd z k4⟩, fun z => absurd z k0⟩
  have s4 := SR_row (G := fun u => u = ar r 56 n.toNatClampNeg ∨ u = ar r 55 (ar r 53 n.toNatClampNeg).toNatClampNeg) (k := 59) (z := ar r 59 n.toNatClampNeg + 1) q cg f32 n0 (by unfold nda; decide)
  rw [← e4] at s4
  obtain ⟨rh4, ta4, N4, q4, cg4⟩ := s4.1
  have f4 : ∀ k, fi r4 k = fi r k := fun k => by rw [e4]; rfl
  have a4 : ∀ k, ¬ k = 59 → ar r4 k = ar r k := fun k hk => by rw [e4, ar_sA, if_neg hk]
  have v4 : ∀ x, vt r4 x ↔ vt r x := fun x => vt_eq (f4 28)
  unfold qM_visit_J194 qM_arrow
  rw [a4 56 (by decide), a4 55 (by decide), a4 53 (by decide)]
  refine ⟨fun z => absurd hk z, fun _ => ⟨nd25 hM nk (by decide) (by decide) rfl, nd25 hM nk (by decide) (by decide) rfl, vi2 s0 s1 (by rw [ml (n := 25) hM (by decide) (by decide) rfl]; decide), newTerm_ok hM q4.2.1.2.2.1.1 (by rw [f4]; omega) (fun r39 hN => ⟨nd25 hM nk (by decide) (by decide) rfl, fun r41 e41 => ?_⟩)⟩⟩
  have pp := pc0 hI q4.1
  have p21 := pp.2
  obtain ⟨m1, m2, m3, m4⟩ := SR_new (n := n) q4 cg4 s4.2.1 hN (by rw [f4]; exact tl) ⟨by decide, by rw [il] at p21; rw [it]; simp at p21 ⊢; omega⟩ (Or.inr ((v4 _).mpr v1)) (Or.inr ((v4 _).mpr v2)) (fun z => absurd z (by decide)) (fun _ => by rw [pp.1]; exact ⟨⟨fun _ => by decide, fun _ => v1.1⟩, ⟨fun _ => by decide, fun _ => v2.1⟩⟩)
  obtain ⟨rh5, ta5, N5, q5, cg5⟩ := m1.1
  have s6 := SR_row (G := fun _ => False) (k := 55) (z := fi r4 28) q5 cg5 m1.2.1 n0 (by unfold nda; decide)
  rw [← e41] at s6
  have t1 := SR_trans s4 (SR_trans m1 s6 (fun D _ _ _ x hx => hx.elim)) (fun D _ _ gD x hx => Or.inl (gD x hx.1))
  have e28 : fi r41 28 = fi r39 28 := by rw [e41]; rfl
  refine hK r41 (by rw [f4] at t1; simpa using t1) ?_ ?_ ?_
  · rw [f4] at m2
    exact (vt_eq e28).mpr m2
  · rw [e41, ar_sA, if_pos rfl, pk_us, f4]
  · rw [e28, m3, f4]
theorem vis_two0 {n : Int32} (q : QI (ad, l) rI r rh ta N) (cg : CGr r rh) (f32 : fi r 32 = 0) (nk : nodeOK r n) (hk : kd r n = 2 ∨ kd r n = 3) (hs : ar r 59 n.toNatClampNeg = 0) {K : Int32 → S_ → Prop} (hK : ∀ r', SR (ad, l) rI r r' n (fun _ => False) [] → ar r' 61 n.toNatClampNeg = fi r 31 → ar r' 59 n.toNatClampNeg = 1 → fi r' 28 = fi r 28 → K (ar r 53 n.toNatClampNeg) r') : qM_visit (ad, l) K r n := by
  have hM : ML (ad, l) := q.2.1.1
  have n0 := nk.1.1
  unfold qM_visit
  refine kindOf_ok hM nk ⟨nd25 hM nk (by decide) (by decide) rfl, nd25 hM nk (by decide) (by decide) rfl, fun r4 e4 => ?_⟩
  have k0 : ¬ kd r n = 0 := by rcases hk with h | h <;> rw [h] <;> decide
  have k1 : ¬ kd r n = 1 := by rcases hk with h | h <;> rw [h] <;> decide
  have k4 : ¬ kd r n = 4 := by rcases hk with h | h <;> rw [h] <;> decide
  have k5 : ¬ kd r n = 5 := by rcases hk with h | h <;> rw [h] <;> decide
  refine ⟨fun _ => ⟨fun _ => ⟨fun _ => ⟨fun _ => ?_, fun z => absurd z k1⟩, fun z => absurd z k5⟩, fun z => absurd z k4⟩, fun z => absurd z k0⟩
  have s4 := SR_row (G := fun _ => False) (k := 59) (z := ar r 59 n.toNatClampNeg + 1) q cg f32 n0 (by unfold nda; decide)
  rw [← e4] at s4
  obtain ⟨rh4, ta4, N4, q4, cg4⟩ := s4.1
  unfold qM_visit_J194
  refine ⟨fun _ => ⟨fun z => absurd hs z, fun _ => ⟨nd25 hM nk (by decide) (by decide) rfl, fun r33 e33 => ⟨nd25 hM nk (by decide) (by decide) rfl, ?_⟩⟩⟩, fun z => absurd z k1⟩
  have s6 := SR_row (G := fun _ => False) (k := 61) (z := fi r4 31) q4 cg4 s4.2.1 n0 (by unfold nda; decide)
  rw [← e33] at s6
  have t1 := SR_trans s4 s6 (fun D _ _ _ x hx => hx.elim)
  have e53 : ar r33 53 = ar r 53 := by rw [e33, e4]; rfl
  rw [e53]
  refine hK r33 t1 ?_ ?_ ?_
  · rw [e33, ar_sA, if_pos rfl, pk_us, e4]; rfl
  · have e : ar r33 59 = ar r4 59 := by rw [e33]; rfl
    rw [e, e4, ar_sA, if_pos rfl, pk_us, hs]; rfl
  · rw [e33, e4]; rfl
theorem vis_app1 {n : Int32} (q : QI (ad, l) rI r rh ta N) (cg : CGr r rh) (f32 : fi r 32 = 0) (nk : nodeOK r n) (hk : kd r n = 2) (hs : ar r 59 n.toNatClampNeg = 1) {K : Int32 → S_ → Prop} (hK : ∀ r', SR (ad, l) rI r r' n (fun _ => False) [] → ar r' 59 n.toNatClampNeg = 2 → fi r' 28 = fi r 28 → K (ar r 54 n.toNatClampNeg) r') : qM_visit (ad, l) K r n := by
  have hM : ML (ad, l) := q.2.1.1
  have n0 := nk.1.1
  unfold qM_visit
  refine kindOf_ok hM nk ⟨nd25 hM nk (by decide) (by decide) rfl, nd25 hM nk (by decide) (by decide) rfl, fun r4 e4 => ?_⟩
  have k0 : ¬ kd r n = 0 := by rw [hk]; decide
  have k1 : ¬ kd r n = 1 := by rw [hk]; decide
  have k3 : ¬ kd r n = 3 := by rw [hk]; decide
  have k4 : ¬ kd r n = 4 := by rw [hk]; decide
  have k5 : ¬ kd r n = 5 := by rw [hk]; decide
  have s0 : ¬ ar r 59 n.toNatClampNeg = 0 := by rw [hs]; decide
  refine ⟨fun _ => ⟨fun _ => ⟨fun _ => ⟨fun _ => ?_, fun z => absurd z k1⟩, fun z => absurd z k5⟩, fun z => absurd z k4⟩, fun z => absurd z k0⟩
  have s4 := SR_row (G := fun _ => False) (k := 59) (z := ar r 59 n.toNatClampNeg + 1) q cg f32 n0 (by unfold nda; decide)
  rw [← e4] at s4
  unfold qM_visit_J194 qM_visit_J265
  have e54 : ar r4 54 = ar r 54 := by rw [e4]; rfl
  rw [e54]
  refine ⟨fun _ => ⟨fun _ => ⟨fun z => absurd hs z, fun _ => ⟨fun _ => ⟨nd25 hM nk (by decide) (by decide) rfl, hK r4 s4 ?_ ?_⟩, fun z => absurd z k3⟩⟩, fun z => absurd z s0⟩, fun z => absurd z k1⟩
  · rw [e4, ar_sA, if_pos rfl, pk_us, hs]; rfl
  · rw [e4]; rfl
theorem vis_let2 {n : Int32} (q : QI (ad, l) rI r rh ta N) (cg : CGr r rh) (f32 : fi r 32 = 0) (nk : nodeOK r n) (hk : kd r n = 3) (hs : ar r 59 n.toNatClampNeg = 2) (t0 : 0 ≤ ar r 54 n.toNatClampNeg) (t1 : ar r 54 n.toNatClampNeg < 25) {K : Int32 → S_ → Prop} (hK : ∀ r', SR (ad, l) rI r r' n (fun _ => False) [] → ar r' 55 n.toNatClampNeg = ar r 55 (ar r 54 n.toNatClampNeg).toNatClampNeg → fi r' 28 = fi r 28 → K (-1) r') : qM_visit (ad, l) K r n := by
  have hM : ML (ad, l) := q.2.1.1
  have n0 := nk.1.1
  unfold qM_visit
  refine kindOf_ok hM nk ⟨nd25 hM nk (by decide) (by decide) rfl, nd25 hM nk (by decide) (by decide) rfl, fun r4 e4 => ?_⟩
  have k0 : ¬ kd r n = 0 := by rw [hk]; decide
  have k1 : ¬ kd r n = 1 := by rw [hk]; decide
  have k2 : ¬ kd r n = 2 := by rw [hk]; decide
  have k4 : ¬ kd r n = 4 := by rw [hk]; decide
  have k5 : ¬ kd r n = 5 := by rw [hk]; decide
  have s0 : ¬ ar r 59 n.toNatClampNeg = 0 := by rw [hs]; decide
  have s1 : ¬ ar r 59 n.toNatClampNeg = 1 := by rw [hs]; decide
  refine ⟨fun _ => ⟨fun _ => ⟨fun _ => ⟨fun _ => ?_, fun z => absurd z k1⟩, fun z => absurd z k5⟩, fun z => absurd z k4⟩, fun z => absurd z k0⟩
  have s4 := SR_row (G := fun _ => False) (k := 59) (z := ar r 59 n.toNatClampNeg + 1) q cg f32 n0 (by unfold nda; decide)
  rw [← e4] at s4
  obtain ⟨rh4, ta4, N4, q4, cg4⟩ := s4.1
  unfold qM_visit_J194
  have e54 : ar r4 54 = ar r 54 := by rw [e4]; rfl
  have e55 : ar r4 55 = ar r 55 := by rw [e4]; rfl
  rw [e54]
  refine ⟨fun _ => ⟨fun _ => ⟨fun _ => ⟨fun _ => ⟨nd25 hM nk (by decide) (by decide) rfl, vi2 t0 t1 (by rw [ml (n := 25) hM (by decide) (by decide) rfl]; decide), nd25 hM nk (by decide) (by decide) rfl, fun r16 e16 => ?_⟩, fun z => absurd z k2⟩, fun z => absurd z s1⟩, fun z => absurd z s0⟩, fun z => absurd z k1⟩
  have s6 := SR_row (G := fun _ => False) (k := 55) (z := ar r4 55 (ar r 54 n.toNatClampNeg).toNatClampNeg) q4 cg4 s4.2.1 n0 (by unfold nda; decide)
  rw [← e16] at s6
  have tt := SR_trans s4 s6 (fun D _ _ _ x hx => hx.elim)
  refine hK r16 tt ?_ ?_
  · rw [e16, ar_sA, if_pos rfl, pk_us, e55]
  · rw [e16, e4]; rfl
theorem vis_app2 {n : Int32} (hI : INV l rI) (q : QI (ad, l) rI r rh ta N) (cg : CGr r rh) (f32 : fi r 32 = 0) (nk : nodeOK r n) (hk : kd r n = 2) (hs : ar r 59 n.toNatClampNeg = 2) (tl : (fi r 28).toInt + 2 ≤ 20000) (s0 : 0 ≤ ar r 53 n.toNatClampNeg) (s1 : ar r 53 n.toNatClampNeg < 25) (sn : ¬ ar r 53 n.toNatClampNeg = n) (v1 : vt r (ar r 55 (ar r 53 n.toNatClampNeg).toNatClampNeg)) (t0 : 0 ≤ ar r 54 n.toNatClampNeg) (t1 : ar r 54 n.toNatClampNeg < 25) (tn : ¬ ar r 54 n.toNatClampNeg = n) (v2 : vt r (ar r 55 (ar r 54 n.toNatClampNeg).toNatClampNeg)) {K : Int32 → S_ → Prop} (hK : ∀ r' R, SR (ad, l) rI r r' n (fun u => u = ar r 55 (ar r 53 n.toNatClampNeg).toNatClampNeg ∨ u = ar r 55 (ar r 54 n.toNatClampNeg).toNatClampNeg) R → R.length ≤ 2 → ar r' 55 n.toNatClampNeg ∈ R → vt r' (ar r' 55 n.toNatClampNeg) → (fi r' 28).toInt ≤ (fi r 28).toInt + 2 → K (-1) r') (hB : ∀ r', Bad (ad, l) rI r' → K (-1) r') : qM_visit (ad, l) K r n := by
  have hM : ML (ad, l) := q.2.1.1
  have n0 := nk.1.1
  unfold qM_visit
  refine kindOf_ok hM nk ⟨nd25 hM nk (by decide) (by decide) rfl, nd25 hM nk (by decide) (by decide) rfl, fun r4 e4 => ?_⟩
  have k0 : ¬ kd r n = 0 := by rw [hk]; decide
  have k1 : ¬ kd r n = 1 := by rw [hk]; decide
  have k4 : ¬ kd r n = 4 := by rw [hk]; decide
  have k5 : ¬ kd r n = 5 := by rw [hk]; decide
  have h0 : ¬ ar r 59 n.toNatClampNeg = 0 := by rw [hs]; decide
  have h1 : ¬ ar r 59 n.toNatClampNeg = 1 := by rw [hs]; decide
  refine ⟨fun _ => ⟨fun _ => ⟨fun _ => ⟨fun _ => ?_, fun z => absurd z k1⟩, fun z => absurd z k5⟩, fun z => absurd z k4⟩, fun z => absurd z k0⟩
  have s4 := SR_row (G := fun u => u = ar r 55 (ar r 53 n.toNatClampNeg).toNatClampNeg ∨ u = ar r 55 (ar r 54 n.toNatClampNeg).toNatClampNeg) (k := 59) (z := ar r 59 n.toNatClampNeg + 1) q cg f32 n0 (by unfold nda; decide)
  rw [← e4] at s4
  obtain ⟨rh4, ta4, N4, q4, cg4⟩ := s4.1
  have f4 : ∀ k, fi r4 k = fi r k := fun k => by rw [e4]; rfl
  have a4 : ∀ k, ¬ k = 59 → ar r4 k = ar r k := fun k hk => by rw [e4, ar_sA, if_neg hk]
  have i25 : ∀ x : Int32, 0 ≤ x → x < 25 → ∀ k, 36 ≤ k → k < 89 → ln0 k = 25 → vp_in x (ln (ad, l) k) := fun x x0 x1 k k1 k2 k3 => vi2 x0 x1 (by rw [ml hM k1 k2 k3]; decide)
  have p4 := pc0 hI q4.1
  have p21 := p4.2
  unfold qM_visit_J194 qM_fresh
  refine ⟨fun _ => ⟨fun _ => ⟨fun _ => ⟨fun z => absurd hk z, fun _ => newTerm_ok hM q4.2.1.2.2.1.1 (by rw [f4]; omega) (fun r18 hN => ⟨nd25 hM nk (by decide) (by decide) rfl, fun r20 e20 => ?_⟩)⟩, fun z => absurd z h1⟩, fun z => absurd z h0⟩, fun z => absurd z k1⟩
  obtain ⟨m1, m2, m3, m4⟩ := SR_new (n := n) q4 cg4 s4.2.1 hN (by rw [f4]; omega) ⟨by decide, by rw [il] at p21; rw [it]; simp at p21 ⊢; omega⟩ (Or.inl rfl) (Or.inl rfl) (fun _ => ⟨rfl, rfl⟩) (fun z => absurd z (by decide))
  obtain ⟨rh5, ta5, N5, q5, cg5⟩ := m1.1
  have s6 := SR_row (G := fun _ => False) (k := 55) (z := fi r4 28) q5 cg5 m1.2.1 n0 (by unfold nda; decide)
  rw [← e20] at s6
  obtain ⟨rh6, ta6, N6, q6, cg6⟩ := s6.1
  have t20 := SR_trans s4 (SR_trans m1 s6 (fun D _ _ _ x hx => hx.elim)) (fun D _ _ _ x hx => by
    exfalso
    obtain ⟨e, h0⟩ := hx
    rcases e with e | e <;> rw [e] at h0 <;> exact absurd h0 (by decide))
  have f20 : ∀ k, fi r20 k = fi r18 k := fun k => by rw [e20]; rfl
  have a20 : ∀ k, ¬ k = 55 → ar r20 k = ar r18 k := fun k hk => by rw [e20, ar_sA, if_neg hk]
  have e53 : ar r20 53 = ar r 53 := by rw [a20 53 (by decide), m4.2.1 53 (by decide), a4 53 (by decide)]
  have e54 : ar r20 54 = ar r 54 := by rw [a20 54 (by decide), m4.2.1 54 (by decide), a4 54 (by decide)]
  have e55 : ∀ x : Int32, 0 ≤ x → ¬ x = n → ar r20 55 x.toNatClampNeg = ar r 55 x.toNatClampNeg := fun x x0 xn => by
    rw [e20, ar_sA, if_pos rfl, updI _ _ n0 x0, if_neg xn, m4.2.1 55 (by decide), a4 55 (by decide)]
  have e55n : ar r20 55 n.toNatClampNeg = fi r 28 := by rw [e20, ar_sA, if_pos rfl, pk_us, f4]
  rw [e53, e54, e55 _ s0 sn, e55 _ t0 tn, e55n]
  have vu : ∀ x, vt r x → vt r20 x := fun x hx => vt_up t20.2.2.1 hx
  have vT : vt r20 (fi r 28) := by
    rw [f4] at m2
    exact (vt_eq (f20 28)).mpr m2
  have t28 : (fi r20 28).toInt = (fi r 28).toInt + 1 := by rw [f20, m3, f4]
  have p20 := pc0 hI q6.1
  have p21' := p20.2
  unfold qM_arrow
  refine ⟨nd25 hM nk (by decide) (by decide) rfl, i25 _ s0 s1 55 (by decide) (by decide) rfl, nd25 hM nk (by decide) (by decide) rfl, i25 _ t0 t1 55 (by decide) (by decide) rfl, nd25 hM nk (by decide) (by decide) rfl, newTerm_ok hM q6.2.1.2.2.1.1 (by omega) (fun r27 hN2 => ?_)⟩
  obtain ⟨w1, w2, w3, w4⟩ := SR_new (n := n) q6 cg6 s6.2.1 hN2 (by omega) ⟨by decide, by rw [il] at p21'; rw [it]; simp at p21' ⊢; omega⟩ (Or.inr (vu _ v2)) (Or.inr vT) (fun z => absurd z (by decide)) (fun _ => by rw [p20.1]; exact ⟨⟨fun _ => by decide, fun _ => v2.1⟩, ⟨fun _ => by decide, fun _ => vT.1⟩⟩)
  obtain ⟨rh7, ta7, N7, q7, cg7⟩ := w1.1
  have t27 := SR_trans t20 w1 (fun D _ _ gD x hx => by
    rcases hx.1 with e | e
    · exact Or.inl (gD x (Or.inr e))
    · right
      rw [e, f4]
      simp)
  have v1' := vt_up t27.2.2.1 v1
  refine runify_ok q7.2.1 (fun _ => cg7) v1'.1 v1'.2 w2.1 w2.2 (fun r28 u28 => ?_)
  obtain ⟨⟨rh8, ta8, N8, q8, cg8⟩, u2, u3, u4⟩ := up_step q7 u28
  by_cases hf : fi r28 32 = 0
  · have s8 : SR (ad, l) rI r27 r28 n (fun x => x = ar r 55 (ar r 53 n.toNatClampNeg).toNatClampNeg ∨ x = fi r20 28) [] := ⟨⟨rh8, ta8, N8, q8, cg8 hf⟩, hf, u2, NFr_of u4 (by decide) (by unfold nda; decide) [n], u4.2.1 60 (by decide), u4.1 27 (by decide), u4.1 29 (by decide), u4.1 31 (by decide)⟩
    have t28' := SR_trans t27 s8 (fun D _ _ gD x hx => by
      rcases hx with e | e
      · exact Or.inl (gD x (Or.inl e))
      · right
        rw [e]
        simp)
    have e28n : ar r28 55 n.toNatClampNeg = fi r 28 := by rw [u4.2.1 55 (by decide), w4.2.1 55 (by decide)]; exact e55n
    refine hK r28 _ t28' (by simp) ?_ ?_ ?_
    · rw [e28n, f4]
      simp
    · rw [e28n]
      exact vt_up u2 (vt_up w1.2.2.1 vT)
    · rw [u3, w3, t28]
      omega
  · exact hB r28 ⟨⟨rh8, ta8, N8, q8.2.1⟩, q8.1, hf⟩
end VISIT
