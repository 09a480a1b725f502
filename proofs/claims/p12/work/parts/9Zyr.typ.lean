/-! The reference's typing: APPLY and LET. -/
section TYPTWO
variable {r : S_} {l ad : Nat → Nat} {rI : S_}
/-- a node with two parts, the first of which is typed -/
def HALF (ad l : Nat → Nat) (rI r r3 : S_) (n : Int32) (m1 : Nat) (S1 : List Int32) (L : List (Int32 × Nat)) (E : Nat) (v : Int32) (Rs : List Int32) : Prop := NFr r r3 (n :: S1) ∧ (∃ rh ta N, QI (ad, l) rI r3 rh ta N ∧ CGr r3 rh) ∧ fi r3 32 = 0 ∧ (TS r r3 (GC r L) Rs ∧ DG r (GC r L) (ar r3 55 (ar r 53 n.toNatClampNeg).toNatClampNeg) Rs ∧ vt r3 (ar r3 55 (ar r 53 n.toNatClampNeg).toNatClampNeg) ∧ 9 * (Rs.length + 2) ≤ (E + 2) * qt m1) ∧ (ar r3 59 n.toNatClampNeg = 1 ∧ ar r3 61 n.toNatClampNeg = fi r 31) ∧ (∀ i, i < v.toNatClampNeg → ar r3 60 i = ar r 60 i) ∧ ((fi r3 28).toInt + 2 ≤ (fi r 28).toInt + 756 * ((m1 : Int) + 1)) ∧ (fi r 31 ≤ fi r3 31 ∧ (fi r3 31).toInt ≤ (fi r 31).toInt + 756 * ((m1 : Int) + 1)) ∧ (fi r 27 ≤ fi r3 27 ∧ (fi r3 27).toInt ≤ (fi r 27).toInt + 756 * ((m1 : Int) - 1)) ∧ (fi r3 29).toInt ≤ (fi r 29).toInt + 5 * (m1 : Int)
theorem app_tail {KX : S_ → Prop} {d : Nat} (hI : INV l rI) (hX : ∀ r, Bad (ad, l) rI r → KX r) (ih : TYP ad l rI KX d) {r3 : S_} {n : Int32} {m1 m2 : Nat} {S1 S2 Rs : List Int32} {L : List (Int32 × Nat)} {E : Nat} {l0 : List Int32} {v : Int32} {f : Nat} (nk : nodeOK r n) (hk : kd r n = 2) (e51 : ar r 51 (ar r 54 n.toNatClampNeg).toNatClampNeg = n) (ns : nodeOK r (ar r 53 n.toNatClampNeg)) (sS : ar r 53 n.toNatClampNeg ∈ S1) (m1p : 1 ≤ m1) (tr : TrR r d (ar r 54 n.toNatClampNeg) m2 S2) (nd : (n :: (S1 ++ S2)).Nodup) (p : PR (ad, l) rI r L n E (m1 + m2 + 1) l0) (st : ∀ x, x ∈ n :: (S1 ++ S2) → ar r 59 x.toNatClampNeg = 0) (rd : ∀ x, RD r L x → x ∉ n :: (S1 ++ S2)) (hv : 1 ≤ v.toInt ∧ v.toInt + (m1 + m2 + 1 : Nat) ≤ 40) (hp : ar r 60 (v - 1).toNatClampNeg = n) (hc : ∀ r', PO (ad, l) rI r r' (n :: (S1 ++ S2)) (GC r L) E (m1 + m2 + 1) (ar r' 55 n.toNatClampNeg) → (∀ i, i < v.toNatClampNeg → ar r' 60 i = ar r 60 i) → ∀ F, f + 1 ≤ F → qM_typeAll_L9 (ad, l) KX F r' (v + -1)) (h : HALF ad l rI r r3 n m1 S1 L E v Rs) (F : Nat) (hF : f + 3 * m2 + 3 ≤ F) : qM_typeAll_L9 (ad, l) KX F r3 v := by
  obtain ⟨F, rfl⟩ : ∃ m, F = m + 1 := ⟨F - 1, by omega⟩
  obtain ⟨N3, ⟨rh3, ta3, N3', q3, cg3⟩, f32, ⟨T3, ty3, vs3, rn⟩, ⟨h59, h61⟩, pl3, c28, c31, c27, c29⟩ := h
  obtain ⟨m2p, tS, nt⟩ := TrR_pos d _ _ _ tr
  have hM : ML (ad, l) := q3.2.1.1
  have b28 := p.b28
  have b31 := p.b31
  have b27 := p.b27
  have b29 := p.b29
  have m24 := p.m24
  have hnum := p.num
  have qq := qt_two m1p m2p m24
  have ql := Nat.mul_le_mul_left (E + 2) qq.1
  rw [Nat.mul_add] at ql
  have hv2 := hv.2
  obtain ⟨v0, i1, i2, i3⟩ := idx hv.1 (by omega)
  have nd1 := List.nodup_cons.mp nd
  have nd2 := List.nodup_append.mp nd1.2
  have hS2 : n ∉ S2 := fun z => nd1.1 (List.mem_append.mpr (Or.inr z))
  have hS1 : n ∉ S1 := fun z => nd1.1 (List.mem_append.mpr (Or.inl z))
  have sT : ar r 53 n.toNatClampNeg ∉ S2 := fun z => nd2.2.2 _ sS _ z rfl
  have sn : ¬ ar r 53 n.toNatClampNeg = n := fun e => hS1 (by rw [← e]; exact sS)
  have tn : ¬ ar r 54 n.toNatClampNeg = n := fun e => hS2 (by rw [← e]; exact tS)
  have rd0 : ∀ x, RD r L x → x ∉ n :: S1 := fun x hx z => rd x hx (by
    rcases List.mem_cons.mp z with e | e
    · rw [e]; exact List.mem_cons_self
    · exact List.mem_cons_of_mem _ (List.mem_append.mpr (Or.inl e)))
  have rd2 : ∀ x, RD r L x → x ∉ S2 := fun x hx z => rd x hx (List.mem_cons_of_mem _ (List.mem_append.mpr (Or.inr z)))
  have n0 := nk.1.1
  have nin : ∀ x, x ∈ [n] → x ∈ n :: S1 := fun x hx => by rw [List.mem_singleton.mp hx]; exact List.mem_cons_self
  have e54_3 : ar r3 54 = ar r 54 := (tabs N3).2 54 (by decide)
  refine L9_unf hM hv.1 (by omega) f32 (by rw [pl3 _ i1]; exact hp) (vis_app1 q3 cg3 f32 ((nodeOK_eq N3).mpr nk) (by rw [kd_eq N3]; exact hk) h59 (fun r4 s4 e59 e28 => ⟨fun _ => ⟨vi v0 (by rw [ml (n := 64) hM (by decide) (by decide) rfl]; omega), fun r5 e5 => ?_⟩, fun z => absurd (by rw [e54_3]; exact nt.1.1) z⟩))
  unfold qM_typeAll_J53
  rw [e54_3] at e5
  obtain ⟨q5, g5, nf5, f5, a5, p5, p5'⟩ := pile_ok s4.1 e5
  have N5 : NFr r r5 (n :: S1) := NFr_trans N3 (NFr_trans s4.2.2.2.1 (nf5 [n]) (fun x hx => hx) (fun x hx => hx)) (fun x hx => hx) nin
  have T5 : TS r r5 (GC r L) Rs := by
    have k := TSt T3 s4.2.2.1 (fun x hx => hx.elim)
    rw [List.append_nil] at k
    exact TS_post k g5
  have c4 := s4.2.2.2.2.2
  have hG : ∀ x, GC r5 ((n, 2) :: L) x → GC r L x ∨ x ∈ Rs := fun x hx => (GC_kid N5 p.ch rd0 hx).imp id (fun z => absurd z.1 (by decide))
  have pk : PR (ad, l) rI r5 ((n, 2) :: L) (ar r 54 n.toNatClampNeg) E m2 (l0 ++ Rs) := by
    refine PR_mk p q5 (by rw [f5]; exact s4.2.1) T5 N5 rd0 ⟨by rw [(tabs N5).2 51 (by decide)]; exact e51, (nodeOK_eq N5).mpr nk, Or.inr (Or.inr ⟨rfl, by rw [kd_eq N5, hk]; decide, by rw [kd_eq N5, hk]; exact fun z => absurd z.1 (by decide)⟩), CH_NFr N5 p.ch⟩ hG (by rw [f5, c4.1]; exact c27.1) (Nat.le_refl _) (fun z => absurd z (by decide)) (fun z => absurd z (by decide)) (by omega) m2p (by omega) ?_ ?_ ?_ ?_
    · rw [f5, e28]; simp at b28; omega
    · rw [f5, c4.2.2]; have := c31.2; simp at b31; omega
    · rw [f5, c4.1]; have := c27.2; simp at b27; omega
    · rw [f5, c4.2.1]; simp at b29; omega
  refine ih r5 (ar r 54 n.toNatClampNeg) m2 S2 ((n, 2) :: L) E (l0 ++ Rs) (v + 1) (f + 1) (TrR_eq (tabs N5).1 (tabs N5).2 d _ _ _ tr) nd2.2.1 pk (fun x hx => ?_) (RD_kid N5 rd2 hS2 (fun z => absurd z (by decide))) ⟨by omega, by omega⟩ (by rw [vv1]; exact p5) (fun r6 po pl F2 hF2 => ?_) F (by omega)
  · have xn : x ∉ n :: S1 := fun h => by
      rcases List.mem_cons.mp h with e | e
      · exact hS2 (by rw [← e]; exact hx)
      · exact nd2.2.2 _ e _ hx rfl
    rw [N5.2 59 (by unfold nda; decide) x (TrR_all d _ _ _ tr x hx) xn]
    exact st x (List.mem_cons_of_mem _ (List.mem_append.mpr (Or.inr hx)))
  · rw [vv2]
    obtain ⟨F2, rfl⟩ : ∃ m, F2 = m + 1 := ⟨F2 - 1, by omega⟩
    obtain ⟨rh6, ta6, N6', q6, cg6⟩ := po.qi
    obtain ⟨Rt, rtn, ts6, ty6⟩ := po.ts
    have N6 : NFr r r6 (n :: (S1 ++ S2)) := NFr_trans N5 po.nf (fun x hx => by
      rcases List.mem_cons.mp hx with e | e
      · rw [e]; exact List.mem_cons_self
      · exact List.mem_cons_of_mem _ (List.mem_append.mpr (Or.inl e))) (fun x hx => List.mem_cons_of_mem _ (List.mem_append.mpr (Or.inr hx)))
    have pl6 : ∀ i, i < v.toNatClampNeg → ar r6 60 i = ar r 60 i := fun i hi => by
      rw [pl i (by omega), p5' i (by omega), s4.2.2.2.2.1, pl3 i hi]
    have h59' : ar r6 59 n.toNatClampNeg = 2 := by rw [po.nf.2 59 (by unfold nda; decide) n n0 hS2, a5 59 (by decide)]; exact e59
    have h53 : ar r6 53 = ar r 53 := (tabs N6).2 53 (by decide)
    have h54 : ar r6 54 = ar r 54 := (tabs N6).2 54 (by decide)
    have hs55 : ar r6 55 (ar r 53 n.toNatClampNeg).toNatClampNeg = ar r3 55 (ar r 53 n.toNatClampNeg).toNatClampNeg := by
      rw [po.nf.2 55 (by unfold nda; decide) _ ns.1.1 sT, a5 55 (by decide), s4.2.2.2.1.2 55 (by unfold nda; decide) _ ns.1.1 (fun z => sn (List.mem_singleton.mp z))]
    have vs6 : vt r6 (ar r6 55 (ar r 53 n.toNatClampNeg).toNatClampNeg) := by
      rw [hs55]
      exact vt_up ts6 ((vt_eq ((f5 28).trans e28)).mpr vs3)
    have pb28 := po.b28
    have pb31 := po.b31
    have pb27 := po.b27
    have pb29 := po.b29
    rw [f5, e28] at pb28
    rw [f5, c4.2.2] at pb31
    rw [f5, c4.1] at pb27
    rw [f5, c4.2.1] at pb29
    have hG' : ∀ x, GC r5 ((n, 2) :: L) x → DG r (GC r L) x Rs := fun x hx => (hG x hx).elim DG_G DG_R
    have T6 := TSt T5 ts6 hG'
    have ty6' := ty_up T5 hG' ty6
    refine L9_unf hM hv.1 (by omega) po.f32 (by rw [pl6 _ i1]; exact hp) (vis_app2 hI q6 cg6 po.f32 ((nodeOK_eq N6).mpr nk) (by rw [kd_eq N6]; exact hk) h59' (by simp at b28; omega) (by rw [h53]; exact ns.1.1) (by rw [h53]; exact ns.1.2) (by rw [h53]; exact sn) (by rw [h53]; exact vs6) (by rw [h54]; exact nt.1.1) (by rw [h54]; exact nt.1.2) (by rw [h54]; exact tn) (by rw [h54]; exact po.tv) (fun r7 R7 s7 r7n t7 v7 c7 => ⟨fun z => absurd z (by decide), fun _ => hc r7 ?_ (fun i hi => by rw [s7.2.2.2.2.1, pl6 i hi]) F2 (by omega)⟩) (fun r7 bad => ⟨fun z => absurd z (by decide), fun _ => fexit bad.2.2 (hX r7 bad) (by omega)⟩))
    have T7 := TSt T6 s7.2.2.1 (fun x hx => by
      rcases hx with e | e
      · rw [e, h53, hs55]
        exact DG_mono ty3 (fun y hy => List.mem_append.mpr (Or.inl hy))
      · rw [e, h54]
        exact ty6')
    have c8 := s7.2.2.2.2.2
    refine ⟨s7.1, s7.2.1, NFr_trans N6 s7.2.2.2.1 (fun x hx => hx) (fun x hx => by rw [List.mem_singleton.mp hx]; exact List.mem_cons_self), ⟨_, ?_, T7, DG_R (List.mem_append.mpr (Or.inr t7))⟩, v7, ?_, ⟨?_, ?_⟩, ⟨?_, ?_⟩, ?_⟩
    · simp only [List.length_append]
      omega
    · simp; omega
    · rw [c8.2.2]; exact Int32.le_trans c31.1 pb31.1
    · rw [c8.2.2]; have := pb31.2; have := c31.2; simp; omega
    · rw [c8.1]; exact Int32.le_trans c27.1 pb27.1
    · rw [c8.1]; have := pb27.2; have := c27.2; simp; omega
    · rw [c8.2.1]; simp; omega
end TYPTWO
