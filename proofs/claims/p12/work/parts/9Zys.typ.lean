/-! The reference's typing: LET, and all. -/
section TYPLET
variable {r : S_} {l ad : Nat → Nat} {rI : S_}
theorem let_tail {KX : S_ → Prop} {d : Nat} (hI : INV l rI) (hX : ∀ r, Bad (ad, l) rI r → KX r) (ih : TYP ad l rI KX d) {r3 : S_} {n : Int32} {m1 m2 : Nat} {S1 S2 Rs : List Int32} {L : List (Int32 × Nat)} {E : Nat} {l0 : List Int32} {v : Int32} {f : Nat} (nk : nodeOK r n) (hk : kd r n = 3) (e51 : ar r 51 (ar r 54 n.toNatClampNeg).toNatClampNeg = n) (e52 : ar r 52 (ar r 54 n.toNatClampNeg).toNatClampNeg = 1) (ns : nodeOK r (ar r 53 n.toNatClampNeg)) (sS : ar r 53 n.toNatClampNeg ∈ S1) (m1p : 1 ≤ m1) (tr : TrR r d (ar r 54 n.toNatClampNeg) m2 S2) (nd : (n :: (S1 ++ S2)).Nodup) (p : PR (ad, l) rI r L n E (m1 + m2 + 1) l0) (st : ∀ x, x ∈ n :: (S1 ++ S2) → ar r 59 x.toNatClampNeg = 0) (rd : ∀ x, RD r L x → x ∉ n :: (S1 ++ S2)) (hv : 1 ≤ v.toInt ∧ v.toInt + (m1 + m2 + 1 : Nat) ≤ 40) (hp : ar r 60 (v - 1).toNatClampNeg = n) (hc : ∀ r', PO (ad, l) rI r r' (n :: (S1 ++ S2)) (GC r L) E (m1 + m2 + 1) (ar r' 55 n.toNatClampNeg) → (∀ i, i < v.toNatClampNeg → ar r' 60 i = ar r 60 i) → ∀ F, f + 1 ≤ F → qM_typeAll_L9 (ad, l) KX F r' (v + -1)) (h : HALF ad l rI r r3 n m1 S1 L E v Rs) (F : Nat) (hF : f + 3 * m2 + 3 ≤ F) : qM_typeAll_L9 (ad, l) KX F r3 v := by
  obtain ⟨F, rfl⟩ : ∃ m, F = m + 1 := ⟨F - 1, by omega⟩
  obtain ⟨N3, ⟨rh3, ta3, N3', q3, cg3⟩, f32, ⟨T3, ty3, vs3, rn⟩, ⟨h59, h61⟩, pl3, c28, c31, c27, c29⟩ := h
  obtain ⟨m2p, tS, nt⟩ := TrR_pos d _ _ _ tr
  obtain ⟨rh0, ta0, N0', q0, cg0⟩ := p.qi
  have hM : ML (ad, l) := q3.2.1.1
  have b28 := p.b28
  have b31 := p.b31
  have b27 := p.b27
  have b29 := p.b29
  have m24 := p.m24
  have hnum := p.num
  have e16 := p.e16
  have qq := qt_two m1p m2p m24
  have qr := qt_rng m2p (by omega)
  have ql := Nat.mul_le_mul_left (E + 2) qq.1
  rw [Nat.mul_add] at ql
  have hv2 := hv.2
  obtain ⟨v0, i1, i2, i3⟩ := idx hv.1 (by omega)
  have nd1 := List.nodup_cons.mp nd
  have nd2 := List.nodup_append.mp nd1.2
  have hS2 : n ∉ S2 := fun z => nd1.1 (List.mem_append.mpr (Or.inr z))
  have hS1 : n ∉ S1 := fun z => nd1.1 (List.mem_append.mpr (Or.inl z))
  have sT : ar r 53 n.toNatClampNeg ∉ S2 := fun z => nd2.2.2 _ sS _ z rfl
  have sn : ¬ ar r 53 n.toNatClampNeg = n := fun e => hS1 (by rw [← e]; exact sS)
  have rd0 : ∀ x, RD r L x → x ∉ n :: S1 := fun x hx z => rd x hx (by
    rcases List.mem_cons.mp z with e | e
    · rw [e]; exact List.mem_cons_self
    · exact List.mem_cons_of_mem _ (List.mem_append.mpr (Or.inl e)))
  have rd2 : ∀ x, RD r L x → x ∉ S2 := fun x hx z => rd x hx (List.mem_cons_of_mem _ (List.mem_append.mpr (Or.inr z)))
  have n0 := nk.1.1
  have nin : ∀ x, x ∈ [n] → x ∈ n :: S1 := fun x hx => by rw [List.mem_singleton.mp hx]; exact List.mem_cons_self
  have e53_3 : ar r3 53 = ar r 53 := (tabs N3).2 53 (by decide)
  have e54_3 : ar r3 54 = ar r 54 := (tabs N3).2 54 (by decide)
  have hg : ∀ x, GC r L x → vt r x := fun x hx => p.lv x (p.lg x hx)
  have gc3 : ∀ x, GC r3 L x → GC r L x := fun x ⟨y, y1, y2⟩ => ⟨y, y1, by rw [y2, N3.2 56 (by unfold nda; decide) y (CH_pos L n p.ch y 0 y1).1.1 (rd0 y ⟨y, 0, y1, Or.inl rfl⟩)]⟩
  -- the set that holds what is around and what is typed
  have cl3 : Cld r3 (fun x => x ∈ l0 ++ Rs) := Cld_congr (fun x => List.mem_append.symm) (T3.2.2.2 (fun x => x ∈ l0) p.lv p.cl p.lg).1
  have t3 : ar r3 55 (ar r 53 n.toNatClampNeg).toNatClampNeg ∈ l0 ++ Rs := List.mem_append.mpr (ty3 (fun x => x ∈ l0) p.lv p.cl p.lg)
  have q31 := q0.2.2.2.1.1
  refine L9_unf hM hv.1 (by omega) f32 (by rw [pl3 _ i1]; exact hp) (vis_let1 (L := L) (l0 := l0 ++ Rs) hI q3 cg3 ((nodeOK_eq N3).mpr nk) (by rw [kd_eq N3]; exact hk) h59 (CH_NFr N3 p.ch) (by rw [h61]; exact q31.1) (by rw [h61]; exact c31.1) (by rw [h61]; simp at b31; omega) (by have := c27.2; simp at b27; omega) (by simp at b29; omega) (fun y hy => by rw [N3.2 56 (by unfold nda; decide) y (CH_pos L n p.ch y 0 hy).1.1 (rd0 y ⟨y, 0, hy, Or.inl rfl⟩)]; exact vt_up T3 (CX_vt L p.cx y hy)) (by rw [e53_3]; exact ns.1.1) (by rw [e53_3]; exact ns.1.2) (by rw [e53_3]; exact vs3) cl3 (fun x hx => List.mem_append.mpr (Or.inl (p.lg x (gc3 x hx)))) (by rw [e53_3]; exact t3) (by rw [List.length_append]; omega) (fun r4 q4 f4_32 g4 N4 e60 e59 w31 w27 w29 e57 e58 => ⟨fun _ => ⟨vi v0 (by rw [ml (n := 64) hM (by decide) (by decide) rfl]; omega), fun r5 e5 => ?_⟩, fun z => absurd (by rw [e54_3]; exact nt.1.1) z⟩) (fun r4 bad => ⟨fun _ => ⟨vi v0 (by rw [ml (n := 64) hM (by decide) (by decide) rfl]; omega), fun r5 e5 => ?_⟩, fun z => absurd (by rw [e54_3]; exact nt.1.1) z⟩))
  · unfold qM_typeAll_J53
    rw [e54_3] at e5
    rw [h61] at w31
    obtain ⟨q5, g5, nf5, f5, a5, p5, p5'⟩ := pile_ok q4 e5
    have N4' : NFr r r4 (n :: S1) := NFr_trans N3 N4 (fun x hx => hx) nin
    have N5 : NFr r r5 (n :: S1) := NFr_trans N4' (nf5 []) (fun x hx => hx) (fun x hx => absurd hx List.not_mem_nil)
    have T4 : TS r r4 (GC r L) Rs := TS_post T3 g4
    have hv0 : VN r := MI_VN q0.2.1
    have hv4 : VN r4 := by
      obtain ⟨rh4, ta4, N4', q4', _⟩ := q4
      exact MI_VN q4'.2.1
    have e55_4 : ar r4 55 (ar r 53 n.toNatClampNeg).toNatClampNeg = ar r3 55 (ar r 53 n.toNatClampNeg).toNatClampNeg := N4.2 55 (by unfold nda; decide) _ ns.1.1 (fun z => sn (List.mem_singleton.mp z))
    have lu4 := LU_new T4 hv0 hv4 hg (t := ar r3 55 (ar r 53 n.toNatClampNeg).toNatClampNeg) ty3
    have lio := len_io (r := r4) (G := GC r L) Rs
    -- what goes on
    have T4q : TS r r4 (GC r L) (inL r4 (GC r L) Rs) := by
      have k := TS_let T4 (TS_refl (G := GC r L) (r0 := r4) (r1 := r4) (by have := T4.1; exact Int32.le_trans this.1 this.2) rfl (fun _ _ => ⟨rfl, rfl, rfl⟩)) hv0 hv4 hg
      rw [List.append_nil] at k
      exact k
    have T5 : TS r r5 (GC r L) (inL r4 (GC r L) Rs) := TS_post T4q g5
    have GCe : ∀ x, GC r5 ((n, 1) :: L) x ↔ GC r L x := fun x => ⟨fun hx => (GC_kid N5 p.ch rd0 hx).elim id (fun z => absurd z.1 (by decide)), fun hx => GC_kid2 N5 p.ch rd0 hx⟩
    have GCe' : GC r5 ((n, 1) :: L) = GC r L := funext (fun x => propext (GCe x))
    have GCl : GC r5 L = GC r L := funext (fun x => propext (GC_eq (fun y u hy => N5.2 56 (by unfold nda; decide) y (CH_pos L n p.ch y u hy).1.1 (rd0 y ⟨y, u, hy, Or.inl rfl⟩))))
    have s45 : TS r4 r5 (GC r L) [] := TS_post (TS_refl (G := GC r L) (r0 := r4) (r1 := r4) (by have := T4.1; exact Int32.le_trans this.1 this.2) rfl (fun _ _ => ⟨rfl, rfl, rfl⟩)) g5
    have lu5 := LU_TS lu4 s45 (fun x hx => Or.inl hx)
    have numl := num_let rn lio qr.1 qq.1 qq.2
    have w27a := w27.1
    rw [il] at w27a
    have w27b := w27.2
    have d58 : (fi r4 27 - fi r3 27).toInt = (fi r4 27).toInt - (fi r3 27).toInt := by
      have z1 := ir (fi r4 27)
      have z2 := q3.2.2.2.2.1.1.1
      rw [il] at z2
      simp at z2
      exact i_sub (by omega) (by omega)
    have pk : PR (ad, l) rI r5 ((n, 1) :: L) (ar r 54 n.toNatClampNeg) (max E (outL r4 (GC r L) Rs).length) m2 (l0 ++ inL r4 (GC r L) Rs) := by
      refine PR_mk p q5 (by rw [f5]; exact f4_32) T5 N5 rd0 ⟨by rw [(tabs N5).2 51 (by decide)]; exact e51, (nodeOK_eq N5).mpr nk, Or.inr (Or.inl ⟨rfl, by rw [kd_eq N5]; exact hk, by rw [(tabs N5).2 52 (by decide)]; exact e52⟩), CH_NFr N5 p.ch⟩ (fun x hx => Or.inl ((GCe x).mp hx)) (by rw [f5]; exact Int32.le_trans c27.1 w27.1) (Nat.le_max_left _ _) (fun z => absurd z (by decide)) (fun _ => ⟨?_, ?_, ?_, outL r4 (GC r L) Rs, Nat.le_max_right _ _, ?_⟩) (by omega) m2p (by omega) ?_ ?_ ?_ ?_
      · rw [(tabs N5).2 53 (by decide)]; exact ns.1
      · rw [(tabs N5).2 53 (by decide), a5 55 (by decide), e55_4]
        exact (vt_eq ((f5 28).trans g4.1)).mpr vs3
      · rw [a5 57 (by decide), a5 58 (by decide), e57, e58, f5, d58]
        exact ⟨q3.2.2.2.2.1.1.1, by omega, by omega, by omega⟩
      · rw [(tabs N5).2 53 (by decide), a5 55 (by decide), e55_4, GCl, GCe']
        exact lu5
      · rw [f5, g4.1]; simp at b28; omega
      · rw [f5]; have := w31.2; simp at b31; omega
      · rw [f5]; have := c27.2; simp at b27; omega
      · rw [f5, w29]; simp at b29; omega
    refine ih r5 (ar r 54 n.toNatClampNeg) m2 S2 ((n, 1) :: L) _ _ (v + 1) (f + 1) (TrR_eq (tabs N5).1 (tabs N5).2 d _ _ _ tr) nd2.2.1 pk (fun x hx => ?_) (RD_kid N5 rd2 hS2 (fun _ => sT)) ⟨by omega, by omega⟩ (by rw [vv1]; exact p5) (fun r6 po pl F2 hF2 => ?_) F (by omega)
    · have xn : x ∉ n :: S1 := fun h => by
        rcases List.mem_cons.mp h with e | e
        · exact hS2 (by rw [← e]; exact hx)
        · exact nd2.2.2 _ e _ hx rfl
      rw [N5.2 59 (by unfold nda; decide) x (TrR_all d _ _ _ tr x hx) xn]
      exact st x (List.mem_cons_of_mem _ (List.mem_append.mpr (Or.inr hx)))
    · rw [vv2]
      obtain ⟨F2, rfl⟩ : ∃ m, F2 = m + 1 := ⟨F2 - 1, by omega⟩
      obtain ⟨rh6, ta6, N6', q6, cg6⟩ := po.qi
      obtain ⟨Rt, rtn, ts6, ty6⟩ := po.ts
      have N6 : NFr r r6 (n :: (S1 ++ S2)) := NFr_trans N5 po.nf (fun x hx => by
        rcases List.mem_cons.mp hx with e | e
        · rw [e]; exact List.mem_cons_self
        · exact List.mem_cons_of_mem _ (List.mem_append.mpr (Or.inl e))) (fun x hx => List.mem_cons_of_mem _ (List.mem_append.mpr (Or.inr hx)))
      have pl6 : ∀ i, i < v.toNatClampNeg → ar r6 60 i = ar r 60 i := fun i hi => by
        rw [pl i (by omega), p5' i (by omega), e60, pl3 i hi]
      have h59' : ar r6 59 n.toNatClampNeg = 2 := by rw [po.nf.2 59 (by unfold nda; decide) n n0 hS2, a5 59 (by decide)]; exact e59
      have h54 : ar r6 54 = ar r 54 := (tabs N6).2 54 (by decide)
      have pb28 := po.b28
      have pb31 := po.b31
      have pb27 := po.b27
      have pb29 := po.b29
      rw [f5, g4.1] at pb28
      rw [f5] at pb31 pb27
      rw [f5, w29] at pb29
      have hG' : ∀ x, GC r5 ((n, 1) :: L) x → DG r (GC r L) x (inL r4 (GC r L) Rs) := fun x hx => DG_G ((GCe x).mp hx)
      have T6 := TSt T5 ts6 hG'
      have ty6' := ty_up T5 hG' ty6
      refine L9_unf hM hv.1 (by omega) po.f32 (by rw [pl6 _ i1]; exact hp) (vis_let2 q6 cg6 po.f32 ((nodeOK_eq N6).mpr nk) (by rw [kd_eq N6]; exact hk) h59' (by rw [h54]; exact nt.1.1) (by rw [h54]; exact nt.1.2) (fun r7 s7 e55 e28 => ⟨fun z => absurd z (by decide), fun _ => hc r7 ?_ (fun i hi => by rw [s7.2.2.2.2.1, pl6 i hi]) F2 (by omega)⟩))
      have T7 := TSt T6 s7.2.2.1 (fun x hx => hx.elim)
      rw [List.append_nil] at T7
      have c8 := s7.2.2.2.2.2
      rw [e55, h54]
      refine ⟨s7.1, s7.2.1, NFr_trans N6 s7.2.2.2.1 (fun x hx => hx) (fun x hx => by rw [List.mem_singleton.mp hx]; exact List.mem_cons_self), ⟨_, ?_, T7, ty6'⟩, (vt_eq e28).mpr po.tv, ?_, ⟨?_, ?_⟩, ⟨?_, ?_⟩, ?_⟩
      · simp only [List.length_append]
        omega
      · rw [e28]; simp; omega
      · rw [c8.2.2]; exact Int32.le_trans w31.1 pb31.1
      · rw [c8.2.2]; have := pb31.2; have := w31.2; simp; omega
      · rw [c8.1]; exact Int32.le_trans (Int32.le_trans c27.1 w27.1) pb27.1
      · rw [c8.1]; have := pb27.2; have := c27.2; simp; omega
      · rw [c8.2.1]; simp; omega
  · unfold qM_typeAll_J53
    have e32 : fi r5 32 = fi r4 32 := by rw [e5]; rfl
    have F5 : Fr [] [60] r4 r5 := by rw [e5]; exact Fr_sA (by decide)
    obtain ⟨⟨rh4, ta4, N4, w4⟩, b2, b3⟩ := bad
    have bad5 : Bad (ad, l) rI r5 := ⟨⟨rh4, ta4, N4, MI_Fr w4 F5 (by decide) (by decide)⟩, Fr_trans b2 (Fr_mono F5 (by decide) (by decide)), by rw [e32]; exact b3⟩
    exact fexit bad5.2.2 (hX r5 bad5) (by omega)
theorem typ_two {KX : S_ → Prop} {d : Nat} (hI : INV l rI) (hX : ∀ r, Bad (ad, l) rI r → KX r) (ih : TYP ad l rI KX d) {n : Int32} {m1 m2 : Nat} {S1 S2 : List Int32} {L : List (Int32 × Nat)} {E : Nat} {l0 : List Int32} {v : Int32} {f : Nat} (nk : nodeOK r n) (hk : kd r n = 2 ∨ kd r n = 3) (e51 : ar r 51 (ar r 53 n.toNatClampNeg).toNatClampNeg = n ∧ ar r 51 (ar r 54 n.toNatClampNeg).toNatClampNeg = n) (e52 : ar r 52 (ar r 53 n.toNatClampNeg).toNatClampNeg = 0 ∧ ar r 52 (ar r 54 n.toNatClampNeg).toNatClampNeg = 1) (tr1 : TrR r d (ar r 53 n.toNatClampNeg) m1 S1) (tr2 : TrR r d (ar r 54 n.toNatClampNeg) m2 S2) (nd : (n :: (S1 ++ S2)).Nodup) (p : PR (ad, l) rI r L n E (m1 + m2 + 1) l0) (st : ∀ x, x ∈ n :: (S1 ++ S2) → ar r 59 x.toNatClampNeg = 0) (rd : ∀ x, RD r L x → x ∉ n :: (S1 ++ S2)) (hv : 1 ≤ v.toInt ∧ v.toInt + (m1 + m2 + 1 : Nat) ≤ 40) (hp : ar r 60 (v - 1).toNatClampNeg = n) (hc : ∀ r', PO (ad, l) rI r r' (n :: (S1 ++ S2)) (GC r L) E (m1 + m2 + 1) (ar r' 55 n.toNatClampNeg) → (∀ i, i < v.toNatClampNeg → ar r' 60 i = ar r 60 i) → ∀ F, f + 1 ≤ F → qM_typeAll_L9 (ad, l) KX F r' (v + -1)) (F : Nat) (hF : f + 3 * (m1 + m2 + 1) + 1 ≤ F) : qM_typeAll_L9 (ad, l) KX F r v := by
  obtain ⟨F, rfl⟩ : ∃ m, F = m + 1 := ⟨F - 1, by omega⟩
  obtain ⟨rh, ta, N, q, cg⟩ := p.qi
  obtain ⟨m1p, sS, ns⟩ := TrR_pos d _ _ _ tr1
  obtain ⟨m2p, tS, nt⟩ := TrR_pos d _ _ _ tr2
  have hM : ML (ad, l) := q.2.1.1
  have b28 := p.b28
  have b31 := p.b31
  have b27 := p.b27
  have b29 := p.b29
  have m24 := p.m24
  have hnum := p.num
  have qq := qt_two m1p m2p m24
  have ql := Nat.mul_le_mul_left (E + 2) qq.1
  rw [Nat.mul_add] at ql
  have hv2 := hv.2
  obtain ⟨v0, i1, i2, i3⟩ := idx hv.1 (by omega)
  have nd1 := List.nodup_cons.mp nd
  have nd2 := List.nodup_append.mp nd1.2
  have hS1 : n ∉ S1 := fun z => nd1.1 (List.mem_append.mpr (Or.inl z))
  have rd0 : ∀ x, RD r L x → x ∉ [n] := fun x hx h => rd x hx (by rw [List.mem_singleton.mp h]; exact List.mem_cons_self)
  have rd1 : ∀ x, RD r L x → x ∉ S1 := fun x hx h => rd x hx (List.mem_cons_of_mem _ (List.mem_append.mpr (Or.inl h)))
  have n0 := nk.1.1
  refine L9_unf hM hv.1 (by omega) p.f32 hp (vis_two0 q cg p.f32 nk hk (st n List.mem_cons_self) (fun r1 s1 e61 e59 e28 => ⟨fun _ => ⟨vi v0 (by rw [ml (n := 64) hM (by decide) (by decide) rfl]; omega), fun r2 e2 => ?_⟩, fun z => absurd ns.1.1 z⟩))
  unfold qM_typeAll_J53
  obtain ⟨q2, g2, nf2, f2, a2, p2, p2'⟩ := pile_ok s1.1 e2
  have N2 : NFr r r2 [n] := NFr_trans s1.2.2.2.1 (nf2 [n]) (fun x hx => hx) (fun x hx => hx)
  have T2 : TS r r2 (GC r L) [] := TS_post (TS_mono s1.2.2.1 (fun x hx => hx.elim)) g2
  have c2 := s1.2.2.2.2.2
  have hG : ∀ x, GC r2 ((n, 2) :: L) x → GC r L x ∨ x ∈ ([] : List Int32) := fun x hx => (GC_kid N2 p.ch rd0 hx).imp id (fun z => absurd z.1 (by decide))
  have pk : PR (ad, l) rI r2 ((n, 2) :: L) (ar r 53 n.toNatClampNeg) E m1 (l0 ++ []) := by
    refine PR_mk p q2 (by rw [f2]; exact s1.2.1) T2 N2 rd0 ⟨by rw [(tabs N2).2 51 (by decide)]; exact e51.1, (nodeOK_eq N2).mpr nk, Or.inr (Or.inr ⟨rfl, ?_, ?_⟩), CH_NFr N2 p.ch⟩ hG (by rw [f2, c2.1]; exact Int32.le_refl _) (Nat.le_refl _) (fun z => absurd z (by decide)) (fun z => absurd z (by decide)) ?_ m1p (by omega) ?_ ?_ ?_ ?_
    · rw [kd_eq N2]
      rcases hk with h | h <;> rw [h] <;> decide
    · rw [(tabs N2).2 52 (by decide), e52.1]
      exact fun z => absurd z.2 (by decide)
    · simp only [List.length_nil]
      omega
    · rw [f2, e28]; simp at b28; omega
    · rw [f2, c2.2.2]; simp at b31; omega
    · rw [f2, c2.1]; simp at b27; omega
    · rw [f2, c2.2.1]; simp at b29; omega
  refine ih r2 (ar r 53 n.toNatClampNeg) m1 S1 ((n, 2) :: L) E (l0 ++ []) (v + 1) (f + 3 * m2 + 2) (TrR_eq (tabs N2).1 (tabs N2).2 d _ _ _ tr1) nd2.1 pk (fun x hx => ?_) (RD_kid N2 rd1 hS1 (fun z => absurd z (by decide))) ⟨by omega, by omega⟩ (by rw [vv1]; exact p2) (fun r3 po pl F2 hF2 => ?_) F (by omega)
  · have xn : x ∉ [n] := fun h => hS1 (by rw [← List.mem_singleton.mp h]; exact hx)
    rw [N2.2 59 (by unfold nda; decide) x (TrR_all d _ _ _ tr1 x hx) xn]
    exact st x (List.mem_cons_of_mem _ (List.mem_append.mpr (Or.inl hx)))
  · rw [vv2]
    obtain ⟨Rs, rsn, ts3, ty3⟩ := po.ts
    have hG' : ∀ x, GC r2 ((n, 2) :: L) x → DG r (GC r L) x [] := fun x hx => (hG x hx).elim DG_G DG_R
    have pb28 := po.b28
    have pb31 := po.b31
    have pb27 := po.b27
    have pb29 := po.b29
    rw [f2, e28] at pb28
    rw [f2, c2.2.2] at pb31
    rw [f2, c2.1] at pb27
    rw [f2, c2.2.1] at pb29
    have hh : HALF ad l rI r r3 n m1 S1 L E v Rs := by
      refine ⟨NFr_trans N2 po.nf (fun x hx => by rw [List.mem_singleton.mp hx]; exact List.mem_cons_self) (fun x hx => List.mem_cons_of_mem _ hx), po.qi, po.f32, ⟨?_, ?_, po.tv, rsn⟩, ⟨?_, ?_⟩, fun i hi => ?_, pb28, pb31, pb27, pb29⟩
      · have k := TSt T2 ts3 hG'
        rw [List.nil_append] at k
        exact k
      · have k := ty_up T2 hG' ty3
        rw [List.nil_append] at k
        exact k
      · rw [po.nf.2 59 (by unfold nda; decide) n n0 hS1, a2 59 (by decide)]
        exact e59
      · rw [po.nf.2 61 (by unfold nda; decide) n n0 hS1, a2 61 (by decide)]
        exact e61
      · rw [pl i (by omega), p2' i (by omega), s1.2.2.2.2.1]
    rcases hk with hk | hk
    · exact app_tail hI hX ih nk hk e51.2 ns sS m1p tr2 nd p st rd hv hp hc hh F2 (by omega)
    · exact let_tail hI hX ih nk hk e51.2 e52.2 ns sS m1p tr2 nd p st rd hv hp hc hh F2 (by omega)
theorem typ {KX : S_ → Prop} (hI : INV l rI) (hX : ∀ r, Bad (ad, l) rI r → KX r) : ∀ d, TYP ad l rI KX d := by
  intro d
  induction d with
  | zero =>
    intro r n m S L E l0 v f tr
    exact tr.elim
  | succ d ih =>
    intro r n m S L E l0 v f tr nd p st rd hv hp hc F hF
    rcases tr.2 with ⟨k1, k2, k3⟩ | ⟨k1, m1, S1, k2, k3, k4, k5⟩ | ⟨k1, m1, m2, S1, S2, k2, k3, k4, k5, k6, k7⟩
    · subst k1
      subst k2
      exact typ_leaf hI hX tr.1 k3 p hv hp hc F hF
    · subst k2
      subst k3
      exact typ_one hI ih tr.1 k1 k4 k5 nd p st rd hv hp hc F hF
    · subst k2
      subst k3
      exact typ_two hI hX ih tr.1 k1 k4 k5 k6 k7 nd p st rd hv hp hc F hF
end TYPLET
