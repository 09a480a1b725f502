/-! The reference's typing: LAMBDA. -/
section TYPONE
variable {r : S_} {l ad : Nat → Nat} {rI : S_}
def DG (r : S_) (G : Int32 → Prop) (t : Int32) (R : List Int32) : Prop := ∀ D : Int32 → Prop, (∀ x, D x → vt r x) → Cld r D → (∀ x, G x → D x) → D t ∨ t ∈ R
theorem ty_up {r2 : S_} {G G2 : Int32 → Prop} {R0 R1 : List Int32} {t : Int32} (s : TS r r2 G R0) (hG : ∀ x, G2 x → DG r G x R0) (h : DG r2 G2 t R1) : DG r G t (R0 ++ R1) := by
  intro D hD cD gD
  have k := h (fun x => D x ∨ x ∈ R0) (fun x hx => hx.elim (fun z => vt_up s (hD x z)) (R_vt s)) (s.2.2.2 D hD cD gD).1 (fun x hx => hG x hx D hD cD gD)
  rcases k with (k | k) | k
  · exact Or.inl k
  · exact Or.inr (List.mem_append.mpr (Or.inl k))
  · exact Or.inr (List.mem_append.mpr (Or.inr k))
theorem TSt {r1 r2 : S_} {G G' : Int32 → Prop} {R1 R2 : List Int32} (s1 : TS r r1 G R1) (s2 : TS r1 r2 G' R2) (hG : ∀ x, G' x → DG r G x R1) : TS r r2 G (R1 ++ R2) := TS_trans s1 s2 (fun D hD cD gD x hx => hG x hx D hD cD gD)
theorem DG_G {G : Int32 → Prop} {t : Int32} {R : List Int32} (h : G t) : DG r G t R := fun _ _ _ gD => Or.inl (gD t h)
theorem DG_R {G : Int32 → Prop} {t : Int32} {R : List Int32} (h : t ∈ R) : DG r G t R := fun _ _ _ _ => Or.inr h
theorem DG_mono {G : Int32 → Prop} {t : Int32} {R R' : List Int32} (h : DG r G t R) (hR : ∀ x, x ∈ R → x ∈ R') : DG r G t R' := fun D hD cD gD => (h D hD cD gD).imp id (hR t)
theorem vv1 {v : Int32} : v + 1 - 1 = v := by grind
theorem vv2 {v : Int32} : v + 1 + -1 = v := by grind
/-- what a node's row on the pile changes -/
theorem pile_ok {a : L_} {r1 r2 : S_} {v s : Int32} (q : ∃ rh ta N, QI a rI r1 rh ta N ∧ CGr r1 rh) (e2 : r2 = sA r1 60 (upd (ar r1 60) v.toNatClampNeg s)) : (∃ rh ta N, QI a rI r2 rh ta N ∧ CGr r2 rh) ∧ SG4 r1 r2 ∧ (∀ S, NFr r1 r2 S) ∧ (∀ k, fi r2 k = fi r1 k) ∧ (∀ k, ¬ k = 60 → ar r2 k = ar r1 k) ∧ ar r2 60 v.toNatClampNeg = s ∧ ∀ i, ¬ i = v.toNatClampNeg → ar r2 60 i = ar r1 60 i := by
  have F : Fr [] [60] r1 r2 := by rw [e2]; exact Fr_sA (by decide)
  obtain ⟨rh, ta, N, q1, cg⟩ := q
  exact ⟨⟨rh, ta, N, QI_Fr q1 F (by decide) (by decide) (by decide) (by decide), CGr_eq cg (F.1 28 (by decide)) (F.2.1 65 (by decide)) (F.2.1 66 (by decide)) (F.2.1 67 (by decide))⟩, SG4_Fr F (by decide) (by decide), fun S => NFr_of F (by decide) (by unfold nda; decide) S, fun k => F.1 k List.not_mem_nil, fun k hk => F.2.1 k (by simpa using hk), by rw [e2, ar_sA, if_pos rfl, pk_us], fun i hi => by rw [e2, ar_sA, if_pos rfl, pk_un hi]⟩
theorem tabs {r1 : S_} {S : List Int32} (h : NFr r r1 S) : fi r1 1 = fi r 1 ∧ ∀ k, k = 42 ∨ k = 45 ∨ k = 46 ∨ k = 50 ∨ k = 51 ∨ k = 52 ∨ k = 53 ∨ k = 54 → ar r1 k = ar r k := ⟨h.1.1 1 (by decide), fun k hk => h.1.2.1 k (by rcases hk with e | e | e | e | e | e | e | e <;> rw [e] <;> decide)⟩
theorem nodeOK_eq {r1 : S_} {S : List Int32} (h : NFr r r1 S) {n : Int32} : nodeOK r1 n ↔ nodeOK r n := by
  unfold nodeOK
  rw [(tabs h).2 50 (by decide)]
theorem kd_eq {r1 : S_} {S : List Int32} (h : NFr r r1 S) {n : Int32} : kd r1 n = kd r n := by
  unfold kd
  rw [(tabs h).2 50 (by decide), (tabs h).2 45 (by decide)]
theorem CH_NFr {r1 : S_} {S : List Int32} (h : NFr r r1 S) {n : Int32} {L : List (Int32 × Nat)} (c : CH r n L) : CH r1 n L := CH_congr ((tabs h).2 45 (by decide)) ((tabs h).2 50 (by decide)) ((tabs h).2 51 (by decide)) ((tabs h).2 52 (by decide)) L n c
theorem idx {v : Int32} (h : 1 ≤ v.toInt) (h2 : v.toInt ≤ 100) : 0 ≤ v ∧ (v - 1).toNatClampNeg < v.toNatClampNeg ∧ (v + 1).toInt = v.toInt + 1 ∧ (v + 1).toNatClampNeg = v.toNatClampNeg + 1 := by
  have v0 : 0 ≤ v := by rw [il]; simp; omega
  have d1 : (v - 1).toInt = v.toInt - 1 := i_sub (by simp; omega) (by simp; omega)
  have d0 : 0 ≤ v - 1 := by rw [il, d1]; simp; omega
  have u1 : (v + 1).toInt = v.toInt + 1 := i_add (by simp; omega) (by simp; omega)
  have u0 : 0 ≤ v + 1 := by rw [il, u1]; simp; omega
  have e1 := i_nat v0
  have e2 := i_nat d0
  have e3 := i_nat u0
  exact ⟨v0, by omega, u1, by omega⟩
/-- the rows above n see the same -/
theorem GC_kid {r1 : S_} {S : List Int32} {n : Int32} {t : Nat} {L : List (Int32 × Nat)} {c : Int32} (nf : NFr r r1 S) (ch : CH r c L) (hd : ∀ x, RD r L x → x ∉ S) {x : Int32} (h : GC r1 ((n, t) :: L) x) : GC r L x ∨ (t = 0 ∧ x = ar r1 56 n.toNatClampNeg) := by
  obtain ⟨q, q1, q2⟩ := h
  rcases List.mem_cons.mp q1 with z | z
  · right
    have e1 : q = n := congrArg Prod.fst z
    have e2 : 0 = t := congrArg Prod.snd z
    exact ⟨e2.symm, by rw [q2, e1]⟩
  · left
    exact ⟨q, z, by rw [q2, nf.2 56 (by unfold nda; decide) q (CH_pos L c ch q 0 z).1.1 (hd q ⟨q, 0, z, Or.inl rfl⟩)]⟩
theorem GC_kid2 {r1 : S_} {S : List Int32} {n : Int32} {t : Nat} {L : List (Int32 × Nat)} {c : Int32} (nf : NFr r r1 S) (ch : CH r c L) (hd : ∀ x, RD r L x → x ∉ S) {x : Int32} (h : GC r L x) : GC r1 ((n, t) :: L) x := by
  obtain ⟨q, q1, q2⟩ := h
  exact ⟨q, List.mem_cons_of_mem _ q1, by rw [q2, nf.2 56 (by unfold nda; decide) q (CH_pos L c ch q 0 q1).1.1 (hd q ⟨q, 0, q1, Or.inl rfl⟩)]⟩
theorem RD_kid {r1 : S_} {S0 S1 : List Int32} {n : Int32} {t : Nat} {L : List (Int32 × Nat)} (nf : NFr r r1 S0) (rd : ∀ x, RD r L x → x ∉ S1) (hn : n ∉ S1) (hs : t = 1 → ar r 53 n.toNatClampNeg ∉ S1) : ∀ x, RD r1 ((n, t) :: L) x → x ∉ S1 := by
  intro x ⟨p, u, hp, hx⟩
  rw [(tabs nf).2 53 (by decide)] at hx
  rcases List.mem_cons.mp hp with z | z
  · have e1 : p = n := congrArg Prod.fst z
    have e2 : u = t := congrArg Prod.snd z
    rcases hx with y | ⟨y1, y2⟩
    · rw [y, e1]; exact hn
    · rw [y2, e1]
      exact hs (by rw [← e2]; exact y1)
  · exact rd x ⟨p, u, z, hx⟩
theorem TrR_all : ∀ (d : Nat) (n : Int32) (m : Nat) (S : List Int32), TrR r d n m S → ∀ x, x ∈ S → 0 ≤ x := by
  intro d
  induction d with
  | zero => intro n m S w; exact w.elim
  | succ d ih =>
    intro n m S w x hx
    have n0 := w.1.1.1
    rcases w.2 with ⟨_, k2, _⟩ | ⟨_, m1, S1, _, k2, _, k3⟩ | ⟨_, m1, m2, S1, S2, _, k2, _, _, k3, k4⟩
    · rw [k2] at hx
      rw [List.mem_singleton.mp hx]; exact n0
    · rw [k2] at hx
      rcases List.mem_cons.mp hx with z | z
      · rw [z]; exact n0
      · exact ih _ _ _ k3 x z
    · rw [k2] at hx
      rcases List.mem_cons.mp hx with z | z
      · rw [z]; exact n0
      · rcases List.mem_append.mp z with y | y
        · exact ih _ _ _ k3 x y
        · exact ih _ _ _ k4 x y
theorem typ_one {KX : S_ → Prop} {d : Nat} (hI : INV l rI) (ih : TYP ad l rI KX d) {n : Int32} {m1 : Nat} {S1 : List Int32} {L : List (Int32 × Nat)} {E : Nat} {l0 : List Int32} {v : Int32} {f : Nat} (nk : nodeOK r n) (hk : kd r n = 1) (e51 : ar r 51 (ar r 53 n.toNatClampNeg).toNatClampNeg = n) (tr : TrR r d (ar r 53 n.toNatClampNeg) m1 S1) (nd : (n :: S1).Nodup) (p : PR (ad, l) rI r L n E (m1 + 1) l0) (st : ∀ x, x ∈ n :: S1 → ar r 59 x.toNatClampNeg = 0) (rd : ∀ x, RD r L x → x ∉ n :: S1) (hv : 1 ≤ v.toInt ∧ v.toInt + (m1 + 1 : Nat) ≤ 40) (hp : ar r 60 (v - 1).toNatClampNeg = n) (hc : ∀ r', PO (ad, l) rI r r' (n :: S1) (GC r L) E (m1 + 1) (ar r' 55 n.toNatClampNeg) → (∀ i, i < v.toNatClampNeg → ar r' 60 i = ar r 60 i) → ∀ F, f + 1 ≤ F → qM_typeAll_L9 (ad, l) KX F r' (v + -1)) (F : Nat) (hF : f + 3 * (m1 + 1) + 1 ≤ F) : qM_typeAll_L9 (ad, l) KX F r v := by
  obtain ⟨F, rfl⟩ : ∃ m, F = m + 1 := ⟨F - 1, by omega⟩
  obtain ⟨rh, ta, N, q, cg⟩ := p.qi
  obtain ⟨m1p, sS, ns⟩ := TrR_pos d _ _ _ tr
  have hM : ML (ad, l) := q.2.1.1
  have b28 := p.b28
  have b31 := p.b31
  have b27 := p.b27
  have b29 := p.b29
  have m24 := p.m24
  have e16 := p.e16
  have hnum := p.num
  have ql := Nat.mul_le_mul_left (E + 2) (qt_lam m1p m24)
  rw [Nat.mul_add] at ql
  have hv2 := hv.2
  obtain ⟨v0, i1, i2, i3⟩ := idx hv.1 (by omega)
  have hS : n ∉ S1 := (List.nodup_cons.mp nd).1
  have rd0 : ∀ x, RD r L x → x ∉ [n] := fun x hx h => rd x hx (by rw [List.mem_singleton.mp h]; exact List.mem_cons_self)
  have rd1 : ∀ x, RD r L x → x ∉ S1 := fun x hx h => rd x hx (List.mem_cons_of_mem _ h)
  have n0 := nk.1.1
  refine L9_unf hM hv.1 (by omega) p.f32 hp (vis_lam0 hI q cg p.f32 nk hk (st n List.mem_cons_self) (by simp at b28; omega) (fun r1 s1 vT e56 e59 e28 => ⟨fun _ => ⟨vi v0 (by rw [ml (n := 64) hM (by decide) (by decide) rfl]; omega), fun r2 e2 => ?_⟩, fun z => absurd ns.1.1 z⟩))
  unfold qM_typeAll_J53
  obtain ⟨q2, g2, nf2, f2, a2, p2, p2'⟩ := pile_ok s1.1 e2
  have N2 : NFr r r2 [n] := NFr_trans s1.2.2.2.1 (nf2 [n]) (fun x hx => hx) (fun x hx => hx)
  have T2 : TS r r2 (GC r L) [fi r 28] := TS_post (TS_mono s1.2.2.1 (fun x hx => hx.elim)) g2
  have e56' : ar r2 56 n.toNatClampNeg = fi r 28 := by rw [a2 56 (by decide)]; exact e56
  have c2 := s1.2.2.2.2.2
  have hG : ∀ x, GC r2 ((n, 0) :: L) x → GC r L x ∨ x ∈ [fi r 28] := fun x hx => (GC_kid N2 p.ch rd0 hx).imp id (fun z => by rw [z.2, e56']; exact List.mem_singleton.mpr rfl)
  have pk : PR (ad, l) rI r2 ((n, 0) :: L) (ar r 53 n.toNatClampNeg) E m1 (l0 ++ [fi r 28]) := by
    refine PR_mk p q2 (by rw [f2]; exact s1.2.1) T2 N2 rd0 ⟨by rw [(tabs N2).2 51 (by decide)]; exact e51, (nodeOK_eq N2).mpr nk, Or.inl ⟨rfl, by rw [kd_eq N2]; exact hk⟩, CH_NFr N2 p.ch⟩ hG (by rw [f2, c2.1]; exact Int32.le_refl _) (Nat.le_refl _) (fun _ => by rw [e56']; exact (vt_eq (f2 28)).mpr vT) (fun z => absurd z (by decide)) ?_ m1p (by omega) ?_ ?_ ?_ ?_
    · simp only [List.length_singleton]
      omega
    · rw [f2, e28]; simp at b28; omega
    · rw [f2, c2.2.2]; simp at b31; omega
    · rw [f2, c2.1]; simp at b27; omega
    · rw [f2, c2.2.1]; simp at b29; omega
  refine ih r2 (ar r 53 n.toNatClampNeg) m1 S1 ((n, 0) :: L) E (l0 ++ [fi r 28]) (v + 1) (f + 1) (TrR_eq (tabs N2).1 (tabs N2).2 d _ _ _ tr) (List.nodup_cons.mp nd).2 pk (fun x hx => ?_) (RD_kid N2 rd1 hS (fun z => absurd z (by decide))) ⟨by omega, by omega⟩ (by rw [vv1]; exact p2) (fun r3 po pl F2 hF2 => ?_) F (by omega)
  · have xn : x ∉ [n] := fun h => hS (by rw [← List.mem_singleton.mp h]; exact hx)
    rw [N2.2 59 (by unfold nda; decide) x (TrR_all d _ _ _ tr x hx) xn]
    exact st x (List.mem_cons_of_mem _ hx)
  · rw [vv2]
    obtain ⟨F2, rfl⟩ : ∃ m, F2 = m + 1 := ⟨F2 - 1, by omega⟩
    obtain ⟨rh3, ta3, N3, q3, cg3⟩ := po.qi
    obtain ⟨R1, r1n, ts3, ty3⟩ := po.ts
    have N3 : NFr r r3 (n :: S1) := NFr_trans N2 po.nf (fun x hx => by rw [List.mem_singleton.mp hx]; exact List.mem_cons_self) (fun x hx => List.mem_cons_of_mem _ hx)
    have pl3 : ∀ i, i < v.toNatClampNeg → ar r3 60 i = ar r 60 i := fun i hi => by
      rw [pl i (by omega), p2' i (by omega), s1.2.2.2.2.1]
    have h56 : ar r3 56 n.toNatClampNeg = fi r 28 := by rw [po.nf.2 56 (by unfold nda; decide) n n0 hS]; exact e56'
    have h59 : ar r3 59 n.toNatClampNeg = 1 := by rw [po.nf.2 59 (by unfold nda; decide) n n0 hS, a2 59 (by decide)]; exact e59
    have h53 : ar r3 53 = ar r 53 := (tabs N3).2 53 (by decide)
    have pb28 := po.b28
    rw [f2, e28] at pb28
    refine L9_unf hM hv.1 (by omega) po.f32 (by rw [pl3 _ i1]; exact hp) (vis_lam1 hI q3 cg3 po.f32 ((nodeOK_eq N3).mpr nk) (by rw [kd_eq N3]; exact hk) (by rw [h59]; decide) (by simp at b28; omega) (by rw [h56]; exact vt_up ts3 ((vt_eq (f2 28)).mpr vT)) (by rw [h53]; exact ns.1.1) (by rw [h53]; exact ns.1.2) (by rw [h53]; exact po.tv) (fun r4 s4 vT4 e55 e28' => ⟨fun z => absurd z (by decide), fun _ => hc r4 ?_ (fun i hi => by rw [s4.2.2.2.2.1, pl3 i hi]) F2 (by omega)⟩))
    have ty := ty_up T2 (fun x hx => (hG x hx).elim DG_G DG_R) ty3
    have T3 := TSt T2 ts3 (fun x hx => (hG x hx).elim DG_G DG_R)
    have T4 := TSt T3 s4.2.2.1 (fun x hx => by
      rcases hx with e | e
      · rw [e, h56]
        exact DG_R (List.mem_append.mpr (Or.inl (List.mem_singleton.mpr rfl)))
      · rw [e, h53]
        exact ty)
    have c4 := s4.2.2.2.2.2
    have po31 := po.b31
    have po27 := po.b27
    have po29 := po.b29
    rw [f2, c2.2.2] at po31
    rw [f2, c2.1] at po27
    rw [f2, c2.2.1] at po29
    rw [e55]
    refine ⟨s4.1, s4.2.1, NFr_trans N3 s4.2.2.2.1 (fun x hx => hx) (fun x hx => by rw [List.mem_singleton.mp hx]; exact List.mem_cons_self), ⟨_, ?_, T4, DG_R (List.mem_append.mpr (Or.inr (List.mem_singleton.mpr rfl)))⟩, vT4, ?_, ⟨?_, ?_⟩, ⟨?_, ?_⟩, ?_⟩
    · simp only [List.length_append, List.length_singleton]
      omega
    · rw [e28']; simp; omega
    · rw [c4.2.2]; exact po31.1
    · rw [c4.2.2]; have := po31.2; simp; omega
    · rw [c4.1]; exact po27.1
    · rw [c4.1]; have := po27.2; simp; omega
    · rw [c4.2.1]; simp; omega
end TYPONE
