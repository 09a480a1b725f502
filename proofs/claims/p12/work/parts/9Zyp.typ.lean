/-! The reference's typing: whole trees. -/
section TYPALL
variable {r : S_} {rh ta : Int32 → Int32} {N : Int32} {l ad : Nat → Nat} {rI : S_}
theorem vis_let1 {n : Int32} {L : List (Int32 × Nat)} {l0 : List Int32} (hI : INV l rI) (q : QI (ad, l) rI r rh ta N) (cg : CGr r rh) (nk : nodeOK r n) (hk : kd r n = 3) (hs : ar r 59 n.toNatClampNeg = 1) (hc : CH r n L) (wb0 : 0 ≤ ar r 61 n.toNatClampNeg) (wb1 : ar r 61 n.toNatClampNeg ≤ fi r 31) (wb2 : (ar r 61 n.toNatClampNeg).toInt + 1510 ≤ 20000) (ob : (fi r 27).toInt + 1510 ≤ 20000) (mb : (fi r 29).toInt + 3 ≤ 1000) (hv : ∀ p, (p, 0) ∈ L → vt r (ar r 56 p.toNatClampNeg)) (fk0 : 0 ≤ ar r 53 n.toNatClampNeg) (fk1 : ar r 53 n.toNatClampNeg < 25) (vf : vt r (ar r 55 (ar r 53 n.toNatClampNeg).toNatClampNeg)) (c0 : Cld r (fun x => x ∈ l0)) (g0 : ∀ x, GC r L x → x ∈ l0) (t0 : ar r 55 (ar r 53 n.toNatClampNeg).toNatClampNeg ∈ l0) (hl : l0.length ≤ 1510) {K : Int32 → S_ → Prop} (hK : ∀ r', (∃ rh ta N, QI (ad, l) rI r' rh ta N ∧ CGr r' rh) → fi r' 32 = 0 → SG4 r r' → NFr r r' [n] → ar r' 60 = ar r 60 → ar r' 59 n.toNatClampNeg = 2 → (ar r 61 n.toNatClampNeg ≤ fi r' 31 ∧ (fi r' 31).toInt ≤ (ar r 61 n.toNatClampNeg).toInt + 1510) → (fi r 27 ≤ fi r' 27 ∧ (fi r' 27).toInt ≤ (fi r 27).toInt + 1510) → (fi r' 29).toInt = (fi r 29).toInt + 3 → ar r' 57 n.toNatClampNeg = fi r 27 → ar r' 58 n.toNatClampNeg = fi r' 27 - fi r 27 → K (ar r 54 n.toNatClampNeg) r') (hB : ∀ r', Bad (ad, l) rI r' → K (ar r 54 n.toNatClampNeg) r') : qM_visit (ad, l) K r n := by
  have w := q.2.1
  have hM : ML (ad, l) := w.1
  have n0 := nk.1.1
  unfold qM_visit
  refine kindOf_ok hM nk ⟨nd25 hM nk (by decide) (by decide) rfl, nd25 hM nk (by decide) (by decide) rfl, fun r4 e4 => ?_⟩
  have k0 : ¬ kd r n = 0 := by rw [hk]; decide
  have k1 : ¬ kd r n = 1 := by rw [hk]; decide
  have k4 : ¬ kd r n = 4 := by rw [hk]; decide
  have k5 : ¬ kd r n = 5 := by rw [hk]; decide
  have h0 : ¬ ar r 59 n.toNatClampNeg = 0 := by rw [hs]; decide
  refine ⟨fun _ => ⟨fun _ => ⟨fun _ => ⟨fun _ => ?_, fun z => absurd z k1⟩, fun z => absurd z k5⟩, fun z => absurd z k4⟩, fun z => absurd z k0⟩
  have F4 : Fr [] [59] r r4 := by rw [e4]; exact Fr_sA (by decide)
  have N4 : NFr r r4 [n] := by rw [e4]; exact NFr_sA (by decide) n0 (List.mem_singleton.mpr rfl)
  have a4 : ∀ k, ¬ k = 59 → ar r4 k = ar r k := fun k hk => F4.2.1 k (by simpa using hk)
  have f4 : ∀ k, fi r4 k = fi r k := fun k => F4.1 k List.not_mem_nil
  have q4 : QI (ad, l) rI r4 rh ta N := QI_Fr q F4 (by decide) (by decide) (by decide) (by decide)
  have v4 : ∀ x, vt r4 x ↔ vt r x := fun x => vt_eq (f4 28)
  have nk4 : nodeOK r4 n := by unfold nodeOK; rw [a4 50 (by decide)]; exact nk
  have st4 : ar r4 59 n.toNatClampNeg = 2 := by rw [e4, ar_sA, if_pos rfl, pk_us, hs]; rfl
  have hc4 : CH r4 n L := CH_congr (a4 45 (by decide)) (a4 50 (by decide)) (a4 51 (by decide)) (a4 52 (by decide)) L n hc
  have GCe : GC r4 L = GC r L := by unfold GC; rw [a4 56 (by decide)]
  unfold qM_visit_J194 qM_visit_J265
  refine ⟨fun _ => ⟨fun _ => ⟨fun z => absurd hs z, fun _ => ⟨fun z => absurd hk z, fun _ => ?_⟩⟩, fun z => absurd z h0⟩, fun z => absurd z k1⟩
  refine generalise_ok (l0 := l0) hI q4 nk4 hc4 (by rw [a4 61 (by decide)]; exact wb0) (by rw [a4 61 (by decide), f4]; exact wb1) (by rw [a4 61 (by decide)]; exact wb2) (by rw [f4]; exact ob) (by rw [f4]; exact mb) (fun p hp => by rw [a4 56 (by decide)]; exact (v4 _).mpr (hv p hp)) (by rw [a4 53 (by decide)]; exact fk0) (by rw [a4 53 (by decide)]; exact fk1) (by rw [a4 53 (by decide), a4 55 (by decide)]; exact (v4 _).mpr vf) (Cld_eq (f4 28) (a4 64 (by decide)) (a4 66 (by decide)) (a4 67 (by decide)) c0) (by rw [GCe]; exact g0) (by rw [a4 53 (by decide), a4 55 (by decide)]; exact t0) hl (fun r' gp => ?_)
  obtain ⟨G1, G2, G3⟩ := gp
  have e54 : ar r' 54 = ar r 54 := (G1.2.1 54 (by decide)).trans (a4 54 (by decide))
  rw [e54]
  refine ⟨nd25 hM nk (by decide) (by decide) rfl, ?_⟩
  have wr : MI (ad, l) r' rh ta N := MI_Fr q4.2.1 G1 (by decide) (by decide)
  by_cases hf : fi r' 32 = 0
  · obtain ⟨⟨⟨g31, g31'⟩, g75⟩, ⟨g27, g27', g62, g62'⟩, ⟨gm, g29⟩, gnd, g57, g58, gn⟩ := G3 hf
    rw [a4 61 (by decide)] at g31 g31'
    rw [f4] at g27 g27' g29 g57 g58
    have e28 : fi r' 28 = fi r 28 := (G1.1 28 (by decide)).trans (f4 28)
    have v' : ∀ x, vt r' x ↔ vt r4 x := fun x => vt_eq (G1.1 28 (by decide))
    have q29 := q.2.2.2.2.2.1
    have g27i := g27
    rw [il] at g27i
    have e27a := i_nat q.2.2.2.2.1.1.1
    have e27b := i_nat (Int32.le_trans q.2.2.2.2.1.1.1 g27)
    have q' : QI (ad, l) rI r' rh ta N := ⟨Fr_trans q4.1 (Fr_mono G1 (by decide) (by decide)), wr, by rw [e28]; exact q.2.2.1, ⟨⟨Int32.le_trans wb0 g31, by omega⟩, fun i hi => (v' _).mpr (g75 i hi)⟩, ⟨⟨Int32.le_trans q.2.2.2.2.1.1.1 g27, by omega⟩, fun i hi => ?_⟩, ⟨gm, by omega, by omega⟩, gnd⟩
    · refine hK r' ⟨rh, ta, N, q', CGr_eq cg e28 ((G1.2.1 65 (by decide)).trans (a4 65 (by decide))) ((G1.2.1 66 (by decide)).trans (a4 66 (by decide))) ((G1.2.1 67 (by decide)).trans (a4 67 (by decide)))⟩ hf ⟨e28, (G1.2.1 64 (by decide)).trans (a4 64 (by decide)), (G1.2.1 66 (by decide)).trans (a4 66 (by decide)), (G1.2.1 67 (by decide)).trans (a4 67 (by decide))⟩ (NFr_trans N4 ⟨Fr_mono G1 (by decide) (by decide), fun k hk m m0 hm => ?_⟩ (fun x hx => hx) (fun x hx => hx)) ((G1.2.1 60 (by decide)).trans (a4 60 (by decide))) (by rw [G1.2.1 59 (by decide)]; exact st4) ⟨g31, g31'⟩ ⟨g27, g27'⟩ g29 g57 g58
      have hm' : ¬ m.toNatClampNeg = n.toNatClampNeg := fun e => hm (List.mem_singleton.mpr ((i_inj m0 n0).mp e))
      rcases hk with e | e | e | e | e | e
      · rw [e, G1.2.1 55 (by decide)]
      · rw [e, G1.2.1 56 (by decide)]
      · rw [e]; exact (gn _ hm').1
      · rw [e]; exact (gn _ hm').2
      · rw [e, G1.2.1 59 (by decide)]
      · rw [e, G1.2.1 61 (by decide)]
    · by_cases g : i < (fi r4 27).toNatClampNeg
      · rw [g62 i g, a4 62 (by decide)]
        refine (v' _).mpr ((v4 _).mpr (q.2.2.2.2.1.2 i ?_))
        rw [f4] at g
        exact g
      · exact (v' _).mpr (g62' i (by omega) hi)
  · exact hB r' ⟨⟨rh, ta, N, wr⟩, Fr_trans q4.1 (Fr_mono G1 (by decide) (by decide)), hf⟩
theorem CX_53 {Gc : Int32 → Prop} {E : Nat} : ∀ (L : List (Int32 × Nat)), CX r Gc E L → ∀ p, (p, 1) ∈ L → 0 ≤ ar r 53 p.toNatClampNeg := by
  intro L
  induction L with
  | nil => intro _ p h; exact absurd h List.not_mem_nil
  | cons e L ih =>
    obtain ⟨q, t⟩ := e
    intro h p hp
    rcases List.mem_cons.mp hp with z | z
    · have pq : p = q := congrArg Prod.fst z
      rw [pq]
      exact (h.2.1 (congrArg Prod.snd z).symm).1.1
    · exact ih h.2.2 p z
theorem PR_mk {a : L_} {L : List (Int32 × Nat)} {c c' n : Int32} {t E E' m m' : Nat} {l0 R S0 : List Int32} {r1 : S_} (p : PR a rI r L c E m l0) (qi1 : ∃ rh ta N, QI a rI r1 rh ta N ∧ CGr r1 rh) (f32 : fi r1 32 = 0) (ts : TS r r1 (GC r L) R) (nf : NFr r r1 S0) (hd : ∀ x, RD r L x → x ∉ S0) (ch' : CH r1 c' ((n, t) :: L)) (hG : ∀ x, GC r1 ((n, t) :: L) x → GC r L x ∨ x ∈ R) (h27 : fi r 27 ≤ fi r1 27) (hE : E ≤ E') (new0 : t = 0 → vt r1 (ar r1 56 n.toNatClampNeg)) (new1 : t = 1 → LetOK r1 n L (GC r1 ((n, t) :: L)) E') (num : 9 * (l0.length + R.length) + (E' + 2) * qt m' ≤ 13608) (m1 : 1 ≤ m') (m24 : m' ≤ 24) (b28 : (fi r1 28).toInt + 756 * ((m' : Int) + 1) ≤ 20000) (b31 : (fi r1 31).toInt + 756 * ((m' : Int) + 1) ≤ 20000) (b27 : (fi r1 27).toInt + 756 * ((m' : Int) - 1) ≤ 20000) (b29 : (fi r1 29).toInt + 5 * (m' : Int) ≤ 1000) : PR a rI r1 ((n, t) :: L) c' E' m' (l0 ++ R) := by
  have e53 : ar r1 53 = ar r 53 := nf.1.2.1 53 (by decide)
  refine ⟨qi1, f32, ch', ⟨new0, new1, CX_step ts hG hE h27 e53 L (fun q u hq => ?_) p.cx⟩, ?_, fun x hx => ?_, fun x hx => ?_, by rw [List.length_append]; exact num, Nat.le_trans p.e16 hE, m1, m24, b28, b31, b27, b29⟩
  · have q0 := (CH_pos L c p.ch q u hq).1.1
    have qd := hd q ⟨q, u, hq, Or.inl rfl⟩
    refine ⟨nf.2 56 (by unfold nda; decide) q q0 qd, nf.2 57 (by unfold nda; decide) q q0 qd, nf.2 58 (by unfold nda; decide) q q0 qd, fun u1 => ?_⟩
    rw [u1] at hq
    exact nf.2 55 (by unfold nda; decide) _ (CX_53 L p.cx q hq) (hd _ ⟨q, 1, hq, Or.inr ⟨rfl, rfl⟩⟩)
  · exact Cld_congr (fun x => List.mem_append.symm) (ts.2.2.2 (fun x => x ∈ l0) p.lv p.cl p.lg).1
  · exact (List.mem_append.mp hx).elim (fun z => vt_up ts (p.lv x z)) (R_vt ts)
  · exact List.mem_append.mpr ((hG x hx).imp (p.lg x) id)
theorem num_let {E q1 q2 q Re Q U : Nat} (h1 : 9 * (Re + 2) ≤ (E + 2) * q1) (h2 : Q + U = Re) (h3 : 9 ≤ q2) (h4 : q1 + q2 ≤ q) (h5 : q1 * q2 ≤ 9 * q) : 9 * Q + (max E U + 2) * q2 ≤ (E + 2) * q := by
  have h6 := Nat.mul_le_mul_left (E + 2) h4
  rw [Nat.mul_add] at h6
  by_cases g : U ≤ E
  · rw [Nat.max_eq_left g]
    omega
  · rw [Nat.max_eq_right (by omega)]
    obtain ⟨k, rfl⟩ : ∃ k, q2 = 9 + k := ⟨q2 - 9, by omega⟩
    have e1 : (U + 2) * (9 + k) = 9 * (U + 2) + (U + 2) * k := by rw [Nat.mul_add, Nat.mul_comm (U + 2) 9]
    have e2 : 9 * (U + 2) * k ≤ (E + 2) * q1 * k := Nat.mul_le_mul_right k (by omega)
    rw [Nat.mul_assoc] at e2
    have e3 := Nat.mul_le_mul_left (E + 2) h5
    rw [← Nat.mul_assoc, Nat.mul_add] at e3
    have e4 : (E + 2) * (9 * q) = 9 * ((E + 2) * q) := by rw [← Nat.mul_assoc, Nat.mul_comm (E + 2) 9, Nat.mul_assoc]
    have e5 : (E + 2) * q1 * 9 = 9 * ((E + 2) * q1) := Nat.mul_comm _ _
    rw [e1]
    omega
theorem fexit {KX : S_ → Prop} {F : Nat} {v : Int32} (hf : ¬ fi r 32 = 0) (hX : KX r) (h1 : 1 ≤ F) : qM_typeAll_L9 (ad, l) KX F r v := by
  obtain ⟨F, rfl⟩ : ∃ m, F = m + 1 := ⟨F - 1, by omega⟩
  rw [qM_typeAll_L9]
  exact ⟨fun _ => hX, fun _ => ⟨fun _ => hX, fun z => absurd z hf⟩⟩
def TYP (ad l : Nat → Nat) (rI : S_) (KX : S_ → Prop) (d : Nat) : Prop := ∀ (r : S_) (n : Int32) (m : Nat) (S : List Int32) (L : List (Int32 × Nat)) (E : Nat) (l0 : List Int32) (v : Int32) (f : Nat), TrR r d n m S → S.Nodup → PR (ad, l) rI r L n E m l0 → (∀ x, x ∈ S → ar r 59 x.toNatClampNeg = 0) → (∀ x, RD r L x → x ∉ S) → (1 ≤ v.toInt ∧ v.toInt + m ≤ 40) → ar r 60 (v - 1).toNatClampNeg = n → (∀ r', PO (ad, l) rI r r' S (GC r L) E m (ar r' 55 n.toNatClampNeg) → (∀ i, i < v.toNatClampNeg → ar r' 60 i = ar r 60 i) → ∀ F, f + 1 ≤ F → qM_typeAll_L9 (ad, l) KX F r' (v + -1)) → ∀ F, f + 3 * m + 1 ≤ F → qM_typeAll_L9 (ad, l) KX F r v
theorem L9_unf {KX : S_ → Prop} {F : Nat} {n v : Int32} (hM : ML (ad, l)) (h1 : 1 ≤ v.toInt) (h2 : v.toInt ≤ 40) (f32 : fi r 32 = 0) (e : ar r 60 (v - 1).toNatClampNeg = n) (h : qM_visit (ad, l) (fun z6 r7 => ((0 ≤ z6) → vp_in v (ln (ad, l) 60) ∧ ∀ r10 : S_, r10 = sA r7 60 (upd (ar r7 60) v.toNatClampNeg z6) → qM_typeAll_J53 (ad, l) (qM_typeAll_L9 (ad, l) KX F) KX r10 (v + 1)) ∧ ((¬ 0 ≤ z6) → qM_typeAll_J53 (ad, l) (qM_typeAll_L9 (ad, l) KX F) KX r7 (v + (-1)))) r n) : qM_typeAll_L9 (ad, l) KX (F + 1) r v := by
  have d1 : (v - 1).toInt = v.toInt - 1 := i_sub (by simp; omega) (by simp; omega)
  rw [qM_typeAll_L9, e]
  refine ⟨fun z => ?_, fun _ => ⟨fun z => absurd f32 z, fun _ => ⟨vi (by rw [il, d1]; simp; omega) (by rw [ml (n := 64) hM (by decide) (by decide) rfl, d1]; omega), h⟩⟩⟩
  rw [il] at z
  simp at z
  omega
theorem typ_leaf {KX : S_ → Prop} (hI : INV l rI) (hX : ∀ r, Bad (ad, l) rI r → KX r) {n : Int32} {L : List (Int32 × Nat)} {E : Nat} {l0 : List Int32} {v : Int32} {f : Nat} (nk : nodeOK r n) (hk : kd r n = 0 ∨ (kd r n = 4 ∧ (0 ≤ ar r 46 (ar r 50 n.toNatClampNeg).toNatClampNeg ∧ ar r 46 (ar r 50 n.toNatClampNeg).toNatClampNeg < 8) ∧ 0 ≤ ar r 42 (ar r 46 (ar r 50 n.toNatClampNeg).toNatClampNeg).toNatClampNeg ∧ ar r 42 (ar r 46 (ar r 50 n.toNatClampNeg).toNatClampNeg).toNatClampNeg < fi r 1) ∨ (kd r n = 5 ∧ 0 ≤ ar r 46 (ar r 50 n.toNatClampNeg).toNatClampNeg ∧ ar r 46 (ar r 50 n.toNatClampNeg).toNatClampNeg < fi r 1)) (p : PR (ad, l) rI r L n E 1 l0) (hv : 1 ≤ v.toInt ∧ v.toInt + (1 : Nat) ≤ 40) (hp : ar r 60 (v - 1).toNatClampNeg = n) (hc : ∀ r', PO (ad, l) rI r r' [n] (GC r L) E 1 (ar r' 55 n.toNatClampNeg) → (∀ i, i < v.toNatClampNeg → ar r' 60 i = ar r 60 i) → ∀ F, f + 1 ≤ F → qM_typeAll_L9 (ad, l) KX F r' (v + -1)) (F : Nat) (hF : f + 3 * 1 + 1 ≤ F) : qM_typeAll_L9 (ad, l) KX F r v := by
  obtain ⟨F, rfl⟩ : ∃ m, F = m + 1 := ⟨F - 1, by omega⟩
  obtain ⟨rh, ta, N, q, cg⟩ := p.qi
  refine L9_unf q.2.1.1 hv.1 (by omega) p.f32 hp (vis_leaf hI p nk hk (fun r' po e60 => ⟨fun z => absurd z (by decide), fun _ => hc r' po (fun i _ => by rw [e60]) F (by omega)⟩) (fun r' bad => ⟨fun z => absurd z (by decide), fun _ => fexit bad.2.2 (hX r' bad) (by omega)⟩))
end TYPALL
