/-! Settling, the whole. -/
section SETTLE3
variable {a : L_} {r r' : S_} {rh ta rk : Int32 → Int32} {N : Int32} {acy : Prop}
theorem gatherAsked_ok {p0 : Int32} (hI : GI a r rh ta N) (hv : VB r) (hb : fi r 13 < 2000000000) (hk : KT a r) (x1 : 0 ≤ p0) (x2 : p0 ≤ fi r 11) {K : S_ → Prop} (hK : ∀ r', SI a r' rh ta N → Sm r r' → fi r' 13 = fi r 13 + 1 → K r') : qY_gatherAsked a K r p0 := by
  unfold qY_gatherAsked
  have w0 := PW_start (acy := False) (rk := id) hI hv hb (fun z => z.elim)
  have s0 : Sm r (sF (sF r 13 (fi r 13 + 1)) 12 0) := Sm_trans (Sm_F (by decide)) (Sm_F (by decide))
  have c11 := i_nat hI.2.1
  have l85 : ∀ (n : Nat) (r1 : S_) (v : Int32), SI a r1 rh ta N → Sm r r1 → fi r1 13 = fi r 13 + 1 → 0 ≤ v → v ≤ fi r 11 → (fi r 11).toInt - v.toInt < n → qY_gatherAsked_L85 a (fun r => K r) n r1 v := by
    intro n
    induction n with
    | zero => intro r1 v q1 q2 q3 k1 k2 k3; rw [il] at k2; omega
    | succ n ih =>
      intro r1 v q1 q2 q3 k1 k2 k3
      have e11 : fi r1 11 = fi r 11 := q2.1.1 11 (by decide)
      rw [qY_gatherAsked_L85, e11]
      refine ⟨fun _ => hK r1 q1 q2 q3, fun g => ?_⟩
      have hlt : v < fi r 11 := Int32.not_le.mp g
      have hi := i_inc hlt
      have c1 : 0 ≤ v + 1 := by clear ih q1 q2 q3 hK w0 s0; grind
      have c2 : v + 1 ≤ fi r 11 := by clear ih q1 q2 q3 hK w0 s0; grind
      have hlt2 : v < fi r1 11 := by rw [e11]; exact hlt
      have i24 : vp_in v (ln a 24) := vi2 k1 hlt2 (by rw [q1.1.1.2.2.1]; exact q1.1.2.2.1)
      have rr := q1.1.2.2.2.2.1.2 v k1 hlt2
      have i29 : vp_in (rh v) (ln a 29) := vi2 rr.1 rr.2.1 (by rw [q1.1.1.2.2.2.2.2.2.2.1]; exact q1.1.2.2.1)
      unfold qY_gatherAsked_J146
      refine ⟨i24, fun _ => ih r1 _ q1 q2 q3 c1 c2 (by omega), fun _ => settled_ok q1.1 k1 hlt2 (fun f k1 k2 => ⟨i29, i24, i29, fun r18 e18 => ⟨i24, fun r20 e20 => ?_⟩⟩)⟩
      subst e18
      subst e20
      exact ih _ _ (SI_A (SI_A (SI_22 q1 k1) (by decide)) (by decide)) (Sm_trans q2 (Sm_trans (Sm_22 k2) (Sm_trans (Sm_A (by decide)) (Sm_A (by decide))))) q3 c1 c2 (by omega)
  have l48 : ∀ (n : Nat) (r1 : S_) (v : Int32), SI a r1 rh ta N → Sm r r1 → fi r1 13 = fi r 13 + 1 → 0 ≤ v → v ≤ fi r1 12 → (fi r1 12).toInt - v.toInt < n → qY_gatherAsked_L48 a (fun r v1 => ∃ n21 : Nat, qY_gatherAsked_L85 a (fun r => K r) n21 r v1) n r1 p0 v := by
    intro n
    induction n with
    | zero => intro r1 v q1 q2 q3 k1 k2 k3; rw [il] at k2; omega
    | succ n ih =>
      intro r1 v q1 q2 q3 k1 k2 k3
      rw [qY_gatherAsked_L48]
      refine ⟨fun _ => ?_, fun g => ?_⟩
      · have c0 := i_nat x1
        exact ⟨(fi r 11).toNatClampNeg + 1, l85 _ r1 p0 q1 q2 q3 x1 x2 (by omega)⟩
      · have hlt : v < fi r1 12 := Int32.not_le.mp g
        have hi := i_inc hlt
        have b := q1.2.2.2.2.2 v k1 hlt
        refine ⟨ord30 q1 k1 hlt, vi2 b.1 b.2.1 (by rw [q1.1.1.2.2.2.2.2.2.2.1]; exact q1.1.2.2.1), fun r9 e9 => ?_⟩
        subst e9
        exact ih _ (v + 1) (SI_A q1 (by decide)) (Sm_trans q2 (Sm_A (by decide))) q3 (by clear ih q1 q2 q3 hK w0 s0 b l85; grind) (by show v + 1 ≤ fi r1 12; clear ih q1 q2 q3 hK w0 s0 b l85; grind) (by show (fi r1 12).toInt - (v + 1).toInt < n; omega)
  have l9 : ∀ (n : Nat) (r1 : S_) (v : Int32), PW a r1 rh ta N False id → Sm r r1 → fi r1 13 = fi r 13 + 1 → 0 ≤ v → v ≤ fi r 11 → (fi r 11).toInt - v.toInt < n → qY_gatherAsked_L9 a (fun r v1 => ∃ n22 : Nat, qY_gatherAsked_L48 a (fun r v1 => ∃ n21 : Nat, qY_gatherAsked_L85 a (fun r => K r) n21 r v1) n22 r v1 0) n r1 p0 v := by
    intro n
    induction n with
    | zero => intro r1 v q1 q2 q3 k1 k2 k3; rw [il] at k2; omega
    | succ n ih =>
      intro r1 v q1 q2 q3 k1 k2 k3
      have e11 : fi r1 11 = fi r 11 := q2.1.1 11 (by decide)
      rw [qY_gatherAsked_L9, e11]
      refine ⟨fun _ => ?_, fun g => ?_⟩
      · have s1 := PW_SI q1 (KT_Sm hk q2)
        have c0 := i_nat s1.2.2.2.1
        exact ⟨(fi r1 12).toNatClampNeg + 1, l48 _ r1 0 s1 q2 q3 (by decide) s1.2.2.2.1 (by simp; omega)⟩
      · have hlt : v < fi r 11 := Int32.not_le.mp g
        have hi := i_inc hlt
        have c1 : 0 ≤ v + 1 := by clear ih q1 q2 q3 hK w0 s0 l48 l85; grind
        have c2 : v + 1 ≤ fi r 11 := by clear ih q1 q2 q3 hK w0 s0 l48 l85; grind
        have hlt2 : v < fi r1 11 := by rw [e11]; exact hlt
        have g1 : GI a r1 rh ta N := q1.1
        have i24 : vp_in v (ln a 24) := vi2 k1 hlt2 (by rw [g1.1.2.2.1]; exact g1.2.2.1)
        unfold qY_gatherAsked_J40
        refine ⟨i24, fun _ => ih r1 _ q1 q2 q3 c1 c2 (by omega), fun _ => walk_ok q1 k1 hlt2 (fun r2 t1 t2 _ => ?_)⟩
        exact ih r2 _ t1 (Sm_trans q2 (Sm_w t2)) ((t2.1 13 (by decide) (by decide)).trans q3) c1 c2 (by omega)
  refine startWalk_ok ⟨(fi r 11).toNatClampNeg + 1, ?_⟩
  exact l9 _ _ p0 w0 s0 rfl x1 x2 (by have := i_nat x1; omega)
theorem settle_L {r0 : S_} {K : Int32 → S_ → Prop} (hK : ∀ z r', SI a r' rh ta N → Sm r0 r' → fi r' 13 = fi r0 13 + 3 → K z r') : ∀ (n : Nat) (r : S_) (v3 v4 : Int32), SI a r rh ta N → Sm r0 r → fi r 13 = fi r0 13 + 3 → -1 ≤ v4 → v4 < fi r 12 → v4.toInt + 1 < n → qY_settle_L37 a (fun r v3 => K v3 r) n r v3 v4 := by
  intro n
  induction n with
  | zero =>
    intro r v3 v4 q1 q2 q3 k1 k2 k3
    rw [il] at k1
    simp at k1
    omega
  | succ n ih =>
    intro r v3 v4 q1 q2 q3 k1 k2 k3
    rw [qY_settle_L37]
    refine ⟨fun _ => hK _ r q1 q2 q3, fun g => ?_⟩
    have p0 : 0 ≤ v4 := by clear ih q1 q2 q3 hK; grind
    have b := q1.2.2.2.2.2 v4 p0 k2
    have nn := q1.1.2.2.2.1 _ b.1 b.2.1
    have i29 : vp_in (ar r 30 v4.toNatClampNeg) (ln a 29) := vi2 b.1 b.2.1 (by rw [q1.1.1.2.2.2.2.2.2.2.1]; exact q1.1.2.2.1)
    have hd : (v4 + -1).toInt = v4.toInt - 1 := by
      have h9 := p0
      rw [il] at h9
      have := ir v4
      rw [i_add (by simp at h9 ⊢; omega) (by simp at h9 ⊢; omega)]
      simp
      omega
    have c1 : -1 ≤ v4 + -1 := by rw [il, hd]; rw [il] at p0; simp at p0 ⊢; omega
    have c2 : v4 + -1 < v4 := by rw [it, hd]; omega
    unfold qY_settle_J120
    refine ⟨ord30 q1 p0 k2, i29, fun _ => isVar_ok q1.1 b.1 b.2.1 (fun g2 _ => ⟨fun _ => ⟨i29, ?_⟩, fun z => absurd rfl z⟩) (fun g2 _ => ⟨fun z => absurd z (by decide), fun _ => ⟨i29, ?_⟩⟩), fun _ => ?_⟩
    · refine handDown_ok q1 b.1 b.2.1 ?_ (fun r2 t1 t2 t3 t4 t5 => ?_)
      · have := nn.1
        have := b.2.2
        clear ih q1 q2 q3 hK nn b
        grind
      · exact ih r2 _ _ t1 (Sm_trans q2 t2) (t5.trans q3) c1 (by rw [t3]; exact ltt c2 k2) (by omega)
    · refine settleVariable_ok q1 b.1 b.2.1 (fun z r2 t1 t2 t3 t4 t5 => ?_)
      exact ih r2 _ _ t1 (Sm_trans q2 t2) (t5.trans q3) c1 (by rw [t3]; exact ltt c2 k2) (by omega)
    · exact ih r _ _ q1 q2 q3 c1 (ltt c2 k2) (by omega)
theorem settle_ok {p0 p1 : Int32} (hI : GI a r rh ta N) (hv : VB r) (hb : fi r 13 < 1999999990) (hk : KT a r) (hA : TA a r) (x1 : 0 ≤ p0) (x2 : p0 ≤ fi r 11) (y1 : 0 ≤ p1) (y2 : p1 < fi r 11) {K : Int32 → S_ → Prop} (hK : ∀ z r', GI a r' rh ta N → VB r' → Sm r r' → fi r' 13 = fi r 13 + 3 → K z r') : qY_settle a K r p0 p1 := by
  unfold qY_settle
  intro r1 e1
  have s1 : Sm r r1 := by rw [e1]; exact Sm_F (by decide)
  have i1 : GI a r1 rh ta N := by rw [e1]; exact hI
  have v1 : VB r1 := by rw [e1]; exact hv
  have k1 : KT a r1 := by rw [e1]; exact hk
  have a1 : TA a r1 := by rw [e1]; exact hA
  have b1 : fi r1 13 = fi r 13 := by rw [e1]; rfl
  clear e1
  have hv0 := hv.1
  refine markBound_ok i1 v1 (by rw [b1]; clear hI hv hK i1 v1 k1 a1 hA hk; grind) k1 a1 (fun r2 q1 q2 q3 => ?_)
  have e2 : fi r2 11 = fi r 11 := (q2.1.1 11 (by decide)).trans (s1.1.1 11 (by decide))
  refine markOpen_ok q1.1 q1.2.1 (by rw [q3, b1]; clear hI hv hK i1 v1 k1 a1 hA hk q1 q2; grind) q1.2.2.1 y1 (by rw [e2]; exact y2) (fun r3 t1 t2 t3 => ?_)
  have e3 : fi r3 11 = fi r 11 := (t2.1.1 11 (by decide)).trans e2
  refine gatherAsked_ok t1.1 t1.2.1 (by rw [t3, q3, b1]; clear hI hv hK i1 v1 k1 a1 hA hk q1 q2 t1 t2; grind) t1.2.2.1 x1 (by rw [e3]; exact x2) (fun r4 u1 u2 u3 => ?_)
  have c0 := i_nat u1.2.2.2.1
  have hd : (fi r4 12 - 1).toInt = (fi r4 12).toInt - 1 := by
    have h9 := u1.2.2.2.1
    rw [il] at h9
    have := ir (fi r4 12)
    rw [i_sub (by simp at h9 ⊢; omega) (by simp at h9 ⊢; omega)]
    simp
  refine ⟨(fi r4 12).toNatClampNeg + 1, settle_L (r0 := r) (fun z r' p1 p2 p3 => hK z r' p1.1 p1.2.1 p2 p3) _ r4 _ _ u1 (Sm_trans s1 (Sm_trans q2 (Sm_trans t2 u2))) ?_ ?_ ?_ ?_⟩
  · rw [u3, t3, q3, b1]
    clear hI hv hK i1 v1 k1 a1 hA hk q1 q2 t1 t2 u1 u2
    grind
  · rw [il, hd]
    simp
    omega
  · rw [it, hd]
    omega
  · omega
end SETTLE3
