/-! Settling: its loops. -/
section SETTLE2
variable {a : L_} {r r' : S_} {rh ta rk : Int32 → Int32} {N : Int32} {acy : Prop}
theorem PW_SI (w : PW a r rh ta N acy rk) (h : KT a r) : SI a r rh ta N := by
  have o := ordL w
  refine ⟨w.1, w.2.1, h, o.1, o.2, fun k k1 k2 => ?_⟩
  have b := ord_in w k1 k2
  exact ⟨b.1, b.2.1, b.2.2.1⟩
theorem Sm_w {r1 r2 : S_} (w : Fw r1 r2) : Sm r1 r2 := ⟨Fr_mono (Fr_w w) (by decide) (by decide), w.2.2.2.1⟩
theorem KT_Sm {r1 r2 : S_} (w : KT a r1) (s : Sm r1 r2) : KT a r2 := by
  have e : fi r2 2 = fi r1 2 := s.1.1 2 (by decide)
  unfold KT
  rw [e]
  exact w
/-- the names around -/
def TA (a : L_) (r : S_) : Prop := 0 ≤ fi r 5 ∧ fi r 5 ≤ 24 ∧ ln a 17 = 24 ∧ ln a 18 = 24 ∧ ln a 19 = 24 ∧ ∀ i, 0 ≤ i → i < fi r 5 → 0 ≤ ar r 18 i.toNatClampNeg ∧ ar r 18 i.toNatClampNeg < fi r 11
theorem ord30 (w : SI a r rh ta N) {k : Int32} (h1 : 0 ≤ k) (h2 : k < fi r 12) : vp_in k (ln a 30) := by
  refine vi2 h1 h2 ?_
  have e1 := w.1.1.2.2.2.2.2.2.2.2.1
  have := w.2.2.2.2.1
  have := w.1.2.2.1
  rw [e1]
  omega
theorem markBound_ok (hI : GI a r rh ta N) (hv : VB r) (hb : fi r 13 < 2000000000) (hk : KT a r) (hA : TA a r) {K : S_ → Prop} (hK : ∀ r', SI a r' rh ta N → Sm r r' → fi r' 13 = fi r 13 + 1 → K r') : qY_markBound a K r := by
  obtain ⟨a1, a2, a3, a4, a5, a6⟩ := hA
  unfold qY_markBound
  have w0 := PW_start (acy := False) (rk := id) hI hv hb (fun z => z.elim)
  have s0 : Sm r (sF (sF r 13 (fi r 13 + 1)) 12 0) := Sm_trans (Sm_F (by decide)) (Sm_F (by decide))
  have c5 := i_nat a1
  have l48 : ∀ (n : Nat) (r1 : S_) (v : Int32), SI a r1 rh ta N → Sm r r1 → fi r1 13 = fi r 13 + 1 → 0 ≤ v → v ≤ fi r1 12 → (fi r1 12).toInt - v.toInt < n → qY_markBound_L48 a (fun r => K r) n r1 v := by
    intro n
    induction n with
    | zero => intro r1 v q1 q2 q3 k1 k2 k3; rw [il] at k2; omega
    | succ n ih =>
      intro r1 v q1 q2 q3 k1 k2 k3
      rw [qY_markBound_L48]
      refine ⟨fun _ => hK r1 q1 q2 q3, fun g => ?_⟩
      have hlt : v < fi r1 12 := Int32.not_le.mp g
      have hi := i_inc hlt
      have b := q1.2.2.2.2.2 v k1 hlt
      refine ⟨ord30 q1 k1 hlt, vi2 b.1 b.2.1 (by rw [q1.1.1.2.2.2.2.2.1]; exact q1.1.2.2.1), fun r10 e10 => ?_⟩
      subst e10
      refine ih _ (v + 1) (SI_A q1 (by decide)) (Sm_trans q2 (Sm_A (by decide))) q3 (by clear ih q1 q2 q3 hK w0 s0 b; grind) (by show v + 1 ≤ fi r1 12; clear ih q1 q2 q3 hK w0 s0 b; grind) (by show (fi r1 12).toInt - (v + 1).toInt < n; omega)
  have l9 : ∀ (n : Nat) (r1 : S_) (v : Int32), PW a r1 rh ta N False id → Sm r r1 → fi r1 13 = fi r 13 + 1 → 0 ≤ v → v ≤ fi r 5 → (fi r 5).toInt - v.toInt < n → qY_markBound_L9 a (fun r => ∃ n11 : Nat, qY_markBound_L48 a (fun r => K r) n11 r 0) n r1 v := by
    intro n
    induction n with
    | zero => intro r1 v q1 q2 q3 k1 k2 k3; rw [il] at k2; omega
    | succ n ih =>
      intro r1 v q1 q2 q3 k1 k2 k3
      have e5 : fi r1 5 = fi r 5 := q2.1.1 5 (by decide)
      have e11 : fi r1 11 = fi r 11 := q2.1.1 11 (by decide)
      have e18 : ar r1 18 = ar r 18 := q2.1.2.1 18 (by decide)
      rw [qY_markBound_L9, e5, e18]
      refine ⟨fun _ => ?_, fun g => ?_⟩
      · have s1 := PW_SI q1 (KT_Sm hk q2)
        have c0 := i_nat s1.2.2.2.1
        exact ⟨(fi r1 12).toNatClampNeg + 1, l48 _ r1 0 s1 q2 q3 (by decide) s1.2.2.2.1 (by simp; omega)⟩
      · have hlt : v < fi r 5 := Int32.not_le.mp g
        have hi := i_inc hlt
        have c1 : 0 ≤ v + 1 := by clear ih q1 q2 q3 hK w0 s0 l48; grind
        have c2 : v + 1 ≤ fi r 5 := by clear ih q1 q2 q3 hK w0 s0 l48; grind
        have v24 : ∀ m, ln a m = 24 → vp_in v (ln a m) := fun m hm => vi2 k1 hlt (by rw [hm]; rw [il] at a2; simpa using a2)
        have b := a6 v k1 hlt
        unfold qY_markBound_J40
        refine ⟨v24 19 a5, fun _ => ih r1 _ q1 q2 q3 c1 c2 (by omega), fun _ => ⟨v24 18 a4, walk_ok q1 b.1 (by rw [e11]; exact b.2) (fun r2 t1 t2 _ => ?_)⟩⟩
        exact ih r2 _ t1 (Sm_trans q2 (Sm_w t2)) ((t2.1 13 (by decide) (by decide)).trans q3) c1 c2 (by omega)
  refine startWalk_ok ⟨(fi r 5).toNatClampNeg + 1, ?_⟩
  exact l9 _ _ 0 w0 s0 rfl (by decide) a1 (by simp; omega)
theorem holdsOpen_ok {x : Int32} (w : GI a r rh ta N) (x1 : -1 ≤ x) (x2 : x < fi r 11) {K : Int32 → Prop} (h0 : K 0) (h1 : K 1) : qY_holdsOpen a r K x := by
  unfold qY_holdsOpen
  refine ⟨fun _ => ⟨zb0, h0⟩, fun g => ⟨vi2 ?_ x2 ?_, fun _ => ⟨zb0, h0⟩, fun _ => ⟨zb1, h1⟩⟩⟩
  · clear w; grind
  · rw [w.1.2.2.2.2.1]; exact w.2.2.1
theorem markOpen_ok {p0 : Int32} (hI : GI a r rh ta N) (hv : VB r) (hb : fi r 13 < 2000000000) (hk : KT a r) (x1 : 0 ≤ p0) (x2 : p0 < fi r 11) {K : S_ → Prop} (hK : ∀ r', SI a r' rh ta N → Sm r r' → fi r' 13 = fi r 13 + 1 → K r') : qY_markOpen a K r p0 := by
  unfold qY_markOpen
  have w0 := PW_start (acy := False) (rk := id) hI hv hb (fun z => z.elim)
  have s0 : Sm r (sF (sF r 13 (fi r 13 + 1)) 12 0) := Sm_trans (Sm_F (by decide)) (Sm_F (by decide))
  have l17 : ∀ (n : Nat) (r1 : S_) (v : Int32), SI a r1 rh ta N → Sm r r1 → fi r1 13 = fi r 13 + 1 → 0 ≤ v → v ≤ fi r1 12 → (fi r1 12).toInt - v.toInt < n → qY_markOpen_L17 a (fun r => K r) n r1 v := by
    intro n
    induction n with
    | zero => intro r1 v q1 q2 q3 k1 k2 k3; rw [il] at k2; omega
    | succ n ih =>
      intro r1 v q1 q2 q3 k1 k2 k3
      rw [qY_markOpen_L17]
      refine ⟨fun _ => hK r1 q1 q2 q3, fun g => ?_⟩
      have hlt : v < fi r1 12 := Int32.not_le.mp g
      have hi := i_inc hlt
      have b := q1.2.2.2.2.2 v k1 hlt
      have nn := q1.1.2.2.2.1 _ b.1 b.2.1
      have c1 : 0 ≤ v + 1 := by clear ih q1 q2 q3 hK w0 s0 b nn; grind
      have c2 : v + 1 ≤ fi r1 12 := by clear ih q1 q2 q3 hK w0 s0 b nn; grind
      have fin : ∀ (f : Nat → Int32) (u0 : Int32), GI a (sA r1 22 f) rh ta N → FS (fi r1 11) (ar r1 21) (ar r1 22) f → qY_markOpen_J108 a (qY_markOpen_L17 a (fun r => K r) n) (fun r => K r) (sA r1 22 f) v (ar r1 30 v.toNatClampNeg) u0 := by
        intro f u0 k1 k2
        unfold qY_markOpen_J108 qY_markOpen_J128
        have i26 : vp_in (ar r1 30 v.toNatClampNeg) (ln a 26) := vi2 b.1 b.2.1 (by rw [q1.1.1.2.2.2.2.1]; exact q1.1.2.2.1)
        refine ⟨fun _ => ⟨i26, fun r13 e13 => ?_⟩, fun _ => ⟨i26, fun r13 e13 => ?_⟩⟩
        · subst e13
          exact ih _ (v + 1) (SI_A (SI_22 q1 k1) (by decide)) (Sm_trans q2 (Sm_trans (Sm_22 k2) (Sm_A (by decide)))) q3 c1 c2 (by show (fi r1 12).toInt - (v + 1).toInt < n; omega)
        · subst e13
          exact ih _ (v + 1) (SI_A (SI_22 q1 k1) (by decide)) (Sm_trans q2 (Sm_trans (Sm_22 k2) (Sm_A (by decide)))) q3 c1 c2 (by show (fi r1 12).toInt - (v + 1).toInt < n; omega)
      have fin0 : ∀ (u0 : Int32), qY_markOpen_J108 a (qY_markOpen_L17 a (fun r => K r) n) (fun r => K r) r1 v (ar r1 30 v.toNatClampNeg) u0 := by
        intro u0
        have := fin (ar r1 22) u0 (by rw [sA_id]; exact q1.1) (fun _ _ _ _ => rfl)
        rw [sA_id] at this
        exact this
      have snd : ∀ (f : Nat → Int32), GI a (sA r1 22 f) rh ta N → FS (fi r1 11) (ar r1 21) (ar r1 22) f → qG_secondOf a (fun z14 r15 => qY_holdsOpen a r15 (fun z16 => zb z16 → ((z16 = 0) → qY_markOpen_J108 a (qY_markOpen_L17 a (fun r => K r) n) (fun r => K r) r15 v (ar r1 30 v.toNatClampNeg) 0) ∧ ((¬ z16 = 0) → qY_markOpen_J103 a (qY_markOpen_L17 a (fun r => K r) n) (fun r => K r) r15 v (ar r1 30 v.toNatClampNeg))) z14) (sA r1 22 f) (ar r1 30 v.toNatClampNeg) := by
        intro f k1 k2
        refine secondOf_ok k1 b.1 b.2.1 (fun g => ?_) (fun g f2 k3 k4 => ?_)
        · refine holdsOpen_ok k1 (by decide) (by show (-1 : Int32) < fi r1 11; have := q1.1.2.1; clear ih q1 q2 q3 hK w0 s0 fin fin0 nn; grind) (fun _ => ⟨fun _ => fin f _ k1 k2, fun z => absurd rfl z⟩) (fun _ => ⟨fun z => absurd z (by decide), fun _ => by unfold qY_markOpen_J103; exact fin f _ k1 k2⟩)
        · have e22 : sA (sA r1 22 f) 22 f2 = sA r1 22 f2 := sA_sA _ _ _ _
          rw [e22] at k3 ⊢
          have k5 : FS (fi r1 11) (ar r1 21) (ar r1 22) f2 := fun x x1 x2 x3 => (k4 x x1 x2 x3).trans (k2 x x1 x2 x3)
          have y1 : 0 ≤ ar r1 23 (ar r1 30 v.toNatClampNeg).toNatClampNeg := by
            have g5 : ¬ ar r1 23 (ar r1 30 v.toNatClampNeg).toNatClampNeg = -1 := g
            have := nn.2.2.2.2.1
            clear ih q1 q2 q3 hK w0 s0 fin fin0 nn k1 k2 k3 k4 k5 g b
            grind
          have q := q1.1.2.2.2.2.1.2 _ y1 nn.2.2.2.2.2.1
          exact holdsOpen_ok k3 (by have := q.1; clear ih q1 q2 q3 hK w0 s0 fin fin0 nn k1 k2 k3 k4 k5 q; grind) q.2.1 (fun _ => ⟨fun _ => fin f2 _ k3 k5, fun z => absurd rfl z⟩) (fun _ => ⟨fun z => absurd z (by decide), fun _ => by unfold qY_markOpen_J103; exact fin f2 _ k3 k5⟩)
      refine ⟨ord30 q1 k1 hlt, isVar_ok q1.1 b.1 b.2.1 (fun _ _ => ⟨fun _ => ?_, fun z => absurd rfl z⟩) (fun _ _ => ⟨fun z => absurd z (by decide), fun _ => ⟨vi2 b.1 b.2.1 (by rw [q1.1.1.2.2.2.2.2.1]; exact q1.1.2.2.1), fun _ => fin0 0, fun _ => fin0 1⟩⟩)⟩
      refine firstOf_ok q1.1 b.1 b.2.1 (fun g => ?_) (fun g f2 k3 k4 => ?_)
      · have s1 := snd (ar r1 22) (by rw [sA_id]; exact q1.1) (fun _ _ _ _ => rfl)
        rw [sA_id] at s1
        refine holdsOpen_ok q1.1 (by decide) (by have := q1.1.2.1; clear ih q1 q2 q3 hK w0 s0 fin fin0 nn snd s1; grind) (fun _ => ⟨fun z => absurd rfl z, fun _ => s1⟩) (fun _ => ⟨fun _ => by unfold qY_markOpen_J103; exact fin0 _, fun z => absurd z (by decide)⟩)
      · have y1 : 0 ≤ ar r1 22 (ar r1 30 v.toNatClampNeg).toNatClampNeg := by
          have := nn.2.2.1
          clear ih q1 q2 q3 hK w0 s0 fin fin0 nn k3 k4 snd b
          grind
        have q := q1.1.2.2.2.2.1.2 _ y1 nn.2.2.2.1
        exact holdsOpen_ok k3 (by have := q.1; clear ih q1 q2 q3 hK w0 s0 fin fin0 nn k3 k4 snd q; grind) q.2.1 (fun _ => ⟨fun z => absurd rfl z, fun _ => snd f2 k3 k4⟩) (fun _ => ⟨fun _ => by unfold qY_markOpen_J103; exact fin f2 _ k3 k4, fun z => absurd z (by decide)⟩)
  refine startWalk_ok (walk_ok w0 x1 x2 (fun r2 t1 t2 _ => ?_))
  have s1 := PW_SI t1 (KT_Sm hk (Sm_trans s0 (Sm_w t2)))
  have c0 := i_nat s1.2.2.2.1
  exact ⟨(fi r2 12).toNatClampNeg + 1, l17 _ r2 0 s1 (Sm_trans s0 (Sm_w t2)) (t2.1 13 (by decide) (by decide)) (by decide) s1.2.2.2.1 (by simp; omega)⟩
end SETTLE2
