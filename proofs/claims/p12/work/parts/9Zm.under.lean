/-! Calls on both sides: under; what reaches what. -/
section UNDER
/-- class c is under class i -/
def und (r : S_) (c : Int32) (i : Nat) : Bool := gb (ar r 7 c.toNatClampNeg) i
theorem und_step {r : S_} (kq : KQ r) (k8 : fi r 2 ≤ 8) {c : Int32} (c0 : 0 ≤ c) (c1 : c < fi r 2) {i : Nat} (hi : i < 32) : und r c i = (decide (i = c.toNatClampNeg) || (if ar r 6 c.toNatClampNeg = -1 then false else und r (ar r 6 c.toNatClampNeg) i)) := by
  have b := (kq c c0 c1).2
  unfold und
  rw [b, gb_or, gb_one c0 (by clear kq b; grind) hi]
  split
  · rw [gb_0]
  · rfl
theorem und_lt {r : S_} (kq : KQ r) (k8 : fi r 2 ≤ 8) : ∀ (n : Nat) (c : Int32), 0 ≤ c → c < fi r 2 → c.toInt < n → ∀ i, i < 32 → und r c i = true → i ≤ c.toNatClampNeg := by
  intro n
  induction n with
  | zero =>
    intro c c0 c1 c2
    rw [il] at c0
    simp at c0
    omega
  | succ n ih =>
    intro c c0 c1 c2 i hi h
    rw [und_step kq k8 c0 c1 hi] at h
    have b := (kq c c0 c1).1
    by_cases e : i = c.toNatClampNeg
    · omega
    · by_cases g : ar r 6 c.toNatClampNeg = -1
      · simp [e, g] at h
      · simp [e, g] at h
        have p0 : 0 ≤ ar r 6 c.toNatClampNeg := by have := b.1; clear kq ih b h; grind
        have p1 := b.2
        have := ih _ p0 (ltt p1 c1) (by rw [it] at p1; omega) i hi h
        have n1 := i_nat p0
        have n2 := i_nat c0
        rw [it] at p1
        omega
theorem isUnder_ok {a : L_} {r0 r : S_} (hM : ML a) (kq : KQ r0) (k8 : fi r0 2 ≤ 8) (e41 : ar r 41 = ar r0 6) {c d : Int32} (c0 : 0 ≤ c) (c1 : c < fi r0 2) (d0 : 0 ≤ d) (d1 : d < 8) {K : Int32 → Prop} (h1 : und r0 c d.toNatClampNeg = true → K 1) (h0 : und r0 c d.toNatClampNeg = false → K 0) : qM_isUnder a r (fun z => zb z → K z) c d := by
  have l41 : ln a 41 = 8 := ml hM (by decide) (by decide) rfl
  have dl := d_lt d0 d1
  have key : ∀ (n : Nat) (x : Int32), (x = -1 ∨ (0 ≤ x ∧ x < fi r0 2)) → x.toInt + 1 < n → ((if x = -1 then false else und r0 x d.toNatClampNeg) = true → K 1) → ((if x = -1 then false else und r0 x d.toNatClampNeg) = false → K 0) → qM_isUnder_L2 a r (fun v2 v3 => qM_isUnder_J21 a r (fun z => zb z → K z) v2 v3) n d x := by
    intro n
    induction n with
    | zero =>
      intro x hx hn
      rcases hx with e | e
      · rw [e] at hn
        simp at hn
      · have := e.1
        rw [il] at this
        simp at this
        omega
    | succ n ih =>
      intro x hx hn k1 k0
      rw [qM_isUnder_L2]
      unfold qM_isUnder_J21
      refine ⟨fun g => ⟨fun _ => ⟨zb0, fun _ => k0 ?_⟩, fun e => ?_⟩, fun g => ⟨fun e => ⟨fun z => absurd e z, fun _ => ⟨zb1, fun _ => k1 ?_⟩⟩, fun e => ⟨?_, ?_⟩⟩⟩
      · rcases hx with e | e
        · rw [if_pos e]
        · exact absurd g (fun z => nl0 e.1 z)
      · rw [e] at g
        exact absurd g (fun z => nl0 d0 z)
      · have xr : 0 ≤ x ∧ x < fi r0 2 := by
          rcases hx with e2 | e2
          · rw [e2] at g; exact absurd (by decide) g
          · exact e2
        rw [if_neg (fun z => by rw [z] at g; exact absurd (by decide) g), und_step kq k8 xr.1 xr.2 (by omega), e]
        simp
      · rcases hx with e2 | e2
        · rw [e2] at g; exact absurd (by decide) g
        · exact vi2 e2.1 e2.2 (by rw [l41]; rw [il] at k8; simpa using k8)
      · have xr : 0 ≤ x ∧ x < fi r0 2 := by
          rcases hx with e2 | e2
          · rw [e2] at g; exact absurd (by decide) g
          · exact e2
        have b := (kq x xr.1 xr.2).1
        have st := und_step kq k8 xr.1 xr.2 (i := d.toNatClampNeg) (by omega)
        have nd : ¬ d.toNatClampNeg = x.toNatClampNeg := fun z => e ((i_inj d0 xr.1).mp z).symm
        have ev : (if x = -1 then false else und r0 x d.toNatClampNeg) = (if ar r0 6 x.toNatClampNeg = -1 then false else und r0 (ar r0 6 x.toNatClampNeg) d.toNatClampNeg) := by
          rw [if_neg (fun z => by rw [z] at g; exact absurd (by decide) g), st]
          simp [nd]
        rw [ev] at k1 k0
        rw [e41]
        refine ih _ ?_ ?_ k1 k0
        · by_cases e9 : ar r0 6 x.toNatClampNeg = -1
          · exact Or.inl e9
          · exact Or.inr ⟨by have := b.1; clear kq ih b st k1 k0 ev; grind, ltt b.2 xr.2⟩
        · have := b.2
          rw [it] at this
          omega
  have cn : ¬ c = -1 := fun z => by rw [z] at c0; exact absurd c0 (by decide)
  have c0' : 0 ≤ c.toInt := by rw [il] at c0; simpa using c0
  unfold qM_isUnder
  refine ⟨(c.toInt + 2).toNat, key _ c (Or.inr ⟨c0, c1⟩) (by omega) ?_ ?_⟩
  · rw [if_neg cn]; exact h1
  · rw [if_neg cn]; exact h0
/-- some classes' uppers -/
def rch (r : S_) (g : Int32) (i : Nat) : Prop := ∃ c : Int32, 0 ≤ c ∧ c < fi r 2 ∧ gb g c.toNatClampNeg = true ∧ und r c i = true
theorem reaches_ok {a : L_} {r : S_} (hl : ln a 7 = 8) (k0 : 0 ≤ fi r 2) (k8 : fi r 2 ≤ 8) {g s : Int32} {K : Int32 → Prop} (h1 : (∀ i, i < 32 → gb s i = true → rch r g i) → K 1) (h0 : ¬ (∀ i, i < 32 → gb s i = true → rch r g i) → K 0) : qK_reaches a r (fun z => zb z → K z) g s := by
  have key : ∀ (n : Nat) (m v : Int32), 0 ≤ v → v ≤ fi r 2 → (∀ i, i < 32 → (gb m i = true ↔ ∃ c : Int32, 0 ≤ c ∧ c < v ∧ gb g c.toNatClampNeg = true ∧ und r c i = true)) → (fi r 2).toInt - v.toInt < n → qK_reaches_L5 a r (fun v2 v3 => ((¬ (v2 &&& (v3 ^^^ (-1))) = 0) → zb 0 ∧ (zb 0 → K 0)) ∧ (((v2 &&& (v3 ^^^ (-1))) = 0) → zb 1 ∧ (zb 1 → K 1))) n g s m v := by
    intro n
    induction n with
    | zero => intro m v k1 k2 k3 k4; rw [il] at k2; omega
    | succ n ih =>
      intro m v k1 k2 k3 k4
      rw [qK_reaches_L5]
      refine ⟨fun q => ?_, fun q => ?_⟩
      · have ev : v = fi r 2 := by clear k3 ih h1 h0; grind
        rw [ev] at k3
        have hq : (s &&& (m ^^^ (-1)) = 0) ↔ ∀ i, i < 32 → gb s i = true → rch r g i := by
          rw [sub_iff]
          exact ⟨fun h i i1 i2 => (k3 i i1).mp (h i i1 i2), fun h i i1 i2 => (k3 i i1).mpr (h i i1 i2)⟩
        exact ⟨fun z => ⟨zb0, fun _ => h0 (fun z2 => z (hq.mpr z2))⟩, fun z => ⟨zb1, fun _ => h1 (hq.mp z)⟩⟩
      · have hlt : v < fi r 2 := Int32.not_le.mp q
        have hi := i_inc hlt
        have v8' : v < 8 := by clear k3 ih h1 h0; grind
        have c0 : 0 ≤ v + 1 := by clear k3 ih h1 h0; grind
        have c1 : v + 1 ≤ fi r 2 := by clear k3 ih h1 h0; grind
        have lts : ∀ j : Int32, j < v + 1 ↔ (j < v ∨ j = v) := fun j => by
          rw [it, it, ie, hi]
          omega
        unfold qK_reaches_J33
        refine ⟨fun z => ih m _ c0 c1 (fun i i1 => ?_) (by omega), fun z => ⟨vi2 k1 hlt (by rw [hl]; rw [il] at k8; simpa using k8), ih _ _ c0 c1 (fun i i1 => ?_) (by omega)⟩⟩
        · rw [k3 i i1]
          constructor
          · rintro ⟨c, a0, a1, a2, a3⟩
            exact ⟨c, a0, (lts c).mpr (Or.inl a1), a2, a3⟩
          · rintro ⟨c, a0, a1, a2, a3⟩
            rcases (lts c).mp a1 with e | e
            · exact ⟨c, a0, e, a2, a3⟩
            · rw [e, (bt_c k1 v8').mp z] at a2
              exact absurd a2 (by decide)
        · have gv : gb g v.toNatClampNeg = true := by
            cases e : gb g v.toNatClampNeg
            · exact absurd ((bt_c k1 v8').mpr e) z
            · rfl
          rw [gb_or, Bool.or_eq_true, k3 i i1]
          constructor
          · rintro (⟨c, a0, a1, a2, a3⟩ | h)
            · exact ⟨c, a0, (lts c).mpr (Or.inl a1), a2, a3⟩
            · exact ⟨v, k1, (lts v).mpr (Or.inr rfl), gv, h⟩
          · rintro ⟨c, a0, a1, a2, a3⟩
            rcases (lts c).mp a1 with e | e
            · exact Or.inl ⟨c, a0, e, a2, a3⟩
            · rw [e] at a3
              exact Or.inr a3
  have c0 := i_nat k0
  unfold qK_reaches
  exact ⟨(fi r 2).toNatClampNeg + 1, key _ _ _ (by decide) k0 (fun i i1 => ⟨fun z => by rw [gb_0] at z; exact absurd z (by decide), fun ⟨c, a0, a1, _⟩ => (nl0 a0 a1).elim⟩) (by simp; omega)⟩
theorem under_pair {ad l : Nat → Nat} {r : S_} {c d : Int32} (h : INV l r) {K : S_ → Prop} (hK : ∀ r', INV l r' → kp r' = kp r → K r') : qI_under (ad, l) r (fun z => qM_under (ad, l) (fun z2 r2 => z = z2 ∧ K r2) r c d) c d := by
  have h' := h
  obtain ⟨⟨g1, g2, g3, ⟨w1, w2, w3⟩, g5, g6⟩, q, m, la, kq, wq, mq, sq⟩ := h
  obtain ⟨k0, k8, -, l7, -⟩ := w2
  have q23 := q.2.2.1.1
  have q41 := q.2.2.1.2.1
  have fin : ∀ z : Int32, z = z ∧ K (sF r 20 0) := fun z => ⟨rfl, hK _ (INV_20 h') rfl⟩
  have bad : (¬ (0 ≤ c ∧ c < fi r 2) ∨ ¬ (0 ≤ d ∧ d < fi r 2)) → qM_under (ad, l) (fun z2 r2 => -1 = z2 ∧ K r2) r c d := by
    intro hb
    unfold qM_under qM_under_J21
    intro r2 e2
    subst e2
    refine risK_ok (r := sF r 20 0) (c := fi r 2) q23 (fun z => ⟨fun _ => fin _, fun z => absurd rfl z⟩) (fun c0 c1 => ⟨fun z => absurd z (by decide), fun _ => risK_ok (r := sF r 20 0) (c := fi r 2) q23 (fun z => ⟨fun z => absurd rfl z, fun _ => fin _⟩) (fun d0 d1 => ?_)⟩)
    rcases hb with z | z
    · exact absurd ⟨c0, c1⟩ z
    · exact absurd ⟨d0, d1⟩ z
  unfold qI_under
  refine hasK_ok (fun z => ⟨fun _ => bad (Or.inl z), fun z => absurd rfl z⟩) (fun c0 c1 => ⟨fun z => absurd z (by decide), fun _ => hasK_ok (fun z => ⟨fun z => absurd rfl z, fun _ => bad (Or.inr z)⟩) (fun d0 d1 => ⟨fun _ => ?_, fun z => absurd z (by decide)⟩)⟩)
  have c8 : c < 8 := by clear h' g1 g2 g3 w1 w3 g5 g6 q m la kq wq mq sq hK bad fin; grind
  have d8 : d < 8 := by clear h' g1 g2 g3 w1 w3 g5 g6 q m la kq wq mq sq hK bad fin; grind
  have dl := d_lt d0 d8
  have cl := d_lt c0 c8
  have iff1 : (∀ i, i < 32 → gb (1 <<< (d &&& 31)) i = true → rch r (1 <<< (c &&& 31)) i) ↔ und r c d.toNatClampNeg = true := by
    constructor
    · intro hh
      obtain ⟨e, e0, e1, e2, e3⟩ := hh d.toNatClampNeg (by omega) (by rw [gb_one d0 d8 (by omega)]; simp)
      have e8 : e < 8 := by clear h' g1 g2 g3 w1 w3 g5 g6 q m la kq wq mq sq hK bad fin hh; grind
      have el := d_lt e0 e8
      rw [gb_one c0 c8 (by omega)] at e2
      have := (i_inj e0 c0).mp (of_decide_eq_true e2)
      rw [this] at e3
      exact e3
    · intro hh i i1 i2
      rw [gb_one d0 d8 i1] at i2
      have := of_decide_eq_true i2
      rw [this]
      exact ⟨c, c0, c1, by rw [gb_one c0 c8 (by omega)]; simp, hh⟩
  have mund : ∀ z : Int32, (und r c d.toNatClampNeg = true → z = 1) → (und r c d.toNatClampNeg = false → z = 0) → qM_under (ad, l) (fun z2 r2 => z = z2 ∧ K r2) r c d := by
    intro z z1 z0
    unfold qM_under qM_under_J21
    intro r2 e2
    subst e2
    refine risK_ok (r := sF r 20 0) (c := fi r 2) q23 (fun z => absurd ⟨c0, c1⟩ z) (fun _ _ => ⟨fun z => absurd z (by decide), fun _ => risK_ok (r := sF r 20 0) (c := fi r 2) q23 (fun z => absurd ⟨d0, d1⟩ z) (fun _ _ => ⟨fun _ => ?_, fun z => absurd z (by decide)⟩)⟩)
    refine isUnder_ok (r0 := r) (r := sF r 20 0) (show ML (ad, l) from m) kq k8 q41 c0 c1 d0 d8 (fun hu => ⟨fun z => absurd z (by decide), fun _ => ⟨z1 hu, hK _ (INV_20 h') rfl⟩⟩) (fun hu => ⟨fun _ => ⟨z0 hu, hK _ (INV_20 h') rfl⟩, fun z => absurd rfl z⟩)
  refine reaches_ok (a := (ad, l)) (show l 7 = 8 from l7) k0 k8 (fun hh => ⟨fun z => absurd z (by decide), fun _ => mund 1 (fun _ => rfl) (fun z => ?_)⟩) (fun hh => ⟨fun _ => mund 0 (fun z => absurd (iff1.mpr z) hh) (fun _ => rfl), fun z => absurd rfl z⟩)
  have := iff1.mp hh
  rw [this] at z
  exact absurd z (by decide)
end UNDER
