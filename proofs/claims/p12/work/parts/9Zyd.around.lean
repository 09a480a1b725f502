/-! The reference: what LAMBDAs around hold is marked. -/
section AROUND
variable {a : L_} {r : S_} {rh ta : Int32 → Int32} {N : Int32}
theorem cnt_pig {f : Nat → Int32} {sel : Nat → Bool} : ∀ (c : Nat) (l : List Int32), (∀ i, i < c → sel i = true → f i ∈ l) → (∀ i j, i < c → j < c → f i = f j → i = j) → cnt sel c ≤ l.length := by
  intro c
  induction c with
  | zero => intro l _ _; exact Nat.zero_le _
  | succ c ih =>
    intro l h1 h2
    rw [cnt]
    by_cases e : sel c = true
    · rw [if_pos e]
      have m := h1 c (Nat.lt_succ_self c) e
      have k := ih (l.erase (f c)) (fun i hi hs => (List.mem_erase_of_ne (fun e => by have := h2 i c (by omega) (by omega) e; omega)).mpr (h1 i (by omega) hs)) (fun i j hi hj => h2 i j (by omega) (by omega))
      rw [List.length_erase_of_mem m] at k
      have := List.length_pos_of_mem m
      omega
    · rw [if_neg e]
      exact ih l (fun i hi => h1 i (by omega)) (fun i j hi hj => h2 i j (by omega) (by omega))
def nodeOK (r : S_) (p : Int32) : Prop := (0 ≤ p ∧ p < 25) ∧ 0 ≤ ar r 50 p.toNatClampNeg ∧ ar r 50 p.toNatClampNeg < 120
def kd (r : S_) (p : Int32) : Int32 := ar r 45 (ar r 50 p.toNatClampNeg).toNatClampNeg
theorem kindOf_ok (hM : ML a) {p : Int32} (h : nodeOK r p) {K : Int32 → Prop} (hK : K (kd r p)) : qM_kindOf a r K p := ⟨vi2 h.1.1 h.1.2 (by rw [ml (n := 25) hM (by decide) (by decide) rfl]; decide), vi2 h.2.1 h.2.2 (by rw [ml (n := 120) hM (by decide) (by decide) rfl]; decide), hK⟩
theorem nd25 (hM : ML a) {p : Int32} (h : nodeOK r p) {k : Nat} (k1 : 36 ≤ k) (k2 : k < 89) (k3 : ln0 k = 25) : vp_in p (ln a k) := vi2 h.1.1 h.1.2 (by rw [ml hM k1 k2 k3]; decide)
/-- the nodes above c: 0 a LAMBDA, 1 a LET whose second part c is in, 2 another -/
def CH (r : S_) : Int32 → List (Int32 × Nat) → Prop
  | c, [] => ar r 51 c.toNatClampNeg = -1
  | c, (p, t) :: L => ar r 51 c.toNatClampNeg = p ∧ nodeOK r p ∧ ((t = 0 ∧ kd r p = 1) ∨ (t = 1 ∧ kd r p = 3 ∧ ar r 52 c.toNatClampNeg = 1) ∨ (t = 2 ∧ ¬ kd r p = 1 ∧ ¬ (kd r p = 3 ∧ ar r 52 c.toNatClampNeg = 1))) ∧ CH r p L
def GC (r : S_) (L : List (Int32 × Nat)) (x : Int32) : Prop := ∃ p, (p, 0) ∈ L ∧ x = ar r 56 p.toNatClampNeg
/-- marked with the present mark: what is under G -/
def AQ (r0 r : S_) (rh : Int32 → Int32) (G : Int32 → Prop) : Prop := Fr [30] [68, 72, 73] r0 r ∧ (0 ≤ fi r 30 ∧ (fi r 30).toInt = cM r (fi r0 29) (fi r0 28)) ∧ (∀ x, vt r0 x → ar r 68 x.toNatClampNeg = ar r0 68 x.toNatClampNeg ∨ ar r 68 x.toNatClampNeg = fi r0 29) ∧ (∀ x, vt r0 x → ar r 68 x.toNatClampNeg = fi r0 29 → (0 ≤ ar r0 66 x.toNatClampNeg → ar r 68 (rh (ar r0 66 x.toNatClampNeg)).toNatClampNeg = fi r0 29) ∧ (0 ≤ ar r0 67 x.toNatClampNeg → ar r 68 (rh (ar r0 67 x.toNatClampNeg)).toNatClampNeg = fi r0 29)) ∧ (∀ x, G x → ar r 68 (rh x).toNatClampNeg = fi r0 29) ∧ ∀ A : Int32 → Prop, Cld r0 A → (∀ x, G x → A x) → ∀ x, vt r0 x → ar r 68 x.toNatClampNeg = fi r0 29 → A x
theorem cM_none {mk c : Int32} (h0 : 0 ≤ c) (h : ∀ x : Int32, 0 ≤ x → x < c → ¬ ar r 68 x.toNatClampNeg = mk) : cM r mk c = 0 := by
  unfold cM
  have : ∀ n, n ≤ c.toNatClampNeg → cnt (fun i => ar r 68 i == mk) n = 0 := by
    intro n
    induction n with
    | zero => intro _; rfl
    | succ n ih =>
      intro hn
      have e := i_nat h0
      obtain ⟨x, x1, x2, x3⟩ := nat_i (j := n) (n := c) (by omega)
      have hx := h x x1 x2
      rw [x3] at hx
      rw [cnt, ih (by omega)]
      simp [hx]
  exact this _ (Nat.le_refl _)
theorem AQ_start {r0 : S_} (h0 : 0 ≤ fi r0 28) (h30 : fi r0 30 = 0) (h : ∀ x, vt r0 x → ¬ ar r0 68 x.toNatClampNeg = fi r0 29) {G : Int32 → Prop} (hG : ∀ x, ¬ G x) : AQ r0 r0 rh G := by
  refine ⟨Fr_refl _, ⟨by rw [h30]; decide, ?_⟩, fun x _ => Or.inl rfl, fun x hx hm => absurd hm (h x hx), fun x hx => absurd hx (hG x), fun A _ _ x hx hm => absurd hm (h x hx)⟩
  rw [cM_none h0 (fun x x1 x2 => h x ⟨x1, x2⟩), h30]
  rfl
theorem AQ_step {r0 r' : S_} {G G' : Int32 → Prop} {t : Int32} (w : MI a r0 rh ta N) (vG : ∀ x, G x → vt r0 x) (h : AQ r0 r rh G) (vt0 : vt r0 t) (s : RP a r r' rh t) (hG : ∀ x, G' x ↔ G x ∨ x = t) : AQ r0 r' rh G' := by
  obtain ⟨F, ⟨h30, h30'⟩, h68, hcl, hg, hA⟩ := h
  obtain ⟨v, ⟨s1, s2, s3, s4, s5, s6, s7, s8, s9⟩, hv⟩ := s
  have e28 := F.1 28 (by decide)
  have e29 := F.1 29 (by decide)
  have e66 := F.2.1 66 (by decide)
  have e67 := F.2.1 67 (by decide)
  have e64 := F.2.1 64 (by decide)
  rw [e28, e29] at s4 s5 s6 s7 s9
  rw [e29] at s8
  rw [e66, e67] at s7
  have nov : ∀ k : Int32, 0 ≤ k → k < v → False := fun k k1 k2 => by
    rw [il] at k1
    rw [it] at k2
    simp at k1
    omega
  have keep : ∀ x, vt r0 x → ar r 68 x.toNatClampNeg = fi r0 29 → ar r' 68 x.toNatClampNeg = fi r0 29 := fun x hx hm => by
    rcases s4 x hx.1 hx.2 with z | z
    · rw [z]; exact hm
    · exact z.1
  have rv : ∀ x, vt r0 x → vt r0 (rh x) := fun x hx => (w.2.2.2.2.1.2 x hx.1 hx.2).1
  have nb : ∀ x, vt r0 x → (0 ≤ ar r0 66 x.toNatClampNeg → vt r0 (ar r0 66 x.toNatClampNeg)) ∧ (0 ≤ ar r0 67 x.toNatClampNeg → vt r0 (ar r0 67 x.toNatClampNeg)) := fun x hx => (MI_VN w x hx).2
  refine ⟨Fr_trans F s1, ⟨?_, ?_⟩, fun x hx => ?_, fun x hx hm => ?_, fun x hx => ?_, fun A cA gA x hx hm => ?_⟩
  · rw [il]
    have e0 : (0 : Int32).toInt = 0 := rfl
    omega
  · omega
  · rcases s4 x hx.1 hx.2 with z | z
    · rw [z]; exact h68 x hx
    · exact Or.inr z.1
  · by_cases g : ar r 68 x.toNatClampNeg = fi r0 29
    · have k := hcl x hx g
      exact ⟨fun g1 => keep _ (rv _ ((nb x hx).1 g1)) (k.1 g1), fun g1 => keep _ (rv _ ((nb x hx).2 g1)) (k.2 g1)⟩
    · have k := s7 x hx.1 hx.2 hm g
      exact ⟨fun g1 => (k.1 g1).elim id (fun ⟨j, j1, j2, _⟩ => (nov j j1 j2).elim), fun g1 => (k.2 g1).elim id (fun ⟨j, j1, j2, _⟩ => (nov j j1 j2).elim)⟩
  · rcases (hG x).mp hx with z | z
    · have k := hg x z
      exact keep _ (rv x (vG x z)) k
    · rw [z]
      exact s8.elim id (fun ⟨j, j1, j2, _⟩ => (nov j j1 j2).elim)
  · by_cases g : ar r 68 x.toNatClampNeg = fi r0 29
    · exact hA A cA (fun y hy => gA y ((hG y).mpr (Or.inl hy))) x hx g
    · have cA' : Cld r A := fun y y1 y2 y3 => by
        rw [e64, e66, e67]
        rw [e28] at y2
        exact cA y y1 y2 y3
      exact (s9 A cA' (gA t ((hG t).mpr (Or.inr rfl)))).1 x hx.1 hx.2 hm g
theorem gen_AR {r0 : S_} {v1 v2 : Int32} (w : MI a r0 rh ta N) (h28 : (fi r0 28).toInt ≤ 20000) {KX : S_ → Int32 → Int32 → Prop} : ∀ (L : List (Int32 × Nat)) (n : Nat) (r : S_) (c v3 : Int32) (G : Int32 → Prop), CH r0 c L → v3 = ar r0 51 c.toNatClampNeg → L.length < n → (∀ x, G x → vt r0 x) → AQ r0 r rh G → (∀ p, (p, 0) ∈ L → vt r0 (ar r0 56 p.toNatClampNeg)) → (∀ r', AQ r0 r' rh (fun x => G x ∨ GC r0 L x) → KX r' v1 v2) → qM_generalise_L63 a KX n r v1 v2 v3 := by
  intro L
  induction L with
  | nil =>
    intro n r c v3 G hc e3 hn vG hq _ hK
    obtain ⟨n, rfl⟩ : ∃ m, n = m + 1 := ⟨n - 1, by simp at hn; omega⟩
    rw [qM_generalise_L63]
    have hc' : ar r0 51 c.toNatClampNeg = -1 := hc
    rw [hc'] at e3
    have hK' := hK r ?_
    · exact ⟨fun _ => hK', fun z => absurd (by rw [e3]; decide) z⟩
    · obtain ⟨q1, q2, q3, q4, q5, q6⟩ := hq
      refine ⟨q1, q2, q3, q4, fun x hx => ?_, fun A cA gA => q6 A cA (fun y hy => gA y (Or.inl hy))⟩
      rcases hx with z | ⟨p, p1, _⟩
      · exact q5 x z
      · exact absurd p1 List.not_mem_nil
  | cons e L ih =>
    obtain ⟨p, t⟩ := e
    intro n r c v3 G hc e3 hn vG hq hv hK
    obtain ⟨n, rfl⟩ : ∃ m, n = m + 1 := ⟨n - 1, by simp at hn; omega⟩
    obtain ⟨c1, c2, c3, c4⟩ := hc
    rw [c1] at e3
    rw [qM_generalise_L63]
    have F := hq.1
    have e50 : ar r 50 = ar r0 50 := F.2.1 50 (by decide)
    have e45 : ar r 45 = ar r0 45 := F.2.1 45 (by decide)
    have e51 : ar r 51 = ar r0 51 := F.2.1 51 (by decide)
    have e56 : ar r 56 = ar r0 56 := F.2.1 56 (by decide)
    have nk : nodeOK r p := by unfold nodeOK; rw [e50]; exact c2
    have ek : kd r p = kd r0 p := by unfold kd; rw [e50, e45]
    have hn' : L.length < n := by simp at hn; omega
    have jn : ∀ (r2 : S_) (G2 : Int32 → Prop), (∀ x, G2 x → vt r0 x) → AQ r0 r2 rh G2 → (∀ x, G x ∨ GC r0 ((p, t) :: L) x ↔ G2 x ∨ GC r0 L x) → qM_generalise_J86 a (qM_generalise_L63 a KX n) KX r2 v1 v2 v3 := fun r2 G2 vG2 hq2 hG2 => by
      unfold qM_generalise_J86
      have e51' : ar r2 51 = ar r0 51 := hq2.1.2.1 51 (by decide)
      rw [e3, e51']
      refine ⟨nd25 w.1 c2 (by decide) (by decide) rfl, ih n r2 p _ G2 c4 rfl hn' vG2 hq2 (fun q hq => hv q (List.mem_cons_of_mem _ hq)) (fun r' hr' => hK r' ?_)⟩
      obtain ⟨q1, q2, q3, q4, q5, q6⟩ := hr'
      exact ⟨q1, q2, q3, q4, fun x hx => q5 x ((hG2 x).mp hx), fun A cA gA => q6 A cA (fun y hy => gA y ((hG2 y).mpr hy))⟩
    have p0 : ¬ v3 < 0 := by rw [e3]; exact Int32.not_lt.mpr c2.1.1
    refine ⟨fun z => absurd z p0, fun _ => ?_⟩
    have ek' : kd r v3 = kd r0 p := by rw [e3]; exact ek
    refine kindOf_ok w.1 (by rw [e3]; exact nk) ⟨fun g => ?_, fun g => ?_⟩
    · rw [ek'] at g
      refine jn r G vG hq (fun x => or_congr Iff.rfl ?_)
      have t0 : ¬ t = 0 := fun z => by
        rcases c3 with ⟨_, k⟩ | ⟨k, _⟩ | ⟨k, _⟩
        · exact g k
        · omega
        · omega
      constructor
      · intro ⟨q, q1, q2⟩
        rcases List.mem_cons.mp q1 with z | z
        · exact absurd (congrArg Prod.snd z).symm t0
        · exact ⟨q, z, q2⟩
      · intro ⟨q, q1, q2⟩
        exact ⟨q, List.mem_cons_of_mem _ q1, q2⟩
    · rw [ek'] at g
      have t0 : t = 0 := by
        rcases c3 with ⟨k, _⟩ | ⟨k, k2, _⟩ | ⟨k, k2, _⟩
        · exact k
        · rw [g] at k2; exact absurd k2 (by decide)
        · exact absurd g k2
      have vp := hv p (by rw [t0]; exact List.mem_cons_self)
      refine ⟨by rw [e3]; exact nd25 w.1 c2 (by decide) (by decide) rfl, ?_⟩
      rw [e56]
      have ew : ar r0 56 v3.toNatClampNeg = ar r0 56 p.toNatClampNeg := by rw [e3]
      rw [ew]
      have w1 : MI a r rh ta N := MI_Fr w F (by decide) (by decide)
      have e28 := F.1 28 (by decide)
      refine reach_ok w1 hq.2.1.1 ?_ vp.1 (by rw [e28]; exact vp.2) (fun r' hr' => jn r' (fun x => G x ∨ x = ar r0 56 p.toNatClampNeg) (fun x hx => hx.elim (vG x) (fun z => by rw [z]; exact vp)) (AQ_step w vG hq vp hr' (fun x => Iff.rfl)) (fun x => ?_))
      · rw [e28, hq.2.1.2]
        have k := cM_le (r := r0) w.2.2.1.1 (q := r) (mk := fi r0 29)
        omega
      · rw [t0]
        constructor
        · intro h
          rcases h with z | ⟨q, q1, q2⟩
          · exact Or.inl (Or.inl z)
          · rcases List.mem_cons.mp q1 with y | y
            · left; right
              have qp : q = p := congrArg Prod.fst y
              rw [q2, qp]
            · exact Or.inr ⟨q, y, q2⟩
        · intro h
          rcases h with (z | z) | ⟨q, q1, q2⟩
          · exact Or.inl z
          · exact Or.inr ⟨p, List.mem_cons_self, z⟩
          · exact Or.inr ⟨q, List.mem_cons_of_mem _ q1, q2⟩
theorem cop_AR {r0 : S_} {v1 v2 : Int32} (w : MI a r0 rh ta N) (h28 : (fi r0 28).toInt ≤ 20000) {KX : S_ → Int32 → Int32 → Prop} : ∀ (L : List (Int32 × Nat)) (n : Nat) (r : S_) (c v3 : Int32) (G : Int32 → Prop), CH r0 c L → v3 = ar r0 51 c.toNatClampNeg → L.length < n → (∀ x, G x → vt r0 x) → AQ r0 r rh G → (∀ p, (p, 0) ∈ L → vt r0 (ar r0 56 p.toNatClampNeg)) → (∀ r', AQ r0 r' rh (fun x => G x ∨ GC r0 L x) → KX r' v1 v2) → qM_copyOf_L27 a KX n r v1 v2 v3 := by
  intro L
  induction L with
  | nil =>
    intro n r c v3 G hc e3 hn vG hq _ hK
    obtain ⟨n, rfl⟩ : ∃ m, n = m + 1 := ⟨n - 1, by simp at hn; omega⟩
    rw [qM_copyOf_L27]
    have hc' : ar r0 51 c.toNatClampNeg = -1 := hc
    rw [hc'] at e3
    have hK' := hK r ?_
    · exact ⟨fun _ => hK', fun z => absurd (by rw [e3]; decide) z⟩
    · obtain ⟨q1, q2, q3, q4, q5, q6⟩ := hq
      refine ⟨q1, q2, q3, q4, fun x hx => ?_, fun A cA gA => q6 A cA (fun y hy => gA y (Or.inl hy))⟩
      rcases hx with z | ⟨p, p1, _⟩
      · exact q5 x z
      · exact absurd p1 List.not_mem_nil
  | cons e L ih =>
    obtain ⟨p, t⟩ := e
    intro n r c v3 G hc e3 hn vG hq hv hK
    obtain ⟨n, rfl⟩ : ∃ m, n = m + 1 := ⟨n - 1, by simp at hn; omega⟩
    obtain ⟨c1, c2, c3, c4⟩ := hc
    rw [c1] at e3
    rw [qM_copyOf_L27]
    have F := hq.1
    have e50 : ar r 50 = ar r0 50 := F.2.1 50 (by decide)
    have e45 : ar r 45 = ar r0 45 := F.2.1 45 (by decide)
    have e51 : ar r 51 = ar r0 51 := F.2.1 51 (by decide)
    have e56 : ar r 56 = ar r0 56 := F.2.1 56 (by decide)
    have nk : nodeOK r p := by unfold nodeOK; rw [e50]; exact c2
    have ek : kd r p = kd r0 p := by unfold kd; rw [e50, e45]
    have hn' : L.length < n := by simp at hn; omega
    have jn : ∀ (r2 : S_) (G2 : Int32 → Prop), (∀ x, G2 x → vt r0 x) → AQ r0 r2 rh G2 → (∀ x, G x ∨ GC r0 ((p, t) :: L) x ↔ G2 x ∨ GC r0 L x) → qM_copyOf_J50 a (qM_copyOf_L27 a KX n) KX r2 v1 v2 v3 := fun r2 G2 vG2 hq2 hG2 => by
      unfold qM_copyOf_J50
      have e51' : ar r2 51 = ar r0 51 := hq2.1.2.1 51 (by decide)
      rw [e3, e51']
      refine ⟨nd25 w.1 c2 (by decide) (by decide) rfl, ih n r2 p _ G2 c4 rfl hn' vG2 hq2 (fun q hq => hv q (List.mem_cons_of_mem _ hq)) (fun r' hr' => hK r' ?_)⟩
      obtain ⟨q1, q2, q3, q4, q5, q6⟩ := hr'
      exact ⟨q1, q2, q3, q4, fun x hx => q5 x ((hG2 x).mp hx), fun A cA gA => q6 A cA (fun y hy => gA y ((hG2 y).mpr hy))⟩
    have p0 : ¬ v3 < 0 := by rw [e3]; exact Int32.not_lt.mpr c2.1.1
    refine ⟨fun z => absurd z p0, fun _ => ?_⟩
    have ek' : kd r v3 = kd r0 p := by rw [e3]; exact ek
    refine kindOf_ok w.1 (by rw [e3]; exact nk) ⟨fun g => ?_, fun g => ?_⟩
    · rw [ek'] at g
      refine jn r G vG hq (fun x => or_congr Iff.rfl ?_)
      have t0 : ¬ t = 0 := fun z => by
        rcases c3 with ⟨_, k⟩ | ⟨k, _⟩ | ⟨k, _⟩
        · exact g k
        · omega
        · omega
      constructor
      · intro ⟨q, q1, q2⟩
        rcases List.mem_cons.mp q1 with z | z
        · exact absurd (congrArg Prod.snd z).symm t0
        · exact ⟨q, z, q2⟩
      · intro ⟨q, q1, q2⟩
        exact ⟨q, List.mem_cons_of_mem _ q1, q2⟩
    · rw [ek'] at g
      have t0 : t = 0 := by
        rcases c3 with ⟨k, _⟩ | ⟨k, k2, _⟩ | ⟨k, k2, _⟩
        · exact k
        · rw [g] at k2; exact absurd k2 (by decide)
        · exact absurd g k2
      have vp := hv p (by rw [t0]; exact List.mem_cons_self)
      refine ⟨by rw [e3]; exact nd25 w.1 c2 (by decide) (by decide) rfl, ?_⟩
      rw [e56]
      have ew : ar r0 56 v3.toNatClampNeg = ar r0 56 p.toNatClampNeg := by rw [e3]
      rw [ew]
      have w1 : MI a r rh ta N := MI_Fr w F (by decide) (by decide)
      have e28 := F.1 28 (by decide)
      refine reach_ok w1 hq.2.1.1 ?_ vp.1 (by rw [e28]; exact vp.2) (fun r' hr' => jn r' (fun x => G x ∨ x = ar r0 56 p.toNatClampNeg) (fun x hx => hx.elim (vG x) (fun z => by rw [z]; exact vp)) (AQ_step w vG hq vp hr' (fun x => Iff.rfl)) (fun x => ?_))
      · rw [e28, hq.2.1.2]
        have k := cM_le (r := r0) w.2.2.1.1 (q := r) (mk := fi r0 29)
        omega
      · rw [t0]
        constructor
        · intro h
          rcases h with z | ⟨q, q1, q2⟩
          · exact Or.inl (Or.inl z)
          · rcases List.mem_cons.mp q1 with y | y
            · left; right
              have qp : q = p := congrArg Prod.fst y
              rw [q2, qp]
            · exact Or.inr ⟨q, y, q2⟩
        · intro h
          rcases h with (z | z) | ⟨q, q1, q2⟩
          · exact Or.inl z
          · exact Or.inr ⟨p, List.mem_cons_self, z⟩
          · exact Or.inr ⟨q, List.mem_cons_of_mem _ q1, q2⟩
end AROUND
