/-! Where there is a rank, the class finds no ring. -/
section ZCIRC
variable {a : L_} {r : S_} {rh ta rk : Int32 → Int32} {N : Int32}
theorem ws_ci6 {r0 : S_} {KX : S_ → Prop} (hK : ∀ r', PW a r' rh ta N True rk → DO0 r' → KX r') : ∀ (n : Nat) (r : S_) (v : Int32), PW a r rh ta N True rk → DO0 r → 0 ≤ v → wG_isCircular_L6 a KX n r v := by
  intro n
  induction n with
  | zero => intro r v _ _ _; trivial
  | succ n ih =>
    intro r v w d v0
    rw [wG_isCircular_L6]
    refine ⟨fun _ => hK r w d, fun q => ?_⟩
    have v1 : v < fi r 11 := Int32.not_le.mp q
    exact ws_walk (S := fun _ => True) w v0 v1 (fun _ _ _ _ _ => ⟨fun _ => trivial, fun _ => trivial⟩) trivial d (fun r' w' _ _ _ _ d' => ih r' (v + 1) w' d' (by clear ih w d w' d' hK; grind))
theorem ws_ci27 {r0 : S_} (o : ORD r0 rh) {KX : S_ → Prop} (hK : ∀ r', Fr [] [29] r0 r' → (∀ k : Int32, 0 ≤ k → k < fi r0 12 → ar r' 29 (ar r0 30 k.toNatClampNeg).toNatClampNeg = k) → KX r') : ∀ (n : Nat) (r : S_) (v : Int32), Fr [] [29] r0 r → (∀ k : Int32, 0 ≤ k → k < v → k < fi r0 12 → ar r 29 (ar r0 30 k.toNatClampNeg).toNatClampNeg = k) → 0 ≤ v → wG_isCircular_L27 a KX n r v := by
  intro n
  induction n with
  | zero => intro r v _ _ _; trivial
  | succ n ih =>
    intro r v f h v0
    rw [wG_isCircular_L27]
    have e12 : fi r 12 = fi r0 12 := f.1 12 (by simp)
    have e30 : ar r 30 = ar r0 30 := f.2.1 30 (by decide)
    rw [e12, e30]
    refine ⟨fun q => hK r f (fun k k0 k1 => h k k0 (zo3 k1 q) k1), fun q _ _ r7 e7 => ?_⟩
    have v1 : v < fi r0 12 := Int32.not_le.mp q
    have ov := (o.2.2 v v0 v1).1
    refine ih r7 (v + 1) (by rw [e7]; exact Fr_trans f (Fr_sA (by decide))) (fun k k0 k1 k2 => ?_) (by clear ih o h f hK; grind)
    have ok := (o.2.2 k k0 k2).1
    rw [e7, ar_sA, if_pos rfl, updI _ _ ov.1 ok.1]
    by_cases e : k = v
    · rw [e, if_pos rfl]
    · have kv : k < v := by clear ih o h f hK ov ok; grind
      rw [if_neg (o.2.1 k v k0 kv v1)]
      exact h k k0 kv k2
theorem ws_later {x v : Int32} {K : Int32 → Prop} (h : x = -1 ∨ ar r 29 x.toNatClampNeg < v) (hK : K 0) : wG_comesLater a r K x v := by
  unfold wG_comesLater
  rcases h with h | h
  · exact ⟨fun _ => fun _ => hK, fun q => absurd h q⟩
  · exact ⟨fun _ => fun _ => hK, fun _ _ => ⟨fun _ _ => hK, fun q => absurd h q⟩⟩
theorem ws_ci55 {r0 : S_} (o : ORD r0 rh) (hv : ∀ k : Int32, 0 ≤ k → k < fi r0 12 → ar r0 29 (ar r0 30 k.toNatClampNeg).toNatClampNeg = k) {KA KX : S_ → Prop} (hK : ∀ r', KX r') : ∀ (n : Nat) (r : S_) (v : Int32), GI a r rh ta N → FS (fi r0 11) (ar r0 21) (ar r0 22) (ar r 22) → Fr [] [22] r0 r → 0 ≤ v → wG_isCircular_L55 a KA KX n r v := by
  intro n
  induction n with
  | zero => intro r v _ _ _ _; trivial
  | succ n ih =>
    intro r v g s f v0
    rw [wG_isCircular_L55]
    have e11 : fi r 11 = fi r0 11 := f.1 11 (by simp)
    have e12 : fi r 12 = fi r0 12 := f.1 12 (by simp)
    have e30 : ar r 30 = ar r0 30 := f.2.1 30 (by decide)
    have e21 : ar r 21 = ar r0 21 := f.2.1 21 (by decide)
    have e23 : ar r 23 = ar r0 23 := f.2.1 23 (by decide)
    have e29 : ar r 29 = ar r0 29 := f.2.1 29 (by decide)
    rw [e12, e30]
    refine ⟨fun _ => hK r, fun q _ => ?_⟩
    have v1 : v < fi r0 12 := Int32.not_le.mp q
    have ov := o.2.2 v v0 v1
    have o1 := ov.1
    have ef : ar r 22 (ar r0 30 v.toNatClampNeg).toNatClampNeg = ar r0 22 (ar r0 30 v.toNatClampNeg).toNatClampNeg := s _ o1.1 o1.2.1 o1.2.2
    have p1 : 0 ≤ v + 1 := by clear ih o hv hK g s f ov o1 ef; grind
    have lt : ∀ x : Int32, (∃ j : Int32, 0 ≤ j ∧ j < v ∧ ar r0 30 j.toNatClampNeg = x) → ar r0 29 x.toNatClampNeg < v := fun x ⟨j, j0, j1, j2⟩ => by
      rw [← j2, hv j j0 (ltt j1 v1)]
      exact j1
    have snd : ∀ r2, GI a r2 rh ta N → FS (fi r0 11) (ar r0 21) (ar r0 22) (ar r2 22) → Fr [] [22] r0 r2 → wG_secondOf a (fun z15 r16 => wG_comesLater a r16 (fun z17 => zb z17 → ((z17 = 0) → (wG_isCircular_L55 a KA KX n) r16 (v + 1)) ∧ ((¬ z17 = 0) → KA r16)) z15 v) r2 (ar r2 30 v.toNatClampNeg) := by
      intro r2 g2 s2 f2
      have d11 : fi r2 11 = fi r0 11 := f2.1 11 (by simp)
      have d21 : ar r2 21 = ar r0 21 := f2.2.1 21 (by decide)
      have d23 : ar r2 23 = ar r0 23 := f2.2.1 23 (by decide)
      have d29 : ar r2 29 = ar r0 29 := f2.2.1 29 (by decide)
      have d30 : ar r2 30 = ar r0 30 := f2.2.1 30 (by decide)
      rw [d30]
      refine ws_secondOf g2 o1.1 (by rw [d11]; exact o1.2.1) (fun _ => ws_later (Or.inl rfl) (fun _ => ⟨fun _ => ih r2 (v + 1) g2 s2 f2 p1, fun z => absurd rfl z⟩)) (fun e fn k1 k2 => ?_)
      rw [d23] at e ⊢
      refine ws_later (Or.inr (by show ar r2 29 _ < v; rw [d29]; exact lt _ (ov.2.2 e))) (fun _ => ⟨fun _ => ih (sA r2 22 fn) (v + 1) k1 (fun x x0 x1 nm => ?_) (Fr_trans f2 (Fr_sA (by decide))) p1, fun z => absurd rfl z⟩)
      show fn x.toNatClampNeg = _
      rw [k2 x x0 (by rw [d11]; exact x1) (by rw [d21]; exact nm)]
      exact s2 x x0 x1 nm
    refine ws_firstOf g o1.1 (by rw [e11]; exact o1.2.1) (fun _ => ws_later (Or.inl rfl) (fun _ => ⟨fun z => absurd rfl z, fun _ _ => snd r g s f⟩)) (fun e fn k1 k2 => ?_)
    rw [ef] at e ⊢
    refine ws_later (Or.inr (by show ar r 29 _ < v; rw [e29]; exact lt _ (ov.2.1 e))) (fun _ => ⟨fun z => absurd rfl z, fun _ _ => snd (sA r 22 fn) k1 (fun x x0 x1 nm => ?_) (Fr_trans f (Fr_sA (by decide)))⟩)
    show fn x.toNatClampNeg = _
    rw [k2 x x0 (by rw [e11]; exact x1) (by rw [e21]; exact nm)]
    exact s x x0 x1 nm
theorem ws_circ0 (hI : GI a r rh ta N) (hv : VB r) (hb : fi r 13 < 2000000000) (ac : ACY (fi r 11) (ar r 21) (ar r 22) (ar r 23) rh rk) : wG_isCircular a (fun z _ => z = 0) r := by
  unfold wG_isCircular
  refine ws_start (fun n => ?_)
  have w0 := PW_start (acy := True) (rk := rk) hI hv hb (fun _ => ac)
  refine ws_ci6 (r0 := r) (fun r1 w1 d1 n1 => ?_) n _ 0 w0 DO0_start (by decide)
  have o := PW_ORD w1 d1
  refine ws_ci27 o (fun r2 f2 h2 n2 => ?_) n1 r1 0 (Fr_refl r1) (fun k k0 k1 => (nl0 k0 k1).elim) (by decide)
  have e11 : fi r2 11 = fi r1 11 := f2.1 11 (by simp)
  have e12 : fi r2 12 = fi r1 12 := f2.1 12 (by simp)
  have e21 : ar r2 21 = ar r1 21 := f2.2.1 21 (by decide)
  have e22 : ar r2 22 = ar r1 22 := f2.2.1 22 (by decide)
  have e23 : ar r2 23 = ar r1 23 := f2.2.1 23 (by decide)
  have e30 : ar r2 30 = ar r1 30 := f2.2.1 30 (by decide)
  have o2 : ORD r2 rh := ORD_fs o e11 e12 e21 e23 e30 (by rw [e22]; exact fun _ _ _ _ => rfl)
  have g2 : GI a r2 rh ta N := by
    have g1 : GI a r1 rh ta N := w1.1
    unfold GI
    rw [e11, e21, e22, e23]
    exact g1
  exact ws_ci55 o2 (fun k k0 k1 => by rw [e30]; exact h2 k k0 (by rw [← e12]; exact k1)) (fun _ _ => rfl) n2 r2 0 g2 (fun _ _ _ _ => rfl) (Fr_refl r2) (by decide)
/-- no ring: a solution -/
def evR (r : S_) (rh : Int32 → Int32) : Nat → Int32 → Ut
  | 0, _ => []
  | n + 1, x => if x = -1 then [] else if 0 ≤ ar r 21 (rh x).toNatClampNeg then Jn (ar r 21 (rh x).toNatClampNeg) (evR r rh n (ar r 22 (rh x).toNatClampNeg)) (evR r rh n (ar r 23 (rh x).toNatClampNeg)) else []
def rkN (rh rk : Int32 → Int32) (x : Int32) : Nat := ((rk (rh x)).toInt + 2147483649).toNat
theorem evR_st (hI : GI a r rh ta N) (ac : ACY (fi r 11) (ar r 21) (ar r 22) (ar r 23) rh rk) : ∀ (n m : Nat) (x : Int32), (x = -1 ∨ (0 ≤ x ∧ x < fi r 11)) → (x = -1 → 1 ≤ n ∧ 1 ≤ m) → (¬ x = -1 → rkN rh rk x < n ∧ rkN rh rk x < m) → evR r rh n x = evR r rh m x := by
  intro n
  induction n with
  | zero =>
    intro m x _ h1 h2
    by_cases e : x = -1
    · have := (h1 e).1; omega
    · have := (h2 e).1; omega
  | succ n ih =>
    intro m x hx h1 h2
    cases m with
    | zero =>
      by_cases e : x = -1
      · have := (h1 e).2; omega
      · have := (h2 e).2; omega
    | succ m =>
      rw [evR, evR]
      by_cases e : x = -1
      · rw [if_pos e, if_pos e]
      · rw [if_neg e, if_neg e]
        have b := hx.resolve_left e
        have c := hI.2.2.2.2.1.2 x b.1 b.2
        have k := h2 e
        by_cases h : 0 ≤ ar r 21 (rh x).toNatClampNeg
        · rw [if_pos h, if_pos h]
          have nn := hI.2.2.2.1 _ c.1 c.2.1
          have aa := ac _ c.1 c.2.1 c.2.2.1
          have lb := ir (rk (rh x))
          have go : ∀ y : Int32, -1 ≤ y → y < fi r 11 → (¬ y = -1 → rk (rh y) < rk (rh x)) → evR r rh n y = evR r rh m y := by
            intro y y0 y1 y2
            refine ih m y ?_ (fun _ => ?_) (fun q => ?_)
            · by_cases q : y = -1
              · exact Or.inl q
              · exact Or.inr ⟨pz0 y0 q, y1⟩
            · have : 1 ≤ rkN rh rk x := by unfold rkN; omega
              omega
            · have u := y2 q
              rw [it] at u
              have lb2 := ir (rk (rh y))
              have : rkN rh rk y < rkN rh rk x := by unfold rkN; omega
              omega
          rw [go _ nn.2.2.1 nn.2.2.2.1 aa.1, go _ nn.2.2.2.2.1 nn.2.2.2.2.2.1 aa.2]
        · rw [if_neg h, if_neg h]
theorem evR_e {M : Nat} {x : Int32} : evR r rh (M + 1) x = if x = -1 then [] else if 0 ≤ ar r 21 (rh x).toNatClampNeg then Jn (ar r 21 (rh x).toNatClampNeg) (evR r rh M (ar r 22 (rh x).toNatClampNeg)) (evR r rh M (ar r 23 (rh x).toNatClampNeg)) else [] := rfl
theorem acy_VC (hI : GI a r rh ta N) (ay : AYc r) (ac : ACY (fi r 11) (ar r 21) (ar r 22) (ar r 23) rh rk) : ∃ ρ, VC r ρ := by
  have big : ∀ x, rkN rh rk x < 4294967297 := fun x => by
    have := ir (rk (rh x))
    unfold rkN
    omega
  have st : ∀ (n : Nat) (x : Int32), 4294967297 ≤ n → (x = -1 ∨ (0 ≤ x ∧ x < fi r 11)) → evR r rh n x = evR r rh (4294967297 + 1) x := fun n x hn hx => evR_st hI ac n _ x hx (fun _ => ⟨by omega, by omega⟩) (fun _ => by
    have := ir (rk (rh x))
    unfold rkN
    exact ⟨by omega, by omega⟩)
  exact ⟨fun x => evR r rh (4294967297 + 1) x, by
    show evR r rh (4294967297 + 1) (-1) = []
    rw [evR, if_pos rfl], fun x x0 x1 => by
    have nx : ¬ x = -1 := fun q => by rw [q] at x0; exact absurd x0 (by decide)
    have n := hI.2.2.2.1 x x0 x1
    have b := hI.2.2.2.2.1.2 x x0 x1
    have or1 : ∀ y : Int32, -1 ≤ y → y < fi r 11 → (y = -1 ∨ (0 ≤ y ∧ y < fi r 11)) := fun y y0 y1 => by
      by_cases q : y = -1
      · exact Or.inl q
      · exact Or.inr ⟨pz0 y0 q, y1⟩
    refine ⟨fun q => ?_, fun q => ?_⟩
    · have f0 := n.2.2.2.2.2.2 q
      have nf : ¬ ar r 22 x.toNatClampNeg = -1 := fun z => by rw [z] at f0; exact absurd f0 (by decide)
      show evR r rh (4294967297 + 1) x = evR r rh (4294967297 + 1) (ar r 22 x.toNatClampNeg)
      rw [evR_e (x := x), evR_e (x := ar r 22 x.toNatClampNeg), if_neg nx, if_neg nf, (b.2.2.2.2 q).1]
    · have rx := b.2.2.2.1 (fun z => by rw [z] at q; exact absurd q (by decide))
      show evR r rh (4294967297 + 1) x = Jn (ar r 21 x.toNatClampNeg) (evR r rh (4294967297 + 1) (ar r 22 x.toNatClampNeg)) (evR r rh (4294967297 + 1) (ar r 23 x.toNatClampNeg))
      rw [evR_e (x := x), if_neg nx, rx, if_pos q, st 4294967297 _ (by omega) (or1 _ n.2.2.1 n.2.2.2.1), st 4294967297 _ (by omega) (or1 _ n.2.2.2.2.1 n.2.2.2.2.2.1)]⟩
end ZCIRC
