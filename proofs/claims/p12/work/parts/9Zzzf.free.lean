/-! Solutions of the class's graph: free ones, ranks; what a copy means. -/
section ZFREE
def evG (g : Gr) (α : Int32 → Ut) : Nat → Int32 → Ut
  | 0, _ => []
  | n + 1, x => if x = -1 then [] else if 0 ≤ gH g (gR g x) then Jn (gH g (gR g x)) (evG g α n (gF g (gR g x))) (evG g α n (gS g (gR g x))) else α (gR g x)
theorem evG_st {a1 a2 : Int32 → Prop} {g : Gr} (w : zGW a1 a2 g) {ρ α : Int32 → Ut} (v : zVal g ρ) : ∀ (n m : Nat) (x : Int32), (x = -1 ∨ zNx g x) → (ρ x).length < n → (ρ x).length < m → evG g α n x = evG g α m x := by
  intro n
  induction n with
  | zero => intro m x _ h; omega
  | succ n ih =>
    intro m x hx h1 h2
    cases m with
    | zero => omega
    | succ m =>
      rw [evG, evG]
      by_cases e : x = -1
      · rw [if_pos e, if_pos e]
      · rw [if_neg e, if_neg e]
        by_cases h : 0 ≤ gH g (gR g x)
        · rw [if_pos h, if_pos h]
          have nx : zNx g x := hx.resolve_left e
          have p := w.2 _ (w.1 x nx)
          have q := (v.2 x nx).2 h
          have l := congrArg List.length q
          rw [Jn_len] at l
          rw [ih m _ p.1 (by omega) (by omega), ih m _ p.2.1 (by omega) (by omega)]
        · rw [if_neg h, if_neg h]
theorem zfree {a1 a2 : Int32 → Prop} {g : Gr} (w : zGW a1 a2 g) (c0 : 0 ≤ gC g) {ρ : Int32 → Ut} (v : zVal g ρ) : zFree g := by
  intro α
  have m1 : ∀ x, zNx g x → ¬ x = -1 := fun x hx e => by rw [e] at hx; exact absurd hx.1 (by decide)
  refine ⟨fun x => evG g α ((ρ x).length + 1) x, ⟨?_, fun x hx => ⟨?_, fun h => ?_⟩⟩, fun u hu => ?_⟩
  · show evG g α _ (-1) = []
    rw [evG, if_pos rfl]
  · show evG g α _ x = evG g α _ (gR g x)
    have r := w.1 x hx
    rw [evG, if_neg (m1 x hx), evG, if_neg (m1 _ r.1), r.2, (v.2 x hx).1]
  · show evG g α _ x = Jn _ (evG g α _ _) (evG g α _ _)
    have p := w.2 _ (w.1 x hx)
    have q := (v.2 x hx).2 h
    have l := congrArg List.length q
    rw [Jn_len] at l
    rw [evG, if_neg (m1 x hx), if_pos h, evG_st w v (α := α) _ ((ρ (gF g (gR g x))).length + 1) _ p.1 (by omega) (by omega), evG_st w v (α := α) _ ((ρ (gS g (gR g x))).length + 1) _ p.2.1 (by omega) (by omega)]
  · show evG g α _ u = α u
    rw [evG, if_neg (m1 u hu.1.1), hu.1.2, if_neg hu.2]
theorem cnt_sub {p q : Nat → Bool} : ∀ n : Nat, (∀ j, j < n → p j = true → q j = true) → cnt p n ≤ cnt q n := by
  intro n
  induction n with
  | zero => intro _; exact Nat.le_refl _
  | succ n ih =>
    intro h
    have := ih (fun j hj => h j (by omega))
    have hn := h n (by omega)
    rw [cnt, cnt]
    cases hp : p n <;> cases hq : q n <;> simp_all <;> omega
theorem cnt_sub2 {p q : Nat → Bool} {i : Nat} : ∀ n : Nat, (∀ j, j < n → p j = true → q j = true) → i < n → p i = false → q i = true → cnt p n < cnt q n := by
  intro n
  induction n with
  | zero => intro _ h; omega
  | succ n ih =>
    intro h hi hp hq
    rw [cnt, cnt]
    by_cases e : i = n
    · subst e
      have := cnt_sub (p := p) (q := q) i (fun j hj => h j (by omega))
      rw [hp, hq]
      simp
      omega
    · have := ih (fun j hj => h j (by omega)) (by omega) hp hq
      have hn := h n (by omega)
      cases hp : p n <;> cases hq : q n <;> simp_all <;> omega
/-- where there is a solution, there is a rank -/
theorem VC_acy {a : L_} {r : S_} {rh ta : Int32 → Int32} {N : Int32} (hI : GI a r rh ta N) (ay : AYc r) {ρ : Int32 → Ut} (v : VC r ρ) : ∃ rk, ACY (fi r 11) (ar r 21) (ar r 22) (ar r 23) rh rk := by
  have c0 := hI.2.1
  have cn := i_nat c0
  have ub := (fi r 11).toInt_lt
  have nn : ∀ x : Int32, 0 ≤ x → Int32.ofNat x.toNatClampNeg = x := fun x x0 => by
    have h1 := i_nat x0
    have h2 := ir x
    apply Int32.toInt_inj.mp
    rw [Int32.toInt_ofNat_of_lt (by omega)]
    exact h1
  refine ⟨fun x => Int32.ofNat (cnt (fun i => decide ((ρ (Int32.ofNat i)).length < (ρ x).length)) (fi r 11).toNatClampNeg), fun x x0 x1 nm => ?_⟩
  have key : ∀ y : Int32, ¬ y = -1 → -1 ≤ y → y < fi r 11 → (ρ y).length < (ρ x).length → Int32.ofNat (cnt (fun i => decide ((ρ (Int32.ofNat i)).length < (ρ (rh y)).length)) (fi r 11).toNatClampNeg) < Int32.ofNat (cnt (fun i => decide ((ρ (Int32.ofNat i)).length < (ρ x).length)) (fi r 11).toNatClampNeg) := by
    intro y y1 y2 y3 hl
    have y0 : 0 ≤ y := by clear hI ay v nn; grind
    rw [← VC_rh hI v y0 y3]
    have l1 := cnt_le (fun i => decide ((ρ (Int32.ofNat i)).length < (ρ y).length)) (fi r 11).toNatClampNeg
    have l2 := cnt_le (fun i => decide ((ρ (Int32.ofNat i)).length < (ρ x).length)) (fi r 11).toNatClampNeg
    have ub2 := ir (fi r 11)
    rw [it, Int32.toInt_ofNat_of_lt (by omega), Int32.toInt_ofNat_of_lt (by omega)]
    have y3' := y3
    rw [it] at y3'
    have yn := i_nat y0
    have := cnt_sub2 (p := fun i => decide ((ρ (Int32.ofNat i)).length < (ρ y).length)) (q := fun i => decide ((ρ (Int32.ofNat i)).length < (ρ x).length)) (i := y.toNatClampNeg) (fi r 11).toNatClampNeg (fun j _ hj => by simp at hj ⊢; omega) (by omega) (by simp [nn y y0]) (by simp [nn y y0]; exact hl)
    omega
  have n := hI.2.2.2.1 x x0 x1
  have ary := ay x x0 x1
  have hv := v.2 x x0 x1
  have hd : (¬ ar r 22 x.toNatClampNeg = -1 ∨ ¬ ar r 23 x.toNatClampNeg = -1) → 0 ≤ ar r 21 x.toNatClampNeg := by
    intro h
    have q1 := n.1
    have q2 : ¬ ar r 21 x.toNatClampNeg = -1 := fun e => by
      have := ary.2 e
      rcases h with h | h
      · exact h this.1
      · exact h this.2
    clear hI ay v nn key n ary hv h
    grind
  refine ⟨fun e => key _ e n.2.2.1 n.2.2.2.1 ?_, fun e => key _ e n.2.2.2.2.1 n.2.2.2.2.2.1 ?_⟩
  · have l := congrArg List.length (hv.2 (hd (Or.inl e)))
    rw [Jn_len] at l
    omega
  · have l := congrArg List.length (hv.2 (hd (Or.inr e)))
    rw [Jn_len] at l
    omega
theorem VC_free {a : L_} {r : S_} {rh ta : Int32 → Int32} {N : Int32} (hI : GI a r rh ta N) (ay : AYc r) {ρ : Int32 → Ut} (v : VC r ρ) : zFree (cG r) := zfree (cG_GW hI ay) hI.2.1 ((VC_val hI).mpr v)
/-- a solution for every choice of the variables -/
theorem VC_ex {a : L_} {r : S_} {rh ta : Int32 → Int32} {N : Int32} (hI : GI a r rh ta N) (ay : AYc r) {ρ : Int32 → Ut} (v : VC r ρ) (α : Int32 → Ut) : ∃ ρ', VC r ρ' ∧ ∀ u : Int32, 0 ≤ u → u < fi r 11 → ar r 21 u.toNatClampNeg = -1 → ρ' u = α u := by
  obtain ⟨ρ', h1, h2⟩ := VC_free hI ay v α
  refine ⟨ρ', (VC_val hI).mp h1, fun u u0 u1 u2 => h2 u ⟨⟨⟨u0, u1⟩, ?_⟩, ?_⟩⟩
  · show rtc r u = u
    rw [rtc_eq hI u0 u1]
    exact (hI.2.2.2.2.1.2 u u0 u1).2.2.2.1 (by rw [u2]; decide)
  · show ¬ 0 ≤ ar r 21 u.toNatClampNeg
    rw [u2]; decide
/-- solutions that agree on what is reached -/
theorem VC_ag {a : L_} {r : S_} {rh ta : Int32 → Int32} {N : Int32} (hI : GI a r rh ta N) {ρ ρ' : Int32 → Ut} (v : VC r ρ) (v' : VC r ρ') : ∀ (n : Nat) (x : Int32), 0 ≤ x → x < fi r 11 → (ρ x).length < n → (∀ u, Rq r rh x u → ar r 21 u.toNatClampNeg = -1 → ρ u = ρ' u) → ρ x = ρ' x := by
  intro n
  induction n with
  | zero => intro x _ _ h; omega
  | succ n ih =>
    intro x x0 x1 hl hu
    have b := hI.2.2.2.2.1.2 x x0 x1
    rw [VC_rh hI v x0 x1] at hl
    rw [VC_rh hI v x0 x1, VC_rh hI v' x0 x1]
    have nn := hI.2.2.2.1 _ b.1 b.2.1
    by_cases e : ar r 21 (rh x).toNatClampNeg = -1
    · exact hu _ Rq_0 e
    · have h0 : 0 ≤ ar r 21 (rh x).toNatClampNeg := by have q1 := nn.1; have q2 := b.2.2.1; clear ih hI v v' hl hu b nn; grind
      have e1 := (v.2 _ b.1 b.2.1).2 h0
      have e2 := (v'.2 _ b.1 b.2.1).2 h0
      have l := congrArg List.length e1
      rw [Jn_len] at l
      rw [e1, e2]
      have cl := Rq_cl (r := r) (rh := rh) (x := x) _ b.1 b.2.1 b.2.2.1 Rq_0
      have part : ∀ y : Int32, -1 ≤ y → y < fi r 11 → (ρ y).length < n → (¬ y = -1 → Rq r rh x (rh y)) → ρ y = ρ' y := by
        intro y y0 y1 y2 y3
        by_cases q : y = -1
        · rw [q, v.1, v'.1]
        · exact ih y (by clear ih hI v v' hl hu b nn cl; grind) y1 y2 (fun u h => hu u (fun S hS hx => h S hS (y3 q S hS hx)))
      rw [part _ nn.2.2.1 nn.2.2.2.1 (by omega) cl.1, part _ nn.2.2.2.2.1 nn.2.2.2.2.2.1 (by omega) cl.2]
end ZFREE
