/-! The reference's terms as a graph; its solutions. -/
section ZREF
variable {a : L_} {r : S_} {rh ta : Int32 → Int32} {N : Int32}
def rmF (s : Nat → Int32) : Nat → Int32 → Int32
  | 0, x => x
  | n + 1, x => if s x.toNatClampNeg = x then x else rmF s n (s x.toNatClampNeg)
def rtm (r : S_) (x : Int32) : Int32 := rmF (ar r 64) 50000 x
theorem rmF_eq (w : MI a r rh ta N) : ∀ (n : Nat) (x : Int32), 0 ≤ x → x < fi r 28 → (¬ ar r 64 x.toNatClampNeg = x → N.toInt - (ta x).toInt ≤ n) → rmF (ar r 64) n x = rh x := by
  have hR := w.2.2.2.2.1
  intro n
  induction n with
  | zero =>
    intro x x0 x1 hn
    rw [rmF]
    by_cases e : ar r 64 x.toNatClampNeg = x
    · exact ((hR.2 x x0 x1).2.2.1 e).symm
    · have h1 := hn e
      have h2 := ((hR.2 x x0 x1).2.2.2 e).2.2.1
      rw [it] at h2
      omega
  | succ n ih =>
    intro x x0 x1 hn
    rw [rmF]
    by_cases e : ar r 64 x.toNatClampNeg = x
    · rw [if_pos e]
      exact ((hR.2 x x0 x1).2.2.1 e).symm
    · rw [if_neg e]
      have h1 := hn e
      have h2 := (hR.2 x x0 x1).2.2.2 e
      have h3 := (w.2.2.2.1 x x0 x1).1
      rw [← h2.1]
      refine ih _ h3.1 h3.2 (fun e2 => ?_)
      have h4 := h2.2.2.2 e2
      rw [it] at h4
      omega
theorem rtm_eq (w : MI a r rh ta N) {x : Int32} (x0 : 0 ≤ x) (x1 : x < fi r 28) : rtm r x = rh x := by
  refine rmF_eq w 50000 x x0 x1 (fun e => ?_)
  have h1 := ((w.2.2.2.2.1.2 x x0 x1).2.2.2 e).2.1
  have h2 := w.2.2.2.2.1.1
  have h3 := w.2.2.1.2
  rw [il] at h1 h2
  simp at h1
  omega
def mG (r : S_) : Gr := (fi r 28, rtm r, fun x => ar r 65 x.toNatClampNeg, fun x => ar r 66 x.toNatClampNeg, fun x => ar r 67 x.toNatClampNeg)
/-- the solutions, term by term -/
def VM (r : S_) (ρ : Int32 → Ut) : Prop := ρ (-1) = [] ∧ ∀ x : Int32, 0 ≤ x → x < fi r 28 → ρ x = ρ (ar r 64 x.toNatClampNeg) ∧ (0 ≤ ar r 65 x.toNatClampNeg → ρ x = Jn (ar r 65 x.toNatClampNeg) (ρ (ar r 66 x.toNatClampNeg)) (ρ (ar r 67 x.toNatClampNeg)))
theorem VM_rt (w : MI a r rh ta N) {ρ : Int32 → Ut} (v : VM r ρ) : ∀ (n : Nat) (x : Int32), 0 ≤ x → x < fi r 28 → ρ x = ρ (rmF (ar r 64) n x) := by
  intro n
  induction n with
  | zero => intro x _ _; rw [rmF]
  | succ n ih =>
    intro x x0 x1
    rw [rmF]
    by_cases e : ar r 64 x.toNatClampNeg = x
    · rw [if_pos e]
    · rw [if_neg e, (v.2 x x0 x1).1]
      have h3 := (w.2.2.2.1 x x0 x1).1
      exact ih _ h3.1 h3.2
theorem VM_rh (w : MI a r rh ta N) {ρ : Int32 → Ut} (v : VM r ρ) {x : Int32} (x0 : 0 ≤ x) (x1 : x < fi r 28) : ρ x = ρ (rh x) := by
  rw [← rtm_eq w x0 x1]
  exact VM_rt w v 50000 x x0 x1
/-- with congruence, the roots tell all -/
theorem VM_val (w : MI a r rh ta N) (cg : CGr r rh) {ρ : Int32 → Ut} : zVal (mG r) ρ ↔ VM r ρ := by
  have gr : ∀ y : Int32, 0 ≤ y → y < fi r 28 → gR (mG r) y = rh y := fun y y0 y1 => rtm_eq w y0 y1
  have hR := w.2.2.2.2.1
  constructor
  · rintro ⟨v0, v⟩
    have vr : ∀ y : Int32, 0 ≤ y → y < fi r 28 → ρ y = ρ (rh y) := fun y y0 y1 => by
      have := (v y ⟨y0, y1⟩).1
      rw [gr y y0 y1] at this
      exact this
    refine ⟨v0, fun x x0 x1 => ⟨?_, fun h => ?_⟩⟩
    · have s := (w.2.2.2.1 x x0 x1).1
      by_cases e : ar r 64 x.toNatClampNeg = x
      · rw [e]
      · rw [vr x x0 x1, vr _ s.1 s.2, ((hR.2 x x0 x1).2.2.2 e).1]
    · have c := cg x x0 x1 h
      have b := (hR.2 x x0 x1).1
      have k := (v x ⟨x0, x1⟩).2
      rw [gr x x0 x1] at k
      have k' : ρ x = Jn (ar r 65 (rh x).toNatClampNeg) (ρ (ar r 66 (rh x).toNatClampNeg)) (ρ (ar r 67 (rh x).toNatClampNeg)) := k (by show 0 ≤ ar r 65 (rh x).toNatClampNeg; rw [c.1]; exact h)
      have n := w.2.2.2.1 x x0 x1
      have nr := w.2.2.2.1 _ b.1 b.2
      have ax := n.2.2.2.2.2 h
      have ar' := nr.2.2.2.2.2 (by rw [c.1]; exact h)
      rw [c.1] at ar' k'
      have part : ∀ (y y' : Int32), (-1 ≤ y ∧ y < fi r 28) → (-1 ≤ y' ∧ y' < fi r 28) → (0 ≤ y ↔ 0 ≤ y') → (0 ≤ y → rh y = rh y') → ρ y' = ρ y := by
        intro y y' h1 h2 h3 h4
        by_cases q : 0 ≤ y
        · rw [vr y q h1.2, vr y' (h3.mp q) h2.2, h4 q]
        · have e1 : y = -1 := by have := h1.1; clear h4 h3 v vr cg w k k' hR c n nr ax ar' gr; grind
          have e2 : y' = -1 := by have := h2.1; have q2 : ¬ 0 ≤ y' := fun z => q (h3.mpr z); clear h4 h3 v vr cg w k k' hR c n nr ax ar' gr; grind
          rw [e1, e2]
      rw [k', part _ _ n.2.2.1 nr.2.2.1 (ax.1.trans ar'.1.symm) c.2.1, part _ _ n.2.2.2.1 nr.2.2.2.1 (ax.2.trans ar'.2.symm) c.2.2]
  · intro v
    refine ⟨v.1, fun x hx => ?_⟩
    have hx' : 0 ≤ x ∧ x < fi r 28 := hx
    have b := (hR.2 x hx'.1 hx'.2).1
    rw [gr x hx'.1 hx'.2]
    have e := VM_rh w v hx'.1 hx'.2
    refine ⟨e, fun h => ?_⟩
    rw [e]
    exact (v.2 _ b.1 b.2).2 h
end ZREF
