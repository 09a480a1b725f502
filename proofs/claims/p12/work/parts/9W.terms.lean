/-! The reference's terms. -/
section TERMS
def ML (a : L_) : Prop := ∀ k, 36 ≤ k → k < 89 → ln a k = ln0 k
/-- terms' parts are terms; a constructor has the parts that it has -/
def MN (c nc : Int32) (pc sd hd lf rt : Nat → Int32) : Prop := ∀ x : Int32, 0 ≤ x → x < c → (0 ≤ sd x.toNatClampNeg ∧ sd x.toNatClampNeg < c) ∧ (-1 ≤ hd x.toNatClampNeg ∧ hd x.toNatClampNeg < nc) ∧ (-1 ≤ lf x.toNatClampNeg ∧ lf x.toNatClampNeg < c) ∧ (-1 ≤ rt x.toNatClampNeg ∧ rt x.toNatClampNeg < c) ∧ (hd x.toNatClampNeg < 0 → lf x.toNatClampNeg = -1 ∧ rt x.toNatClampNeg = -1) ∧ (0 ≤ hd x.toNatClampNeg → (0 ≤ lf x.toNatClampNeg ↔ 0 < pc (hd x.toNatClampNeg).toNatClampNeg) ∧ (0 ≤ rt x.toNatClampNeg ↔ 1 < pc (hd x.toNatClampNeg).toNatClampNeg))
def MR (c : Int32) (sd : Nat → Int32) (rh ta : Int32 → Int32) (N : Int32) : Prop := N ≤ c ∧ ∀ x : Int32, 0 ≤ x → x < c → (0 ≤ rh x ∧ rh x < c) ∧ sd (rh x).toNatClampNeg = rh x ∧ (sd x.toNatClampNeg = x → rh x = x) ∧ (¬ sd x.toNatClampNeg = x → rh (sd x.toNatClampNeg) = rh x ∧ 0 ≤ ta x ∧ ta x < N ∧ (¬ sd (sd x.toNatClampNeg).toNatClampNeg = sd x.toNatClampNeg → ta x < ta (sd x.toNatClampNeg)))
def nms (sd : Nat → Int32) (c : Int32) : Nat := cnt (fun i => decide (¬ sd i = Int32.ofNat i)) c.toNatClampNeg
def MI (a : L_) (r : S_) (rh ta : Int32 → Int32) (N : Int32) : Prop := ML a ∧ (1 ≤ fi r 21 ∧ fi r 21 ≤ 8) ∧ (0 ≤ fi r 28 ∧ (fi r 28).toInt ≤ 40000) ∧ MN (fi r 28) (fi r 21) (ar r 36) (ar r 64) (ar r 65) (ar r 66) (ar r 67) ∧ MR (fi r 28) (ar r 64) rh ta N ∧ N.toInt = nms (ar r 64) (fi r 28)
variable {a : L_} {r r' : S_} {rh ta : Int32 → Int32} {N : Int32}
theorem ml {k n : Nat} (h : ML a) (h1 : 36 ≤ k) (h2 : k < 89) (h3 : ln0 k = n) : ln a k = n := (h k h1 h2).trans h3
theorem tin (w : MI a r rh ta N) {x : Int32} (h1 : 0 ≤ x) (h2 : x < fi r 28) {k : Nat} (h3 : 36 ≤ k) (h4 : k < 89) (h5 : ln0 k = 40000) : vp_in x (ln a k) := vi2 h1 h2 (by rw [ml w.1 h3 h4 h5]; exact w.2.2.1.2)
theorem find_ok (w : MI a r rh ta N) {x : Int32} (h1 : 0 ≤ x) (h2 : x < fi r 28) {K : Int32 → Prop} (hK : K (rh x)) : qM_find a r K x := by
  have w5 := w.2.2.2.2.1
  have key : ∀ (n : Nat) (y : Int32), 0 ≤ y → y < fi r 28 → rh y = rh x → (¬ ar r 64 y.toNatClampNeg = y → N.toInt - (ta y).toInt ≤ n) → qM_find_L2 a r (fun v2 => K v2) (n + 1) y := by
    intro n
    induction n with
    | zero =>
      intro y y1 y2 y3 y4
      rw [qM_find_L2]
      have b := w5.2 y y1 y2
      refine ⟨tin w y1 y2 (by decide) (by decide) rfl, fun g => ?_, fun g => ?_⟩
      · rw [← b.2.2.1 g, y3]; exact hK
      · have q := (b.2.2.2 g).2.2.1
        rw [it] at q
        have := y4 g
        omega
    | succ n ih =>
      intro y y1 y2 y3 y4
      rw [qM_find_L2]
      have b := w5.2 y y1 y2
      have nb := w.2.2.2.1 y y1 y2
      refine ⟨tin w y1 y2 (by decide) (by decide) rfl, fun g => ?_, fun g => ⟨tin w y1 y2 (by decide) (by decide) rfl, ?_⟩⟩
      · rw [← b.2.2.1 g, y3]; exact hK
      · have q := b.2.2.2 g
        refine ih _ nb.1.1 nb.1.2 (q.1.trans y3) (fun g2 => ?_)
        have q2 := q.2.2.2 g2
        rw [it] at q2
        have := y4 g
        omega
  unfold qM_find
  by_cases g : ar r 64 x.toNatClampNeg = x
  · exact ⟨1, key 0 x h1 h2 rfl (fun z => absurd g z)⟩
  · have q := (w5.2 x h1 h2).2.2.2 g
    exact ⟨_, key (N.toInt - (ta x).toInt).toNat x h1 h2 rfl (fun _ => by omega)⟩
theorem merge_MI (w : MI a r rh ta N) {x y : Int32} (x1 : 0 ≤ x) (x2 : x < fi r 28) (x3 : ar r 64 x.toNatClampNeg = x) (y1 : 0 ≤ y) (y2 : y < fi r 28) (y3 : ar r 64 y.toNatClampNeg = y) (hxy : ¬ x = y) : MI a (sA r 64 (upd (ar r 64) x.toNatClampNeg y)) (fun z => if rh z = x then y else rh z) (fun z => if z = x then N else ta z) (N + 1) ∧ (N + 1).toInt = N.toInt + 1 := by
  obtain ⟨hL, hnc, ⟨hc0, hcl⟩, hN, hR, hn⟩ := w
  have hcx := i_nat hc0
  have hnx := i_nat x1
  have hny := i_nat y1
  have x2' := x2
  have y2' := y2
  rw [it] at x2' y2'
  have ox : Int32.ofNat x.toNatClampNeg = x := by
    rw [ie, i_ofn (by have := ir x; omega)]
    omega
  have oy : Int32.ofNat y.toNatClampNeg = y := by
    rw [ie, i_ofn (by have := ir y; omega)]
    omega
  have m1 : nms (upd (ar r 64) x.toNatClampNeg y) (fi r 28) = nms (ar r 64) (fi r 28) + 1 := by
    unfold nms
    refine cnt_more (i := x.toNatClampNeg) (by omega) (by simp [x3, ox]) (by rw [pk_us, ox]; simp; exact fun e => hxy e.symm) (fun j _ hj => by rw [pk_un hj])
  have m2 : nms (upd (ar r 64) x.toNatClampNeg y) (fi r 28) < (fi r 28).toNatClampNeg := by
    unfold nms
    refine cnt_lt (i := y.toNatClampNeg) (by omega) ?_
    rw [updI _ _ x1 y1, if_neg (fun e => hxy e.symm), y3, oy]
    simp
  have n1 : (N + 1).toInt = N.toInt + 1 := i_add (by simp; omega) (by simp; omega)
  have n2 : 0 ≤ N := by rw [il, hn]; simp
  have n3 : N + 1 ≤ fi r 28 := by rw [il, n1]; omega
  have n4 : N < N + 1 := by rw [it, n1]; omega
  refine ⟨⟨hL, hnc, ⟨hc0, hcl⟩, ?_, ⟨n3, ?_⟩, ?_⟩, n1⟩
  · intro z z1 z2
    have b := hN z z1 z2
    show (0 ≤ upd (ar r 64) x.toNatClampNeg y z.toNatClampNeg ∧ upd (ar r 64) x.toNatClampNeg y z.toNatClampNeg < fi r 28) ∧ _
    refine ⟨?_, b.2⟩
    rw [updI _ _ x1 z1]
    split
    · exact ⟨y1, y2⟩
    · exact b.1
  · intro z z1 z2
    have b := hR.2 z z1 z2
    have ex := (hR.2 x x1 x2).2.2.1 x3
    have ey := (hR.2 y y1 y2).2.2.1 y3
    show (0 ≤ (if rh z = x then y else rh z) ∧ (if rh z = x then y else rh z) < fi r 28) ∧ upd (ar r 64) x.toNatClampNeg y (if rh z = x then y else rh z).toNatClampNeg = (if rh z = x then y else rh z) ∧ (upd (ar r 64) x.toNatClampNeg y z.toNatClampNeg = z → (if rh z = x then y else rh z) = z) ∧ (¬ upd (ar r 64) x.toNatClampNeg y z.toNatClampNeg = z → (if rh (upd (ar r 64) x.toNatClampNeg y z.toNatClampNeg) = x then y else rh (upd (ar r 64) x.toNatClampNeg y z.toNatClampNeg)) = (if rh z = x then y else rh z) ∧ 0 ≤ (if z = x then N else ta z) ∧ (if z = x then N else ta z) < N + 1 ∧ (¬ upd (ar r 64) x.toNatClampNeg y (upd (ar r 64) x.toNatClampNeg y z.toNatClampNeg).toNatClampNeg = upd (ar r 64) x.toNatClampNeg y z.toNatClampNeg → (if z = x then N else ta z) < (if upd (ar r 64) x.toNatClampNeg y z.toNatClampNeg = x then N else ta (upd (ar r 64) x.toNatClampNeg y z.toNatClampNeg))))
    have t1 : 0 ≤ (if rh z = x then y else rh z) ∧ (if rh z = x then y else rh z) < fi r 28 := by
      split
      · exact ⟨y1, y2⟩
      · exact b.1
    refine ⟨t1, ?_, ?_, ?_⟩
    · rw [updI _ _ x1 t1.1]
      by_cases e : rh z = x
      · rw [if_pos e, if_neg (fun q => hxy q.symm)]
        exact y3
      · rw [if_neg e, if_neg e]
        exact b.2.1
    · rw [updI _ _ x1 z1]
      intro g
      by_cases e : z = x
      · rw [if_pos e] at g
        exact absurd (g.trans e) (fun q => hxy q.symm)
      · rw [if_neg e] at g
        have ez := b.2.2.1 g
        rw [ez, if_neg e]
    · rw [updI _ _ x1 z1]
      intro g
      by_cases e : z = x
      · rw [if_pos e]
        subst e
        rw [ey, if_neg (fun q => hxy q.symm), ex, if_pos rfl]
        refine ⟨rfl, ?_, ?_, fun g2 => ?_⟩
        · rw [if_pos rfl]; exact n2
        · rw [if_pos rfl]; exact n4
        · rw [updI _ _ x1 y1, if_neg (fun q => hxy q.symm)] at g2
          exact absurd y3 g2
      · rw [if_neg e] at g
        rw [if_neg e, if_neg e]
        have bz := b.2.2.2 g
        have fz := (hN z z1 z2).1
        rw [bz.1]
        refine ⟨rfl, bz.2.1, ltt bz.2.2.1 n4, fun g2 => ?_⟩
        by_cases e2 : ar r 64 z.toNatClampNeg = x
        · rw [if_pos e2]
          exact bz.2.2.1
        · rw [if_neg e2]
          rw [updI _ _ x1 fz.1, if_neg e2] at g2
          exact bz.2.2.2 g2
  · rw [n1]
    show N.toInt + 1 = nms (upd (ar r 64) x.toNatClampNeg y) (fi r 28)
    rw [m1]
    omega
/-- a set that edges don't leave -/
def Cld (r : S_) (A : Int32 → Prop) : Prop := ∀ x : Int32, 0 ≤ x → x < fi r 28 → A x → A (ar r 64 x.toNatClampNeg) ∧ (0 ≤ ar r 66 x.toNatClampNeg → A (ar r 66 x.toNatClampNeg)) ∧ (0 ≤ ar r 67 x.toNatClampNeg → A (ar r 67 x.toNatClampNeg))
/-- along stands to the root -/
theorem rh_ind (w : MI a r rh ta N) {A : Int32 → Prop} (hA : ∀ x : Int32, 0 ≤ x → x < fi r 28 → A x → A (ar r 64 x.toNatClampNeg)) {x : Int32} (h1 : 0 ≤ x) (h2 : x < fi r 28) (h3 : A x) : A (rh x) := by
  have w5 := w.2.2.2.2.1
  have key : ∀ (n : Nat) (y : Int32), 0 ≤ y → y < fi r 28 → A y → rh y = rh x → (¬ ar r 64 y.toNatClampNeg = y → N.toInt - (ta y).toInt ≤ n) → A (rh x) := by
    intro n
    induction n with
    | zero =>
      intro y y1 y2 y0 y3 y4
      have b := w5.2 y y1 y2
      by_cases g : ar r 64 y.toNatClampNeg = y
      · rw [← y3, b.2.2.1 g]; exact y0
      · have q := (b.2.2.2 g).2.2.1
        rw [it] at q
        have := y4 g
        omega
    | succ n ih =>
      intro y y1 y2 y0 y3 y4
      have b := w5.2 y y1 y2
      have nb := w.2.2.2.1 y y1 y2
      by_cases g : ar r 64 y.toNatClampNeg = y
      · rw [← y3, b.2.2.1 g]; exact y0
      · have q := b.2.2.2 g
        refine ih _ nb.1.1 nb.1.2 (hA y y1 y2 y0) (q.1.trans y3) (fun g2 => ?_)
        have q2 := q.2.2.2 g2
        rw [it] at q2
        have := y4 g
        omega
  exact key (N.toInt - (ta x).toInt).toNat x h1 h2 h3 rfl (fun _ => by omega)
theorem Cld_rh (w : MI a r rh ta N) {A : Int32 → Prop} (hA : Cld r A) {x : Int32} (h1 : 0 ≤ x) (h2 : x < fi r 28) (h3 : A x) : A (rh x) := rh_ind w (fun y y1 y2 y3 => (hA y y1 y2 y3).1) h1 h2 h3
def EQV (E : Int32 → Int32 → Prop) : Prop := (∀ x, E x x) ∧ (∀ x y, E x y → E y x) ∧ ∀ x y z, E x y → E y z → E x z
theorem E_rh (w : MI a r rh ta N) {E : Int32 → Int32 → Prop} (hE : EQV E) (hs : ∀ x : Int32, 0 ≤ x → x < fi r 28 → E x (ar r 64 x.toNatClampNeg)) {x : Int32} (h1 : 0 ≤ x) (h2 : x < fi r 28) : E x (rh x) := rh_ind w (A := fun y => E x y) (fun y y1 y2 y3 => hE.2.2 _ _ _ y3 (hs y y1 y2)) h1 h2 (hE.1 x)
/-- congruence -/
def CGr (r : S_) (rh : Int32 → Int32) : Prop := ∀ x : Int32, 0 ≤ x → x < fi r 28 → 0 ≤ ar r 65 x.toNatClampNeg → ar r 65 (rh x).toNatClampNeg = ar r 65 x.toNatClampNeg ∧ (0 ≤ ar r 66 x.toNatClampNeg → rh (ar r 66 x.toNatClampNeg) = rh (ar r 66 (rh x).toNatClampNeg)) ∧ (0 ≤ ar r 67 x.toNatClampNeg → rh (ar r 67 x.toNatClampNeg) = rh (ar r 67 (rh x).toNatClampNeg))
/-- congruence, but for pairs that are still to be made equal -/
def CGp (r : S_) (rh : Int32 → Int32) (Pd : Int32 → Int32 → Prop) : Prop := (∀ x : Int32, 0 ≤ x → x < fi r 28 → 0 ≤ ar r 65 x.toNatClampNeg → ar r 65 (rh x).toNatClampNeg = ar r 65 x.toNatClampNeg) ∧ ∀ E : Int32 → Int32 → Prop, EQV E → (∀ x : Int32, 0 ≤ x → x < fi r 28 → E x (ar r 64 x.toNatClampNeg)) → (∀ p q, Pd p q → E p q) → ∀ x : Int32, 0 ≤ x → x < fi r 28 → 0 ≤ ar r 65 x.toNatClampNeg → (0 ≤ ar r 66 x.toNatClampNeg → E (ar r 66 x.toNatClampNeg) (ar r 66 (rh x).toNatClampNeg)) ∧ (0 ≤ ar r 67 x.toNatClampNeg → E (ar r 67 x.toNatClampNeg) (ar r 67 (rh x).toNatClampNeg))
theorem lf_rh (w : MI a r rh ta N) (hh : ∀ x : Int32, 0 ≤ x → x < fi r 28 → 0 ≤ ar r 65 x.toNatClampNeg → ar r 65 (rh x).toNatClampNeg = ar r 65 x.toNatClampNeg) {x : Int32} (h1 : 0 ≤ x) (h2 : x < fi r 28) (h3 : 0 ≤ ar r 65 x.toNatClampNeg) : (0 ≤ ar r 66 x.toNatClampNeg ↔ 0 ≤ ar r 66 (rh x).toNatClampNeg) ∧ (0 ≤ ar r 67 x.toNatClampNeg ↔ 0 ≤ ar r 67 (rh x).toNatClampNeg) := by
  have b := w.2.2.2.2.1.2 x h1 h2
  have e := hh x h1 h2 h3
  have n1 := (w.2.2.2.1 x h1 h2).2.2.2.2.2 h3
  have n2 := (w.2.2.2.1 _ b.1.1 b.1.2).2.2.2.2.2 (by rw [e]; exact h3)
  rw [e] at n2
  exact ⟨n1.1.trans n2.1.symm, n1.2.trans n2.2.symm⟩
theorem CGp_of (w : MI a r rh ta N) (h : CGr r rh) (Pd : Int32 → Int32 → Prop) : CGp r rh Pd := by
  refine ⟨fun x x1 x2 x3 => (h x x1 x2 x3).1, fun E hE hs _ x x1 x2 x3 => ?_⟩
  have b := w.2.2.2.2.1.2 x x1 x2
  have nb := w.2.2.2.1 x x1 x2
  have nr := w.2.2.2.1 _ b.1.1 b.1.2
  have lr := lf_rh w (fun x x1 x2 x3 => (h x x1 x2 x3).1) x1 x2 x3
  refine ⟨fun g => ?_, fun g => ?_⟩
  · have e1 := E_rh w hE hs g nb.2.2.1.2
    have e2 := E_rh w hE hs (lr.1.mp g) nr.2.2.1.2
    rw [(h x x1 x2 x3).2.1 g] at e1
    exact hE.2.2 _ _ _ e1 (hE.2.1 _ _ e2)
  · have e1 := E_rh w hE hs g nb.2.2.2.1.2
    have e2 := E_rh w hE hs (lr.2.mp g) nr.2.2.2.1.2
    rw [(h x x1 x2 x3).2.2 g] at e1
    exact hE.2.2 _ _ _ e1 (hE.2.1 _ _ e2)
theorem CGr_of (w : MI a r rh ta N) (h : CGp r rh (fun _ _ => False)) : CGr r rh := by
  intro x x1 x2 x3
  have b := w.2.2.2.2.1.2 x x1 x2
  have key := h.2 (fun p q => p = q ∨ (0 ≤ p ∧ p < fi r 28 ∧ 0 ≤ q ∧ q < fi r 28 ∧ rh p = rh q)) ⟨fun _ => Or.inl rfl, fun p q k => ?_, fun p q s k1 k2 => ?_⟩ (fun y y1 y2 => ?_) (fun _ _ z => z.elim) x x1 x2 x3
  · refine ⟨h.1 x x1 x2 x3, fun g => ?_, fun g => ?_⟩
    · rcases key.1 g with k | k
      · rw [k]
      · exact k.2.2.2.2
    · rcases key.2 g with k | k
      · rw [k]
      · exact k.2.2.2.2
  · rcases k with k | ⟨k1, k2, k3, k4, k5⟩
    · exact Or.inl k.symm
    · exact Or.inr ⟨k3, k4, k1, k2, k5.symm⟩
  · rcases k1 with k | ⟨a1, a2, a3, a4, a5⟩
    · subst k; exact k2
    · rcases k2 with k | ⟨b1, b2, b3, b4, b5⟩
      · subst k; exact Or.inr ⟨a1, a2, a3, a4, a5⟩
      · exact Or.inr ⟨a1, a2, b3, b4, a5.trans b5⟩
  · have nb := w.2.2.2.1 y y1 y2
    by_cases g : ar r 64 y.toNatClampNeg = y
    · exact Or.inl g.symm
    · exact Or.inr ⟨y1, y2, nb.1.1, nb.1.2, ((w.2.2.2.2.1.2 y y1 y2).2.2.2 g).1.symm⟩
/-- two roots become one: congruence, with the parts' pairs still to be made equal -/
theorem CGp_merge (w : MI a r rh ta N) {Pd Pd2 : Int32 → Int32 → Prop} (h : CGp r rh Pd) {x y p q : Int32} (x1 : 0 ≤ x) (x2 : x < fi r 28) (x3 : ar r 64 x.toNatClampNeg = x) (y1 : 0 ≤ y) (y2 : y < fi r 28) (hp1 : 0 ≤ p) (hp2 : p < fi r 28) (hp : rh p = x ∧ 0 ≤ q ∧ q < fi r 28 ∧ rh q = y ∨ rh p = y ∧ 0 ≤ q ∧ q < fi r 28 ∧ rh q = x) (hPd : ∀ s t, Pd s t → (s = p ∧ t = q) ∨ Pd2 s t) (hh : 0 ≤ ar r 65 x.toNatClampNeg → ar r 65 x.toNatClampNeg = ar r 65 y.toNatClampNeg ∧ (0 ≤ ar r 66 x.toNatClampNeg → Pd2 (ar r 66 x.toNatClampNeg) (ar r 66 y.toNatClampNeg)) ∧ (0 ≤ ar r 67 x.toNatClampNeg → Pd2 (ar r 67 x.toNatClampNeg) (ar r 67 y.toNatClampNeg))) : CGp (sA r 64 (upd (ar r 64) x.toNatClampNeg y)) (fun z => if rh z = x then y else rh z) Pd2 := by
  refine ⟨fun z z1 z2 z3 => ?_, fun E hE hs hP z z1 z2 z3 => ?_⟩
  · show ar r 65 (if rh z = x then y else rh z).toNatClampNeg = ar r 65 z.toNatClampNeg
    have e := h.1 z z1 z2 z3
    split
    · rename_i g
      rw [g] at e
      have z3' : 0 ≤ ar r 65 z.toNatClampNeg := z3
      rw [← e] at z3' ⊢
      exact (hh z3').1.symm
    · exact e
  · have hs0 : ∀ u : Int32, 0 ≤ u → u < fi r 28 → E u (ar r 64 u.toNatClampNeg) := fun u u1 u2 => by
      have k := hs u u1 u2
      rw [ar_sA, if_pos rfl, updI _ _ x1 u1] at k
      by_cases e : u = x
      · rw [e, x3]; exact hE.1 x
      · rw [if_neg e] at k; exact k
    have hxy : E x y := by
      have k := hs x x1 x2
      rw [ar_sA, if_pos rfl, pk_us] at k
      exact k
    have hpq : E p q := by
      rcases hp with ⟨g1, g2, g3, g4⟩ | ⟨g1, g2, g3, g4⟩
      · have e1 := E_rh w hE hs0 hp1 hp2
        have e2 := E_rh w hE hs0 g2 g3
        rw [g1] at e1
        rw [g4] at e2
        exact hE.2.2 _ _ _ e1 (hE.2.2 _ _ _ hxy (hE.2.1 _ _ e2))
      · have e1 := E_rh w hE hs0 hp1 hp2
        have e2 := E_rh w hE hs0 g2 g3
        rw [g1] at e1
        rw [g4] at e2
        exact hE.2.2 _ _ _ e1 (hE.2.2 _ _ _ (hE.2.1 _ _ hxy) (hE.2.1 _ _ e2))
    have old := h.2 E hE hs0 (fun s t k => by
      rcases hPd s t k with ⟨e1, e2⟩ | k2
      · rw [e1, e2]; exact hpq
      · exact hP s t k2) z z1 z2 z3
    show (0 ≤ ar r 66 z.toNatClampNeg → E (ar r 66 z.toNatClampNeg) (ar r 66 (if rh z = x then y else rh z).toNatClampNeg)) ∧ (0 ≤ ar r 67 z.toNatClampNeg → E (ar r 67 z.toNatClampNeg) (ar r 67 (if rh z = x then y else rh z).toNatClampNeg))
    by_cases g : rh z = x
    · rw [if_pos g]
      rw [g] at old
      have e := h.1 z z1 z2 z3
      rw [g] at e
      have z3' : 0 ≤ ar r 65 z.toNatClampNeg := z3
      have lr := lf_rh w h.1 z1 z2 z3'
      rw [g] at lr
      rw [← e] at z3'
      obtain ⟨-, h2, h3⟩ := hh z3'
      exact ⟨fun k => hE.2.2 _ _ _ (old.1 k) (hP _ _ (h2 (lr.1.mp k))), fun k => hE.2.2 _ _ _ (old.2 k) (hP _ _ (h3 (lr.2.mp k)))⟩
    · rw [if_neg g]
      exact old
theorem CGp_mono {Pd Pd2 : Int32 → Int32 → Prop} (h : CGp r rh Pd) (hm : ∀ E : Int32 → Int32 → Prop, EQV E → (∀ x : Int32, 0 ≤ x → x < fi r 28 → E x (ar r 64 x.toNatClampNeg)) → (∀ p q, Pd2 p q → E p q) → ∀ p q, Pd p q → E p q) : CGp r rh Pd2 := ⟨h.1, fun E hE hs hP => h.2 E hE hs (hm E hE hs hP)⟩
end TERMS
