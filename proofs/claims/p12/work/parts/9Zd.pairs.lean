/-! Calls on both sides: constructor, variable, class0. -/
section PAIRS
/-- what the calls other than infer leave alone: visits, settlings, what was passed -/
def kp (r : S_) : Int32 × Int32 × Int32 × Int32 × Int32 × Int32 × Int32 × (Nat → Int32) × (Nat → Int32) × (Nat → Int32) := (fi r 13, fi r 6, fi r 19, fi r 39, fi r 17, fi r 18, fi r 38, ar r 35, ar r 81, ar r 82)
def KN0 (r : S_) : Prop := ∀ e : Int32, 0 ≤ e → e < fi r 4 → ar r 12 e.toNatClampNeg = 0 ∨ ar r 12 e.toNatClampNeg = 1 ∨ ar r 12 e.toNatClampNeg = 2 ∨ ar r 12 e.toNatClampNeg = 3 ∨ ar r 12 e.toNatClampNeg = 4 ∨ ar r 12 e.toNatClampNeg = 5
/-- a variable is one type -/
def UVr (r : S_) : Prop := ∀ i j : Int32, 0 ≤ i → i < fi r 1 → 0 ≤ j → j < fi r 1 → ar r 1 i.toNatClampNeg < 0 → ar r 1 j.toNatClampNeg = ar r 1 i.toNatClampNeg → i = j
/-- no instance wants nothing -/
def NI (r : S_) : Prop := ∀ i : Nat, i < 64 → ar r 9 i = -1 → ar r 10 i = 0 ∧ ar r 11 i = 0
def KND (r : S_) : Prop := KN0 r ∧ UVr r ∧ NI r
/-- what is told of the latest type, in the reference -/
def LAST (r : S_) : Prop := (0 ≤ fi r 38 ∧ fi r 38 ≤ 20000 ∧ ar r 0 0 = 2 ∧ KND r) ∧ ∃ C : Int32 → Prop, C (fi r 37) ∧ ∀ x, C x → (0 ≤ x ∧ x < 40000) ∧ (-1 ≤ ar r 78 x.toNatClampNeg ∧ (0 ≤ ar r 78 x.toNatClampNeg → C (ar r 78 x.toNatClampNeg))) ∧ (-1 ≤ ar r 79 x.toNatClampNeg ∧ (0 ≤ ar r 79 x.toNatClampNeg → C (ar r 79 x.toNatClampNeg))) ∧ (ar r 78 x.toNatClampNeg = -1 → ar r 79 x.toNatClampNeg = -1) ∧ (0 ≤ (ar r 80 x.toNatClampNeg).toInt ∧ (ar r 80 x.toNatClampNeg).toInt ≤ 1000000000) ∧ (ar r 80 x.toNatClampNeg).toInt ≤ 1 + (if ar r 78 x.toNatClampNeg = -1 then 0 else (ar r 80 (ar r 78 x.toNatClampNeg).toNatClampNeg).toInt) + (if ar r 79 x.toNatClampNeg = -1 then 0 else (ar r 80 (ar r 79 x.toNatClampNeg).toNatClampNeg).toInt)
/-- what is wanted is of classes, and of parts that there are -/
def WQ (r : S_) : Prop := (0 ≤ fi r 3 ∧ (fi r 3).toInt ≤ cnt (fun i => decide (¬ ar r 9 i = -1)) 64) ∧ ∀ c k : Int32, 0 ≤ c → c < 8 → 0 ≤ k → k < 8 → (¬ ar r 43 (8 * c + k).toNatClampNeg = 0 → k < fi r 0 ∧ 0 < ar r 36 k.toNatClampNeg) ∧ (¬ ar r 44 (8 * c + k).toNatClampNeg = 0 → k < fi r 0 ∧ 1 < ar r 36 k.toNatClampNeg) ∧ only (ar r 43 (8 * c + k).toNatClampNeg) (fi r 2) ∧ only (ar r 44 (8 * c + k).toNatClampNeg) (fi r 2)
/-- what a class is under -/
def KQ (r : S_) : Prop := ∀ c : Int32, 0 ≤ c → c < fi r 2 → (-1 ≤ ar r 6 c.toNatClampNeg ∧ ar r 6 c.toNatClampNeg < c) ∧ ar r 7 c.toNatClampNeg = (1 <<< (c &&& 31)) ||| (if ar r 6 c.toNatClampNeg = -1 then 0 else ar r 7 (ar r 6 c.toNatClampNeg).toNatClampNeg)
/-- a class's method is a type that holds variable 0 -/
def MTQ (r : S_) : Prop := ∀ c : Int32, 0 ≤ c → c < fi r 2 → ar r 8 c.toNatClampNeg = -1 ∨ ((0 ≤ ar r 8 c.toNatClampNeg ∧ ar r 8 c.toNatClampNeg < fi r 1) ∧ ¬ ar r 5 (ar r 8 c.toNatClampNeg).toNatClampNeg &&& 1 = 0)
/-- what a constructor's parts count, and their variables -/
def szP (r : S_) (x : Int32) : Int32 := if x = -1 then 0 else ar r 4 x.toNatClampNeg
def btP (r : S_) (x : Int32) : Int32 := if x = -1 then 0 else ar r 5 x.toNatClampNeg
/-- a constructor has as many parts as it has; a type's size and variables are its parts' -/
def aryP (r : S_) (hd x y : Int32) : Prop := 0 ≤ hd → hd < fi r 0 ∧ (0 ≤ x ↔ 0 < ar r 0 hd.toNatClampNeg) ∧ (0 ≤ y ↔ 1 < ar r 0 hd.toNatClampNeg)
def SQ (r : S_) : Prop := ∀ t : Int32, 0 ≤ t → t < fi r 1 → (ar r 4 t.toNatClampNeg).toInt = 1 + (szP r (ar r 2 t.toNatClampNeg)).toInt + (szP r (ar r 3 t.toNatClampNeg)).toInt ∧ (ar r 5 t.toNatClampNeg = if ar r 1 t.toNatClampNeg < 0 then 1 <<< ((-1 - ar r 1 t.toNatClampNeg) &&& 31) else btP r (ar r 2 t.toNatClampNeg) ||| btP r (ar r 3 t.toNatClampNeg)) ∧ aryP r (ar r 1 t.toNatClampNeg) (ar r 2 t.toNatClampNeg) (ar r 3 t.toNatClampNeg)
def INV (l : Nat → Nat) (r : S_) : Prop := CR l r ∧ TQ r ∧ ML (A0 l) ∧ LAST r ∧ KQ r ∧ WQ r ∧ MTQ r ∧ SQ r
theorem INV_20 {l : Nat → Nat} {r : S_} {v : Int32} (h : INV l r) : INV l (sF r 20 v) := h
theorem rin_ok {a : L_} {r : S_} {x lo hi : Int32} {K : Int32 → Prop} (h0 : (x < lo ∨ hi < x) → K 0) (h1 : ¬ x < lo → ¬ hi < x → K 1) : qM_in a r (fun z => zb z → K z) x lo hi := by
  unfold qM_in
  exact ⟨fun g => ⟨zb0, fun _ => h0 (Or.inl g)⟩, fun g => ⟨fun g2 => ⟨zb0, fun _ => h0 (Or.inr g2)⟩, fun g2 => ⟨zb1, fun _ => h1 g g2⟩⟩⟩
def addC (r : S_) (p : Int32) : S_ := sF (sA (sF (sF (sA r 0 (upd (ar r 0) (fi r 0).toNatClampNeg p)) 0 (fi r 0 + 1)) 20 0) 36 (upd (ar r 0) (fi r 0).toNatClampNeg p)) 21 (fi r 0 + 1)
theorem addC_INV {l : Nat → Nat} {r : S_} {p : Int32} (h : INV l r) (hc : fi r 0 < 8) (p1 : 0 ≤ p) (p2 : p ≤ 2) : INV l (addC r p) := by
  obtain ⟨⟨c1, c2, c3, ⟨t1, t2, t3⟩, c5, c6⟩, q, m, la⟩ := h
  refine ⟨⟨c1, c2, c3, ⟨?_, t2, t3⟩, c5, c6⟩, ⟨⟨rfl, rfl⟩, q.2⟩, m, ⟨⟨la.1.1.1, la.1.1.2.1, ?_, la.1.1.2.2.2⟩, la.1.2⟩, la.2.1, ?_, la.2.2.2.1, ?_⟩
  rotate_left
  · have a0 : ar (addC r p) 0 = upd (ar r 0) (fi r 0).toNatClampNeg p := rfl
    have g1 := t1.1.1
    rw [il] at g1
    have g0 : 0 ≤ fi r 0 := by rw [il]; simp at g1 ⊢; omega
    have g2 := i_nat g0
    rw [a0, pk_un (by simp at g1; omega)]
    exact la.1.1.2.2.1
  · refine ⟨la.2.2.1.1, ?_⟩
    intro c k a1 a2 a3 a4
    obtain ⟨b1, b2, b3, b4⟩ := la.2.2.1.2 c k a1 a2 a3 a4
    have q36 := q.1.2
    have f0 : 0 ≤ fi r 0 := by have := t1.1.1; clear c1 c2 c3 c5 c6 q m la t1 t2 t3 b1 b2 b3 b4; grind
    have s9 : fi r 0 < fi r 0 + 1 := by clear c1 c2 c3 c5 c6 q m la t1 t2 t3 b1 b2 b3 b4 q36; grind
    have a36 : ar (addC r p) 36 = upd (ar r 0) (fi r 0).toNatClampNeg p := rfl
    have rd : k < fi r 0 → upd (ar r 0) (fi r 0).toNatClampNeg p k.toNatClampNeg = ar r 36 k.toNatClampNeg := fun z => by rw [updI _ _ f0 a3, if_neg (fun e => by rw [e] at z; exact irr z), q36]
    refine ⟨fun g => ?_, fun g => ?_, b3, b4⟩
    · have := b1 g
      exact ⟨ltt this.1 s9, by rw [a36, rd this.1]; exact this.2⟩
    · have := b2 g
      exact ⟨ltt this.1 s9, by rw [a36, rd this.1]; exact this.2⟩
  · intro t z1 z2
    have b := la.2.2.2.2 t z1 z2
    refine ⟨b.1, b.2.1, fun hz => ?_⟩
    have b3 := b.2.2 hz
    have f0 : 0 ≤ fi r 0 := by have := t1.1.1; clear c1 c2 c3 c5 c6 q m la t1 t2 t3 b b3; grind
    have s9 : fi r 0 < fi r 0 + 1 := by clear c1 c2 c3 c5 c6 q m la t1 t2 t3 b b3; grind
    have a0 : ar (addC r p) 0 = upd (ar r 0) (fi r 0).toNatClampNeg p := rfl
    have a1 : ar (addC r p) 1 = ar r 1 := rfl
    have a2 : ar (addC r p) 2 = ar r 2 := rfl
    have a3 : ar (addC r p) 3 = ar r 3 := rfl
    have e0 : fi (addC r p) 0 = fi r 0 + 1 := rfl
    rw [a1] at hz
    rw [a1, a2, a3, a0, e0, updI _ _ f0 hz, if_neg (fun e => by have := b3.1; rw [e] at this; exact irr this)]
    exact ⟨ltt b3.1 s9, b3.2⟩
  obtain ⟨⟨f1, f2, f3, f4⟩, hl, wc, wt⟩ := t1
  have e0 : fi (addC r p) 0 = fi r 0 + 1 := rfl
  have a0 : ar (addC r p) 0 = upd (ar r 0) (fi r 0).toNatClampNeg p := rfl
  refine ⟨⟨?_, ?_, f3, f4⟩, hl, fun c k1 k2 => ?_, wt⟩
  · rw [e0]; clear wc wt hl c1 c2 c3 c5 c6 q m la t2 t3; grind
  · rw [e0]; clear wc wt hl c1 c2 c3 c5 c6 q m la t2 t3; grind
  · rw [e0] at k2
    have f0 : 0 ≤ fi r 0 := by clear wc wt hl c1 c2 c3 c5 c6 q m la t2 t3; grind
    rw [a0, updI _ _ f0 k1]
    split
    · exact ⟨p1, p2⟩
    · rename_i e
      exact wc c k1 (by clear wc wt hl c1 c2 c3 c5 c6 q m la t2 t3; grind)
theorem constructor_pair {ad l : Nat → Nat} {r : S_} {p : Int32} (h : INV l r) {K : S_ → Prop} (hK : ∀ r', INV l r' → kp r' = kp r → K r') : qI_constructor (ad, l) (fun z r1 => qM_constructor (ad, l) (fun z2 r2 => z = z2 ∧ K r2) r1 p) r p := by
  obtain ⟨⟨c1, c2, c3, ⟨t1, t2, t3⟩, c5, c6⟩, q, m, la⟩ := h
  have h' : INV l r := ⟨⟨c1, c2, c3, ⟨t1, t2, t3⟩, c5, c6⟩, q, m, la⟩
  have f1 := t1.1.1
  have f2 := t1.1.2.1
  have q21 := q.1.1
  have q36 := q.1.2
  have bad : (p < 0 ∨ 2 < p) → qM_constructor (ad, l) (fun z2 r2 => -1 = z2 ∧ K r2) r p := by
    intro g
    unfold qM_constructor
    intro r1 e1
    subst e1
    exact rin_ok (fun _ => ⟨fun z => absurd rfl z, fun _ => ⟨rfl, hK _ (INV_20 h') rfl⟩⟩) (fun g1 g2 => absurd g (by clear h' c1 c2 c3 t1 t2 t3 c5 c6 q m la hK; grind))
  unfold qI_constructor
  refine ⟨fun g => bad (Or.inl g), fun g => ⟨fun g2 => ?_, fun g2 => bad (Or.inr (Int32.not_le.mp g2))⟩⟩
  unfold qT_addConstructor
  have g1 : 0 ≤ p := by clear h' c1 c2 c3 t1 t2 t3 c5 c6 q m la hK; grind
  refine ⟨fun g3 => ⟨vi2 (by clear h' c1 c2 c3 t2 t3 c5 c6 q m la hK t1; grind) g3 (by show (8 : Int32).toInt ≤ l 0; rw [t1.2.1.1]; decide), fun r3 e3 r4 e4 => ?_⟩, fun g3 => ?_⟩
  · subst e3
    subst e4
    unfold qM_constructor
    intro r1 e1
    subst e1
    refine rin_ok (fun g4 => absurd g4 (by clear h' c1 c2 c3 t1 t2 t3 c5 c6 q m la hK; grind)) (fun _ _ => ⟨fun _ => ⟨fun g5 => ?_, fun g5 => ?_⟩, fun z => absurd z (by decide)⟩)
    · have q21' : fi r 21 = fi r 0 := q21
      refine ⟨vi2 (y := 8) (by show 0 ≤ fi r 21; rw [q21']; clear h' c1 c2 c3 t2 t3 c5 c6 q m la hK t1; grind) (by show fi r 21 < 8; rw [q21']; exact g3) (by show (8 : Int32).toInt ≤ l 36; rw [show l 36 = 8 from ml (n := 8) m (by decide) (by decide) rfl]; decide), fun r6 e6 r7 e7 => ?_⟩
      have e7' : r7 = addC r p := by
        rw [e7, e6]
        unfold addC
        show sF (sA (sF (sF (sA r 0 (upd (ar r 0) (fi r 0).toNatClampNeg p)) 0 (fi r 0 + 1)) 20 0) 36 (upd (ar r 36) (fi r 21).toNatClampNeg p)) 21 (fi r 21 + 1) = _
        rw [q36, q21']
      refine ⟨?_, ?_⟩
      · show fi r 0 + 1 - 1 = fi r7 21 - 1
        rw [e7']
        rfl
      · rw [e7']
        exact hK _ (addC_INV h' g3 g1 g2) rfl
    · have g6 : fi r 21 = 8 := g5
      rw [q21] at g6
      rw [g6] at g3
      exact absurd g3 (by decide)
  · have g4 : fi r 0 = 8 := by clear h' c1 c2 c3 t1 t2 t3 c5 c6 q m la hK; grind
    unfold qM_constructor
    intro r1 e1
    subst e1
    refine rin_ok (fun g4 => absurd g4 (by clear h' c1 c2 c3 t1 t2 t3 c5 c6 q m la hK; grind)) (fun _ _ => ⟨fun _ => ⟨fun g5 => ?_, fun g5 => ⟨rfl, hK _ (INV_20 h') rfl⟩⟩, fun z => absurd z (by decide)⟩)
    exact absurd (show fi r 21 = 8 by rw [q21]; exact g4) g5
theorem addT_INV {l : Nat → Nat} {r : S_} {hd x y s b : Int32} (h : INV l r) (hc : fi r 1 < 60) (hT : TT l (addT r hd x y s b)) (hno : ∀ u : Int32, 0 ≤ u → u < fi r 1 → ¬ mat r hd x y u) (x1 : -1 ≤ x ∧ x < fi r 1) (y1 : -1 ≤ y ∧ y < fi r 1) (hs : s.toInt = 1 + (szP r x).toInt + (szP r y).toInt) (hb : b = if hd < 0 then 1 <<< ((-1 - hd) &&& 31) else btP r x ||| btP r y) (ha : aryP r hd x y) : INV l (addT r hd x y s b) := by
  obtain ⟨⟨c1, c2, c3, ⟨t1, t2, t3⟩, c5, c6⟩, q, m, la⟩ := h
  refine ⟨⟨c1, c2, c3, ⟨hT, t2, addT_ET t3 t1.1.2.2.1 hc⟩, c5, c6⟩, addT_TQ q, m, ⟨⟨la.1.1.1, la.1.1.2.1, la.1.1.2.2.1, la.1.1.2.2.2.1, fun i j i0 i1 j0 j1 hi hj => ?_, la.1.1.2.2.2.2.2⟩, la.1.2⟩, la.2.1, la.2.2.1, fun c k1 k2 => ?_, fun t t0 tl => ?_⟩
  rotate_left 2
  · have f3 := t1.1.2.2.1
    have e1 : fi (addT r hd x y s b) 1 = fi r 1 + 1 := rfl
    have a1 : ar (addT r hd x y s b) 1 = upd (ar r 1) (fi r 1).toNatClampNeg hd := rfl
    have a2 : ar (addT r hd x y s b) 2 = upd (ar r 2) (fi r 1).toNatClampNeg x := rfl
    have a3 : ar (addT r hd x y s b) 3 = upd (ar r 3) (fi r 1).toNatClampNeg y := rfl
    have a4 : ar (addT r hd x y s b) 4 = upd (ar r 4) (fi r 1).toNatClampNeg s := rfl
    have a5 : ar (addT r hd x y s b) 5 = upd (ar r 5) (fi r 1).toNatClampNeg b := rfl
    have szs : ∀ u, -1 ≤ u → u < fi r 1 → szP (addT r hd x y s b) u = szP r u ∧ btP (addT r hd x y s b) u = btP r u := fun u u1 u2 => by
      unfold szP btP
      rw [a4, a5]
      by_cases e : u = -1
      · rw [if_pos e, if_pos e, if_pos e, if_pos e]; exact ⟨rfl, rfl⟩
      · have u0 : 0 ≤ u := by clear c1 c2 c3 t1 t2 t3 c5 c6 q m la hT hs hb hno; grind
        have ne : ¬ u = fi r 1 := fun z => by rw [z] at u2; exact irr u2
        rw [if_neg e, if_neg e, if_neg e, if_neg e, updI _ _ f3 u0, if_neg ne, updI _ _ f3 u0, if_neg ne]; exact ⟨rfl, rfl⟩
    rw [e1] at tl
    rw [a1, a2, a3, a4, a5]
    by_cases e : t = fi r 1
    · rw [e, pk_us, pk_us, pk_us, pk_us, pk_us, (szs x x1.1 x1.2).1, (szs y y1.1 y1.2).1, (szs x x1.1 x1.2).2, (szs y y1.1 y1.2).2]
      exact ⟨hs, hb, ha⟩
    · have t3' : t < fi r 1 := by clear c1 c2 c3 t1 t2 t3 c5 c6 q m la hT hs hb szs hno; grind
      have wt := t1.2.2.2 t t0 t3'
      have p2 := szs (ar r 2 t.toNatClampNeg) wt.2.1.1 (ltt wt.2.1.2 t3')
      have p3 := szs (ar r 3 t.toNatClampNeg) wt.2.2.1.1 (ltt wt.2.2.1.2 t3')
      rw [updI _ _ f3 t0, if_neg e, updI _ _ f3 t0, if_neg e, updI _ _ f3 t0, if_neg e, updI _ _ f3 t0, if_neg e, updI _ _ f3 t0, if_neg e, p2.1, p2.2, p3.1, p3.2]
      exact la.2.2.2.2 t t0 t3'
  · have f3 := t1.1.2.2.1
    have e1 : fi (addT r hd x y s b) 1 = fi r 1 + 1 := rfl
    have a1 : ar (addT r hd x y s b) 1 = upd (ar r 1) (fi r 1).toNatClampNeg hd := rfl
    have a2 : ar (addT r hd x y s b) 2 = upd (ar r 2) (fi r 1).toNatClampNeg x := rfl
    have a3 : ar (addT r hd x y s b) 3 = upd (ar r 3) (fi r 1).toNatClampNeg y := rfl
    have wn := hT.2.2.2 (fi r 1) f3 (by rw [e1]; clear c1 c2 c3 t1 t2 t3 c5 c6 q m la hT hno hs hb ha hi hj; grind)
    have xy := wn.2.2.2.2.2.2.1
    rw [a1, a2, a3, pk_us, pk_us, pk_us] at xy
    have lo : ∀ u : Int32, u < fi r 1 + 1 → ¬ u = fi r 1 → u < fi r 1 := fun u h1 h2 => by clear c1 c2 c3 t1 t2 t3 c5 c6 q m la hT hno hs hb ha hi hj wn xy; grind
    have old : ∀ u : Int32, 0 ≤ u → u < fi r 1 → ar r 1 u.toNatClampNeg = hd → hd < 0 → False := fun u u0 u1 h1 h2 => by
      have k := (t1.2.2.2 u u0 u1).2.2.2.2.2.2.1 (by rw [h1]; exact h2)
      exact hno u u0 u1 ⟨h1, by rw [k.1, (xy h2).1], by rw [k.2, (xy h2).2]⟩
    rw [e1] at i1 j1
    rw [a1, updI _ _ f3 i0] at hi hj
    rw [updI _ _ f3 j0] at hj
    by_cases ei : i = fi r 1
    · rw [if_pos ei] at hi hj
      by_cases ej : j = fi r 1
      · rw [ei, ej]
      · rw [if_neg ej] at hj
        exact (old j j0 (lo j j1 ej) hj hi).elim
    · rw [if_neg ei] at hi hj
      by_cases ej : j = fi r 1
      · rw [if_pos ej] at hj
        exact (old i i0 (lo i i1 ei) hj.symm (by rw [hj]; exact hi)).elim
      · rw [if_neg ej] at hj
        exact la.1.1.2.2.2.2.1 i j i0 (lo i i1 ei) j0 (lo j j1 ej) hi hj
  have f3 := t1.1.2.2.1
  have s9 : fi r 1 < fi r 1 + 1 := by clear c1 c2 c3 t1 t2 t3 c5 c6 q m la hT hno; grind
  have a8 : ar (addT r hd x y s b) 8 = ar r 8 := rfl
  have a5 : ar (addT r hd x y s b) 5 = upd (ar r 5) (fi r 1).toNatClampNeg b := rfl
  have e1 : fi (addT r hd x y s b) 1 = fi r 1 + 1 := rfl
  rw [a8, a5, e1]
  rcases la.2.2.2.1 c k1 k2 with e | ⟨e1, e2⟩
  · exact Or.inl e
  · refine Or.inr ⟨⟨e1.1, ltt e1.2 s9⟩, ?_⟩
    rw [updI _ _ f3 e1.1, if_neg (fun z => by have := e1.2; rw [z] at this; exact irr this)]
    exact e2
/-- the reference keeps what the class has kept, r1: the class's state behind its own keeping -/
theorem rkeep_new {ad l : Nat → Nat} {r : S_} {hd x y s b : Int32} (h : INV l r) (hc : fi r 1 < 60) (hs : s ≤ 16) (hT : TT l (addT r hd x y s b)) (hno : ∀ u : Int32, 0 ≤ u → u < fi r 1 → ¬ mat r hd x y u) {K : Int32 → S_ → Prop} (hK : K (fi r 1) (addT r hd x y s b)) : qM_keepType (ad, l) K (sF (sF (sA (sA (sA (sA (sA r 1 (upd (ar r 1) (fi r 1).toNatClampNeg hd)) 2 (upd (ar r 2) (fi r 1).toNatClampNeg x)) 3 (upd (ar r 3) (fi r 1).toNatClampNeg y)) 4 (upd (ar r 4) (fi r 1).toNatClampNeg s)) 5 (upd (ar r 5) (fi r 1).toNatClampNeg b)) 1 (fi r 1 + 1)) 20 0) hd x y s := by
  obtain ⟨⟨c1, c2, c3, ⟨t1, t2, t3⟩, c5, c6⟩, q, m, la⟩ := h
  obtain ⟨-, ⟨q22, q37, q38, q39, q40⟩, -⟩ := q
  have f3 := t1.1.2.2.1
  obtain ⟨R, eR⟩ : ∃ R, R = (sF (sF (sA (sA (sA (sA (sA r 1 (upd (ar r 1) (fi r 1).toNatClampNeg hd)) 2 (upd (ar r 2) (fi r 1).toNatClampNeg x)) 3 (upd (ar r 3) (fi r 1).toNatClampNeg y)) 4 (upd (ar r 4) (fi r 1).toNatClampNeg s)) 5 (upd (ar r 5) (fi r 1).toNatClampNeg b)) 1 (fi r 1 + 1)) 20 0) := ⟨_, rfl⟩
  rw [← eR]
  have r22 : fi R 22 = fi r 1 := by rw [eR]; exact q22
  have r37 : ar R 37 = ar r 1 := by rw [eR]; exact q37
  have r38 : ar R 38 = ar r 2 := by rw [eR]; exact q38
  have r39 : ar R 39 = ar r 3 := by rw [eR]; exact q39
  have r40 : ar R 40 = ar r 4 := by rw [eR]; exact q40
  have v60 : ∀ k, 36 ≤ k → k < 89 → ln0 k = 60 → ∀ v : Int32, 0 ≤ v → v ≤ fi r 1 → vp_in v (ln (ad, l) k) := fun k h1 h2 hk v v1 v2 => vi2 (y := 60) v1 (by clear c1 c2 c3 t1 t2 t3 c5 c6 m la hno hT hK; grind) (by have e := ml m h1 h2 hk; show (60 : Int32).toInt ≤ l k; rw [show l k = 60 from e]; decide)
  unfold qM_keepType
  have key : ∀ (n : Nat) (v : Int32), 0 ≤ v → v ≤ fi r 1 → (fi r 1).toInt - v.toInt < n → qM_keepType_L3 (ad, l) (fun r v5 => K v5 r) (fun r v1 v2 v3 v4 => (((fi r 22) = 60) → K (-3) r) ∧ ((¬ (fi r 22) = 60) → ((v4 ≤ 16) → vp_in (fi r 22) (ln (ad, l) 37) ∧ ∀ r11 : S_, r11 = sA r 37 (upd (ar r 37) (fi r 22).toNatClampNeg v1) → vp_in (fi r11 22) (ln (ad, l) 38) ∧ ∀ r13 : S_, r13 = sA r11 38 (upd (ar r11 38) (fi r11 22).toNatClampNeg v2) → vp_in (fi r13 22) (ln (ad, l) 39) ∧ ∀ r15 : S_, r15 = sA r13 39 (upd (ar r13 39) (fi r13 22).toNatClampNeg v3) → vp_in (fi r15 22) (ln (ad, l) 40) ∧ ∀ r17 : S_, r17 = sA r15 40 (upd (ar r15 40) (fi r15 22).toNatClampNeg v4) → ∀ r18 : S_, r18 = sF r17 22 ((fi r17 22) + 1) → K ((fi r18 22) - 1) r18) ∧ ((¬ v4 ≤ 16) → K (-3) r))) n R hd x y s v := by
    intro n
    induction n with
    | zero => intro v k1 k2 k4; rw [il] at k2; omega
    | succ n ih =>
      intro v k1 k2 k4
      rw [qM_keepType_L3, r22, r37, r38, r39]
      refine ⟨fun g => ⟨fun g2 => ?_, fun _ => ⟨fun _ => ?_, fun z => absurd hs z⟩⟩, fun g => ?_⟩
      · rw [g2] at hc
        exact absurd hc (by decide)
      · refine ⟨v60 37 (by decide) (by decide) rfl _ f3 (Int32.le_refl _), fun r11 e11 => ?_⟩
        have f11 : fi r11 22 = fi r 1 := by rw [e11]; exact r22
        rw [f11]
        refine ⟨v60 38 (by decide) (by decide) rfl _ f3 (Int32.le_refl _), fun r13 e13 => ?_⟩
        have f13 : fi r13 22 = fi r 1 := by rw [e13]; exact f11
        rw [f13]
        refine ⟨v60 39 (by decide) (by decide) rfl _ f3 (Int32.le_refl _), fun r15 e15 => ?_⟩
        have f15 : fi r15 22 = fi r 1 := by rw [e15]; exact f13
        rw [f15]
        refine ⟨v60 40 (by decide) (by decide) rfl _ f3 (Int32.le_refl _), fun r17 e17 r18 e18 => ?_⟩
        have f17 : fi r17 22 = fi r 1 := by rw [e17]; exact f15
        have e18' : r18 = addT r hd x y s b := by
          have x38 : ar r11 38 = ar r 2 := by rw [e11, ar_sA, if_neg (by decide)]; exact r38
          have x39 : ar r13 39 = ar r 3 := by rw [e13, ar_sA, if_neg (by decide), e11, ar_sA, if_neg (by decide)]; exact r39
          have x40 : ar r15 40 = ar r 4 := by rw [e15, ar_sA, if_neg (by decide), e13, ar_sA, if_neg (by decide), e11, ar_sA, if_neg (by decide)]; exact r40
          rw [e18, f17, e17, x40, e15, x39, e13, x38, e11, eR]
          rfl
        rw [e18']
        have e9 : fi (addT r hd x y s b) 22 - 1 = fi r 1 := by
          show fi r 1 + 1 - 1 = fi r 1
          clear c1 c2 c3 t1 t2 t3 c5 c6 m la hno hT hK ih; grind
        rw [e9]
        exact hK
      · have hlt : v < fi r 1 := Int32.not_le.mp g
        have hi := i_inc hlt
        have nx : qM_keepType_L3 (ad, l) (fun r v5 => K v5 r) _ n R hd x y s (v + 1) := ih (v + 1) (by clear c1 c2 c3 t1 t2 t3 c5 c6 m la hno hT hK ih; grind) (by clear c1 c2 c3 t1 t2 t3 c5 c6 m la hno hT hK ih; grind) (by omega)
        have nv := hno v k1 hlt
        have vv : ∀ k, 36 ≤ k → k < 89 → ln0 k = 60 → vp_in v (ln (ad, l) k) := fun k h1 h2 h3 => v60 k h1 h2 h3 v k1 k2
        unfold qM_keepType_J48
        exact ⟨vv 37 (by decide) (by decide) rfl, fun g1 => nx, fun g1 => ⟨vv 38 (by decide) (by decide) rfl, fun g2 => nx, fun g2 => ⟨vv 39 (by decide) (by decide) rfl, fun g3 => nx, fun g3 => absurd ⟨g1, g2, g3⟩ nv⟩⟩⟩
  have c0 := i_nat f3
  exact ⟨(fi r 1).toNatClampNeg + 1, key _ _ (by decide) f3 (by simp; omega)⟩
end PAIRS
