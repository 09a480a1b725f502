/-! Calls on both sides: instance, the whole. -/
section INST2
theorem sl_in {c k : Int32} (c0 : 0 ≤ c) (c1 : c < 8) (k0 : 0 ≤ k) (k1 : k < 8) : (0 ≤ 8 * c + k ∧ 8 * c + k < 64) ∧ (8 * c + k).toInt = 8 * c.toInt + k.toInt := by
  rcases v8 c0 c1 with h | h | h | h | h | h | h | h <;> rcases v8 k0 k1 with g | g | g | g | g | g | g | g <;> (subst h; subst g; decide)
theorem sl_inj {c k c2 k2 : Int32} (c0 : 0 ≤ c) (c1 : c < 8) (k0 : 0 ≤ k) (k1 : k < 8) (d0 : 0 ≤ c2) (d1 : c2 < 8) (j0 : 0 ≤ k2) (j1 : k2 < 8) (h : 8 * c2 + k2 = 8 * c + k) : c2 = c ∧ k2 = k := by
  have a := (sl_in c0 c1 k0 k1).2
  have b := (sl_in d0 d1 j0 j1).2
  rw [h, a] at b
  rw [il] at k0 j0
  rw [it] at k1 j1
  simp at k0 j0 k1 j1
  rw [ie, ie]
  omega
/-- whether an instance fits -/
def fitsP (r : S_) (c k x y : Int32) : Prop := ar r 9 (8 * c + k).toNatClampNeg = -1 ∧ (ar r 6 c.toNatClampNeg = -1 ∨ (¬ ar r 9 (8 * ar r 6 c.toNatClampNeg + k).toNatClampNeg = -1 ∧ (∀ i, i < 32 → gb (ar r 10 (8 * ar r 6 c.toNatClampNeg + k).toNatClampNeg) i = true → rch r x i) ∧ ∀ i, i < 32 → gb (ar r 11 (8 * ar r 6 c.toNatClampNeg + k).toNatClampNeg) i = true → rch r y i))
theorem fits_ok {ad l : Nat → Nat} {r : S_} {c k x y : Int32} (h : INV l r) (c0 : 0 ≤ c) (c1 : c < fi r 2) (k0 : 0 ≤ k) (k1 : k < 8) {K : Int32 → Prop} (h1 : fitsP r c k x y → K 1) (h0 : ¬ fitsP r c k x y → K 0) : qK_fits (ad, l) r (fun z => zb z → K z) c k x y := by
  obtain ⟨⟨-, -, -, ⟨-, w2, -⟩, -⟩, -, -, -, kq, -⟩ := h
  obtain ⟨n0, n8, l6, l7, -, l9, l10, l11⟩ := w2
  have c8 : c < 8 := by clear kq h1 h0; grind
  have s1 := sl_in c0 c8 k0 k1
  have cm : ∀ u : Int32, u * 8 + k = 8 * u + k := fun u => by rw [Int32.mul_comm]
  have v6 : vp_in c (ln (ad, l) 6) := vi2 c0 c8 (by show (8 : Int32).toInt ≤ l 6; rw [show l 6 = 8 from l6]; decide)
  have v64 : ∀ (u : Int32) q, l q = 64 → 0 ≤ u → u < 64 → vp_in u (ln (ad, l) q) := fun u q hq u0 u1 => vi2 u0 u1 (by show (64 : Int32).toInt ≤ l q; rw [hq]; decide)
  unfold qK_fits qK_slot
  dsimp only
  simp only [cm]
  refine ⟨v64 _ 9 l9 s1.1.1 s1.1.2, fun e => ⟨v6, fun ea => ⟨v6, ?_⟩, fun ea => ⟨zb1, fun _ => h1 ⟨e, Or.inl ea⟩⟩⟩, fun e => ⟨zb0, fun _ => h0 (fun z => e z.1)⟩⟩
  have b := (kq c c0 c1).1
  have p0 : 0 ≤ ar r 6 c.toNatClampNeg := by have := b.1; clear kq h1 h0 b; grind
  have p8 : ar r 6 c.toNatClampNeg < 8 := ltt b.2 c8
  have s2 := sl_in p0 p8 k0 k1
  refine ⟨v64 _ 9 l9 s2.1.1 s2.1.2, fun e2 => ⟨zb0, fun _ => h0 (fun z => (z.2.resolve_left ea).1 e2)⟩, fun e2 => ⟨v64 _ 10 l10 s2.1.1 s2.1.2, ?_⟩⟩
  refine reaches_ok (a := (ad, l)) (show l 7 = 8 from l7) n0 n8 (fun hx => ⟨fun z => absurd z (by decide), fun _ => ⟨v64 _ 11 l11 s2.1.1 s2.1.2, ?_⟩⟩) (fun hx => ⟨fun _ => ⟨zb0, fun _ => h0 (fun z => hx (z.2.resolve_left ea).2.1)⟩, fun z => absurd rfl z⟩)
  exact reaches_ok (a := (ad, l)) (show l 7 = 8 from l7) n0 n8 (fun hy => ⟨fun z => absurd z (by decide), fun _ => ⟨zb1, fun _ => h1 ⟨e, Or.inr ⟨e2, hx, hy⟩⟩⟩⟩) (fun hy => ⟨fun _ => ⟨zb0, fun _ => h0 (fun z => hy (z.2.resolve_left ea).2.2)⟩, fun z => absurd rfl z⟩)
def cI (r : S_) (s x y : Int32) : S_ := sF (sA (sA (sA r 9 (upd (ar r 9) s.toNatClampNeg (fi r 3))) 10 (upd (ar r 10) s.toNatClampNeg x)) 11 (upd (ar r 11) s.toNatClampNeg y)) 3 (fi r 3 + 1)
def addI (r : S_) (s x y : Int32) : S_ := sF (sA (sA (sA (sF (cI r s x y) 20 0) 86 (upd (ar r 86) s.toNatClampNeg 1)) 43 (upd (ar r 10) s.toNatClampNeg x)) 44 (upd (ar r 11) s.toNatClampNeg y)) 24 (fi r 3 + 1)
theorem Fm_cI {r : S_} {s x y : Int32} : Fm r (cI r s x y) := by
  refine ⟨fun j hj => ?_, fun j hj => ?_⟩
  · unfold cI
    rw [fi_sF, if_neg (by omega)]
    rfl
  · unfold cI
    rw [ar_sF, ar_sA, if_neg (by omega), ar_sA, if_neg (by omega), ar_sA, if_neg (by omega)]
theorem addI_INV {l : Nat → Nat} {r : S_} {c k x y : Int32} (h : INV l r) (c0 : 0 ≤ c) (c1 : c < 8) (k0 : 0 ≤ k) (k1 : k < fi r 0) (hn : ar r 9 (8 * c + k).toNatClampNeg = -1) (hx : ¬ x = 0 → 0 < ar r 0 k.toNatClampNeg) (hy : ¬ y = 0 → 1 < ar r 0 k.toNatClampNeg) (ox : only x (fi r 2)) (oy : only y (fi r 2)) : INV l (addI r (8 * c + k) x y) := by
  obtain ⟨⟨g1, g2, g3, ⟨w1, w2, w3⟩, g5, g6⟩, q, m, la, kq, ⟨⟨i0, i1⟩, wq⟩, mq, sq⟩ := h
  have k8 : k < 8 := by have := w1.1.2.1; clear g1 g2 g3 w1 w2 w3 g5 g6 q m la kq wq mq sq ox oy i1; grind
  have s1 := sl_in c0 c1 k0 k8
  obtain ⟨s, es⟩ : ∃ s, s = 8 * c + k := ⟨_, rfl⟩
  rw [← es] at s1 hn ⊢
  have sn := i_nat s1.1.1
  have s64 : s.toNatClampNeg < 64 := by have := s1.1.2; rw [it] at this; simp at this; omega
  obtain ⟨q1, q2, q3, ⟨q41, q42, q43, q44⟩, q5⟩ := q
  have a9 : ar (addI r s x y) 9 = upd (ar r 9) s.toNatClampNeg (fi r 3) := rfl
  have a86 : ar (addI r s x y) 86 = upd (ar r 86) s.toNatClampNeg 1 := rfl
  have a43 : ar (addI r s x y) 43 = upd (ar r 10) s.toNatClampNeg x := rfl
  have a44 : ar (addI r s x y) 44 = upd (ar r 11) s.toNatClampNeg y := rfl
  have f3 : ¬ fi r 3 = -1 := fun z => by rw [z] at i0; exact absurd i0 (by decide)
  have cm : cnt (fun i => decide (¬ upd (ar r 9) s.toNatClampNeg (fi r 3) i = -1)) 64 = cnt (fun i => decide (¬ ar r 9 i = -1)) 64 + 1 := cnt_more s64 (by simp [hn]) (by rw [pk_us]; simp [f3]) (fun j _ hj => by rw [pk_un hj])
  have cl := cnt_le (fun i => decide (¬ upd (ar r 9) s.toNatClampNeg (fi r 3) i = -1)) 64
  have i2 : (fi r 3 + 1).toInt = (fi r 3).toInt + 1 := by
    rw [il] at i0
    exact i_add (by simp at i0 ⊢; omega) (by simp; omega)
  have ni : NI (addI r s x y) := fun i i64 hi => by
    have a10 : ar (addI r s x y) 10 = upd (ar r 10) s.toNatClampNeg x := rfl
    have a11 : ar (addI r s x y) 11 = upd (ar r 11) s.toNatClampNeg y := rfl
    rw [a9] at hi
    rw [a10, a11]
    by_cases e : i = s.toNatClampNeg
    · rw [e, pk_us] at hi
      exact absurd hi f3
    · rw [pk_un e] at hi
      rw [pk_un e, pk_un e]
      exact la.1.2.2.2.2.2 i i64 hi
  refine ⟨⟨g1, g2, g3, ⟨w1, w2, w3⟩, g5, g6⟩, ⟨q1, q2, q3, ⟨rfl, fun j j0 j1 => ?_, rfl, rfl⟩, q5⟩, m, ⟨⟨la.1.1, la.1.2.1, la.1.2.2.1, la.1.2.2.2.1, la.1.2.2.2.2.1, ni⟩, la.2⟩, kq, ⟨⟨?_, ?_⟩, fun c2 k2 d0 d1 e0 e1 => ?_⟩, mq, sq⟩
  · rw [a86, a9, updI _ _ s1.1.1 j0, updI _ _ s1.1.1 j0]
    by_cases e : j = s
    · rw [if_pos e, if_pos e]
      exact ⟨zb1, fun z => absurd z (by decide), fun z => absurd z f3⟩
    · rw [if_neg e, if_neg e]
      exact q42 j j0 j1
  · show 0 ≤ fi r 3 + 1
    rw [il] at i0 ⊢
    rw [i2]
    simp at i0 ⊢
    omega
  · show (fi r 3 + 1).toInt ≤ _
    rw [a9, cm, i2]
    omega
  · have b := wq c2 k2 d0 d1 e0 e1
    have s2 := sl_in d0 d1 e0 e1
    have a36 : ar (addI r s x y) 36 = ar r 36 := rfl
    have e0' : fi (addI r s x y) 0 = fi r 0 := rfl
    have e2' : fi (addI r s x y) 2 = fi r 2 := rfl
    rw [a43, a44, a36, e0', e2', updI _ _ s1.1.1 s2.1.1, updI _ _ s1.1.1 s2.1.1]
    rw [q43, q44] at b
    by_cases e : 8 * c2 + k2 = s
    · rw [if_pos e, if_pos e]
      rw [es] at e
      have ek := (sl_inj c0 c1 k0 k8 d0 d1 e0 e1 e).2
      rw [ek, q1.2]
      exact ⟨fun z => ⟨k1, hx z⟩, fun z => ⟨k1, hy z⟩, ox, oy⟩
    · rw [if_neg e, if_neg e]
      exact b
theorem areK_ok {a : L_} {r : S_} (n0 : 0 ≤ fi r 2) (n8 : fi r 2 ≤ 8) {x : Int32} {K : Int32 → Prop} (h1 : only x (fi r 2) → K 1) (h0 : ¬ only x (fi r 2) → K 0) : qK_areClasses a r (fun z => zb z → K z) x := by
  unfold qK_areClasses
  exact ⟨fun z => ⟨zb0, fun _ => h0 (fun q => z ((only_c n0 n8).mpr q))⟩, fun z => ⟨zb1, fun _ => h1 ((only_c n0 n8).mp z)⟩⟩
end INST2
