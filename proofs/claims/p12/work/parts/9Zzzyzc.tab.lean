/-! What is between calls has the tables that typing needs. -/
section ZTABI
variable {l : Nat → Nat} {r : S_}
theorem sl_n {c k : Nat} (c8 : c < 8) (k8 : k < 8) : (8 * Int32.ofNat c + Int32.ofNat k).toNatClampNeg = 8 * c + k := by
  obtain ⟨c0, c1, c2⟩ := ofN8 c8
  obtain ⟨k0, k1, k2⟩ := ofN8 k8
  have s := sl_in c0 c1 k0 k1
  have a := i_nat s.1.1
  have b := i_nat c0
  have d := i_nat k0
  rw [c2] at b
  rw [k2] at d
  omega
theorem in8 (h : INV l r) : (0 ≤ fi r 2 ∧ fi r 2 ≤ 8) ∧ (fi r 2).toNatClampNeg ≤ 8 := by
  have w := h.1.2.2.2.1.2.1
  have b := i_nat w.1
  have w2 := w.2.1
  rw [il] at w2
  simp at w2
  exact ⟨⟨w.1, w.2.1⟩, by omega⟩
theorem kF_in (h : INV l r) {m : Nat} (hm : m = 10 ∨ m = 11) {c : Nat} {k : Int32} {c1 : Nat} (f : kF r m c k c1) : kI r c k ∧ (m = 10 → 0 < ar r 0 k.toNatClampNeg) ∧ (m = 11 → 1 < ar r 0 k.toNatClampNeg) ∧ c1 < (fi r 2).toNatClampNeg := by
  obtain ⟨⟨f1, f2⟩, f3⟩ := f
  have n := in8 h
  have c8 : c < 8 := Nat.lt_of_lt_of_le f1 n.2
  have ni := h.2.2.2.1.1.2.2.2.2.2
  have q := h.2.1
  have nz : ¬ ar r m (8 * c + k.toNatClampNeg) = 0 := fun z => by rw [z, gb_0] at f3; exact absurd f3 (by decide)
  obtain ⟨c0, c9, ce⟩ := ofN8 c8
  obtain ⟨k0, k9, ke⟩ := ofN8 f2
  have w := h.2.2.2.2.2.1.2 (Int32.ofNat c) (Int32.ofNat k.toNatClampNeg) c0 c9 k0 k9
  rw [sl_n c8 f2, ke, q.2.2.2.1.2.2.1, q.2.2.2.1.2.2.2, q.1.2] at w
  have lt : ∀ v : Int32, only v (fi r 2) → gb v c1 = true → c1 < (fi r 2).toNatClampNeg := fun v o g => by
    have := o c1 (gb_lt g) g
    have b := i_nat n.1.1
    omega
  refine ⟨fun _ z => ?_, fun e => ?_, fun e => ?_, ?_⟩
  · have := ni _ (by omega) z
    rcases hm with e | e <;> subst e
    · exact nz this.1
    · exact nz this.2
  · subst e
    exact (w.1 nz).2
  · subst e
    exact (w.2.1 nz).2
  · rcases hm with e | e <;> subst e
    · exact lt _ w.2.2.1 f3
    · exact lt _ w.2.2.2 f3
theorem KTz_of (h : INV l r) : KTz r := by
  have n := in8 h
  exact ⟨n.1, fun c k c1 f => ⟨(kF_in h (Or.inl rfl) f).1, (kF_in h (Or.inl rfl) f).2.1 rfl⟩, fun c k c1 f => ⟨(kF_in h (Or.inr rfl) f).1, (kF_in h (Or.inr rfl) f).2.2.1 rfl⟩, fun c k c1 f => Nat.lt_of_lt_of_le (kF_in h (Or.inl rfl) f).2.2.2 n.2, fun c k c1 f => Nat.lt_of_lt_of_le (kF_in h (Or.inr rfl) f).2.2.2 n.2⟩
theorem TBX_of (h : INV l r) : TBX r := ⟨KTz_of h, fun e e0 e1 => by
  rcases h.2.2.2.1.1.2.2.2.1 e e0 e1 with q | q | q | q | q | q <;> rw [q] <;> decide⟩
theorem ge1 {x : Int32} (h : -1 ≤ x) : 0 ≤ x ↔ ¬ x = -1 := by
  rw [il] at h ⊢
  rw [ie]
  simp at h ⊢
  omega
theorem TYz_of (h : INV l r) : TYz r := by
  have t1 := h.1.2.2.2.1.1
  have sq := h.2.2.2.2.2.2.2
  refine ⟨t1.1.2.2, fun t t0 t2 => ⟨(t1.2.2.2 t t0 t2).2.1, (t1.2.2.2 t t0 t2).2.2.1⟩, fun t t0 t2 => ?_⟩
  have w := t1.2.2.2 t t0 t2
  have s := sq t t0 t2
  refine ⟨w.1, w.2.2.2.2.2.2.1, fun q => ?_, s.1, (szP_in t1 w.2.1.1 (ltt w.2.1.2 t2)).1, (szP_in t1 w.2.2.1.1 (ltt w.2.2.1.2 t2)).1⟩
  have a := s.2.2 q
  exact ⟨by rw [← ge1 w.2.1.1]; exact a.2.1, by rw [← ge1 w.2.2.1.1]; exact a.2.2⟩
theorem TAB_of (h : INV l r) : TAB l r := by
  have q := h.2.1
  have t1 := h.1.2.2.2.1.1
  refine ⟨⟨⟨q.2.2.1.1, KTz_of h, fun c k c0 c1 k0 k1 => (q.2.2.2.1.2.1 _ (sl_in c0 c1 k0 k1).1.1 (sl_in c0 c1 k0 k1).1.2).2, q.2.2.2.1.2.2.1, q.2.2.2.1.2.2.2, q.1.2, fun c k c1 f => ?_⟩, h.2.2.2.2.1, q.2.2.1.2.1⟩, ⟨⟨q.2.2.2.2.2.1, q.2.2.2.2.2.2.1, q.2.2.2.2.2.2.2.1, q.2.2.2.2.2.2.2.2.1⟩, fun c c0 c1 f => ?_⟩, t1, TYz_of h, ⟨q.2.1.2.1, q.2.1.2.2.1, q.2.1.2.2.2.1⟩, fun t t0 t2 => ?_, q.1.2, h.2.2.2.1.1.2.2.2.2.1⟩
  · rcases f with f | f
    · exact (kF_in h (Or.inl rfl) f).2.2.2
    · exact (kF_in h (Or.inr rfl) f).2.2.2
  · by_cases g : c < fi r 2
    · have e := q.2.2.1.2.2.1 c c0 g
      rw [e] at f
      refine ⟨g, e, ?_⟩
      rcases h.2.2.2.2.2.2.1 c c0 g with z | z
      · rw [z] at f
        exact absurd f (by decide)
      · exact z.2
    · have e := q.2.2.1.2.2.2 c (Int32.not_lt.mp g) c1
      rw [e] at f
      exact absurd f (by decide)
  · rw [q.1.1]
    by_cases g : 0 ≤ ar r 1 t.toNatClampNeg
    · exact ((h.2.2.2.2.2.2.2 t t0 t2).2.2 g).1
    · have g' := Int32.not_le.mp g
      have k := t1.1.1
      rw [it] at g' ⊢
      rw [il] at k
      simp at g' k
      omega
theorem two_of (h : INV l r) : ar r 0 ((0 : Int32)).toNatClampNeg = 2 ∧ ar r 36 ((0 : Int32)).toNatClampNeg = 2 := by
  have e : ((0 : Int32)).toNatClampNeg = 0 := by decide
  have a := h.2.2.2.1.1.2.2.1
  rw [e, h.2.1.1.2]
  exact ⟨a, a⟩
end ZTABI
