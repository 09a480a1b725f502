/-! The reference's typing: single steps. -/
section STEPS
variable {a : L_} {r : S_} {rh ta : Int32 → Int32} {N : Int32}
/-- the terms are the same -/
def SG4 (r r' : S_) : Prop := fi r' 28 = fi r 28 ∧ ar r' 64 = ar r 64 ∧ ar r' 66 = ar r 66 ∧ ar r' 67 = ar r 67
theorem SG4_Fr {F A : List Nat} {r' : S_} (h : Fr F A r r') (h1 : 28 ∉ F) (h2 : 64 ∉ A ∧ 66 ∉ A ∧ 67 ∉ A) : SG4 r r' := ⟨h.1 28 h1, h.2.1 64 h2.1, h.2.1 66 h2.2.1, h.2.1 67 h2.2.2⟩
theorem TS_pre {r0 r' : S_} {G : Int32 → Prop} {R : List Int32} (h : SG4 r0 r) (s : TS r r' G R) : TS r0 r' G R := by
  unfold TS vt Cld at s ⊢
  rw [h.1, h.2.1, h.2.2.1, h.2.2.2] at s
  exact s
theorem TS_post {r' r'' : S_} {G : Int32 → Prop} {R : List Int32} (s : TS r r' G R) (h : SG4 r' r'') : TS r r'' G R := by
  unfold TS vt Cld at s ⊢
  rw [h.1, h.2.1, h.2.2.1, h.2.2.2]
  exact s
theorem QI_Fr {rI r' : S_} {F A : List Nat} (q : QI a rI r rh ta N) (h : Fr F A r r') (hF : ∀ k, k ∈ F → k ∈ FFl) (hA : ∀ k, k ∈ A → k ∈ AAl) (h1 : 21 ∉ F ∧ 27 ∉ F ∧ 28 ∉ F ∧ 29 ∉ F ∧ 31 ∉ F) (h2 : 36 ∉ A ∧ 62 ∉ A ∧ 64 ∉ A ∧ 65 ∉ A ∧ 66 ∉ A ∧ 67 ∉ A ∧ 68 ∉ A ∧ 70 ∉ A ∧ 71 ∉ A ∧ 75 ∉ A) : QI a rI r' rh ta N := by
  obtain ⟨qF, w, q28, q31, q27, q29, qnd⟩ := q
  have f27 := h.1 27 h1.2.1
  have f28 := h.1 28 h1.2.2.1
  have f29 := h.1 29 h1.2.2.2.1
  have f31 := h.1 31 h1.2.2.2.2
  have a62 := h.2.1 62 h2.2.1
  have a68 := h.2.1 68 h2.2.2.2.2.2.2.1
  have a70 := h.2.1 70 h2.2.2.2.2.2.2.2.1
  have a71 := h.2.1 71 h2.2.2.2.2.2.2.2.2.1
  have a75 := h.2.1 75 h2.2.2.2.2.2.2.2.2.2
  refine ⟨Fr_trans qF (Fr_mono h hF hA), MI_Fr w h ⟨h1.1, h1.2.2.1⟩ ⟨h2.1, h2.2.2.1, h2.2.2.2.1, h2.2.2.2.2.1, h2.2.2.2.2.2.1⟩, by rw [f28]; exact q28, ?_, ?_, ?_, ?_⟩
  · unfold vt; rw [f31, a75, f28]; exact q31
  · unfold vt; rw [f27, a62, f28]; exact q27
  · unfold MKr vt; rw [f29, a68, f28]; exact q29
  · unfold ND vt; rw [a70, a71, f28]; exact qnd
theorem nt_step {rI r' : S_} {h x y : Int32} (q : QI a rI r rh ta N) (cg : CGr r rh) (hN : NT r r' h x y) (tl : (fi r 28).toInt < 20000) (h1 : -1 ≤ h ∧ h < fi r 21) (hx : x = -1 ∨ vt r x) (hy : y = -1 ∨ vt r y) (hn : h < 0 → x = -1 ∧ y = -1) (hp : 0 ≤ h → (0 ≤ x ↔ 0 < ar r 36 h.toNatClampNeg) ∧ (0 ≤ y ↔ 1 < ar r 36 h.toNatClampNeg)) : (∃ rh ta N, QI a rI r' rh ta N ∧ CGr r' rh) ∧ TS r r' (fun u => (u = x ∨ u = y) ∧ 0 ≤ u) [fi r 28] ∧ vt r' (fi r 28) ∧ (fi r' 28).toInt = (fi r 28).toInt + 1 ∧ Fr [28] [64, 65, 66, 67, 68, 70, 71] r r' := by
  obtain ⟨qF, w, q28, q31, q27, q29, qnd⟩ := q
  obtain ⟨n28, nF, nO, n64, n65, n66, n67, n68, n70, n71⟩ := hN
  have c0 := w.2.2.1.1
  have c0' := c0
  rw [il] at c0'
  simp at c0'
  have i28 : (fi r' 28).toInt = (fi r 28).toInt + 1 := by rw [n28]; exact i_add (by simp; omega) (by simp; omega)
  have le : fi r 28 ≤ fi r' 28 := by rw [il, i28]; omega
  have vT : vt r' (fi r 28) := ⟨c0, by rw [it, i28]; omega⟩
  have new1 : ∀ u : Int32, fi r 28 ≤ u → u < fi r' 28 → u = fi r 28 := fun u u1 u2 => by
    rw [il] at u1
    rw [it, i28] at u2
    rw [ie]
    omega
  have old : ∀ u, vt r u → ∀ k, ar r' k u.toNatClampNeg = ar r k u.toNatClampNeg := fun u hu k => nO u hu.1 hu.2 k
  have pv : ∀ u : Int32, (u = -1 ∨ vt r u) → -1 ≤ u ∧ u < fi r' 28 := fun u hu => by
    rcases hu with e | e
    · rw [e]
      refine ⟨by decide, ?_⟩
      rw [it, i28]
      simp
      omega
    · have k := e.1
      have k2 := e.2
      rw [il] at k
      rw [it] at k2
      refine ⟨?_, ?_⟩
      · rw [il]; simp at k ⊢; omega
      · rw [it, i28]; omega
  have MM := MI_more (r' := r') w le (by rw [i28]; omega) (nF.1 21 (by decide)) (nF.2.1 36 (by decide)) (fun u hu => ⟨old u hu 64, old u hu 65, old u hu 66, old u hu 67⟩) (fun u u1 u2 => by
    rw [new1 u u1 u2, n64, n65, n66, n67]
    exact ⟨rfl, h1, pv x hx, pv y hy, hn, hp⟩)
  have vup : ∀ u, vt r u → vt r' u := fun u hu => ⟨hu.1, by have k := hu.2; rw [it] at k ⊢; omega⟩
  have spl : ∀ u, vt r' u → vt r u ∨ u = fi r 28 := fun u hu => by
    by_cases g : u < fi r 28
    · exact Or.inl ⟨hu.1, g⟩
    · exact Or.inr (new1 u (Int32.not_lt.mp g) hu.2)
  refine ⟨⟨_, _, _, ⟨Fr_trans qF (Fr_mono nF (by decide) (by decide)), MM.1, by rw [i28]; omega, ⟨by rw [nF.1 31 (by decide)]; exact q31.1, fun i hi => ?_⟩, ⟨by rw [nF.1 27 (by decide)]; exact q27.1, fun i hi => ?_⟩, ⟨fun u hu => ?_, by rw [nF.1 29 (by decide)]; exact q29.2⟩, fun u hu => ?_⟩, MM.2 cg⟩, ⟨⟨c0, le⟩, fun u hu => ?_, fun u hu => ⟨Or.inl (old u hu 64), old u hu 66, old u hu 67⟩, fun D hD cD gD => ⟨fun u u1 u2 u3 => ?_, fun u hu _ => old u hu 64⟩⟩, vT, i28, nF⟩
  · rw [nF.1 31 (by decide)] at hi
    rw [nF.2.1 75 (by decide)]
    exact vup _ (q31.2 i hi)
  · rw [nF.1 27 (by decide)] at hi
    rw [nF.2.1 62 (by decide)]
    exact vup _ (q27.2 i hi)
  · rw [nF.1 29 (by decide)]
    rcases spl u hu with z | z
    · rw [old u z 68]
      exact q29.1 u z
    · rw [z, n68]
      simpa using q29.2.1
  · rcases spl u hu with z | z
    · rw [old u z 70, old u z 71]
      exact qnd u z
    · rw [z, n71]
      intro i _ hg
      rw [gb_0] at hg
      exact absurd hg (by decide)
  · rw [List.mem_singleton.mp hu]
    exact ⟨Int32.le_refl _, vT.2⟩
  · rcases u3 with z | z
    · have vu := hD u z
      rw [old u vu 64, old u vu 66, old u vu 67]
      have k := cD u vu.1 vu.2 z
      exact ⟨Or.inl k.1, fun g => Or.inl (k.2.1 g), fun g => Or.inl (k.2.2 g)⟩
    · rw [List.mem_singleton.mp z, n64, n66, n67]
      exact ⟨Or.inr (List.mem_singleton.mpr rfl), fun g => Or.inl (gD x ⟨Or.inl rfl, g⟩), fun g => Or.inl (gD y ⟨Or.inr rfl, g⟩)⟩
theorem up_step {rI r' : S_} {p0 p1 : Int32} (q : QI a rI r rh ta N) (u : UP a r r' p0 p1) : (∃ rh ta N, QI a rI r' rh ta N ∧ (fi r' 32 = 0 → CGr r' rh)) ∧ TS r r' (fun x => x = p0 ∨ x = p1) [] ∧ fi r' 28 = fi r 28 ∧ Fr [32] [64, 72] r r' := by
  obtain ⟨qF, w, q28, q31, q27, q29, qnd⟩ := q
  obtain ⟨rh', ta', N', u1, u2, u3, u4, u5⟩ := u
  have f28 : fi r' 28 = fi r 28 := u2.1 28 (by decide)
  have c0 := w.2.2.1.1
  refine ⟨⟨rh', ta', N', ⟨Fr_trans qF (Fr_mono u2 (by decide) (by decide)), u1, by rw [f28]; exact q28, ?_, ?_, ?_, ?_⟩, u5⟩, ⟨⟨c0, by rw [f28]; exact Int32.le_refl _⟩, fun x hx => absurd hx List.not_mem_nil, fun x hx => ⟨u4 x hx.1 (by rw [f28]; exact hx.2), by rw [u2.2.1 66 (by decide)], by rw [u2.2.1 67 (by decide)]⟩, fun D hD cD gD => ?_⟩, f28, u2⟩
  · unfold vt; rw [u2.1 31 (by decide), u2.2.1 75 (by decide), f28]; exact q31
  · unfold vt; rw [u2.1 27 (by decide), u2.2.1 62 (by decide), f28]; exact q27
  · unfold MKr vt; rw [u2.1 29 (by decide), u2.2.1 68 (by decide), f28]; exact q29
  · unfold ND vt; rw [u2.2.1 70 (by decide), u2.2.1 71 (by decide), f28]; exact qnd
  · have k := u3 D cD (gD p0 (Or.inl rfl)) (gD p1 (Or.inr rfl))
    refine ⟨Cld_congr (fun x => ⟨Or.inl, fun z => z.elim id (fun y => absurd y List.not_mem_nil)⟩) k.1, fun x hx hn => k.2 x hx.1 (by rw [f28]; exact hx.2) hn⟩
/-- before a node is typed -/
def PR (a : L_) (rI r : S_) (L : List (Int32 × Nat)) (c : Int32) (E m : Nat) (l0 : List Int32) : Prop := (∃ rh ta N, QI a rI r rh ta N ∧ CGr r rh) ∧ (fi r 32 = 0) ∧ (CH r c L) ∧ (CX r (GC r L) E L) ∧ (Cld r (fun x => x ∈ l0)) ∧ (∀ x, x ∈ l0 → vt r x) ∧ (∀ x, GC r L x → x ∈ l0) ∧ (9 * l0.length + (E + 2) * qt m ≤ 13608) ∧ (16 ≤ E) ∧ (1 ≤ m) ∧ (m ≤ 24) ∧ ((fi r 28).toInt + 756 * ((m : Int) + 1) ≤ 20000) ∧ ((fi r 31).toInt + 756 * ((m : Int) + 1) ≤ 20000) ∧ ((fi r 27).toInt + 756 * ((m : Int) - 1) ≤ 20000) ∧ ((fi r 29).toInt + 5 * (m : Int) ≤ 1000)
theorem PR.qi {a : L_} {rI r : S_} {L : List (Int32 × Nat)} {c : Int32} {E m : Nat} {l0 : List Int32} (h : PR a rI r L c E m l0) : ∃ rh ta N, QI a rI r rh ta N ∧ CGr r rh := h.1
theorem PR.f32 {a : L_} {rI r : S_} {L : List (Int32 × Nat)} {c : Int32} {E m : Nat} {l0 : List Int32} (h : PR a rI r L c E m l0) : fi r 32 = 0 := h.2.1
theorem PR.ch {a : L_} {rI r : S_} {L : List (Int32 × Nat)} {c : Int32} {E m : Nat} {l0 : List Int32} (h : PR a rI r L c E m l0) : CH r c L := h.2.2.1
theorem PR.cx {a : L_} {rI r : S_} {L : List (Int32 × Nat)} {c : Int32} {E m : Nat} {l0 : List Int32} (h : PR a rI r L c E m l0) : CX r (GC r L) E L := h.2.2.2.1
theorem PR.cl {a : L_} {rI r : S_} {L : List (Int32 × Nat)} {c : Int32} {E m : Nat} {l0 : List Int32} (h : PR a rI r L c E m l0) : Cld r (fun x => x ∈ l0) := h.2.2.2.2.1
theorem PR.lv {a : L_} {rI r : S_} {L : List (Int32 × Nat)} {c : Int32} {E m : Nat} {l0 : List Int32} (h : PR a rI r L c E m l0) : ∀ x, x ∈ l0 → vt r x := h.2.2.2.2.2.1
theorem PR.lg {a : L_} {rI r : S_} {L : List (Int32 × Nat)} {c : Int32} {E m : Nat} {l0 : List Int32} (h : PR a rI r L c E m l0) : ∀ x, GC r L x → x ∈ l0 := h.2.2.2.2.2.2.1
theorem PR.num {a : L_} {rI r : S_} {L : List (Int32 × Nat)} {c : Int32} {E m : Nat} {l0 : List Int32} (h : PR a rI r L c E m l0) : 9 * l0.length + (E + 2) * qt m ≤ 13608 := h.2.2.2.2.2.2.2.1
theorem PR.e16 {a : L_} {rI r : S_} {L : List (Int32 × Nat)} {c : Int32} {E m : Nat} {l0 : List Int32} (h : PR a rI r L c E m l0) : 16 ≤ E := h.2.2.2.2.2.2.2.2.1
theorem PR.m1 {a : L_} {rI r : S_} {L : List (Int32 × Nat)} {c : Int32} {E m : Nat} {l0 : List Int32} (h : PR a rI r L c E m l0) : 1 ≤ m := h.2.2.2.2.2.2.2.2.2.1
theorem PR.m24 {a : L_} {rI r : S_} {L : List (Int32 × Nat)} {c : Int32} {E m : Nat} {l0 : List Int32} (h : PR a rI r L c E m l0) : m ≤ 24 := h.2.2.2.2.2.2.2.2.2.2.1
theorem PR.b28 {a : L_} {rI r : S_} {L : List (Int32 × Nat)} {c : Int32} {E m : Nat} {l0 : List Int32} (h : PR a rI r L c E m l0) : (fi r 28).toInt + 756 * ((m : Int) + 1) ≤ 20000 := h.2.2.2.2.2.2.2.2.2.2.2.1
theorem PR.b31 {a : L_} {rI r : S_} {L : List (Int32 × Nat)} {c : Int32} {E m : Nat} {l0 : List Int32} (h : PR a rI r L c E m l0) : (fi r 31).toInt + 756 * ((m : Int) + 1) ≤ 20000 := h.2.2.2.2.2.2.2.2.2.2.2.2.1
theorem PR.b27 {a : L_} {rI r : S_} {L : List (Int32 × Nat)} {c : Int32} {E m : Nat} {l0 : List Int32} (h : PR a rI r L c E m l0) : (fi r 27).toInt + 756 * ((m : Int) - 1) ≤ 20000 := h.2.2.2.2.2.2.2.2.2.2.2.2.2.1
theorem PR.b29 {a : L_} {rI r : S_} {L : List (Int32 × Nat)} {c : Int32} {E m : Nat} {l0 : List Int32} (h : PR a rI r L c E m l0) : (fi r 29).toInt + 5 * (m : Int) ≤ 1000 := h.2.2.2.2.2.2.2.2.2.2.2.2.2.2
/-- a node is typed: t its type -/
def PO (a : L_) (rI r r' : S_) (S : List Int32) (G : Int32 → Prop) (E m : Nat) (t : Int32) : Prop := (∃ rh ta N, QI a rI r' rh ta N ∧ CGr r' rh) ∧ (fi r' 32 = 0) ∧ (NFr r r' S) ∧ (∃ R : List Int32, 9 * (R.length + 2) ≤ (E + 2) * qt m ∧ TS r r' G R ∧ ∀ D : Int32 → Prop, (∀ x, D x → vt r x) → Cld r D → (∀ x, G x → D x) → D t ∨ t ∈ R) ∧ (vt r' t) ∧ ((fi r' 28).toInt + 2 ≤ (fi r 28).toInt + 756 * ((m : Int) + 1)) ∧ (fi r 31 ≤ fi r' 31 ∧ (fi r' 31).toInt ≤ (fi r 31).toInt + 756 * ((m : Int) + 1)) ∧ (fi r 27 ≤ fi r' 27 ∧ (fi r' 27).toInt ≤ (fi r 27).toInt + 756 * ((m : Int) - 1)) ∧ ((fi r' 29).toInt ≤ (fi r 29).toInt + 5 * (m : Int))
theorem PO.qi {a : L_} {rI r r' : S_} {S : List Int32} {G : Int32 → Prop} {E m : Nat} {t : Int32} (h : PO a rI r r' S G E m t) : ∃ rh ta N, QI a rI r' rh ta N ∧ CGr r' rh := h.1
theorem PO.f32 {a : L_} {rI r r' : S_} {S : List Int32} {G : Int32 → Prop} {E m : Nat} {t : Int32} (h : PO a rI r r' S G E m t) : fi r' 32 = 0 := h.2.1
theorem PO.nf {a : L_} {rI r r' : S_} {S : List Int32} {G : Int32 → Prop} {E m : Nat} {t : Int32} (h : PO a rI r r' S G E m t) : NFr r r' S := h.2.2.1
theorem PO.ts {a : L_} {rI r r' : S_} {S : List Int32} {G : Int32 → Prop} {E m : Nat} {t : Int32} (h : PO a rI r r' S G E m t) : ∃ R : List Int32, 9 * (R.length + 2) ≤ (E + 2) * qt m ∧ TS r r' G R ∧ ∀ D : Int32 → Prop, (∀ x, D x → vt r x) → Cld r D → (∀ x, G x → D x) → D t ∨ t ∈ R := h.2.2.2.1
theorem PO.tv {a : L_} {rI r r' : S_} {S : List Int32} {G : Int32 → Prop} {E m : Nat} {t : Int32} (h : PO a rI r r' S G E m t) : vt r' t := h.2.2.2.2.1
theorem PO.b28 {a : L_} {rI r r' : S_} {S : List Int32} {G : Int32 → Prop} {E m : Nat} {t : Int32} (h : PO a rI r r' S G E m t) : (fi r' 28).toInt + 2 ≤ (fi r 28).toInt + 756 * ((m : Int) + 1) := h.2.2.2.2.2.1
theorem PO.b31 {a : L_} {rI r r' : S_} {S : List Int32} {G : Int32 → Prop} {E m : Nat} {t : Int32} (h : PO a rI r r' S G E m t) : fi r 31 ≤ fi r' 31 ∧ (fi r' 31).toInt ≤ (fi r 31).toInt + 756 * ((m : Int) + 1) := h.2.2.2.2.2.2.1
theorem PO.b27 {a : L_} {rI r r' : S_} {S : List Int32} {G : Int32 → Prop} {E m : Nat} {t : Int32} (h : PO a rI r r' S G E m t) : fi r 27 ≤ fi r' 27 ∧ (fi r' 27).toInt ≤ (fi r 27).toInt + 756 * ((m : Int) - 1) := h.2.2.2.2.2.2.2.1
theorem PO.b29 {a : L_} {rI r r' : S_} {S : List Int32} {G : Int32 → Prop} {E m : Nat} {t : Int32} (h : PO a rI r r' S G E m t) : (fi r' 29).toInt ≤ (fi r 29).toInt + 5 * (m : Int) := h.2.2.2.2.2.2.2.2
def Bad (a : L_) (rI r : S_) : Prop := (∃ rh ta N, MI a r rh ta N) ∧ Fr FFl AAl rI r ∧ ¬ fi r 32 = 0
theorem PR_E {rI : S_} {L : List (Int32 × Nat)} {c : Int32} {E m : Nat} {l0 : List Int32} (h : PR a rI r L c E m l0) : E ≤ 1510 ∧ l0.length ≤ 1510 := by
  have k := h.num
  have q := qt_rng h.m1 h.m24
  have e := h.e16
  have k2 : (E + 2) * 9 ≤ (E + 2) * qt m := Nat.mul_le_mul_left _ q.1
  omega
end STEPS
