/-! The reference: unification, by solutions. -/
section ZMUNI
variable {a : L_} {r r' : S_} {rh ta : Int32 → Int32} {N : Int32}
theorem vpl {x : Int32} {n : Nat} (h : vp_in x n) : 0 ≤ x ∧ x.toInt < n := by
  have h' : ¬ (x < 0 ∨ n ≤ x.toNatClampNeg) := h
  have x0 : 0 ≤ x := Int32.not_lt.mp (fun q => h' (Or.inl q))
  have e := i_nat x0
  refine ⟨x0, ?_⟩
  have : ¬ n ≤ x.toNatClampNeg := fun q => h' (Or.inr q)
  omega
theorem VM_mrg {x y f : Int32} (x1 : 0 ≤ x) (x2 : x < fi r 28) (x3 : ar r 64 x.toNatClampNeg = x) {ρ : Int32 → Ut} : VM (sA (sF r 32 f) 64 (upd (ar r 64) x.toNatClampNeg y)) ρ ↔ VM r ρ ∧ ρ x = ρ y := by
  have e64 : ∀ z : Int32, 0 ≤ z → ar (sA (sF r 32 f) 64 (upd (ar r 64) x.toNatClampNeg y)) 64 z.toNatClampNeg = if z = x then y else ar r 64 z.toNatClampNeg := fun z z1 => by
    rw [ar_sA, if_pos rfl, updI _ _ x1 z1]
  constructor
  · rintro ⟨v0, v⟩
    have vv : ∀ z : Int32, 0 ≤ z → z < fi r 28 → ρ z = ρ (if z = x then y else ar r 64 z.toNatClampNeg) ∧ (0 ≤ ar r 65 z.toNatClampNeg → ρ z = Jn (ar r 65 z.toNatClampNeg) (ρ (ar r 66 z.toNatClampNeg)) (ρ (ar r 67 z.toNatClampNeg))) := fun z z0 z1 => by
      have := v z z0 z1
      rw [e64 z z0] at this
      exact this
    have exy : ρ x = ρ y := by have := (vv x x1 x2).1; rw [if_pos rfl] at this; exact this
    refine ⟨⟨v0, fun z z0 z1 => ⟨?_, (vv z z0 z1).2⟩⟩, exy⟩
    have := (vv z z0 z1).1
    by_cases e : z = x
    · rw [e, x3]
    · rw [if_neg e] at this
      exact this
  · rintro ⟨⟨v0, v⟩, exy⟩
    refine ⟨v0, fun z z0 z1 => ?_⟩
    rw [e64 z z0]
    refine ⟨?_, (v z z0 z1).2⟩
    by_cases e : z = x
    · rw [if_pos e, e]; exact exy
    · rw [if_neg e]; exact (v z z0 z1).1
def USe (r0 r : S_) (p0 p1 v : Int32) : Prop := ∀ ρ : Int32 → Ut, (fi r 32 = 0 → ((VM r ρ ∧ ∀ p q, Pnd r v p q → ρ p = ρ q) ↔ (VM r0 ρ ∧ ρ p0 = ρ p1))) ∧ (¬ fi r 32 = 0 → ¬ (VM r0 ρ ∧ ρ p0 = ρ p1))
def USE (r r' : S_) (p0 p1 : Int32) : Prop := ∀ ρ : Int32 → Ut, (fi r' 32 = 0 → (VM r' ρ ↔ VM r ρ ∧ ρ p0 = ρ p1)) ∧ (¬ fi r' 32 = 0 → ¬ (VM r ρ ∧ ρ p0 = ρ p1))
def US (a : L_) (r0 r : S_) (rh ta : Int32 → Int32) (N p0 p1 v : Int32) : Prop := MI a r rh ta N ∧ (0 ≤ v.toInt ∧ v.toInt % 2 = 0 ∧ v.toInt ≤ 200000) ∧ (∀ k : Int32, 0 ≤ k → k < v → 0 ≤ ar r 72 k.toNatClampNeg ∧ ar r 72 k.toNatClampNeg < fi r 28) ∧ USe r0 r p0 p1 v
theorem Pnd_pop {v : Int32} (hv : 2 ≤ v.toInt) (he : v.toInt % 2 = 0) {p q : Int32} : Pnd r v p q ↔ Pnd r (v - 2) p q ∨ (p = ar r 72 (v - 2).toNatClampNeg ∧ q = ar r 72 (v - 2 + 1).toNatClampNeg) := by
  have := ir v
  have d2 : (v - 2).toInt = v.toInt - 2 := i_sub (by simp; omega) (by simp; omega)
  have k0 : 0 ≤ v - 2 := by rw [il, d2]; simp; omega
  constructor
  · rintro ⟨k, g1, g2, g3, g4, g5⟩
    by_cases e : k.toInt = v.toInt - 2
    · have e' : k = v - 2 := by rw [ie, d2]; exact e
      right
      rw [← e']
      exact ⟨g4.symm, g5.symm⟩
    · exact Or.inl ⟨k, g1, by omega, g3, g4, g5⟩
  · rintro (⟨k, g1, g2, g3, g4, g5⟩ | ⟨e1, e2⟩)
    · exact ⟨k, g1, by omega, g3, g4, g5⟩
    · exact ⟨v - 2, k0, by omega, by omega, e1.symm, e2.symm⟩
theorem US_push {r0 : S_} {p0 p1 v s t : Int32} (w : US a r0 r rh ta N p0 p1 v) (s1 : 0 ≤ s) (s2 : s < fi r 28) (t1 : 0 ≤ t) (t2 : t < fi r 28) (vp : vp_in (v + 1) (ln a 72)) (vp0 : vp_in v (ln a 72)) (hst : ∀ ρ, VM r ρ → ρ s = ρ t) : US a r0 (sA (sA r 72 (upd (ar r 72) v.toNatClampNeg s)) 72 (upd (upd (ar r 72) v.toNatClampNeg s) (v + 1).toNatClampNeg t)) rh ta N p0 p1 (v + 2) := by
  obtain ⟨w1, ⟨w31, w32, w33⟩, w4, w7⟩ := w
  have l72 : ln a 72 = 200000 := ml w1.1 (by decide) (by decide) rfl
  have v0 : 0 ≤ v := by rw [il]; simpa using w31
  have v1 : (v + 1).toInt = v.toInt + 1 := i_add (by simp; omega) (by simp; omega)
  have v2 : (v + 2).toInt = v.toInt + 2 := i_add (by simp; omega) (by simp; omega)
  have v10 : 0 ≤ v + 1 := by rw [il, v1]; simp; omega
  have vl : v.toInt + 1 < 200000 := by
    have := (vpl vp).2
    rw [l72, v1] at this
    omega
  have rd : ∀ k : Int32, 0 ≤ k → upd (upd (ar r 72) v.toNatClampNeg s) (v + 1).toNatClampNeg t k.toNatClampNeg = if k = v + 1 then t else if k = v then s else ar r 72 k.toNatClampNeg := fun k k1 => by
    rw [updI _ _ v10 k1, updI _ _ v0 k1]
  have lt2 : ∀ k : Int32, k < v + 2 → ¬ k = v + 1 → ¬ k = v → k < v := fun k k1 k2 k3 => by
    rw [it, v2] at k1
    rw [ie, v1] at k2
    rw [ie] at k3
    rw [it]
    omega
  have pn : ∀ p q, Pnd (sA (sA r 72 (upd (ar r 72) v.toNatClampNeg s)) 72 (upd (upd (ar r 72) v.toNatClampNeg s) (v + 1).toNatClampNeg t)) (v + 2) p q ↔ Pnd r v p q ∨ (p = s ∧ q = t) := by
    intro p q
    constructor
    · rintro ⟨k, k1, k2, k3, k4, k5⟩
      have e1 : (k + 1).toInt = k.toInt + 1 := by
        rw [il] at k1
        exact i_add (by simp at k1 ⊢; omega) (by simp; omega)
      have k10 : 0 ≤ k + 1 := by rw [il, e1]; rw [il] at k1; simp at k1 ⊢; omega
      rw [ar_sA, if_pos rfl, rd _ k1] at k4
      rw [ar_sA, if_pos rfl, rd _ k10] at k5
      by_cases e : k = v
      · right
        rw [if_neg (by rw [ie, e, v1]; omega), if_pos e] at k4
        rw [if_pos (by rw [e])] at k5
        exact ⟨k4.symm, k5.symm⟩
      · left
        have e' : ¬ k.toInt = v.toInt := fun z => e (by rw [ie]; exact z)
        refine ⟨k, k1, by omega, k3, ?_, ?_⟩
        · rw [if_neg (by rw [ie, v1]; omega), if_neg e] at k4
          exact k4
        · rw [if_neg (by rw [ie, e1, v1]; omega), if_neg (by rw [ie, e1]; omega)] at k5
          exact k5
    · rintro (⟨k, k1, k2, k3, k4, k5⟩ | ⟨e1, e2⟩)
      · have e1 : (k + 1).toInt = k.toInt + 1 := by
          rw [il] at k1
          exact i_add (by simp at k1 ⊢; omega) (by simp; omega)
        have k10 : 0 ≤ k + 1 := by rw [il, e1]; rw [il] at k1; simp at k1 ⊢; omega
        refine ⟨k, k1, by omega, k3, ?_, ?_⟩
        · rw [ar_sA, if_pos rfl, rd k k1, if_neg (by rw [ie, v1]; omega), if_neg (by rw [ie]; omega)]
          exact k4
        · rw [ar_sA, if_pos rfl, rd _ k10, if_neg (by rw [ie, e1, v1]; omega), if_neg (by rw [ie, e1]; omega)]
          exact k5
      · refine ⟨v, v0, by omega, w32, by rw [ar_sA, if_pos rfl, rd v v0, if_neg (by rw [ie, v1]; omega), if_pos rfl, e1], by rw [ar_sA, if_pos rfl, rd _ v10, if_pos rfl, e2]⟩
  refine ⟨w1, ⟨by omega, by omega, by omega⟩, fun k k1 k2 => ?_, fun ρ => ⟨fun f => ?_, (w7 ρ).2⟩⟩
  · rw [ar_sA, if_pos rfl, rd k k1]
    split
    · exact ⟨t1, t2⟩
    · split
      · exact ⟨s1, s2⟩
      · rename_i g1 g2
        exact w4 k k1 (lt2 k k2 g1 g2)
  · rw [← (w7 ρ).1 f]
    show (VM r ρ ∧ _) ↔ _
    constructor
    · rintro ⟨h1, h2⟩
      exact ⟨h1, fun p q h => h2 p q ((pn p q).mpr (Or.inl h))⟩
    · rintro ⟨h1, h2⟩
      refine ⟨h1, fun p q h => ?_⟩
      rcases (pn p q).mp h with h | ⟨e1, e2⟩
      · exact h2 p q h
      · rw [e1, e2]; exact hst ρ h1
theorem US_merge {r0 : S_} {p0 p1 v p q x y : Int32} {f : Int32} (w : US a r0 r rh ta N p0 p1 v) (f0 : fi r 32 = 0) (hv : 2 ≤ v.toInt) (ep : ar r 72 (v - 2).toNatClampNeg = p) (eq : ar r 72 (v - 2 + 1).toNatClampNeg = q) (hxy : (x = rh p ∧ y = rh q) ∨ (x = rh q ∧ y = rh p)) (hne : ¬ x = y) (hs : ∀ ρ, VM r ρ → ρ x = ρ y → f = 0) : US a r0 (sA (sF r 32 f) 64 (upd (ar r 64) x.toNatClampNeg y)) (fun z => if rh z = x then y else rh z) (fun z => if z = x then N else ta z) (N + 1) p0 p1 (v - 2) := by
  obtain ⟨w1, ⟨w31, w32, w33⟩, w4, w7⟩ := w
  have d2 : (v - 2).toInt = v.toInt - 2 := i_sub (by simp; omega) (by simp; omega)
  have d1 : (v - 2 + 1).toInt = v.toInt - 1 := by
    rw [i_add (by rw [d2]; simp; omega) (by rw [d2]; simp; omega), d2]
    simp
    omega
  have k0 : 0 ≤ v - 2 := by rw [il, d2]; simp; omega
  have k1 : 0 ≤ v - 2 + 1 := by rw [il, d1]; simp; omega
  have bp := w4 (v - 2) k0 (by rw [it, d2]; omega)
  have bq := w4 (v - 2 + 1) k1 (by rw [it, d1]; omega)
  rw [ep] at bp
  rw [eq] at bq
  have rp := w1.2.2.2.2.1.2 p bp.1 bp.2
  have rq := w1.2.2.2.2.1.2 q bq.1 bq.2
  have hx : (0 ≤ x ∧ x < fi r 28) ∧ ar r 64 x.toNatClampNeg = x := by
    rcases hxy with ⟨e1, e2⟩ | ⟨e1, e2⟩
    · rw [e1]; exact ⟨rp.1, rp.2.1⟩
    · rw [e1]; exact ⟨rq.1, rq.2.1⟩
  have hy : (0 ≤ y ∧ y < fi r 28) ∧ ar r 64 y.toNatClampNeg = y := by
    rcases hxy with ⟨e1, e2⟩ | ⟨e1, e2⟩
    · rw [e2]; exact ⟨rq.1, rq.2.1⟩
    · rw [e2]; exact ⟨rp.1, rp.2.1⟩
  have m := merge_MI w1 hx.1.1 hx.1.2 hx.2 hy.1.1 hy.1.2 hy.2 hne
  have pe : ∀ ρ, VM r ρ → (ρ p = ρ q ↔ ρ x = ρ y) := fun ρ h => by
    rw [VM_rh w1 h bp.1 bp.2, VM_rh w1 h bq.1 bq.2]
    rcases hxy with ⟨e1, e2⟩ | ⟨e1, e2⟩
    · rw [e1, e2]
    · rw [e1, e2]; exact ⟨fun z => z.symm, fun z => z.symm⟩
  have key : ∀ ρ, ((VM (sA (sF r 32 f) 64 (upd (ar r 64) x.toNatClampNeg y)) ρ ∧ ∀ p q, Pnd r (v - 2) p q → ρ p = ρ q) ↔ (VM r0 ρ ∧ ρ p0 = ρ p1)) := fun ρ => by
    rw [← (w7 ρ).1 f0, VM_mrg hx.1.1 hx.1.2 hx.2]
    constructor
    · rintro ⟨⟨h1, h2⟩, h3⟩
      refine ⟨h1, fun s t h => ?_⟩
      rcases (Pnd_pop hv w32).mp h with h | ⟨e1, e2⟩
      · exact h3 s t h
      · rw [e1, e2, ep, eq]; exact (pe ρ h1).mpr h2
    · rintro ⟨h1, h2⟩
      refine ⟨⟨h1, (pe ρ h1).mp (h2 p q ((Pnd_pop hv w32).mpr (Or.inr ⟨ep.symm, eq.symm⟩)))⟩, fun s t h => h2 s t ((Pnd_pop hv w32).mpr (Or.inl h))⟩
  refine ⟨m.1, ⟨by omega, by omega, by omega⟩, fun k q1 q2 => w4 k q1 ?_, fun ρ => ⟨fun _ => key ρ, fun hf h => hf ?_⟩⟩
  · rw [it, d2] at q2
    rw [it]
    omega
  · have h2 := ((key ρ).mpr h).1
    rw [VM_mrg hx.1.1 hx.1.2 hx.2] at h2
    exact hs ρ h2.1 h2.2
theorem US_L {r0 : S_} {p0 p1 : Int32} {KX : S_ → Prop} (hK : ∀ r, USE r0 r p0 p1 → KX r) : ∀ (n : Nat) (r : S_) (rh ta : Int32 → Int32) (N v : Int32), US a r0 r rh ta N p0 p1 v → wM_unify_L16 a KX n r v := by
  intro n
  induction n with
  | zero => intro r rh ta N v w; trivial
  | succ n ih =>
    intro r rh ta N v w
    have w' := w
    obtain ⟨w1, ⟨w31, w32, w33⟩, w4, w7⟩ := w
    have fin : (v ≤ 0 ∨ ¬ fi r 32 = 0) → KX r := by
      intro h
      refine hK r (fun ρ => ⟨fun f => ?_, (w7 ρ).2⟩)
      have v0 : v ≤ 0 := h.resolve_right (fun z => z f)
      rw [← (w7 ρ).1 f]
      refine ⟨fun h => ⟨h, fun p q ⟨k, k1, k2, _⟩ => ?_⟩, fun h => h.1⟩
      rw [il] at k1 v0
      simp at k1 v0
      omega
    rw [wM_unify_L16]
    refine ⟨fun g => fin (Or.inl g), fun g => ⟨fun g2 => fin (Or.inr g2), fun g2 _ => ?_⟩⟩
    have hv : 2 ≤ v.toInt := by
      have g3 : 0 < v := Int32.not_le.mp g
      rw [it] at g3
      simp at g3
      omega
    have d2 : (v - 2).toInt = v.toInt - 2 := i_sub (by simp; omega) (by simp; omega)
    have d1 : (v - 2 + 1).toInt = v.toInt - 1 := by
      rw [i_add (by rw [d2]; simp; omega) (by rw [d2]; simp; omega), d2]
      simp
      omega
    have k0 : 0 ≤ v - 2 := by rw [il, d2]; simp; omega
    have k1 : 0 ≤ v - 2 + 1 := by rw [il, d1]; simp; omega
    have bp := w4 (v - 2) k0 (by rw [it, d2]; omega)
    have bq := w4 (v - 2 + 1) k1 (by rw [it, d1]; omega)
    have rp := w1.2.2.2.2.1.2 _ bp.1 bp.2
    have rq := w1.2.2.2.2.1.2 _ bq.1 bq.2
    refine ws_mfind w1 bp.1 bp.2 (fun _ => ws_mfind w1 bq.1 bq.2 ?_)
    have vp_e : ∀ ρ, VM r ρ → ρ (ar r 72 (v - 2).toNatClampNeg) = ρ (rh (ar r 72 (v - 2).toNatClampNeg)) := fun ρ h => VM_rh w1 h bp.1 bp.2
    have vq_e : ∀ ρ, VM r ρ → ρ (ar r 72 (v - 2 + 1).toNatClampNeg) = ρ (rh (ar r 72 (v - 2 + 1).toNatClampNeg)) := fun ρ h => VM_rh w1 h bq.1 bq.2
    obtain ⟨x, ex⟩ : ∃ x, x = rh (ar r 72 (v - 2).toNatClampNeg) := ⟨_, rfl⟩
    obtain ⟨y, ey⟩ : ∃ y, y = rh (ar r 72 (v - 2 + 1).toNatClampNeg) := ⟨_, rfl⟩
    rw [← ex] at vp_e
    rw [← ey] at vq_e
    rw [← ex, ← ey]
    rw [← ex] at rp
    rw [← ey] at rq
    have same : x = y → wM_unify_L16 a KX n r (v - 2) := by
      intro e
      refine ih r rh ta N (v - 2) ⟨w1, ⟨by omega, by omega, by omega⟩, fun k q1 q2 => w4 k q1 ?_, fun ρ => ⟨fun f => ?_, (w7 ρ).2⟩⟩
      · rw [it, d2] at q2
        rw [it]
        omega
      · rw [← (w7 ρ).1 f]
        constructor
        · rintro ⟨h1, h2⟩
          refine ⟨h1, fun s t h => ?_⟩
          rcases (Pnd_pop hv w32).mp h with h | ⟨e1, e2⟩
          · exact h2 s t h
          · rw [e1, e2, vp_e ρ h1, vq_e ρ h1, e]
        · rintro ⟨h1, h2⟩
          exact ⟨h1, fun s t h => h2 s t ((Pnd_pop hv w32).mpr (Or.inl h))⟩
    have nx := w1.2.2.2.1 x rp.1.1 rp.1.2
    have ny := w1.2.2.2.1 y rq.1.1 rq.1.2
    have jx : ∀ ρ, VM r ρ → 0 ≤ ar r 65 x.toNatClampNeg → ρ x = Jn (ar r 65 x.toNatClampNeg) (ρ (ar r 66 x.toNatClampNeg)) (ρ (ar r 67 x.toNatClampNeg)) := fun ρ h => (h.2 x rp.1.1 rp.1.2).2
    have jy : ∀ ρ, VM r ρ → 0 ≤ ar r 65 y.toNatClampNeg → ρ y = Jn (ar r 65 y.toNatClampNeg) (ρ (ar r 66 y.toNatClampNeg)) (ρ (ar r 67 y.toNatClampNeg)) := fun ρ h => (h.2 y rq.1.1 rq.1.2).2
    have j115 : ¬ x = y → 0 ≤ ar r 65 x.toNatClampNeg → 0 ≤ ar r 65 y.toNatClampNeg → wM_unify_J115 a (wM_unify_L16 a KX n) KX r (v - 2) x y := by
      intro hne hx hy
      have inj : ∀ ρ, VM r ρ → ρ x = ρ y → ar r 65 x.toNatClampNeg = ar r 65 y.toNatClampNeg ∧ ρ (ar r 66 x.toNatClampNeg) = ρ (ar r 66 y.toNatClampNeg) ∧ ρ (ar r 67 x.toNatClampNeg) = ρ (ar r 67 y.toNatClampNeg) := fun ρ h e => by
        rw [jx ρ h hx, jy ρ h hy] at e
        exact Jn_inj e
      unfold wM_unify_J115
      refine ⟨fun z => absurd z hne, fun _ _ _ => ⟨fun hh => ?_, fun hh => ?_⟩⟩
      · unfold wM_unify_J145
        intro _ r17 e17 _ r20 e20
        subst e17
        have e20' : r20 = sA (sF r 32 0) 64 (upd (ar r 64) x.toNatClampNeg y) := e20
        have m1 := US_merge (f := 0) w' g2 hv rfl rfl (Or.inl ⟨ex, ey⟩) hne (fun _ _ _ => rfl)
        rw [← e20'] at m1
        have f32 : fi r20 32 = 0 := by rw [e20']; rfl
        have f28 : fi r20 28 = fi r 28 := by rw [e20']; rfl
        have f65 : ar r20 65 = ar r 65 := by rw [e20']; rfl
        have f66 : ar r20 66 = ar r 66 := by rw [e20']; rfl
        have f67 : ar r20 67 = ar r 67 := by rw [e20']; rfl
        have f36 : ar r20 36 = ar r 36 := by rw [e20']; rfl
        have vm20 : ∀ ρ, VM r20 ρ → ρ (ar r 66 x.toNatClampNeg) = ρ (ar r 66 y.toNatClampNeg) ∧ ρ (ar r 67 x.toNatClampNeg) = ρ (ar r 67 y.toNatClampNeg) := fun ρ h => by
          rw [e20', VM_mrg rp.1.1 rp.1.2 rp.2.1] at h
          exact (inj ρ h.1 h.2).2
        have sx := nx.2.2.2.2.2 hx
        have sy := ny.2.2.2.2.2 hy
        rw [← hh] at sy
        refine ⟨fun _ _ _ => ?_, fun z => absurd f32 z⟩
        rw [f65, f36]
        have j219 : ∀ (r2 : S_) (v2 : Int32), fi r2 28 = fi r 28 → ar r2 67 = ar r 67 → (∀ ρ, VM r2 ρ → ρ (ar r 67 x.toNatClampNeg) = ρ (ar r 67 y.toNatClampNeg)) → US a r0 r2 (fun z => if rh z = x then y else rh z) (fun z => if z = x then N else ta z) (N + 1) p0 p1 v2 → wM_unify_J219 a (wM_unify_L16 a KX n) KX r2 v2 x y (ar r 36 (ar r 65 x.toNatClampNeg).toNatClampNeg) := by
          intro r2 v2 h28 h67 hq u1
          unfold wM_unify_J219 wM_unify_J257
          refine ⟨fun g => ih r2 _ _ _ v2 u1, fun g _ q1 r28 e28 _ q2 r31 e31 => ?_⟩
          have g1 : 1 < ar r 36 (ar r 65 x.toNatClampNeg).toNatClampNeg := Int32.not_le.mp g
          have u2 := US_push u1 (sx.2.mpr g1) (by rw [h28]; exact nx.2.2.2.1.2) (sy.2.mpr g1) (by rw [h28]; exact ny.2.2.2.1.2) q2 q1 hq
          have e31' : r31 = sA (sA r2 72 (upd (ar r2 72) v2.toNatClampNeg (ar r 67 x.toNatClampNeg))) 72 (upd (upd (ar r2 72) v2.toNatClampNeg (ar r 67 x.toNatClampNeg)) (v2 + 1).toNatClampNeg (ar r 67 y.toNatClampNeg)) := by
            rw [e31, e28, h67]
            rw [show ar (sA r2 72 (upd (ar r2 72) v2.toNatClampNeg (ar r 67 x.toNatClampNeg))) 67 = ar r2 67 from rfl, h67]
            rfl
          rw [e31']
          exact ih _ _ _ _ (v2 + 2) u2
        unfold wM_unify_J180
        refine ⟨fun g => j219 r20 (v - 2) f28 f67 (fun ρ h => (vm20 ρ h).2) m1, fun g _ q1 r34 e34 _ q2 r37 e37 => ?_⟩
        have g1 : 0 < ar r 36 (ar r 65 x.toNatClampNeg).toNatClampNeg := Int32.not_le.mp g
        have u2 := US_push m1 (sx.1.mpr g1) (by rw [f28]; exact nx.2.2.1.2) (sy.1.mpr g1) (by rw [f28]; exact ny.2.2.1.2) q2 q1 (fun ρ h => (vm20 ρ h).1)
        have e37' : r37 = sA (sA r20 72 (upd (ar r20 72) (v - 2).toNatClampNeg (ar r 66 x.toNatClampNeg))) 72 (upd (upd (ar r20 72) (v - 2).toNatClampNeg (ar r 66 x.toNatClampNeg)) (v - 2 + 1).toNatClampNeg (ar r 66 y.toNatClampNeg)) := by
          rw [e37, e34, f66]
          rw [show ar (sA r20 72 (upd (ar r20 72) (v - 2).toNatClampNeg (ar r 66 x.toNatClampNeg))) 66 = ar r20 66 from rfl, f66]
          rfl
        rw [e37']
        exact j219 _ (v - 2 + 2) f28 f67 (fun ρ h => (vm20 ρ h).2) u2
      · unfold wM_unify_J145
        intro _ r17 e17 _ r20 e20
        subst e17
        have e20' : r20 = sA (sF r 32 1) 64 (upd (ar r 64) x.toNatClampNeg y) := e20
        have m1 := US_merge (f := 1) w' g2 hv rfl rfl (Or.inl ⟨ex, ey⟩) hne (fun ρ h e => absurd (inj ρ h e).1 hh)
        rw [← e20'] at m1
        have f32 : fi r20 32 = 1 := by rw [e20']; rfl
        refine ⟨fun z => absurd (f32.symm.trans z) (by decide), fun _ => ?_⟩
        unfold wM_unify_J180 wM_unify_J219 wM_unify_J257
        refine ⟨fun _ => ⟨fun _ => ih r20 _ _ _ (v - 2) m1, fun z => absurd (by decide) z⟩, fun z => absurd (by decide) z⟩
    have eqF : ∀ (x y : Int32), sA r 64 (upd (ar r 64) x.toNatClampNeg y) = sA (sF r 32 0) 64 (upd (ar r 64) x.toNatClampNeg y) := fun x y => by
      congr 1
      obtain ⟨r1, r2, r3⟩ := r
      unfold sF
      congr 1
      funext j
      by_cases ej : j = 32
      · rw [if_pos ej, ej]; exact g2
      · rw [if_neg ej]
    have j86 : (x = y ∨ 0 ≤ ar r 65 x.toNatClampNeg) → wM_unify_J86 a (wM_unify_L16 a KX n) KX r (v - 2) x y := by
      intro h
      unfold wM_unify_J86
      refine ⟨fun e => ?_, fun hne _ => ⟨fun hy => ?_, fun hy _ r41 e41 => ?_⟩⟩
      · unfold wM_unify_J115 wM_unify_J257
        exact ⟨fun _ => same e, fun z => absurd e z⟩
      · rcases h with h | h
        · exact absurd h hne
        · exact j115 hne h hy
      · have m1 := US_merge (f := 0) w' g2 hv rfl rfl (Or.inr ⟨ey, ex⟩) (fun z => hne z.symm) (fun _ _ _ => rfl)
        unfold wM_unify_J257
        rw [e41, eqF]
        exact ih _ _ _ _ (v - 2) m1
    refine ⟨fun e => j86 (Or.inl e), fun hne _ => ⟨fun hx => j86 (Or.inr hx), fun hx _ r45 e45 => ?_⟩⟩
    have m1 := US_merge (f := 0) w' g2 hv rfl rfl (Or.inl ⟨ex, ey⟩) hne (fun _ _ _ => rfl)
    unfold wM_unify_J257
    rw [e45, eqF]
    exact ih _ _ _ _ (v - 2) m1
theorem ws_munify (w : MI a r rh ta N) (f0 : fi r 32 = 0) (hc : CGr r rh) {p0 p1 : Int32} (x1 : 0 ≤ p0) (x2 : p0 < fi r 28) (y1 : 0 ≤ p1) (y2 : p1 < fi r 28) {K : S_ → Prop} (hK : ∀ r', UP a r r' p0 p1 → USE r r' p0 p1 → K r') : wM_unify a K r p0 p1 := by
  refine wq_M_unify (K := fun r' => UP a r r' p0 p1) (K2 := fun r' => USE r r' p0 p1) (fun r' h1 h2 => hK r' h1 h2) (runify_ok w (fun _ => hc) x1 x2 y1 y2 (fun r' h => h)) ?_
  unfold wM_unify
  intro _ r2 e2 _ r4 e4 n
  have e4' : r4 = sA (sA r 72 (upd (ar r 72) ((0 : Int32)).toNatClampNeg p0)) 72 (upd (upd (ar r 72) ((0 : Int32)).toNatClampNeg p0) ((1 : Int32)).toNatClampNeg p1) := by rw [e4, e2]; rfl
  have rd : ∀ k : Int32, 0 ≤ k → ar r4 72 k.toNatClampNeg = if k = 1 then p1 else if k = 0 then p0 else ar r 72 k.toNatClampNeg := fun k k1 => by
    rw [e4', ar_sA, if_pos rfl, updI _ _ (by decide) k1, updI _ _ (by decide) k1]
  have pn : ∀ p q, Pnd r4 2 p q ↔ p = p0 ∧ q = p1 := by
    intro p q
    constructor
    · rintro ⟨k, k1, k2, k3, k4, k5⟩
      have e : k = 0 := by
        rw [il] at k1
        rw [ie]
        simp at k1 k2 ⊢
        omega
      rw [e, rd 0 (by decide), if_neg (by decide), if_pos rfl] at k4
      rw [e, show (0 : Int32) + 1 = 1 from rfl, rd 1 (by decide), if_pos rfl] at k5
      exact ⟨k4.symm, k5.symm⟩
    · rintro ⟨e1, e2⟩
      exact ⟨0, by decide, by decide, by decide, by rw [rd 0 (by decide), if_neg (by decide), if_pos rfl, e1], by rw [show (0 : Int32) + 1 = 1 from rfl, rd 1 (by decide), if_pos rfl, e2]⟩
  have m4 : MI a r4 rh ta N := by rw [e4']; exact w
  have v4 : ∀ ρ, VM r4 ρ ↔ VM r ρ := fun ρ => by rw [e4']; exact Iff.rfl
  have f4 : fi r4 32 = 0 := by rw [e4']; exact f0
  have c4 : fi r4 28 = fi r 28 := by rw [e4']; rfl
  refine US_L (fun r h => h) n r4 rh ta N 2 ⟨m4, by decide, fun k k1 k2 => ?_, fun ρ => ⟨fun _ => ?_, fun z => absurd f4 z⟩⟩
  · rw [rd k k1, c4]
    split
    · exact ⟨y1, y2⟩
    · split
      · exact ⟨x1, x2⟩
      · rename_i g1 g2
        rw [il] at k1
        rw [it] at k2
        rw [ie] at g1 g2
        simp at k1 k2 g1 g2
        omega
  · rw [v4 ρ]
    exact ⟨fun h => ⟨h.1, h.2 p0 p1 ((pn p0 p1).mpr ⟨rfl, rfl⟩)⟩, fun h => ⟨h.1, fun p q z => by rw [((pn p q).mp z).1, ((pn p q).mp z).2]; exact h.2⟩⟩
end ZMUNI
