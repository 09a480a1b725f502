/-! Class and reference agree: an expression's outcome and its passings. -/
section ZAGR
theorem ag_res {T : Tbz} (f1 : ∀ c k c1, t1 T c k c1 → ta1 T k) (f2 : ∀ c k c1, t2 T c k c1 → ta2 T k) {d d2 : Nat} {e c c2 t c' t' c2' : Int32} {V V2 V' V2' : (Int32 → Ut) → Prop} {W W2 : Int32 → Nat → Prop} {k am k2 am2 : Prop} {p p2 : Int} (z1 : zTY T d e [] c V t c' V' W k am p) (z2 : zTY T d2 e [] c2 V2 t' c2' V2' W2 k2 am2 p2) (l1 : 0 ≤ c ∧ zLoc c V ∧ ∃ ρ, V ρ) (l2 : 0 ≤ c2 ∧ zLoc c2 V2 ∧ ∃ ρ, V2 ρ) : zRes T (fun _ _ => False) V' V2' t t' c' c2' W k am p W2 k2 am2 p2 := by
  obtain ⟨a1, b1, ρ1, v1⟩ := l1
  obtain ⟨a2, b2, ρ2, v2⟩ := l2
  exact zTYC f1 f2 (max d d2) e [] [] c c2 V V2 (fun _ _ => False) t c' V' W k am p t' c2' V2' W2 k2 am2 p2 (zTY_le (Nat.le_max_left d d2) z1) (zTY_le (Nat.le_max_right d d2) z2) b1 b2 ⟨a1, a2⟩ (fun _ _ h => h.elim) ⟨fun _ _ => ⟨ρ2, v2, fun _ _ h => h.elim⟩, fun _ _ => ⟨ρ1, v1, fun _ _ h => h.elim⟩⟩ trivial
theorem ag_k {I : Nat → Int32 → Prop} {F1 F2 : Nat → Int32 → Nat → Prop} {V V2 : (Int32 → Ut) → Prop} {L : Int32 → Int32 → Prop} {k k2 : Prop} {W W2 : Int32 → Nat → Prop} (h : zWR I F1 F2 V V2 L k W k2 W2) {ρ σ : Int32 → Ut} (h1 : V ρ) (h2 : V2 σ) (h3 : zAg L ρ σ) (e1 : ∀ x c, ¬ W x c) (e2 : ∀ x c, ¬ W2 x c) : k ↔ k2 := by
  have m : zMd I F1 F2 False (fun c u => ¬ zFa I F1 F2 (fun _ _ => False) False c u) := zFa_md (fun _ _ _ _ h => h)
  have e := h.2.2 ρ σ h1 h2 h3 False _ m
  have s1 : zSat (fun c u => ¬ zFa I F1 F2 (fun _ _ => False) False c u) ρ W := fun x c h => absurd h (e1 x c)
  have s2 : zSat (fun c u => ¬ zFa I F1 F2 (fun _ _ => False) False c u) σ W2 := fun x c h => absurd h (e2 x c)
  constructor
  · intro q
    apply Classical.byContradiction
    intro n
    exact (e.mpr ⟨fun z => n z, s2⟩).1 q
  · intro q
    apply Classical.byContradiction
    intro n
    exact (e.mp ⟨fun z => n z, s1⟩).1 q
/-- both have a type -/
def AGS (T : Tbz) (V' V2' : (Int32 → Ut) → Prop) (t t' c' c2' : Int32) (W : Int32 → Nat → Prop) (k am : Prop) (W2 : Int32 → Nat → Prop) (k2 am2 : Prop) : Prop := ∃ L', zLb L' c' c2' ∧ L' t t' ∧ zSM V' V2' L' ∧ zWR (tI T) (t1 T) (t2 T) V' V2' L' k W k2 W2 ∧ (am ↔ am2)
theorem ag_set {T : Tbz} (f1 : ∀ c k c1, t1 T c k c1 → ta1 T k) (f2 : ∀ c k c1, t2 T c k c1 → ta2 T k) {t c' t' c2' : Int32} {V' V2' : (Int32 → Ut) → Prop} {W W2 : Int32 → Nat → Prop} {k am k2 am2 : Prop} (h : AGS T V' V2' t t' c' c2' W k am W2 k2 am2) (ne : ∃ ρ, V' ρ) {K K2 W' W2' : Int32 → Nat → Prop} {p p2 : Int} {k' k2' am' am2' : Prop} (z1 : zLet T [] c' V' t W k am K p W' k' am') (z2 : zLet T [] c2' V2' t' W2 k2 am2 K2 p2 W2' k2' am2') (e1 : ∀ x c, ¬ W' x c) (e2 : ∀ x c, ¬ W2' x c) : (k' ↔ k2') ∧ (am' ↔ am2') ∧ p = p2 := by
  obtain ⟨L', lb, ht, sm, wr, ha⟩ := h
  obtain ⟨g, gc, gv, gw, gf, gs⟩ := z1
  obtain ⟨g2, gc2, gv2, gw2, gf2, gs2⟩ := z2
  subst gv gv2 gc gc2
  have no : ∀ x, ¬ zLams [] x := fun x ⟨_, h, _⟩ => absurd h List.not_mem_nil
  obtain ⟨a, b, c, d⟩ := zset_c f1 f2 gw gw2 sm gf gf2 (fun x y hl => lb x y hl) wr ha (G := zLams []) (G2 := zLams []) (fun x h => absurd h (no x)) (fun x h => absurd h (no x)) ht gs gs2
  obtain ⟨ρ, v⟩ := ne
  obtain ⟨σ, v2, ag⟩ := sm.1 ρ v
  exact ⟨ag_k a v v2 (zCl_ag v v2 ag) e1 e2, b, d⟩
theorem ag_setK {T : Tbz} {L' : Int32 → Int32 → Prop} (f1 : ∀ c k c1, t1 T c k c1 → ta1 T k) (f2 : ∀ c k c1, t2 T c k c1 → ta2 T k) {t c' t' c2' : Int32} {V' V2' : (Int32 → Ut) → Prop} {W W2 : Int32 → Nat → Prop} {k am k2 am2 : Prop} (lb : zLb L' c' c2') (ht : L' t t') (sm : zSM V' V2' L') (wr : zWR (tI T) (t1 T) (t2 T) V' V2' L' k W k2 W2) (ha : am ↔ am2) {K K2 W' W2' : Int32 → Nat → Prop} {p p2 : Int} {k' k2' am' am2' : Prop} (z1 : zLet T [] c' V' t W k am K p W' k' am') (z2 : zLet T [] c2' V2' t' W2 k2 am2 K2 p2 W2' k2' am2') : (∀ v c, K v c → ∃ u, zRel V' V2' L' v u ∧ K2 u c) ∧ ∀ u c, K2 u c → ∃ v, zRel V' V2' L' v u ∧ K v c := by
  obtain ⟨g, gc, gv, gw, gf, gs⟩ := z1
  obtain ⟨g2, gc2, gv2, gw2, gf2, gs2⟩ := z2
  subst gv gv2 gc gc2
  have no : ∀ x, ¬ zLams [] x := fun x ⟨_, h, _⟩ => absurd h List.not_mem_nil
  obtain ⟨a, b, c, d⟩ := zset_c f1 f2 gw gw2 sm gf gf2 (fun x y hl => lb x y hl) wr ha (G := zLams []) (G2 := zLams []) (fun x h => absurd h (no x)) (fun x h => absurd h (no x)) ht gs gs2
  exact ⟨fun v cl h => by
    obtain ⟨u, u1, u2⟩ := c.1 v cl h
    exact ⟨u, u1.2.2, u2⟩, fun u cl h => by
    obtain ⟨v, u1, u2⟩ := c.2 u cl h
    exact ⟨v, u1.2.2, u2⟩⟩
theorem fin_list {P : Int32 × Nat → Prop} : ∀ U : List (Int32 × Nat), ∃ l : List (Int32 × Nat), l.Nodup ∧ ∀ q, q ∈ l ↔ q ∈ U ∧ P q := by
  intro U
  induction U with
  | nil => exact ⟨[], List.nodup_nil, fun q => ⟨fun h => absurd h List.not_mem_nil, fun h => h.1⟩⟩
  | cons u U ih =>
    obtain ⟨l, n, h⟩ := ih
    by_cases q : P u ∧ u ∉ l
    · refine ⟨u :: l, List.nodup_cons.mpr ⟨q.2, n⟩, fun x => ?_⟩
      rw [List.mem_cons, List.mem_cons, h x]
      constructor
      · rintro (e | ⟨e1, e2⟩)
        · exact ⟨Or.inl e, by rw [e]; exact q.1⟩
        · exact ⟨Or.inr e1, e2⟩
      · rintro ⟨e | e, e2⟩
        · exact Or.inl e
        · exact Or.inr ⟨e, e2⟩
    · refine ⟨l, n, fun x => ?_⟩
      rw [List.mem_cons]
      constructor
      · intro e
        exact ⟨Or.inr ((h x).mp e).1, ((h x).mp e).2⟩
      · rintro ⟨e | e, e2⟩
        · subst e
          apply Classical.byContradiction
          intro nn
          exact q ⟨e2, nn⟩
        · exact (h x).mpr ⟨e, e2⟩
def pairs8 : Nat → List (Int32 × Nat)
  | 0 => []
  | n + 1 => (List.range 8).map (fun c => (Int32.ofNat n, c)) ++ pairs8 n
theorem pairs8_mem : ∀ (n k c : Nat), k < n → c < 8 → (Int32.ofNat k, c) ∈ pairs8 n := by
  intro n
  induction n with
  | zero => intro k c h; omega
  | succ n ih =>
    intro k c h1 h2
    rw [pairs8, List.mem_append]
    by_cases e : k = n
    · subst e
      exact Or.inl (List.mem_map.mpr ⟨c, List.mem_range.mpr h2, rfl⟩)
    · exact Or.inr (ih k c (by omega) h2)
variable {a : L_} {rI r : S_} {rh ta : Int32 → Int32} {N : Int32}
/-- the reference: settling all -/
theorem fin_let {t : Int32} {W : Int32 → Nat → Prop} (tbI : TBI rI) (qF : Fr FFl AAl rI r) (w : MI a r rh ta N) (cg : CGr r rh) {ρ : Int32 → Ut} (v : VM r ρ) (n8 : ∀ x c, mNd r W x c → c < (fi rI 2).toNatClampNeg) (k am : Prop) : ∃ p, zLet (ctb rI) [] (fi r 28) (VM r) t W k am (fun v c => (zVR (mG r) v ∧ ¬ zBd (mG r) (zLams []) v ∧ zRc (mG r) t v) ∧ zLow (kU rI) (mNd r W v) c) p (fun _ _ => False) (k ∨ mLK r W) (am ∨ ∃ v c, zVR (mG r) v ∧ mNd r W v c ∧ ¬ zRc (mG r) t v) := by
  have eI : kI rI = kI r := by unfold kI; rw [qF.1 2 (by decide), qF.2.1 9 (by decide)]
  have eF : ∀ k, k = 10 ∨ k = 11 → kF rI k = kF r k := fun k hk => by unfold kF; rw [qF.1 2 (by decide), qF.2.1 k (by rcases hk with e | e <;> rw [e] <;> decide)]
  have a1 : ca1 rI = ma1 r := funext (fun k => by unfold ca1 ma1; rw [qF.2.1 36 (by decide), tbI.1.2.2.2.2.2.1])
  have a2 : ca2 rI = ma2 r := funext (fun k => by unfold ca2 ma2; rw [qF.2.1 36 (by decide), tbI.1.2.2.2.2.2.1])
  have nb : ∀ x, ¬ zBd (mG r) (zLams []) x := fun x ⟨_, ⟨_, h, _⟩, _⟩ => absurd h List.not_mem_nil
  have k8 : (fi rI 2).toNatClampNeg ≤ 8 := by
    have k2 := tbI.1.2.1.1
    have b := i_nat k2.1
    have k3 := k2.2
    rw [il] at k3
    simp at k3
    omega
  obtain ⟨ll, nd, hl⟩ := fin_list (P := fun q => (zVR (mG r) q.1 ∧ ¬ zBd (mG r) (zLams []) q.1 ∧ zRc (mG r) t q.1) ∧ zLow (kU rI) (mNd r W q.1) q.2) (pairs8 (fi r 28).toNatClampNeg)
  refine ⟨ll.length, mG r, rfl, funext (fun ρ => propext (VM_val w cg).symm), ?_, zfree (mG_GW w) w.2.2.1.1 ((VM_val w cg).mpr v), ?_⟩
  · show zGW (ca1 rI) (ca2 rI) (mG r)
    rw [a1, a2]
    exact mG_GW w
  · show zSet (kI rI) (kF rI 10) (kF rI 11) (kU rI) (mG r) (zLams []) _ _ _ _ _ _ _ _ _
    rw [eI, eF 10 (Or.inl rfl), eF 11 (Or.inr rfl)]
    refine ⟨W, fun _ _ => False, fun x c => ⟨Or.inl, fun h => h.resolve_right id⟩, fun x c h => h.elim, fun x c => ⟨fun h => h.elim, fun h => h.elim id (fun q => nb x q.2.2)⟩, Iff.rfl, ⟨fun h => h.elim Or.inl (fun ⟨v, c, h1, h2, h3⟩ => Or.inr ⟨v, c, h1, h2, nb v, h3⟩), fun h => h.elim Or.inl (fun ⟨v, c, h1, h2, _, h3⟩ => Or.inr ⟨v, c, h1, h2, h3⟩)⟩, fun v c => Iff.rfl, ll, nd, fun v c => ?_, rfl⟩
    rw [hl (v, c)]
    refine ⟨fun h => h.2, fun h => ⟨?_, h⟩⟩
    have hv : zNx (mG r) v := h.1.1.1.1
    have c8 : c < 8 := Nat.lt_of_lt_of_le (n8 v c h.2.1) k8
    have e : v = Int32.ofNat v.toNatClampNeg := Int32.toInt_inj.mp (by
      have b := i_nat hv.1
      have b2 : v.toInt ≤ 2147483647 := Int32.toInt_le v
      rw [(ofNs (n := v.toNatClampNeg) (by omega)).1]
      omega)
    rw [e]
    refine pairs8_mem _ _ _ ?_ c8
    have hv1 : v < fi r 28 := hv.2
    have b1 := i_nat hv.1
    have b2 := i_nat w.2.2.1.1
    rw [it] at hv1
    omega
end ZAGR
