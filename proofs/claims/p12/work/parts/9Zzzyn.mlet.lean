/-! The reference: a settling, as the theory has it; leaves. -/
section ZMLETF
variable {a : L_} {rI r r' r1 r2 : S_} {rh ta : Int32 → Int32} {N : Int32}
def blM (v b : Int32) : List (Int32 × Nat) := ((List.range 8).filter (fun c => gb b c)).map (fun c => (v, c))
def OLM (f g : Nat → Int32) (s : Nat) : Nat → List (Int32 × Nat)
  | 0 => []
  | n + 1 => OLM f g s n ++ blM (f (s + n)) (g (s + n))
theorem fil_cnt {p : Nat → Bool} : ∀ n, ((List.range n).filter p).length = cnt p n := by
  intro n
  induction n with
  | zero => rfl
  | succ n ih =>
    rw [List.range_succ, List.filter_append, List.length_append, ih, cnt]
    by_cases q : p n = true
    · rw [if_pos q]; simp [q]
    · rw [if_neg q]; simp [q]
theorem blM_len {v b : Int32} : (blM v b).length = bn b := by
  unfold blM bn
  rw [List.length_map]
  exact fil_cnt 8
theorem blM_mem {v b x : Int32} {c : Nat} : (x, c) ∈ blM v b ↔ x = v ∧ c < 8 ∧ gb b c = true := by
  unfold blM
  rw [List.mem_map]
  constructor
  · rintro ⟨k, h1, h2⟩
    rw [List.mem_filter, List.mem_range] at h1
    have e1 : v = x := congrArg Prod.fst h2
    have e2 : k = c := congrArg Prod.snd h2
    rw [← e1, ← e2]
    exact ⟨rfl, h1⟩
  · rintro ⟨e, h⟩
    exact ⟨c, by rw [List.mem_filter, List.mem_range]; exact h, by rw [e]⟩
theorem blM_nd {v b : Int32} : (blM v b).Nodup := by
  unfold blM
  have h : ((List.range 8).filter (fun c => gb b c)).Nodup := List.Pairwise.filter _ List.nodup_range
  exact List.Pairwise.map _ (fun x y hxy e => hxy (congrArg Prod.snd e)) h
theorem OLM_len {f g : Nat → Int32} {s : Nat} : ∀ n, (OLM f g s n).length = sB g s n := by
  intro n
  induction n with
  | zero => rfl
  | succ n ih => rw [OLM, List.length_append, ih, blM_len, sB]
theorem OLM_mem {f g : Nat → Int32} {s : Nat} {x : Int32} {c : Nat} : ∀ n, (x, c) ∈ OLM f g s n ↔ ∃ i, s ≤ i ∧ i < s + n ∧ f i = x ∧ c < 8 ∧ gb (g i) c = true := by
  intro n
  induction n with
  | zero => exact ⟨fun h => absurd h List.not_mem_nil, fun ⟨i, h1, h2, _⟩ => by omega⟩
  | succ n ih =>
    rw [OLM, List.mem_append, ih, blM_mem]
    constructor
    · rintro (⟨i, h1, h2, h3⟩ | ⟨e, h⟩)
      · exact ⟨i, h1, by omega, h3⟩
      · exact ⟨s + n, by omega, by omega, e.symm, h⟩
    · rintro ⟨i, h1, h2, h3, h4⟩
      by_cases e : i = s + n
      · subst e; exact Or.inr ⟨h3.symm, h4⟩
      · exact Or.inl ⟨i, h1, by omega, h3, h4⟩
theorem OLM_nd {f g : Nat → Int32} {s : Nat} : ∀ n, (∀ i j, s ≤ i → i < s + n → s ≤ j → j < s + n → f i = f j → i = j) → (OLM f g s n).Nodup := by
  intro n
  induction n with
  | zero => intro _; exact List.nodup_nil
  | succ n ih =>
    intro h
    rw [OLM, List.nodup_append]
    refine ⟨ih (fun i j h1 h2 h3 h4 => h i j h1 (by omega) h3 (by omega)), blM_nd, fun x hx y hy e => ?_⟩
    obtain ⟨x1, x2⟩ := x
    obtain ⟨y1, y2⟩ := y
    rw [OLM_mem] at hx
    rw [blM_mem] at hy
    obtain ⟨i, i1, i2, i3, _⟩ := hx
    have e1 : x1 = y1 := congrArg Prod.fst e
    have := h i (s + n) i1 (by omega) (by omega) (by omega) (by rw [i3, e1, hy.1])
    omega
theorem GMP_let {n : Int32} {L : List (Int32 × Nat)} {Γ : List En} (tbI : TBI rI) (qF : Fr FFl AAl rI r) (w : MI a r rh ta N) (cg : CGr r rh) (q27 : 0 ≤ fi r 27) (g : GMP a rI r r' rh ta N n L) (em : ∀ x, zLams Γ x ↔ GC r L x) (k am : Prop) : zLet (ctb rI) Γ (fi r 28) (VM r) (ar r 55 (ar r 53 n.toNatClampNeg).toNatClampNeg) (mW r (ar r 61 n.toNatClampNeg)) k am (Own r' (fi r 27).toNatClampNeg (fi r' 27).toNatClampNeg) ((sB (ar r' 63) (fi r 27).toNatClampNeg ((fi r' 27).toNatClampNeg - (fi r 27).toNatClampNeg) : Nat) : Int) (mW r' (ar r 61 n.toNatClampNeg)) (k ∨ mLK r (mW r (ar r 61 n.toNatClampNeg))) (am ∨ ∃ v c, zVR (mG r) v ∧ mNd r (mW r (ar r 61 n.toNatClampNeg)) v c ∧ ¬ zBd (mG r) (GC r L) v ∧ ¬ zRc (mG r) (ar r 55 (ar r 53 n.toNatClampNeg).toNatClampNeg) v) := by
  obtain ⟨⟨sol, _, _, _⟩, ⟨_, wnt⟩, _, ⟨_, _, le27, _, _⟩, own, inj, b8, _⟩ := g
  have eL : zLams Γ = GC r L := funext (fun x => propext (em x))
  have tb : MTB r := MTB_Fr tbI.1 qF (by decide) (by decide)
  have eI : kI rI = kI r := by unfold kI; rw [qF.1 2 (by decide), qF.2.1 9 (by decide)]
  have eF : ∀ k, k = 10 ∨ k = 11 → kF rI k = kF r k := fun k hk => by unfold kF; rw [qF.1 2 (by decide), qF.2.1 k (by rcases hk with e | e <;> rw [e] <;> decide)]
  have a1 : ca1 rI = ma1 r := funext (fun k => by unfold ca1 ma1; rw [qF.2.1 36 (by decide), tbI.1.2.2.2.2.2.1])
  have a2 : ca2 rI = ma2 r := funext (fun k => by unfold ca2 ma2; rw [qF.2.1 36 (by decide), tbI.1.2.2.2.2.2.1])
  obtain ⟨ρ, v⟩ := sol
  refine ⟨mG r, rfl, funext (fun ρ => propext (VM_val w cg).symm), ?_, zfree (mG_GW w) w.2.2.1.1 ((VM_val w cg).mpr v), ?_⟩
  · show zGW (ca1 rI) (ca2 rI) (mG r)
    rw [a1, a2]
    exact mG_GW w
  · show zSet (kI rI) (kF rI 10) (kF rI 11) (kU rI) (mG r) (zLams Γ) _ _ _ _ _ _ _ _ _
    rw [eI, eF 10 (Or.inl rfl), eF 11 (Or.inr rfl), eL]
    have nle : (fi r 27).toNatClampNeg + ((fi r' 27).toNatClampNeg - (fi r 27).toNatClampNeg) = (fi r' 27).toNatClampNeg := by
      have b1 := i_nat q27
      have b2 := i_nat (zo2 q27 le27)
      rw [il] at le27
      omega
    refine ⟨mW r (ar r 61 n.toNatClampNeg), fun _ _ => False, fun x c => ⟨Or.inl, fun h => h.resolve_right id⟩, fun x c h => h.elim, fun x c => ?_, Iff.rfl, Iff.rfl, own, OLM (ar r' 62) (ar r' 63) (fi r 27).toNatClampNeg ((fi r' 27).toNatClampNeg - (fi r 27).toNatClampNeg), OLM_nd _ (fun i j h1 h2 h3 h4 => inj i j h1 (by omega) h3 (by omega)), fun v c => ?_, by rw [OLM_len]⟩
    · rw [wnt x c]
      exact ⟨Or.inr, fun h => h.resolve_left id⟩
    · rw [OLM_mem, nle]
      exact ⟨fun ⟨i, h1, h2, h3, _, h5⟩ => ⟨i, h1, h2, h3, h5⟩, fun ⟨i, h1, h2, h3, h5⟩ => ⟨i, h1, h2, h3, b8 i h1 h2 c h5, h5⟩⟩
/-- wants, split -/
theorem mW_split {s : Int32} (s0 : 0 ≤ s) (h1 : s ≤ fi r1 31) (h2 : fi r1 31 ≤ fi r2 31) (hs : ∀ i, i < (fi r1 31).toNatClampNeg → ar r2 75 i = ar r1 75 i ∧ ar r2 76 i = ar r1 76 i) {x : Int32} {c : Nat} : mW r2 s x c ↔ mW r1 s x c ∨ mW r2 (fi r1 31) x c := by
  have n0 := i_nat s0
  have n1 := i_nat (zo2 s0 h1)
  have n2 := i_nat (zo2 (zo2 s0 h1) h2)
  rw [il] at h1 h2
  constructor
  · rintro ⟨i, i1, i2, i3, i4⟩
    by_cases q : i < (fi r1 31).toNatClampNeg
    · have k := hs i q
      exact Or.inl ⟨i, i1, q, by rw [← k.1]; exact i3, by rw [← k.2]; exact i4⟩
    · exact Or.inr ⟨i, by omega, i2, i3, i4⟩
  · rintro (⟨i, i1, i2, i3, i4⟩ | ⟨i, i1, i2, i3, i4⟩)
    · have k := hs i i2
      exact ⟨i, i1, by omega, by rw [k.1]; exact i3, by rw [k.2]; exact i4⟩
    · exact ⟨i, by omega, i2, i3, i4⟩
theorem mW_nil {s : Int32} (h : fi r 31 = s) {x : Int32} {c : Nat} : ¬ mW r s x c := fun ⟨i, i1, i2, _⟩ => by rw [h] at i2; omega
theorem mW_cg (h : fi r' 31 = fi r 31) (hs : ∀ i, i < (fi r 31).toNatClampNeg → ar r' 75 i = ar r 75 i ∧ ar r' 76 i = ar r 76 i) {s : Int32} : mW r' s = mW r s := funext (fun x => funext (fun c => propext (by
  unfold mW
  rw [h]
  exact ⟨fun ⟨i, i1, i2, i3, i4⟩ => ⟨i, i1, i2, by rw [← (hs i i2).1]; exact i3, by rw [← (hs i i2).2]; exact i4⟩, fun ⟨i, i1, i2, i3, i4⟩ => ⟨i, i1, i2, by rw [(hs i i2).1]; exact i3, by rw [(hs i i2).2]; exact i4⟩⟩)))
theorem VM_zloc (w : MI a r rh ta N) : zLoc (fi r 28) (VM r) := fun _ _ h v => VM_loc w h v
theorem ofInat {n : Nat} : Int32.ofInt (n : Int) = Int32.ofNat n := rfl
theorem ofIadd {p q : Int} : Int32.ofInt (p + q) = Int32.ofInt p + Int32.ofInt q := Int32.ofInt_add ..
end ZMLETF
