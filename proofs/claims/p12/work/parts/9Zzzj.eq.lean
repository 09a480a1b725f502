/-! What is around, as arrays and as a list; reached nodes; what is bound. -/
section ZEQ
def EQ (r : S_) : List En → Prop
  | [] => True
  | e :: Γ => (ar r 17 Γ.length = e.1 ∧ ar r 18 Γ.length = e.2.2.1 ∧ (e.2.1 = false ↔ ar r 19 Γ.length = -1) ∧ (e.2.1 = true → ar r 19 Γ.length = Int32.ofInt e.2.2.2.2)) ∧ EQ r Γ
theorem EQ_ext {r r' : S_} : ∀ Γ : List En, (∀ k, 17 ≤ k → k ≤ 19 → ∀ n, n < Γ.length → ar r' k n = ar r k n) → EQ r Γ → EQ r' Γ := by
  intro Γ
  induction Γ with
  | nil => intro _ _; trivial
  | cons e Γ ih =>
    intro h q
    have l : Γ.length < (e :: Γ).length := by simp
    refine ⟨?_, ih (fun k k0 k1 n hn => h k k0 k1 n (Nat.lt_trans hn l)) q.2⟩
    rw [h 17 (by omega) (by omega) _ l, h 18 (by omega) (by omega) _ l, h 19 (by omega) (by omega) _ l]
    exact q.1
theorem EQ_lams {r : S_} {x : Int32} : ∀ Γ : List En, EQ r Γ → (zLams Γ x ↔ ∃ n, n < Γ.length ∧ ar r 19 n = -1 ∧ ar r 18 n = x) := by
  intro Γ
  induction Γ with
  | nil => exact fun _ => ⟨fun ⟨e, he, _⟩ => absurd he List.not_mem_nil, fun ⟨n, hn, _⟩ => absurd hn (by simp)⟩
  | cons e Γ ih =>
    intro q
    have i := ih q.2
    constructor
    · rintro ⟨e', he, hb, hx⟩
      rcases List.mem_cons.mp he with k | k
      · subst k
        exact ⟨Γ.length, by simp, q.1.2.2.1.mp hb, by rw [q.1.2.1]; exact hx.symm⟩
      · obtain ⟨n, h1, h2⟩ := i.mp ⟨e', k, hb, hx⟩
        exact ⟨n, by simp; omega, h2⟩
    · rintro ⟨n, h1, h2, h3⟩
      by_cases e1 : n = Γ.length
      · subst e1
        exact ⟨e, List.mem_cons_self .., q.1.2.2.1.mpr h2, by rw [← h3]; exact q.1.2.1⟩
      · obtain ⟨e', k1, k2⟩ := i.mpr ⟨n, by simp at h1; omega, h2, h3⟩
        exact ⟨e', List.mem_cons_of_mem _ k1, k2⟩
def EG (r : S_) (Γ : List En) : Prop := EQ r Γ ∧ (fi r 5).toInt = Γ.length
theorem ofNs {n : Nat} (h : n < 2147483648) : (Int32.ofNat n).toInt = n ∧ 0 ≤ Int32.ofNat n ∧ (Int32.ofNat n).toNatClampNeg = n := by
  have e : (Int32.ofNat n).toInt = n := Int32.toInt_ofNat_of_lt (by omega)
  have p : 0 ≤ Int32.ofNat n := by rw [il, e]; simp
  refine ⟨e, p, ?_⟩
  have := i_nat p
  omega
theorem EG_lams {r : S_} {Γ : List En} {x : Int32} (h : EG r Γ) : zLams Γ x ↔ ∃ i, lam r i ∧ ar r 18 i.toNatClampNeg = x := by
  rw [EQ_lams Γ h.1]
  have ub := ir (fi r 5)
  have l := h.2
  constructor
  · rintro ⟨n, h1, h2, h3⟩
    have q := ofNs (n := n) (by omega)
    refine ⟨Int32.ofNat n, ⟨⟨q.2.1, ?_⟩, ?_⟩, ?_⟩
    · rw [it, q.1]; omega
    · rw [q.2.2]; exact h2
    · rw [q.2.2]; exact h3
  · rintro ⟨i, ⟨⟨i0, i1⟩, i2⟩, i3⟩
    have q := i_nat i0
    rw [it] at i1
    exact ⟨i.toNatClampNeg, by omega, i2, i3⟩
theorem EG_Bd {r : S_} {rh : Int32 → Int32} {Γ : List En} {v : Int32} (h : EG r Γ) : BdR r rh v ↔ ∃ y, zLams Γ y ∧ Rq r rh y v := by
  constructor
  · rintro ⟨i, h1, h2⟩
    exact ⟨_, (EG_lams h).mpr ⟨i, h1, rfl⟩, h2⟩
  · rintro ⟨y, h1, h2⟩
    obtain ⟨i, k1, k2⟩ := (EG_lams h).mp h1
    exact ⟨i, k1, by rw [k2]; exact h2⟩
variable {a : L_} {r : S_} {rh ta : Int32 → Int32} {N : Int32}
theorem cG_rn (hI : GI a r rh ta N) {y : Int32} : zRn (cG r) y ↔ (0 ≤ y ∧ y < fi r 11) ∧ ¬ ar r 21 y.toNatClampNeg = -2 := by
  constructor
  · rintro ⟨h1, h2⟩
    have h1' : 0 ≤ y ∧ y < fi r 11 := h1
    have h2' : rtc r y = y := h2
    rw [rtc_eq hI h1'.1 h1'.2] at h2'
    have b := (hI.2.2.2.2.1.2 y h1'.1 h1'.2).2.2.1
    rw [h2'] at b
    exact ⟨h1', b⟩
  · rintro ⟨h1, h2⟩
    refine ⟨h1, ?_⟩
    show rtc r y = y
    rw [rtc_eq hI h1.1 h1.2]
    exact (hI.2.2.2.2.1.2 y h1.1 h1.2).2.2.2.1 h2
theorem cG_vr (hI : GI a r rh ta N) {y : Int32} : zVR (cG r) y ↔ vr r y := by
  constructor
  · rintro ⟨h1, h2⟩
    have q := (cG_rn hI).mp h1
    have h2' : ¬ 0 ≤ ar r 21 y.toNatClampNeg := h2
    have n := (hI.2.2.2.1 y q.1.1 q.1.2).1
    refine ⟨q.1.1, q.1.2, ?_⟩
    have q2 := q.2
    clear hI h1 h2 q
    grind
  · rintro ⟨h1, h2, h3⟩
    refine ⟨(cG_rn hI).mpr ⟨⟨h1, h2⟩, by rw [h3]; decide⟩, ?_⟩
    show ¬ 0 ≤ ar r 21 y.toNatClampNeg
    rw [h3]; decide
theorem cG_rc (hI : GI a r rh ta N) {x v : Int32} (x0 : 0 ≤ x) (x1 : x < fi r 11) : zRc (cG r) x v ↔ Rq r rh x v := by
  have pz : ∀ y : Int32, -1 ≤ y → ¬ y = -1 → 0 ≤ y := fun y y0 y1 => by clear hI; grind
  have gr : ∀ y : Int32, 0 ≤ y → y < fi r 11 → gR (cG r) y = rh y := fun y y0 y1 => rtc_eq hI y0 y1
  constructor
  · intro h S hS hx
    refine h S (by rw [gr x x0 x1]; exact hx) (fun y hy hs => ?_)
    have q := (cG_rn hI).mp hy
    have n := hI.2.2.2.1 y q.1.1 q.1.2
    have c := hS y q.1.1 q.1.2 q.2 hs
    refine ⟨fun e => ?_, fun e => ?_⟩
    · have e' : ¬ ar r 22 y.toNatClampNeg = -1 := e
      show S (gR (cG r) (ar r 22 y.toNatClampNeg))
      rw [gr _ (pz _ n.2.2.1 e') n.2.2.2.1]
      exact c.1 e'
    · have e' : ¬ ar r 23 y.toNatClampNeg = -1 := e
      show S (gR (cG r) (ar r 23 y.toNatClampNeg))
      rw [gr _ (pz _ n.2.2.2.2.1 e') n.2.2.2.2.2.1]
      exact c.2 e'
  · intro h S hx hS
    rw [gr x x0 x1] at hx
    refine h S (fun z z0 z1 nm hz => ?_) hx
    have n := hI.2.2.2.1 z z0 z1
    have c := hS z ((cG_rn hI).mpr ⟨⟨z0, z1⟩, nm⟩) hz
    refine ⟨fun e => ?_, fun e => ?_⟩
    · have k : S (gR (cG r) (ar r 22 z.toNatClampNeg)) := c.1 e
      rw [gr _ (pz _ n.2.2.1 e) n.2.2.2.1] at k
      exact k
    · have k : S (gR (cG r) (ar r 23 z.toNatClampNeg)) := c.2 e
      rw [gr _ (pz _ n.2.2.2.2.1 e) n.2.2.2.2.2.1] at k
      exact k
theorem cG_bd (hI : GI a r rh ta N) {Γ : List En} {v : Int32} (hl : ∀ y, zLams Γ y → 0 ≤ y ∧ y < fi r 11) (h : EG r Γ) : zBd (cG r) (zLams Γ) v ↔ BdR r rh v := by
  rw [EG_Bd h]
  exact ⟨fun ⟨y, h1, h2⟩ => ⟨y, h1, (cG_rc hI (hl y h1).1 (hl y h1).2).mp h2⟩, fun ⟨y, h1, h2⟩ => ⟨y, h1, (cG_rc hI (hl y h1).1 (hl y h1).2).mpr h2⟩⟩
/-- solutions that agree on the whole agree on the parts -/
theorem VC_inj (hI : GI a r rh ta N) (ay : AYc r) {ρ ρ' : Int32 → Ut} (v : VC r ρ) (v' : VC r ρ') {x u : Int32} (x0 : 0 ≤ x) (x1 : x < fi r 11) (e : ρ x = ρ' x) (h : Rq r rh x u) : ρ u = ρ' u := by
  refine h (fun u => ρ u = ρ' u) (fun z z0 z1 nm hz => ?_) (by show ρ (rh x) = ρ' (rh x); rw [← VC_rh hI v x0 x1, ← VC_rh hI v' x0 x1]; exact e)
  have n := hI.2.2.2.1 z z0 z1
  have ary := ay z z0 z1
  have hd : (¬ ar r 22 z.toNatClampNeg = -1 ∨ ¬ ar r 23 z.toNatClampNeg = -1) → 0 ≤ ar r 21 z.toNatClampNeg := by
    intro h
    have q1 := n.1
    have q2 : ¬ ar r 21 z.toNatClampNeg = -1 := fun e => by
      have := ary.2 e
      rcases h with h | h
      · exact h this.1
      · exact h this.2
    clear hI ay v v' n ary h hz
    grind
  refine ⟨fun q => ?_, fun q => ?_⟩
  · have f0 : 0 ≤ ar r 22 z.toNatClampNeg := by have := n.2.2.1; clear hI ay v v' n ary hd h hz; grind
    have hz' : ρ z = ρ' z := hz
    rw [(v.2 z z0 z1).2 (hd (Or.inl q)), (v'.2 z z0 z1).2 (hd (Or.inl q))] at hz'
    show ρ (rh (ar r 22 z.toNatClampNeg)) = ρ' (rh (ar r 22 z.toNatClampNeg))
    rw [← VC_rh hI v f0 n.2.2.2.1, ← VC_rh hI v' f0 n.2.2.2.1]
    exact (Jn_inj hz').2.1
  · have f0 : 0 ≤ ar r 23 z.toNatClampNeg := by have := n.2.2.2.2.1; clear hI ay v v' n ary hd h hz; grind
    have hz' : ρ z = ρ' z := hz
    rw [(v.2 z z0 z1).2 (hd (Or.inr q)), (v'.2 z z0 z1).2 (hd (Or.inr q))] at hz'
    show ρ (rh (ar r 23 z.toNatClampNeg)) = ρ' (rh (ar r 23 z.toNatClampNeg))
    rw [← VC_rh hI v f0 n.2.2.2.2.2.1, ← VC_rh hI v' f0 n.2.2.2.2.2.1]
    exact (Jn_inj hz').2.2
theorem DETi (hI : GI a r rh ta N) (ay : AYc r) {Γ : List En} (hl : ∀ y, zLams Γ y → 0 ≤ y ∧ y < fi r 11) {x : Int32} (x0 : 0 ≤ x) (x1 : x < fi r 11) (h : ∀ v, Rq r rh x v → ar r 21 v.toNatClampNeg = -1 → ∃ y, zLams Γ y ∧ Rq r rh y v) : DET (cV r) Γ x := fun ρ ρ' h1 h2 h3 => VC_ag hI h1.2 h2.2 _ x x0 x1 (Nat.lt_succ_self _) (fun u hu e => by
  obtain ⟨y, k1, k2⟩ := h u hu e
  exact VC_inj hI ay h1.2 h2.2 (hl y k1).1 (hl y k1).2 (h3 y k1) k2)
theorem DETb (hI : GI a r rh ta N) (ay : AYc r) {ρ : Int32 → Ut} (hv : cV r ρ) {Γ : List En} (hl : ∀ y, zLams Γ y → 0 ≤ y ∧ y < fi r 11) {x v : Int32} (x0 : 0 ≤ x) (x1 : x < fi r 11) (d : DET (cV r) Γ x) (h : Rq r rh x v) (e : ar r 21 v.toNatClampNeg = -1) : ∃ y, zLams Γ y ∧ Rq r rh y v := by
  refine Classical.byContradiction (fun q => ?_)
  obtain ⟨α, hα⟩ := zpick (P := fun u => u = v) (f := fun _ => 0 :: ρ v) (g := ρ)
  obtain ⟨ρ', g1, g2⟩ := VC_ex hI ay hv.2 α
  have b := Rq_in hI x0 x1 h
  have ev : ρ' v = 0 :: ρ v := by rw [g2 v b.1.1 b.1.2 e, (hα v).1 rfl]
  have k := d ρ ρ' hv ⟨hv.1, g1⟩ (fun y hy => VC_ag hI hv.2 g1 _ y (hl y hy).1 (hl y hy).2 (Nat.lt_succ_self _) (fun u hu e2 => by
    have bu := Rq_in hI (hl y hy).1 (hl y hy).2 hu
    rw [g2 u bu.1.1 bu.1.2 e2, (hα u).2 (fun e3 => q ⟨y, hy, by rw [← e3]; exact hu⟩)]))
  have k2 := VC_inj hI ay hv.2 g1 x0 x1 k h
  rw [ev] at k2
  have := congrArg List.length k2
  simp at this
end ZEQ
