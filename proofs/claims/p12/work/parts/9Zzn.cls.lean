/-! The class's graph, read as a graph of types; its unification says what it should. -/
section ZCLS
variable {a : L_} {r r' : S_} {rh ta : Int32 → Int32} {N : Int32}
theorem ws_settled (hI : GI a r rh ta N) {p0 : Int32} (h1 : 0 ≤ p0) (h2 : p0 < fi r 11) {K : Int32 → S_ → Prop} (hK : ∀ f, GI a (sA r 22 f) rh ta N → FS (fi r 11) (ar r 21) (ar r 22) f → K (rh p0) (sA r 22 f)) : wG_settled a K r p0 :=
  wq_G_settled (K := fun z r' => z = rh p0 ∧ ∃ f, r' = sA r 22 f ∧ GI a (sA r 22 f) rh ta N ∧ FS (fi r 11) (ar r 21) (ar r 22) f) (K2 := fun _ _ => True) (fun z r' h _ => by
    obtain ⟨e1, f, e2, i1, i2⟩ := h
    rw [e1, e2]
    exact hK f i1 i2) (settled_ok hI h1 h2 (fun f i1 i2 => ⟨rfl, f, rfl, i1, i2⟩)) (wa_G_settled (fun _ _ => trivial))
def rtF (h f : Nat → Int32) : Nat → Int32 → Int32
  | 0, x => x
  | n + 1, x => if h x.toNatClampNeg = -2 then rtF h f n (f x.toNatClampNeg) else x
def rtc (r : S_) (x : Int32) : Int32 := rtF (ar r 21) (ar r 22) 5000 x
theorem rtF_eq {c : Int32} {h f : Nat → Int32} {s : Nat → Int32} (hN : GN c h f s) (hR : GR c h f rh ta N) : ∀ (n : Nat) (x : Int32), 0 ≤ x → x < c → (h x.toNatClampNeg = -2 → N.toInt - (ta x).toInt ≤ n) → rtF h f n x = rh x := by
  intro n
  induction n with
  | zero =>
    intro x x0 x1 hn
    rw [rtF]
    by_cases e : h x.toNatClampNeg = -2
    · have h1 := hn e
      have h2 := ((hR.2 x x0 x1).2.2.2.2 e).2.2.1
      rw [it] at h2
      omega
    · exact ((hR.2 x x0 x1).2.2.2.1 e).symm
  | succ n ih =>
    intro x x0 x1 hn
    rw [rtF]
    by_cases e : h x.toNatClampNeg = -2
    · rw [if_pos e]
      have h1 := hn e
      have h2 := (hR.2 x x0 x1).2.2.2.2 e
      have h3 := hN x x0 x1
      rw [← h2.1]
      refine ih _ (h3.2.2.2.2.2.2 e) h3.2.2.2.1 (fun e2 => ?_)
      have h4 := h2.2.2.2 e2
      rw [it] at h4
      omega
    · rw [if_neg e]
      exact ((hR.2 x x0 x1).2.2.2.1 e).symm
theorem rtc_eq (hI : GI a r rh ta N) {x : Int32} (x0 : 0 ≤ x) (x1 : x < fi r 11) : rtc r x = rh x := by
  refine rtF_eq hI.2.2.2.1 hI.2.2.2.2.1 5000 x x0 x1 (fun e => ?_)
  have h1 := ((hI.2.2.2.2.1.2 x x0 x1).2.2.2.2 e).2.1
  have h2 := hI.2.2.2.2.1.1
  have h3 := hI.2.2.1
  have h4 := hI.1.2.2.2.2.2.2.2.2.2.2.2
  rw [il] at h1 h2
  simp at h1
  omega
def cG (r : S_) : Gr := (fi r 11, rtc r, fun x => ar r 21 x.toNatClampNeg, fun x => ar r 22 x.toNatClampNeg, fun x => ar r 23 x.toNatClampNeg)
/-- the solutions, node by node -/
def VC (r : S_) (ρ : Int32 → Ut) : Prop := ρ (-1) = [] ∧ ∀ x : Int32, 0 ≤ x → x < fi r 11 → (ar r 21 x.toNatClampNeg = -2 → ρ x = ρ (ar r 22 x.toNatClampNeg)) ∧ (0 ≤ ar r 21 x.toNatClampNeg → ρ x = Jn (ar r 21 x.toNatClampNeg) (ρ (ar r 22 x.toNatClampNeg)) (ρ (ar r 23 x.toNatClampNeg)))
theorem VC_rt (hN : GN (fi r 11) (ar r 21) (ar r 22) (ar r 23)) {ρ : Int32 → Ut} (v : VC r ρ) : ∀ (n : Nat) (x : Int32), 0 ≤ x → x < fi r 11 → ρ x = ρ (rtF (ar r 21) (ar r 22) n x) := by
  intro n
  induction n with
  | zero => intro x _ _; rw [rtF]
  | succ n ih =>
    intro x x0 x1
    rw [rtF]
    by_cases e : ar r 21 x.toNatClampNeg = -2
    · rw [if_pos e, (v.2 x x0 x1).1 e]
      have h3 := hN x x0 x1
      exact ih _ (h3.2.2.2.2.2.2 e) h3.2.2.2.1
    · rw [if_neg e]
theorem VC_rh (hI : GI a r rh ta N) {ρ : Int32 → Ut} (v : VC r ρ) {x : Int32} (x0 : 0 ≤ x) (x1 : x < fi r 11) : ρ x = ρ (rh x) := by
  rw [← rtc_eq hI x0 x1]
  exact VC_rt hI.2.2.2.1 v 5000 x x0 x1
theorem VC_val (hI : GI a r rh ta N) {ρ : Int32 → Ut} : zVal (cG r) ρ ↔ VC r ρ := by
  have hN := hI.2.2.2.1
  have hR := hI.2.2.2.2.1
  constructor
  · rintro ⟨h1, h2⟩
    refine ⟨h1, fun x x0 x1 => ⟨fun e => ?_, fun e => ?_⟩⟩
    · have k := (h2 x ⟨x0, x1⟩).1
      have b := hN x x0 x1
      have k2 := (h2 (ar r 22 x.toNatClampNeg) ⟨b.2.2.2.2.2.2 e, b.2.2.2.1⟩).1
      have e1 : gR (cG r) x = rh x := rtc_eq hI x0 x1
      have e2 : gR (cG r) (ar r 22 x.toNatClampNeg) = rh (ar r 22 x.toNatClampNeg) := rtc_eq hI (b.2.2.2.2.2.2 e) b.2.2.2.1
      rw [k, k2, e1, e2, ((hR.2 x x0 x1).2.2.2.2 e).1]
    · have e1 : gR (cG r) x = x := by
        rw [show gR (cG r) x = rh x from rtc_eq hI x0 x1]
        exact (hR.2 x x0 x1).2.2.2.1 (fun z => by rw [z] at e; exact absurd e (by decide))
      have k := (h2 x ⟨x0, x1⟩).2
      rw [e1] at k
      exact k e
  · intro v
    refine ⟨v.1, fun x hx => ?_⟩
    have x0 : 0 ≤ x := hx.1
    have x1 : x < fi r 11 := hx.2
    have e1 : gR (cG r) x = rh x := rtc_eq hI x0 x1
    have k := VC_rh hI v x0 x1
    rw [e1]
    refine ⟨k, fun h => ?_⟩
    rw [k]
    have b := hR.2 x x0 x1
    exact (v.2 (rh x) b.1 b.2.1).2 h
theorem VC_22' (hI : GI a r rh ta N) {f : Nat → Int32} (h2 : GI a (sA r 22 f) rh ta N) (hf : FS (fi r 11) (ar r 21) (ar r 22) f) {ρ : Int32 → Ut} (v : VC r ρ) : VC (sA r 22 f) ρ := by
  refine ⟨v.1, fun x x0 x1 => ⟨fun e => ?_, fun e => ?_⟩⟩
  · have e' : ar r 21 x.toNatClampNeg = -2 := e
    have x1' : x < fi r 11 := x1
    show ρ x = ρ (f x.toNatClampNeg)
    have b : -2 ≤ ar r 21 x.toNatClampNeg ∧ ar r 21 x.toNatClampNeg < 8 ∧ -1 ≤ f x.toNatClampNeg ∧ f x.toNatClampNeg < fi r 11 ∧ _ ∧ _ ∧ (ar r 21 x.toNatClampNeg = -2 → 0 ≤ f x.toNatClampNeg) := h2.2.2.2.1 x x0 x1
    have q : rh (f x.toNatClampNeg) = rh x := ((h2.2.2.2.2.1.2 x x0 x1).2.2.2.2 e).1
    rw [VC_rh hI v x0 x1', VC_rh hI v (b.2.2.2.2.2.2 e') b.2.2.2.1, q]
  · have e' : 0 ≤ ar r 21 x.toNatClampNeg := e
    have q := hf x x0 x1 (fun z => by rw [z] at e'; exact absurd e' (by decide))
    show ρ x = Jn (ar r 21 x.toNatClampNeg) (ρ (f x.toNatClampNeg)) (ρ (ar r 23 x.toNatClampNeg))
    rw [q]
    exact (v.2 x x0 x1).2 e'
theorem VC_22 (hI : GI a r rh ta N) {f : Nat → Int32} (h2 : GI a (sA r 22 f) rh ta N) (hf : FS (fi r 11) (ar r 21) (ar r 22) f) {ρ : Int32 → Ut} : VC (sA r 22 f) ρ ↔ VC r ρ := by
  refine ⟨fun v => ?_, VC_22' hI h2 hf⟩
  have e : sA (sA r 22 f) 22 (ar r 22) = r := by rw [sA_sA, sA_id]
  have := VC_22' (r := sA r 22 f) (f := ar r 22) h2 (by rw [e]; exact hI) (fun x x0 x1 x2 => (hf x x0 x1 x2).symm) v
  rw [e] at this
  exact this
/-- heads have their parts -/
def AYc (r : S_) : Prop := ∀ x : Int32, 0 ≤ x → x < fi r 11 → (0 ≤ ar r 21 x.toNatClampNeg → (¬ ar r 22 x.toNatClampNeg = -1 ↔ 0 < ar r 0 (ar r 21 x.toNatClampNeg).toNatClampNeg) ∧ (¬ ar r 23 x.toNatClampNeg = -1 ↔ 1 < ar r 0 (ar r 21 x.toNatClampNeg).toNatClampNeg)) ∧ (ar r 21 x.toNatClampNeg = -1 → ar r 22 x.toNatClampNeg = -1 ∧ ar r 23 x.toNatClampNeg = -1)
theorem AYc_22 {f : Nat → Int32} (hf : FS (fi r 11) (ar r 21) (ar r 22) f) (h : AYc r) : AYc (sA r 22 f) := by
  intro x x0 x1
  have k := h x x0 x1
  refine ⟨fun e => ?_, fun e => ?_⟩
  · have e' : 0 ≤ ar r 21 x.toNatClampNeg := e
    have q := hf x x0 x1 (fun z => by rw [z] at e'; exact absurd e' (by decide))
    show (¬ f x.toNatClampNeg = -1 ↔ _) ∧ _
    rw [q]
    exact k.1 e'
  · have e' : ar r 21 x.toNatClampNeg = -1 := e
    have q := hf x x0 x1 (fun z => by rw [z] at e'; exact absurd e' (by decide))
    show f x.toNatClampNeg = -1 ∧ _
    rw [q]
    exact k.2 e'
def ca1 (r : S_) (k : Int32) : Prop := 0 < ar r 0 k.toNatClampNeg
def ca2 (r : S_) (k : Int32) : Prop := 1 < ar r 0 k.toNatClampNeg
theorem cG_GW (hI : GI a r rh ta N) (h : AYc r) : zGW (ca1 r) (ca2 r) (cG r) := by
  have hN := hI.2.2.2.1
  have hR := hI.2.2.2.2.1
  refine ⟨fun x hx => ?_, fun y hy => ?_⟩
  · have x0 : 0 ≤ x := hx.1
    have x1 : x < fi r 11 := hx.2
    have b := hR.2 x x0 x1
    rw [show gR (cG r) x = rh x from rtc_eq hI x0 x1]
    refine ⟨⟨b.1, b.2.1⟩, ?_⟩
    rw [show gR (cG r) (rh x) = rh (rh x) from rtc_eq hI b.1 b.2.1]
    exact (hR.2 (rh x) b.1 b.2.1).2.2.2.1 b.2.2.1
  · have y0 : 0 ≤ y := hy.1.1
    have y1 : y < fi r 11 := hy.1.2
    have b := hN y y0 y1
    have e1 : rh y = y := by rw [← rtc_eq hI y0 y1]; exact hy.2
    have e2 : ¬ ar r 21 y.toNatClampNeg = -2 := by
      have := (hR.2 y y0 y1).2.2.1
      rw [e1] at this
      exact this
    have k := h y y0 y1
    have hm : ∀ z : Int32, -1 ≤ z → z < fi r 11 → z = -1 ∨ zNx (cG r) z := fun z z0 z1 => by
      by_cases e : z = -1
      · exact Or.inl e
      · exact Or.inr ⟨by clear hN hR hI b k hy; grind, z1⟩
    refine ⟨hm _ b.2.2.1 b.2.2.2.1, hm _ b.2.2.2.2.1 b.2.2.2.2.2.1, k.1, fun e => k.2 ?_⟩
    have e3 : ¬ 0 ≤ ar r 21 y.toNatClampNeg := e
    have b1 := b.1
    clear hN hR hI b k hy hm e
    grind
end ZCLS
