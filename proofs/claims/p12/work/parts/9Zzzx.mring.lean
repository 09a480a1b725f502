/-! The reference: no ring is left, or there is no solution. -/
section ZMRING
variable {a : L_} {r r' : S_} {rh ta : Int32 → Int32} {N : Int32}
def ma1 (r : S_) (k : Int32) : Prop := 0 < ar r 36 k.toNatClampNeg
def ma2 (r : S_) (k : Int32) : Prop := 1 < ar r 36 k.toNatClampNeg
theorem m1c {x : Int32} (h : -1 ≤ x) : x = -1 ∨ 0 ≤ x := by grind
theorem mG_GW (w : MI a r rh ta N) : zGW (ma1 r) (ma2 r) (mG r) := by
  have gr : ∀ y : Int32, 0 ≤ y → y < fi r 28 → gR (mG r) y = rh y := fun y y0 y1 => rtm_eq w y0 y1
  have hR := w.2.2.2.2.1
  refine ⟨fun x hx => ?_, fun y hy => ?_⟩
  · have b := hR.2 x hx.1 hx.2
    rw [gr x hx.1 hx.2]
    refine ⟨b.1, ?_⟩
    rw [gr _ b.1.1 b.1.2]
    exact (hR.2 _ b.1.1 b.1.2).2.2.1 b.2.1
  · have n := w.2.2.2.1 y hy.1.1 hy.1.2
    have z1 : ∀ x : Int32, -1 ≤ x → (¬ x = -1 ↔ 0 ≤ x) := fun x h => ⟨fun q => (m1c h).resolve_left q, fun q e => by rw [e] at q; exact absurd q (by decide)⟩
    refine ⟨(m1c n.2.2.1.1).imp id (fun q => ⟨q, n.2.2.1.2⟩), (m1c n.2.2.2.1.1).imp id (fun q => ⟨q, n.2.2.2.1.2⟩), fun h => ?_, fun h => n.2.2.2.2.1 (Int32.not_le.mp h)⟩
    have k := n.2.2.2.2.2 h
    exact ⟨(z1 _ n.2.2.1.1).trans k.1, (z1 _ n.2.2.2.1.1).trans k.2⟩
/-- what stands on ground -/
def gd (r : S_) (rh : Int32 → Int32) (x : Int32) : Prop := ∀ S : Int32 → Prop, (∀ y : Int32, 0 ≤ y → y < fi r 28 → ar r 64 y.toNatClampNeg = y → (0 ≤ ar r 66 y.toNatClampNeg → S (rh (ar r 66 y.toNatClampNeg))) → (0 ≤ ar r 67 y.toNatClampNeg → S (rh (ar r 67 y.toNatClampNeg))) → S y) → S x
theorem gd_mk {y : Int32} (y0 : 0 ≤ y) (y1 : y < fi r 28) (y2 : ar r 64 y.toNatClampNeg = y) (h1 : 0 ≤ ar r 66 y.toNatClampNeg → gd r rh (rh (ar r 66 y.toNatClampNeg))) (h2 : 0 ≤ ar r 67 y.toNatClampNeg → gd r rh (rh (ar r 67 y.toNatClampNeg))) : gd r rh y := fun S hS => hS y y0 y1 y2 (fun q => h1 q S hS) (fun q => h2 q S hS)
theorem gd_sol (w : MI a r rh ta N) (h : ∀ x : Int32, 0 ≤ x → x < fi r 28 → ar r 64 x.toNatClampNeg = x → gd r rh x) : ∃ ρ, zVal (mG r) ρ := by
  have gr : ∀ y : Int32, 0 ≤ y → y < fi r 28 → gR (mG r) y = rh y := fun y y0 y1 => rtm_eq w y0 y1
  have hR := w.2.2.2.2.1
  have gw := mG_GW w
  have same : ∀ (m : Nat) (x : Int32), 0 ≤ x → x < fi r 28 → evG (mG r) (fun _ => []) m x = evG (mG r) (fun _ => []) m (rh x) := fun m x x0 x1 => by
    cases m with
    | zero => rfl
    | succ m =>
      have b := hR.2 x x0 x1
      have n1 : ¬ x = -1 := fun e => by rw [e] at x0; exact absurd x0 (by decide)
      have n2 : ¬ rh x = -1 := fun e => by have := b.1.1; rw [e] at this; exact absurd this (by decide)
      rw [evG, evG, if_neg n1, if_neg n2, gr x x0 x1, gr _ b.1.1 b.1.2, (hR.2 _ b.1.1 b.1.2).2.2.1 b.2.1]
  have neg : ∀ m, evG (mG r) (fun _ => []) m (-1) = [] := fun m => by
    cases m with
    | zero => rfl
    | succ m => rw [evG, if_pos rfl]
  have one : ∀ x : Int32, 0 ≤ x → x < fi r 28 → ar r 64 x.toNatClampNeg = x → ∃ n, ∀ m, n ≤ m → evG (mG r) (fun _ => []) m x = evG (mG r) (fun _ => []) n x := by
    intro x x0 x1 x2
    refine h x x0 x1 x2 (fun x => ∃ n, ∀ m, n ≤ m → evG (mG r) (fun _ => []) m x = evG (mG r) (fun _ => []) n x) (fun y y0 y1 y2 h1 h2 => ?_)
    have n := w.2.2.2.1 y y0 y1
    have ny : ¬ y = -1 := fun e => by rw [e] at y0; exact absurd y0 (by decide)
    have ry : gR (mG r) y = y := by rw [gr y y0 y1]; exact (hR.2 y y0 y1).2.2.1 y2
    have part : ∀ z : Int32, -1 ≤ z → z < fi r 28 → (0 ≤ z → ∃ n, ∀ m, n ≤ m → evG (mG r) (fun _ => []) m (rh z) = evG (mG r) (fun _ => []) n (rh z)) → ∃ n, ∀ m, n ≤ m → evG (mG r) (fun _ => []) m z = evG (mG r) (fun _ => []) n z := by
      intro z z0 z1 hz
      rcases m1c z0 with e | e
      · exact ⟨0, fun m _ => by rw [e, neg, neg]⟩
      · obtain ⟨n, hn⟩ := hz e
        exact ⟨n, fun m hm => by rw [same m z e z1, same n z e z1]; exact hn m hm⟩
    obtain ⟨n1, k1⟩ := part _ n.2.2.1.1 n.2.2.1.2 h1
    obtain ⟨n2, k2⟩ := part _ n.2.2.2.1.1 n.2.2.2.1.2 h2
    refine ⟨n1 + n2 + 1, fun m hm => ?_⟩
    obtain ⟨m', rfl⟩ : ∃ m', m = m' + 1 := ⟨m - 1, by omega⟩
    rw [evG, evG, if_neg ny, if_neg ny, ry]
    by_cases q : 0 ≤ gH (mG r) y
    · rw [if_pos q, if_pos q]
      have a1 : evG (mG r) (fun _ => []) m' (gF (mG r) y) = evG (mG r) (fun _ => []) (n1 + n2) (gF (mG r) y) := (k1 m' (by omega)).trans (k1 _ (by omega)).symm
      have a2 : evG (mG r) (fun _ => []) m' (gS (mG r) y) = evG (mG r) (fun _ => []) (n1 + n2) (gS (mG r) y) := (k2 m' (by omega)).trans (k2 _ (by omega)).symm
      rw [a1, a2]
    · rw [if_neg q, if_neg q]
  have all : ∀ x : Int32, ∃ n, (x = -1 ∨ (0 ≤ x ∧ x < fi r 28)) → ∀ m, n ≤ m → evG (mG r) (fun _ => []) m x = evG (mG r) (fun _ => []) n x := by
    intro x
    by_cases hx : x = -1 ∨ (0 ≤ x ∧ x < fi r 28)
    · rcases hx with e | ⟨x0, x1⟩
      · exact ⟨0, fun _ m _ => by rw [e, neg, neg]⟩
      · have b := hR.2 x x0 x1
        obtain ⟨n, hn⟩ := one _ b.1.1 b.1.2 b.2.1
        exact ⟨n, fun _ m hm => by rw [same m x x0 x1, same n x x0 x1]; exact hn m hm⟩
    · exact ⟨0, fun q => absurd q hx⟩
  obtain ⟨f, hf⟩ := Classical.axiomOfChoice all
  refine ⟨fun x => evG (mG r) (fun _ => []) (f x) x, neg _, fun x hx => ?_⟩
  have x0 : 0 ≤ x := hx.1
  have x1 : x < fi r 28 := hx.2
  have b := hR.2 x x0 x1
  have nx : ¬ x = -1 := fun e => by rw [e] at x0; exact absurd x0 (by decide)
  show evG (mG r) (fun _ => []) (f x) x = evG (mG r) (fun _ => []) (f (gR (mG r) x)) (gR (mG r) x) ∧ (0 ≤ gH (mG r) (gR (mG r) x) → evG (mG r) (fun _ => []) (f x) x = Jn (gH (mG r) (gR (mG r) x)) (evG (mG r) (fun _ => []) (f (gF (mG r) (gR (mG r) x))) (gF (mG r) (gR (mG r) x))) (evG (mG r) (fun _ => []) (f (gS (mG r) (gR (mG r) x))) (gS (mG r) (gR (mG r) x))))
  rw [gr x x0 x1]
  refine ⟨?_, fun q => ?_⟩
  · have e1 := hf x (Or.inr ⟨x0, x1⟩) (f x + f (rh x)) (by omega)
    have e2 := hf (rh x) (Or.inr b.1) (f x + f (rh x)) (by omega)
    rw [← e1, ← e2]
    exact same _ x x0 x1
  · have p := gw.2 _ (gw.1 x hx)
    rw [gr x x0 x1] at p
    have e1 := hf x (Or.inr ⟨x0, x1⟩) (f x + f (gF (mG r) (rh x)) + f (gS (mG r) (rh x)) + 1) (by omega)
    have e2 := hf (gF (mG r) (rh x)) p.1 (f x + f (gF (mG r) (rh x)) + f (gS (mG r) (rh x))) (by omega)
    have e3 := hf (gS (mG r) (rh x)) p.2.1 (f x + f (gF (mG r) (rh x)) + f (gS (mG r) (rh x))) (by omega)
    rw [← e1, ← e2, ← e3, evG, if_neg nx, gr x x0 x1, if_pos q]
def TJ (r0 r : S_) (rh : Int32 → Int32) : Prop := Fr [] [87] r0 r ∧ ∀ x : Int32, 0 ≤ x → x < fi r0 28 → ar r0 64 x.toNatClampNeg = x → ¬ ar r 87 x.toNatClampNeg = 0 → gd r0 rh x
/-- an untold root with an untold part -/
def TU (r0 r : S_) (rh : Int32 → Int32) (x : Int32) : Prop := (0 ≤ ar r0 66 x.toNatClampNeg ∧ ar r 87 (rh (ar r0 66 x.toNatClampNeg)).toNatClampNeg = 0) ∨ (0 ≤ ar r0 67 x.toNatClampNeg ∧ ar r 87 (rh (ar r0 67 x.toNatClampNeg)).toNatClampNeg = 0)
def TF (r0 r : S_) (rh : Int32 → Int32) (v2 v3 : Int32) : Prop := (¬ v2 = 0 → ∀ x : Int32, 0 ≤ x → x < v3 → ar r0 64 x.toNatClampNeg = x → ¬ ar r 87 x.toNatClampNeg = 0) ∧ (v2 = 0 → ∃ x : Int32, (0 ≤ x ∧ x < fi r0 28) ∧ ar r0 64 x.toNatClampNeg = x ∧ ar r 87 x.toNatClampNeg = 0) ∧ ∀ x : Int32, 0 ≤ x → x < v3 → ar r0 64 x.toNatClampNeg = x → ar r 87 x.toNatClampNeg = 0 → TU r0 r rh x
theorem ws_mtold {r0 : S_} (w : MI a r0 rh ta N) (F : Fr [] [87] r0 r) {p : Int32} (h : p < fi r0 28) {K : Int32 → Prop} (h1 : (0 ≤ p → ¬ ar r 87 (rh p).toNatClampNeg = 0) → K 1) (h0 : 0 ≤ p → ar r 87 (rh p).toNatClampNeg = 0 → K 0) : wM_isTold a r K p := by
  have w' : MI a r rh ta N := MI_Fr w F (by decide) (by decide)
  have e28 := F.1 28 (by decide)
  unfold wM_isTold wM_isTold_J17
  refine ⟨fun q _ => h1 (fun z => absurd q (Int32.not_lt.mpr z)), fun g => ?_⟩
  have p0 := Int32.not_lt.mp g
  have p1 : p < fi r 28 := by rw [e28]; exact h
  exact ws_mfind w' p0 p1 (fun _ => ⟨fun q _ => h0 p0 q, fun q _ => h1 (fun _ => q)⟩)
theorem lst1 {x v : Int32} (v0 : 0 ≤ v) {c : Int32} (v1 : v < c) (h : x < v + 1) (hn : ¬ x = v) : x < v := by
  have e := i_inc v1
  rw [it, e] at h
  rw [it]
  have : ¬ x.toInt = v.toInt := fun q => hn (Int32.toInt_inj.mp q)
  omega
theorem ws_ring44 {r0 : S_} (w : MI a r0 rh ta N) {KX : S_ → Int32 → Int32 → Prop} (hK : ∀ r v1 v2, TJ r0 r rh → (v1 = 0 → TF r0 r rh v2 (fi r0 28)) → KX r v1 v2) : ∀ (n : Nat) (r : S_) (v1 v2 v3 : Int32), TJ r0 r rh → 0 ≤ v3 → v3 ≤ fi r0 28 → (v1 = 0 → TF r0 r rh v2 v3) → wM_needNoRing_L44 a KX n r v1 v2 v3 := by
  intro n
  induction n with
  | zero => intro r v1 v2 v3 _ _ _ _; trivial
  | succ n ih =>
    intro r v1 v2 v3 tj h0 h1 hv
    have F := tj.1
    rw [wM_needNoRing_L44, F.1 28 (by decide), F.2.1 64 (by decide)]
    refine ⟨fun g => hK r v1 v2 tj (fun q => ?_), fun g _ => ?_⟩
    · have e : v3 = fi r0 28 := by clear ih hK w F; grind
      rw [← e]; exact hv q
    have g' := Int32.not_le.mp g
    obtain ⟨q1, q2, q3⟩ := inc_le h0 g'
    have nb := w.2.2.2.1 v3 h0 g'
    have e66 : ar r 66 = ar r0 66 := F.2.1 66 (by decide)
    have e67 : ar r 67 = ar r0 67 := F.2.1 67 (by decide)
    refine ⟨fun e => ih r v1 v2 _ tj q1 q2 (fun q => ?_), fun er _ => ⟨fun tl => ih r v1 v2 _ tj q1 q2 (fun q => ?_), fun tl _ => ?_⟩⟩
    · have t := hv q
      refine ⟨fun z x x0 x1 x2 => t.1 z x x0 (lst1 h0 g' x1 (fun z => e (by rw [← z]; exact x2))) x2, t.2.1, fun x x0 x1 x2 => t.2.2 x x0 (lst1 h0 g' x1 (fun z => e (by rw [← z]; exact x2))) x2⟩
    · have t := hv q
      refine ⟨fun z x x0 x1 x2 => ?_, t.2.1, fun x x0 x1 x2 x3 => ?_⟩
      · by_cases e : x = v3
        · rw [e]; exact tl
        · exact t.1 z x x0 (lst1 h0 g' x1 e) x2
      · exact t.2.2 x x0 (lst1 h0 g' x1 (fun z => tl (by rw [← z]; exact x3))) x2 x3
    · -- an untold root
      have en0 : vp_nar .boolean 0 = 0 := rfl
      have en1 : vp_nar .boolean 1 = 1 := rfl
      have no : TU r0 r rh v3 → wM_needNoRing_J106 a (wM_needNoRing_L44 a KX n) KX r v1 v2 v3 v3 := by
        intro tu
        unfold wM_needNoRing_J106 wM_needNoRing_J107 wM_needNoRing_J121 wM_needNoRing_J126 wM_needNoRing_J144 wM_needNoRing_J145 wM_needNoRing_J146
        rw [en0]
        intro _ r15 e15
        have sm : ∀ x : Int32, 0 ≤ x → ar r15 87 x.toNatClampNeg = ar r 87 x.toNatClampNeg := fun x x0 => by
          rw [e15, ar_sA, if_pos rfl, updI _ _ h0 x0]
          split
          · rename_i q; rw [q, tl]
          · rfl
        have F15 : Fr [] [87] r0 r15 := by rw [e15]; exact Fr_trans F (Fr_sA (by decide))
        have tj15 : TJ r0 r15 rh := ⟨F15, fun x x0 x1 x2 x3 => tj.2 x x0 x1 x2 (by rw [← sm x x0]; exact x3)⟩
        have rr : ∀ y : Int32, 0 ≤ y → y < fi r0 28 → 0 ≤ rh y := fun y y0 y1 => (w.2.2.2.2.1.2 y y0 y1).1.1
        have tu15 : ∀ x : Int32, 0 ≤ x → x < fi r0 28 → TU r0 r rh x → TU r0 r15 rh x := fun x x0 x1 h => by
          have nn := w.2.2.2.1 x x0 x1
          rcases h with ⟨a1, a2⟩ | ⟨a1, a2⟩
          · exact Or.inl ⟨a1, by rw [sm _ (rr _ a1 nn.2.2.1.2)]; exact a2⟩
          · exact Or.inr ⟨a1, by rw [sm _ (rr _ a1 nn.2.2.2.1.2)]; exact a2⟩
        have zz : ar r15 87 v3.toNatClampNeg = 0 := by rw [sm v3 h0]; exact tl
        have fin : ∀ u1 u2 : Int32, (u1 = 0 → v1 = 0) → (u2 = 0) → wM_needNoRing_L44 a KX n r15 u1 u2 (v3 + 1) := fun u1 u2 hu e2 => by
          refine ih r15 u1 u2 _ tj15 q1 q2 (fun q => ?_)
          have t := hv (hu q)
          refine ⟨fun z => absurd e2 z, fun _ => ⟨v3, ⟨h0, g'⟩, er, zz⟩, fun x x0 x1 x2 x3 => ?_⟩
          by_cases e : x = v3
          · rw [e]; exact tu15 v3 h0 g' tu
          · have xl := lst1 h0 g' x1 e
            exact tu15 x x0 (ltt xl g') (t.2.2 x x0 xl x2 (by rw [← sm x x0]; exact x3))
        refine ⟨fun g1 => ⟨fun _ => fin 1 0 (fun z => absurd z (by decide)) rfl, fun _ _ => ⟨fun _ => fin 1 0 (fun z => absurd z (by decide)) rfl, fun z => absurd zz z⟩⟩, fun g1 _ => ⟨fun _ => ⟨fun _ => fin 0 0 (fun _ => g1) rfl, fun _ _ => ⟨fun _ => fin 0 0 (fun _ => g1) rfl, fun z => absurd zz z⟩⟩, fun z => absurd zz z⟩⟩
      have yes : (0 ≤ ar r0 66 v3.toNatClampNeg → ¬ ar r 87 (rh (ar r0 66 v3.toNatClampNeg)).toNatClampNeg = 0) → (0 ≤ ar r0 67 v3.toNatClampNeg → ¬ ar r 87 (rh (ar r0 67 v3.toNatClampNeg)).toNatClampNeg = 0) → wM_needNoRing_J107 a (wM_needNoRing_L44 a KX n) KX r v1 v2 v3 1 v3 := by
        intro t1 t2
        unfold wM_needNoRing_J107 wM_needNoRing_J121 wM_needNoRing_J126 wM_needNoRing_J144 wM_needNoRing_J145 wM_needNoRing_J146
        rw [en1]
        intro _ r15 e15
        have a15 : ar r15 87 v3.toNatClampNeg = 1 := by rw [e15, ar_sA, if_pos rfl, pk_us]
        have F15 : Fr [] [87] r0 r15 := by rw [e15]; exact Fr_trans F (Fr_sA (by decide))
        have rt : ∀ y : Int32, 0 ≤ y → y < fi r0 28 → ¬ ar r 87 (rh y).toNatClampNeg = 0 → gd r0 rh (rh y) := fun y y0 y1 h => by
          have b := w.2.2.2.2.1.2 y y0 y1
          exact tj.2 _ b.1.1 b.1.2 b.2.1 h
        have gv : gd r0 rh v3 := gd_mk h0 g' er (fun q => rt _ q nb.2.2.1.2 (t1 q)) (fun q => rt _ q nb.2.2.2.1.2 (t2 q))
        have tj15 : TJ r0 r15 rh := ⟨F15, fun x x0 x1 x2 x3 => by
          by_cases e : x = v3
          · rw [e]; exact gv
          · refine tj.2 x x0 x1 x2 ?_
            rw [e15, ar_sA, if_pos rfl, updI _ _ h0 x0, if_neg e] at x3
            exact x3⟩
        have fin : ∀ u2 : Int32, wM_needNoRing_L44 a KX n r15 1 u2 (v3 + 1) := fun u2 => ih r15 1 u2 _ tj15 q1 q2 (fun z => absurd z (by decide))
        have nz : ¬ ar r15 87 v3.toNatClampNeg = 0 := by rw [a15]; decide
        refine ⟨fun g1 => ⟨fun _ => fin 0, fun _ _ => ⟨fun _ => fin 0, fun _ => fin 1⟩⟩, fun g1 _ => ⟨fun z => absurd z nz, fun _ => ⟨fun _ => fin 0, fun _ _ => ⟨fun _ => fin 0, fun _ => fin 1⟩⟩⟩⟩
      rw [e66, e67]
      refine ws_mtold w F nb.2.2.1.2 (fun t1 _ => ⟨fun z => absurd z (by decide), fun _ _ => ?_⟩) (fun p0 t1 _ => ⟨fun _ => no (Or.inl ⟨p0, t1⟩), fun z => absurd rfl z⟩)
      exact ws_mtold w F nb.2.2.2.1.2 (fun t2 _ => ⟨fun z => absurd z (by decide), fun _ => yes t1 t2⟩) (fun p0 t2 _ => ⟨fun _ => no (Or.inr ⟨p0, t2⟩), fun z => absurd rfl z⟩)
theorem ws_ring27 {r0 : S_} (w : MI a r0 rh ta N) (f0 : fi r0 32 = 0) {KX : S_ → Int32 → Prop} (hK : ∀ r v2, TJ r0 r rh → TF r0 r rh v2 (fi r0 28) → KX r v2) : ∀ (n : Nat) (r : S_) (v1 v2 : Int32), TJ r0 r rh → (v1 = 0 → TF r0 r rh v2 (fi r0 28)) → wM_needNoRing_L27 a KX n r v1 v2 := by
  intro n
  induction n with
  | zero => intro r v1 v2 _ _; trivial
  | succ n ih =>
    intro r v1 v2 tj h
    rw [wM_needNoRing_L27]
    refine ⟨fun q => hK r v2 tj (h q), fun g => ⟨fun q => absurd (show fi r 32 = 0 by rw [tj.1.1 32 (by decide)]; exact f0) q, fun _ m => ?_⟩⟩
    refine ws_ring44 w (fun r2 u1 u2 tj2 k => ih r2 u1 u2 tj2 k) m r 0 1 0 tj (Int32.le_refl _) w.2.2.1.1 (fun _ => ⟨fun _ x x0 x1 => absurd x1 (Int32.not_lt.mpr x0), fun z => absurd z (by decide), fun x x0 x1 => absurd x1 (Int32.not_lt.mpr x0)⟩)
theorem ws_ring2 {r0 : S_} (w : MI a r0 rh ta N) {KX : S_ → Prop} (hK : ∀ r, TJ r0 r rh → KX r) : ∀ (n : Nat) (r : S_) (v : Int32), Fr [] [87] r0 r → 0 ≤ v → v ≤ fi r0 28 → (∀ x : Int32, 0 ≤ x → x < v → ar r 87 x.toNatClampNeg = 0) → wM_needNoRing_L2 a KX n r v := by
  intro n
  induction n with
  | zero => intro r v _ _ _ _; trivial
  | succ n ih =>
    intro r v F h0 h1 h
    rw [wM_needNoRing_L2, F.1 28 (by decide)]
    refine ⟨fun g => hK r ⟨F, fun x x0 x1 _ x3 => absurd (h x x0 ?_) x3⟩, fun g _ r3 e3 => ?_⟩
    · clear ih hK h w F; grind
    have g' := Int32.not_le.mp g
    obtain ⟨q1, q2, q3⟩ := inc_le h0 g'
    rw [e3]
    refine ih _ _ (Fr_trans F (Fr_sA (by decide))) q1 q2 (fun x x0 x1 => ?_)
    rw [ar_sA, if_pos rfl, updI _ _ h0 x0]
    split
    · rfl
    · rename_i q
      exact h x x0 (lst1 h0 g' x1 q)
theorem ws_mring (w : MI a r rh ta N) (cg : CGr r rh) (f0 : fi r 32 = 0) {K : S_ → Prop} (hK : ∀ r', Fr [32] [87] r r' → (fi r' 32 = 0 ∧ ∃ ρ, VM r ρ) ∨ (¬ fi r' 32 = 0 ∧ ∀ ρ, ¬ VM r ρ) → K r') : wM_needNoRing a K r := by
  unfold wM_needNoRing
  intro n1
  refine ws_ring2 w (fun r2 tj2 n2 => ?_) n1 r 0 (Fr_refl r) (Int32.le_refl _) w.2.2.1.1 (fun x x0 x1 => absurd x1 (Int32.not_lt.mpr x0))
  refine ws_ring27 w f0 (fun r3 v2 tj3 tf => ?_) n2 r2 1 1 tj2 (fun z => absurd z (by decide))
  have F3' : Fr [32] [87] r r3 := Fr_mono tj3.1 (fun _ z => absurd z List.not_mem_nil) (fun _ z => z)
  have e32 : fi r3 32 = 0 := by rw [tj3.1.1 32 (by decide)]; exact f0
  unfold wM_needNoRing_J155 wM_needNoRing_J167 wM_needNoRing_J172
  refine ⟨fun g => absurd e32 g, fun _ => ⟨fun g _ r4 e4 => ?_, fun g _ r4 e4 => ?_⟩⟩
  · rw [e4]
    refine hK _ (Fr_trans F3' (Fr_sF (by decide))) (Or.inl ⟨by rw [fi_sF, if_pos rfl], ?_⟩)
    obtain ⟨ρ, h⟩ := gd_sol w (fun x x0 x1 x2 => tj3.2 x x0 x1 x2 (tf.1 g x x0 x1 x2))
    exact ⟨ρ, (VM_val w cg).mp h⟩
  · rw [e4]
    refine hK _ (Fr_trans F3' (Fr_sF (by decide))) (Or.inr ⟨by rw [fi_sF, if_pos rfl]; decide, fun ρ v => ?_⟩)
    have key : ∀ (n : Nat) (x : Int32), 0 ≤ x → x < fi r 28 → ar r 64 x.toNatClampNeg = x → ar r3 87 x.toNatClampNeg = 0 → (ρ x).length < n → False := by
      intro n
      induction n with
      | zero => intro x _ _ _ _ h; omega
      | succ n ih =>
        intro x x0 x1 x2 x3 hl
        have nb := w.2.2.2.1 x x0 x1
        have hd : (0 ≤ ar r 66 x.toNatClampNeg ∨ 0 ≤ ar r 67 x.toNatClampNeg) → 0 ≤ ar r 65 x.toNatClampNeg := fun h => by
          apply Classical.byContradiction
          intro q
          have k := nb.2.2.2.2.1 (Int32.not_le.mp q)
          rcases h with h | h
          · rw [k.1] at h; exact absurd h (by decide)
          · rw [k.2] at h; exact absurd h (by decide)
        have part : ∀ y : Int32, 0 ≤ y → y < fi r 28 → ar r3 87 (rh y).toNatClampNeg = 0 → (ρ y).length < n → False := fun y y0 y1 y2 y3 => by
          have b := w.2.2.2.2.1.2 y y0 y1
          exact ih (rh y) b.1.1 b.1.2 b.2.1 y2 (by rw [← VM_rh w v y0 y1]; exact y3)
        rcases tf.2.2 x x0 x1 x2 x3 with ⟨p0, p1⟩ | ⟨p0, p1⟩
        · have l := congrArg List.length ((v.2 x x0 x1).2 (hd (Or.inl p0)))
          rw [Jn_len] at l
          exact part _ p0 nb.2.2.1.2 p1 (by omega)
        · have l := congrArg List.length ((v.2 x x0 x1).2 (hd (Or.inr p0)))
          rw [Jn_len] at l
          exact part _ p0 nb.2.2.2.1.2 p1 (by omega)
    obtain ⟨x, hx, h1, h2⟩ := tf.2.1 g
    exact key _ x hx.1 hx.2 h1 h2 (Nat.lt_succ_self _)
end ZMRING
