/-! A node more in the class's graph. -/
section ZCNEW
/-- what newNode makes -/
def NNp (r : S_) (z : Int32) (r' : S_) (p0 p1 p2 : Int32) : Prop := (fi r 11 < 4096 ∧ z = fi r 11 ∧ fi r' 11 = fi r 11 + 1 ∧ fi r' 15 = fi r 15 ∧ (ar r' 21 z.toNatClampNeg = p0 ∧ ar r' 22 z.toNatClampNeg = p1 ∧ ar r' 23 z.toNatClampNeg = p2 ∧ ar r' 24 z.toNatClampNeg = 0 ∧ ar r' 25 z.toNatClampNeg = 0 ∧ ar r' 26 z.toNatClampNeg = 0 ∧ ar r' 27 z.toNatClampNeg = 0)) ∨ (¬ fi r 11 < 4096 ∧ fi r' 15 = 1 ∧ fi r' 11 = fi r 11)
theorem nn_NN {r0 r : S_} {p0 p1 p2 : Int32} (h1 : fi r 11 = fi r0 11) (h15 : fi r 15 = fi r0 15) (h : fi r0 11 < 4096) : NNp r0 (fi r0 11) (nn r p0 p1 p2) p0 p1 p2 := by
  refine Or.inl ⟨h, rfl, ?_, h15, ?_⟩
  · show fi r 11 + 1 = _
    rw [h1]
  · rw [← h1]
    refine ⟨?_, ?_, ?_, ?_, ?_, ?_, ?_⟩
    · show upd (ar r 21) (fi r 11).toNatClampNeg p0 (fi r 11).toNatClampNeg = p0
      rw [pk_us]
    · show upd (ar r 22) (fi r 11).toNatClampNeg p1 (fi r 11).toNatClampNeg = p1
      rw [pk_us]
    · show upd (ar r 23) (fi r 11).toNatClampNeg p2 (fi r 11).toNatClampNeg = p2
      rw [pk_us]
    · show upd (ar r 24) (fi r 11).toNatClampNeg 0 (fi r 11).toNatClampNeg = 0
      rw [pk_us]
    · show upd (ar r 25) (fi r 11).toNatClampNeg 0 (fi r 11).toNatClampNeg = 0
      rw [pk_us]
    · show upd (ar r 26) (fi r 11).toNatClampNeg 0 (fi r 11).toNatClampNeg = 0
      rw [pk_us]
    · show upd (ar r 27) (fi r 11).toNatClampNeg 0 (fi r 11).toNatClampNeg = 0
      rw [pk_us]
theorem ws_J40 {a : L_} {r0 r : S_} {K : Int32 → L_ → S_ → Prop} {p0 p1 p2 : Int32} (h1 : fi r 11 = fi r0 11) (h15 : fi r 15 = fi r0 15) (h : fi r0 11 < 4096) (hK : ∀ z r', NNp r0 z r' p0 p1 p2 → K z a r') : wG_newNode_J40 K a r p0 p1 p2 := by
  unfold wG_newNode_J40
  intro _ r4 e4 _ r6 e6 _ r8 e8 _ r10 e10 _ r12 e12 _ r14 e14 _ r16 e16 r17 e17
  have e : r17 = nn r p0 p1 p2 := by
    subst e4 e6 e8 e10 e12 e14 e16 e17
    rfl
  have f : fi r17 11 = fi r0 11 + 1 := by
    rw [e]
    show fi r 11 + 1 = _
    rw [h1]
  have f2 : fi r17 11 - 1 = fi r0 11 := by rw [f]; grind
  rw [f2, e]
  exact hK _ _ (nn_NN h1 h15 h)
theorem ws_new0 {ad l : Nat → Nat} {r : S_} {rh ta : Int32 → Int32} {N p0 p1 p2 : Int32} (hI : GI (A0 l) r rh ta N) (hp : PL l) (hv : VB r) : wG_newNode (fun z _ r' => NNp r z r' p0 p1 p2) (ad, l) r p0 p1 p2 := by
  have hL := hI.1
  have hcl : (fi r 11).toInt ≤ l 21 := hI.2.2.1
  have l4 : l 21 ≤ 4096 := hL.2.2.2.2.2.2.2.2.2.2.2
  have eo := i_ofn (n := l 21) (by omega)
  unfold wG_newNode
  refine ⟨fun h1 => ⟨fun _ => ws_J40 rfl rfl h1 (fun z r' h => h), fun h2 => ?_⟩, fun h1 _ r26 e26 => ?_⟩
  · have h2' : ¬ fi r 11 < Int32.ofNat (l 21) := h2
    have h3 : (fi r 11).toInt = l 21 := by rw [it] at h2'; omega
    have h4 : l 21 < 4096 := by rw [it, show (4096 : Int32).toInt = 4096 from rfl] at h1; omega
    have h5 : 2 * l 21 ≤ 4096 := by unfold PL at hp; omega
    have eo2 : (2 * Int32.ofNat (l 21)).toInt = 2 * (l 21 : Int) := by rw [i_dbl (by omega) (by omega)]; omega
    have q := grow_ok (l := l) (r := r) (p0 := 2 * Int32.ofNat (l 21)) (n := l 21) ⟨rfl, hL.1, hL.2.1, hL.2.2.1, hL.2.2.2.1, hL.2.2.2.2.1, hL.2.2.2.2.2.1, hL.2.2.2.2.2.2.1, hL.2.2.2.2.2.2.2.1, hL.2.2.2.2.2.2.2.2.1⟩ hL.2.2.2.2.2.2.2.2.2.1 (by omega) eo2 (by have := hL.2.2.2.2.2.2.2.2.2.2.1; have e : ln (A0 l) 21 = l 21 := rfl; omega) ad (fun a r' => r' = gr l (2 * Int32.ofNat (l 21)) r) (fun _ _ => rfl)
    refine wq_G_grow (K := fun a r' => r' = gr l (2 * Int32.ofNat (l 21)) r) (K2 := fun _ _ => True) (fun a r' e _ _ => ?_) q (wa_G_grow (fun _ _ => trivial))
    rw [e]
    exact ws_J40 gr_f gr_f h1 (fun z r' h => h)
  · subst e26
    exact Or.inr ⟨h1, rfl, rfl⟩
theorem ws_new {ad l : Nat → Nat} {r : S_} {rh ta : Int32 → Int32} {N p0 p1 p2 : Int32} (hI : GI (A0 l) r rh ta N) (hp : PL l) (hv : VB r) (a1 : -1 ≤ p0) (a2 : p0 < 8) (b1 : -1 ≤ p1) (b2 : p1 < fi r 11 ∨ p1 = -1) (c1 : -1 ≤ p2) (c2 : p2 < fi r 11 ∨ p2 = -1) {K : Int32 → L_ → S_ → Prop} (hK : ∀ z a r', NP l r rh ta N z a.2 r' → NNp r z r' p0 p1 p2 → K z a r') : wG_newNode K (ad, l) r p0 p1 p2 := by
  obtain ⟨z0, l0, r0, k, s, P, _, _, h⟩ := newNode_D (p0 := p0) (p1 := p1) (p2 := p2) hI hp hv a1 a2 b1 b2 c1 c2
  have q := h ad (fun z a r' => z = z0 ∧ a.2 = l0 ∧ r' = r0) (fun _ _ => ⟨rfl, rfl, rfl⟩)
  refine wq_G_newNode (K := fun z a r' => z = z0 ∧ a.2 = l0 ∧ r' = r0) (K2 := fun z _ r' => NNp r z r' p0 p1 p2) (fun z a r' h1 h2 => ?_) q (ws_new0 hI hp hv)
  refine hK z a r' ?_ h2
  rw [h1.1, h1.2.1, h1.2.2]
  exact P
/-- the solutions with a node more -/
theorem NN_VC {l l' : Nat → Nat} {r r' : S_} {rh ta rh' : Int32 → Int32} {N z p0 p1 p2 : Int32} (hI : GI (A0 l) r rh ta N) (h15 : fi r' 15 = 0) (hO : Ol r r') (h : NNp r z r' p0 p1 p2) {ρ : Int32 → Ut} (hp : -1 ≤ p0) : VC r' ρ ↔ VC r ρ ∧ (0 ≤ p0 → ρ z = Jn p0 (ρ p1) (ρ p2)) := by
  rcases h with ⟨h1, h2, h3, h4, h5, h6, h7, _⟩ | ⟨_, h2, _⟩
  · have inc : ∀ x : Int32, x < fi r' 11 → x < fi r 11 ∨ x = z := fun x hx => by
      rw [h3] at hx
      rw [h2]
      clear hI hO h5 h6 h7
      grind
    have c0 := hI.2.1
    have inc2 : fi r 11 < fi r' 11 := by
      rw [h3]
      clear hI hO h5 h6 h7
      grind
    constructor
    · rintro ⟨v0, v⟩
      refine ⟨⟨v0, fun x x0 x1 => ?_⟩, fun hp0 => ?_⟩
      · have k := v x x0 (ltt x1 inc2)
        rw [hO x x0 x1 21 (by decide) (by decide), hO x x0 x1 22 (by decide) (by decide), hO x x0 x1 23 (by decide) (by decide)] at k
        exact k
      · have k := (v z (by rw [h2]; exact c0) (by rw [h2]; exact inc2)).2
        rw [h5, h6, h7] at k
        exact k hp0
    · rintro ⟨⟨v0, v⟩, hz⟩
      refine ⟨v0, fun x x0 x1 => ?_⟩
      rcases inc x x1 with hx | hx
      · rw [hO x x0 hx 21 (by decide) (by decide), hO x x0 hx 22 (by decide) (by decide), hO x x0 hx 23 (by decide) (by decide)]
        exact v x x0 hx
      · rw [hx, h5, h6, h7]
        exact ⟨fun e => by rw [e] at hp; exact absurd hp (by decide), hz⟩
  · rw [h15] at h2
    exact absurd h2 (by decide)
theorem NN_AY {r r' : S_} {z p0 p1 p2 : Int32} (c0 : 0 ≤ fi r 11) (hO : Ol r r') (h0 : ar r' 0 = ar r 0) (h : NNp r z r' p0 p1 p2) (ay : AYc r) (hp : 0 ≤ p0 → (¬ p1 = -1 ↔ 0 < ar r 0 p0.toNatClampNeg) ∧ (¬ p2 = -1 ↔ 1 < ar r 0 p0.toNatClampNeg)) (hn : p0 = -1 → p1 = -1 ∧ p2 = -1) : AYc r' := by
  rcases h with ⟨h1, h2, h3, h4, h5, h6, h7, _⟩ | ⟨_, h2, h3⟩
  · intro x x0 x1
    have inc : x < fi r 11 ∨ x = z := by
      rw [h3] at x1
      rw [h2]
      clear hO ay h5 h6 h7 hp hn
      grind
    rw [h0]
    rcases inc with hx | hx
    · rw [hO x x0 hx 21 (by decide) (by decide), hO x x0 hx 22 (by decide) (by decide), hO x x0 hx 23 (by decide) (by decide)]
      exact ay x x0 hx
    · rw [hx, h5, h6, h7]
      exact ⟨hp, hn⟩
  · intro x x0 x1
    rw [h3] at x1
    rw [h0, hO x x0 x1 21 (by decide) (by decide), hO x x0 x1 22 (by decide) (by decide), hO x x0 x1 23 (by decide) (by decide)]
    exact ay x x0 x1
end ZCNEW
