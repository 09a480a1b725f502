/-! Types of the table written out in the class's graph. -/
section ZCWRITE
def evT (h f s : Nat → Int32) : Nat → (Nat → Ut) → Int32 → Ut
  | 0, _, _ => []
  | d + 1, θ, t => if t = -1 then [] else if h t.toNatClampNeg < 0 then θ (-1 - h t.toNatClampNeg).toNatClampNeg else Jn (h t.toNatClampNeg) (evT h f s d θ (f t.toNatClampNeg)) (evT h f s d θ (s t.toNatClampNeg))
def inT (h f s : Nat → Int32) : Nat → Nat → Int32 → Prop
  | 0, _, _ => False
  | d + 1, v, t => ¬ t = -1 ∧ ((h t.toNatClampNeg < 0 ∧ v = (-1 - h t.toNatClampNeg).toNatClampNeg) ∨ (¬ h t.toNatClampNeg < 0 ∧ (inT h f s d v (f t.toNatClampNeg) ∨ inT h f s d v (s t.toNatClampNeg))))
/-- parts stand before -/
def Tpz (c : Int32) (f s : Nat → Int32) : Prop := ∀ t : Int32, 0 ≤ t → t < c → (-1 ≤ f t.toNatClampNeg ∧ f t.toNatClampNeg < t) ∧ (-1 ≤ s t.toNatClampNeg ∧ s t.toNatClampNeg < t)
theorem evT_st {c : Int32} {h f s : Nat → Int32} (hp : Tpz c f s) {θ : Nat → Ut} : ∀ (d d' : Nat) (t : Int32), -1 ≤ t → t < c → t.toInt + 1 < d → t.toInt + 1 < d' → evT h f s d θ t = evT h f s d' θ t := by
  intro d
  induction d with
  | zero => intro d' t t0 _ h1; rw [il] at t0; simp at t0; omega
  | succ d ih =>
    intro d' t t0 t1 h1 h2
    cases d' with
    | zero => rw [il] at t0; simp at t0; omega
    | succ d' =>
      rw [evT, evT]
      by_cases e : t = -1
      · rw [if_pos e, if_pos e]
      · rw [if_neg e, if_neg e]
        have t00 : 0 ≤ t := by clear ih hp; grind
        have p := hp t t00 t1
        have q1 := p.1.2
        have q2 := p.2.2
        rw [it] at q1 q2
        rw [ih d' _ p.1.1 (ltt p.1.2 t1) (by omega) (by omega), ih d' _ p.2.1 (ltt p.2.2 t1) (by omega) (by omega)]
theorem inT_st {c : Int32} {h f s : Nat → Int32} (hp : Tpz c f s) {v : Nat} : ∀ (d d' : Nat) (t : Int32), -1 ≤ t → t < c → t.toInt + 1 < d → t.toInt + 1 < d' → (inT h f s d v t ↔ inT h f s d' v t) := by
  intro d
  induction d with
  | zero => intro d' t t0 _ h1; rw [il] at t0; simp at t0; omega
  | succ d ih =>
    intro d' t t0 t1 h1 h2
    cases d' with
    | zero => rw [il] at t0; simp at t0; omega
    | succ d' =>
      rw [inT, inT]
      by_cases e : t = -1
      · exact ⟨fun k => absurd e k.1, fun k => absurd e k.1⟩
      · have t00 : 0 ≤ t := by clear ih hp; grind
        have p := hp t t00 t1
        have q1 := p.1.2
        have q2 := p.2.2
        rw [it] at q1 q2
        rw [ih d' _ p.1.1 (ltt p.1.2 t1) (by omega) (by omega), ih d' _ p.2.1 (ltt p.2.2 t1) (by omega) (by omega)]
theorem evT_cg {h f s : Nat → Int32} {θ θ' : Nat → Ut} : ∀ (d : Nat) (t : Int32), (∀ v, inT h f s d v t → θ v = θ' v) → evT h f s d θ t = evT h f s d θ' t := by
  intro d
  induction d with
  | zero => intro t _; rfl
  | succ d ih =>
    intro t he
    rw [evT, evT]
    by_cases e : t = -1
    · rw [if_pos e, if_pos e]
    · rw [if_neg e, if_neg e]
      by_cases g : h t.toNatClampNeg < 0
      · rw [if_pos g, if_pos g]
        exact he _ ⟨e, Or.inl ⟨g, rfl⟩⟩
      · rw [if_neg g, if_neg g, ih _ (fun v hv => he v ⟨e, Or.inr ⟨g, Or.inl hv⟩⟩), ih _ (fun v hv => he v ⟨e, Or.inr ⟨g, Or.inr hv⟩⟩)]
def cev (r : S_) (θ : Nat → Ut) (t : Int32) : Ut := evT (ar r 1) (ar r 2) (ar r 3) 64 θ t
def cin (r : S_) (v : Nat) (t : Int32) : Prop := inT (ar r 1) (ar r 2) (ar r 3) 64 v t
/-- the types' table, as written types need it -/
def TYz (r : S_) : Prop := (0 ≤ fi r 1 ∧ fi r 1 ≤ 60) ∧ Tpz (fi r 1) (ar r 2) (ar r 3) ∧ ∀ t : Int32, 0 ≤ t → t < fi r 1 → (-8 ≤ ar r 1 t.toNatClampNeg ∧ ar r 1 t.toNatClampNeg < 8) ∧ (ar r 1 t.toNatClampNeg < 0 → ar r 2 t.toNatClampNeg = -1 ∧ ar r 3 t.toNatClampNeg = -1) ∧ (0 ≤ ar r 1 t.toNatClampNeg → (¬ ar r 2 t.toNatClampNeg = -1 ↔ 0 < ar r 0 (ar r 1 t.toNatClampNeg).toNatClampNeg) ∧ (¬ ar r 3 t.toNatClampNeg = -1 ↔ 1 < ar r 0 (ar r 1 t.toNatClampNeg).toNatClampNeg)) ∧ ((ar r 4 t.toNatClampNeg).toInt = 1 + (szP r (ar r 2 t.toNatClampNeg)).toInt + (szP r (ar r 3 t.toNatClampNeg)).toInt ∧ 0 ≤ (szP r (ar r 2 t.toNatClampNeg)).toInt ∧ 0 ≤ (szP r (ar r 3 t.toNatClampNeg)).toInt)
theorem cev_v {r : S_} {θ : Nat → Ut} {t : Int32} (t0 : 0 ≤ t) (h : ar r 1 t.toNatClampNeg < 0) : cev r θ t = θ (-1 - ar r 1 t.toNatClampNeg).toNatClampNeg := by
  have e : ¬ t = -1 := by intro e; rw [e] at t0; exact absurd t0 (by decide)
  unfold cev
  rw [evT, if_neg e, if_pos h]
theorem cev_c {r : S_} (w : TYz r) {θ : Nat → Ut} {t : Int32} (t0 : 0 ≤ t) (t1 : t < fi r 1) (h : 0 ≤ ar r 1 t.toNatClampNeg) : cev r θ t = Jn (ar r 1 t.toNatClampNeg) (cev r θ (ar r 2 t.toNatClampNeg)) (cev r θ (ar r 3 t.toNatClampNeg)) := by
  have e : ¬ t = -1 := by intro e; rw [e] at t0; exact absurd t0 (by decide)
  have p := w.2.1 t t0 t1
  have c60 : (fi r 1).toInt ≤ 60 := by have := w.1.2; rw [il] at this; simpa using this
  have t1' := t1
  have q1 := p.1.2
  have q2 := p.2.2
  rw [it] at t1' q1 q2
  unfold cev
  rw [evT, if_neg e, if_neg (fun z => nl0 h z)]
  rw [evT_st w.2.1 63 64 _ p.1.1 (ltt p.1.2 t1) (by omega) (by omega), evT_st w.2.1 63 64 _ p.2.1 (ltt p.2.2 t1) (by omega) (by omega)]
theorem cev_n {r : S_} {θ : Nat → Ut} : cev r θ (-1) = [] := by
  unfold cev
  rw [evT, if_pos rfl]
theorem cin_v {r : S_} {t : Int32} (t0 : 0 ≤ t) (h : ar r 1 t.toNatClampNeg < 0) {v : Nat} : cin r v t ↔ v = (-1 - ar r 1 t.toNatClampNeg).toNatClampNeg := by
  have e : ¬ t = -1 := by intro e; rw [e] at t0; exact absurd t0 (by decide)
  unfold cin
  rw [inT]
  exact ⟨fun k => k.2.elim (fun k => k.2) (fun k => absurd h k.1), fun k => ⟨e, Or.inl ⟨h, k⟩⟩⟩
theorem cin_c {r : S_} (w : TYz r) {t : Int32} (t0 : 0 ≤ t) (t1 : t < fi r 1) (h : 0 ≤ ar r 1 t.toNatClampNeg) {v : Nat} : cin r v t ↔ cin r v (ar r 2 t.toNatClampNeg) ∨ cin r v (ar r 3 t.toNatClampNeg) := by
  have e : ¬ t = -1 := by intro e; rw [e] at t0; exact absurd t0 (by decide)
  have p := w.2.1 t t0 t1
  have c60 : (fi r 1).toInt ≤ 60 := by have := w.1.2; rw [il] at this; simpa using this
  have t1' := t1
  have q1 := p.1.2
  have q2 := p.2.2
  rw [it] at t1' q1 q2
  unfold cin
  rw [inT, inT_st w.2.1 63 64 _ p.1.1 (ltt p.1.2 t1) (by omega) (by omega), inT_st w.2.1 63 64 _ p.2.1 (ltt p.2.2 t1) (by omega) (by omega)]
  exact ⟨fun k => k.2.elim (fun k => absurd k.1 (fun z => nl0 h z)) (fun k => k.2), fun k => ⟨e, Or.inr ⟨fun z => nl0 h z, k⟩⟩⟩
theorem cin_n {r : S_} {v : Nat} : ¬ cin r v (-1) := by
  unfold cin
  rw [inT]
  exact fun k => k.1 rfl
theorem cev_cg {r : S_} {θ θ' : Nat → Ut} {t : Int32} (h : ∀ v, cin r v t → θ v = θ' v) : cev r θ t = cev r θ' t := evT_cg 64 t h
/-- nodes more, the old ones as they were; parts of new ones are not older than cs -/
def EXT (cs : Int32) (r : S_) (rh : Int32 → Int32) (l' : Nat → Nat) (r' : S_) (rh' : Int32 → Int32) : Prop := (∃ ta' N', GI (A0 l') r' rh' ta' N') ∧ (PL l' ∧ VB r' ∧ AYc r') ∧ (∀ x : Int32, 0 ≤ x → x < fi r 11 → rh' x = rh x) ∧ (fi r 11 ≤ fi r' 11 ∧ fi r' 15 = fi r 15) ∧ (∀ x : Int32, 0 ≤ x → x < fi r 11 → ∀ k, 21 ≤ k → k ≤ 27 → ar r' k x.toNatClampNeg = ar r k x.toNatClampNeg) ∧ (∀ x : Int32, fi r 11 ≤ x → x < fi r' 11 → (¬ ar r' 21 x.toNatClampNeg = -2 ∧ ar r' 24 x.toNatClampNeg = 0 ∧ ar r' 25 x.toNatClampNeg = 0 ∧ ar r' 26 x.toNatClampNeg = 0 ∧ ar r' 27 x.toNatClampNeg = 0) ∧ (ar r' 22 x.toNatClampNeg = -1 ∨ cs ≤ ar r' 22 x.toNatClampNeg) ∧ (ar r' 23 x.toNatClampNeg = -1 ∨ cs ≤ ar r' 23 x.toNatClampNeg)) ∧ Fr [11, 15] [20, 21, 22, 23, 24, 25, 26, 27, 28, 29, 30, 31] r r'
theorem EXT_trans {cs : Int32} {r r1 r2 : S_} {rh rh1 rh2 : Int32 → Int32} {l1 l2 : Nat → Nat} (c0 : 0 ≤ fi r 11) (e1 : EXT cs r rh l1 r1 rh1) (e2 : EXT cs r1 rh1 l2 r2 rh2) : EXT cs r rh l2 r2 rh2 := by
  obtain ⟨_, _, a3, a4, a5, a6, a7⟩ := e1
  obtain ⟨b1, b2, b3, b4, b5, b6, b7⟩ := e2
  refine ⟨b1, b2, fun x x0 x1 => (b3 x x0 (zo3 x1 a4.1)).trans (a3 x x0 x1), ⟨zo2 a4.1 b4.1, b4.2.trans a4.2⟩, fun x x0 x1 k k0 k1 => (b5 x x0 (zo3 x1 a4.1) k k0 k1).trans (a5 x x0 x1 k k0 k1), fun x x0 x1 => ?_, Fr_trans a7 b7⟩
  by_cases q : x < fi r1 11
  · have k := b5 x (zo2 c0 x0) q
    rw [k 21 (by decide) (by decide), k 22 (by decide) (by decide), k 23 (by decide) (by decide), k 24 (by decide) (by decide), k 25 (by decide) (by decide), k 26 (by decide) (by decide), k 27 (by decide) (by decide)]
    exact a6 x x0 q
  · exact b6 x (Int32.not_lt.mp q) x1
theorem NN_EXT {cs : Int32} {l l' : Nat → Nat} {r r' : S_} {rh ta : Int32 → Int32} {N z p0 p1 p2 : Int32} (hn : NP l r rh ta N z l' r') (hnn : NNp r z r' p0 p1 p2) (lt : fi r 11 < 4096) (c0 : 0 ≤ fi r 11) (ay : AYc r) (h1 : -1 ≤ p0) (hp : 0 ≤ p0 → (¬ p1 = -1 ↔ 0 < ar r 0 p0.toNatClampNeg) ∧ (¬ p2 = -1 ↔ 1 < ar r 0 p0.toNatClampNeg)) (hm : p0 = -1 → p1 = -1 ∧ p2 = -1) (hc1 : p1 = -1 ∨ cs ≤ p1) (hc2 : p2 = -1 ∨ cs ≤ p2) : ∃ rh', EXT cs r rh l' r' rh' ∧ z = fi r 11 ∧ fi r' 11 = fi r 11 + 1 ∧ ar r' 20 = ar r 20 ∧ rh' z = z := by
  obtain ⟨rh', n1, n2, n3, n4, n5, n6, n7, n8, n9, _⟩ := hn
  have hnn' := hnn
  rcases hnn with ⟨_, ez, e11, e15, v21, v22, v23, v24, v25, v26, v27⟩ | ⟨q, _⟩
  rotate_left
  · exact absurd lt q
  have g0 : ar r' 0 = ar r 0 := n5.2.1 0 (by decide)
  have nz : ¬ ar r' 21 z.toNatClampNeg = -2 := by rw [v21]; intro e; rw [e] at h1; exact absurd h1 (by decide)
  refine ⟨rh', ⟨⟨ta, N, n1⟩, ⟨n3, n4, NN_AY c0 n6 g0 hnn' ay hp hm⟩, n2, ⟨n7, e15⟩, fun x x0 x1 k k0 k1 => n6 x x0 x1 k k0 (by omega), fun x x0 x1 => ?_, Fr_mono n5 (by decide) (by decide)⟩, ez, e11, n5.2.1 20 (by decide), ?_⟩
  · have e : x = z := by rw [ez]; rw [e11] at x1; clear n1 n2 n4 n5 n6 hnn' ay; grind
    rw [e, v22, v23, v24, v25, v26, v27]
    exact ⟨⟨nz, rfl, rfl, rfl, rfl⟩, hc1, hc2⟩
  · exact (n1.2.2.2.2.1.2 z n8 n9).2.2.2.1 nz
/-- what writing t out comes to: z -/
def WOX (cs : Int32) (r : S_) (rh : Int32 → Int32) (z : Int32) (l' : Nat → Nat) (r' : S_) (rh' : Int32 → Int32) (t : Int32) : Prop := EXT cs r rh l' r' rh' ∧ (fi r' 11).toInt ≤ (fi r 11).toInt + (szP r t).toInt ∧ ((t = -1 ∧ z = -1) ∨ (¬ t = -1 ∧ cs ≤ z ∧ z < fi r' 11 ∧ rh' z = z)) ∧ (∀ v, v < 8 → ¬ ar r 20 v = -1 → ar r' 20 v = ar r 20 v) ∧ (∀ v, v < 8 → ar r' 20 v = -1 ∨ (cs ≤ ar r' 20 v ∧ ar r' 20 v < fi r' 11 ∧ ar r' 21 (ar r' 20 v).toNatClampNeg = -1)) ∧ (∀ v, cin r v t → v < 8 ∧ ¬ ar r' 20 v = -1) ∧ (∀ ρ, VC r' ρ → VC r ρ ∧ ρ z = cev r (fun v => ρ (ar r' 20 v)) t) ∧ ∀ ρ (θ : Nat → Ut), VC r ρ → (∀ v, v < 8 → ¬ ar r 20 v = -1 → ρ (ar r 20 v) = θ v) → ∃ ρ', VC r' ρ' ∧ (∀ x, x < fi r 11 → ρ' x = ρ x) ∧ ρ' z = cev r θ t ∧ ∀ v, v < 8 → ¬ ar r' 20 v = -1 → ρ' (ar r' 20 v) = θ v
theorem VC_loc {a : L_} {r : S_} {rh ta : Int32 → Int32} {N : Int32} (hI : GI a r rh ta N) {ρ ρ' : Int32 → Ut} (h : ∀ x, x < fi r 11 → ρ x = ρ' x) (v : VC r ρ) : VC r ρ' := by
  have c0 := hI.2.1
  have m1 : (-1 : Int32) < fi r 11 := by clear hI v; grind
  refine ⟨by rw [← h _ m1]; exact v.1, fun x x0 x1 => ?_⟩
  have n := hI.2.2.2.1 x x0 x1
  rw [← h x x1, ← h _ n.2.2.2.1, ← h _ n.2.2.2.2.2.1]
  exact v.2 x x0 x1
theorem cev_eq {r r' : S_} (h1 : ar r' 1 = ar r 1) (h2 : ar r' 2 = ar r 2) (h3 : ar r' 3 = ar r 3) {θ : Nat → Ut} {t : Int32} : cev r' θ t = cev r θ t := by
  unfold cev
  rw [h1, h2, h3]
theorem cin_eq {r r' : S_} (h1 : ar r' 1 = ar r 1) (h2 : ar r' 2 = ar r 2) (h3 : ar r' 3 = ar r 3) {v : Nat} {t : Int32} : cin r' v t ↔ cin r v t := by
  unfold cin
  rw [h1, h2, h3]
theorem TYz_eq {r r' : S_} (w : TYz r) (f1 : fi r' 1 = fi r 1) (e : ∀ k, k < 5 → ar r' k = ar r k) : TYz r' := by
  unfold TYz szP at *
  rw [f1, e 0 (by decide), e 1 (by decide), e 2 (by decide), e 3 (by decide), e 4 (by decide)]
  exact w
theorem EXT_refl {cs : Int32} {l : Nat → Nat} {r : S_} {rh ta : Int32 → Int32} {N : Int32} (hI : GI (A0 l) r rh ta N) (hp : PL l) (hv : VB r) (ay : AYc r) : EXT cs r rh l r rh := ⟨⟨ta, N, hI⟩, ⟨hp, hv, ay⟩, fun _ _ _ => rfl, ⟨Int32.le_refl _, rfl⟩, fun _ _ _ _ _ _ => rfl, fun x x0 x1 => absurd x0 (fun q => by clear hI hv ay; grind), Fr_refl r⟩
def FRz (cs : Int32) (r : S_) : Prop := ∀ v, v < 8 → ar r 20 v = -1 ∨ (cs ≤ ar r 20 v ∧ ar r 20 v < fi r 11 ∧ ar r 21 (ar r 20 v).toNatClampNeg = -1)
theorem WOS_n {cs : Int32} {l : Nat → Nat} {r : S_} {rh ta : Int32 → Int32} {N : Int32} (hI : GI (A0 l) r rh ta N) (hp : PL l) (hv : VB r) (ay : AYc r) (fz : FRz cs r) : WOX cs r rh (-1) l r rh (-1) := by
  refine ⟨EXT_refl hI hp hv ay, ?_, Or.inl ⟨rfl, rfl⟩, fun _ _ _ => rfl, fz, fun v h => absurd h cin_n, fun ρ h => ⟨h, by rw [cev_n]; exact h.1⟩, fun ρ θ h1 h2 => ⟨ρ, h1, fun _ _ => rfl, by rw [cev_n]; exact h1.1, h2⟩⟩
  unfold szP
  rw [if_pos rfl]
  simp
theorem vcq {a : L_} {r r' : S_} {rh ta : Int32 → Int32} {N z p0 p1 p2 : Int32} (hI : GI a r rh ta N) (hO : Ol r r') (h : fi r 11 < 4096 ∧ z = fi r 11 ∧ fi r' 11 = fi r 11 + 1 ∧ fi r' 15 = fi r 15 ∧ (ar r' 21 z.toNatClampNeg = p0 ∧ ar r' 22 z.toNatClampNeg = p1 ∧ ar r' 23 z.toNatClampNeg = p2 ∧ ar r' 24 z.toNatClampNeg = 0 ∧ ar r' 25 z.toNatClampNeg = 0 ∧ ar r' 26 z.toNatClampNeg = 0 ∧ ar r' 27 z.toNatClampNeg = 0)) (hp : -1 ≤ p0) {ρ : Int32 → Ut} : VC r' ρ ↔ VC r ρ ∧ (0 ≤ p0 → ρ z = Jn p0 (ρ p1) (ρ p2)) := by
  obtain ⟨h1, h2, h3, h4, h5, h6, h7, _⟩ := h
  have inc : ∀ x : Int32, x < fi r' 11 → x < fi r 11 ∨ x = z := fun x hx => by
    rw [h3] at hx
    rw [h2]
    clear hI hO h5 h6 h7
    grind
  have c0 := hI.2.1
  have inc2 : fi r 11 < fi r' 11 := by
    rw [h3]
    clear hI hO h5 h6 h7
    grind
  constructor
  · rintro ⟨v0, v⟩
    refine ⟨⟨v0, fun x x0 x1 => ?_⟩, fun hp0 => ?_⟩
    · have k := v x x0 (ltt x1 inc2)
      rw [hO x x0 x1 21 (by decide) (by decide), hO x x0 x1 22 (by decide) (by decide), hO x x0 x1 23 (by decide) (by decide)] at k
      exact k
    · have k := (v z (by rw [h2]; exact c0) (by rw [h2]; exact inc2)).2
      rw [h5, h6, h7] at k
      exact k hp0
  · rintro ⟨⟨v0, v⟩, hz⟩
    refine ⟨v0, fun x x0 x1 => ?_⟩
    rcases inc x x1 with hx | hx
    · rw [hO x x0 hx 21 (by decide) (by decide), hO x x0 hx 22 (by decide) (by decide), hO x x0 hx 23 (by decide) (by decide)]
      exact v x x0 hx
    · rw [hx, h5, h6, h7]
      exact ⟨fun e => by rw [e] at hp; exact absurd hp (by decide), hz⟩
/-- a constructor's node over its parts -/
theorem WOS_c {cs t z1 z2 z3 : Int32} {l1 l2 l3 : Nat → Nat} {r r1 r2 r3 : S_} {rh rh1 rh2 ta2 : Int32 → Int32} {N2 : Int32} (w : TYz r) (c0 : 0 ≤ fi r 11) (t0 : 0 ≤ t) (t1 : t < fi r 1) (hh : 0 ≤ ar r 1 t.toNatClampNeg) (fz : FRz cs r) (cs1 : cs ≤ fi r 11) (cs0 : 0 ≤ cs) (rm : (fi r 11).toInt + (ar r 4 t.toNatClampNeg).toInt ≤ 4096) (h1 : WOX cs r rh z1 l1 r1 rh1 (ar r 2 t.toNatClampNeg)) (h2 : WOX cs r1 rh1 z2 l2 r2 rh2 (ar r 3 t.toNatClampNeg)) (g2 : GI (A0 l2) r2 rh2 ta2 N2) (hn : NP l2 r2 rh2 ta2 N2 z3 l3 r3) (hnn : NNp r2 z3 r3 (ar r 1 t.toNatClampNeg) z1 z2) : ∃ rh3, WOX cs r rh z3 l3 r3 rh3 t := by
  obtain ⟨x1, n1, p1, q1, s1, u1, v1, w1⟩ := h1
  obtain ⟨x2, n2, p2, q2, s2, u2, v2, w2⟩ := h2
  have ae1 : ∀ k, k < 20 → ar r1 k = ar r k := fun k hk => x1.2.2.2.2.2.2.2.1 k (by simp; omega)
  have fe1 : ∀ k, k < 11 → fi r1 k = fi r k := fun k hk => x1.2.2.2.2.2.2.1 k (by simp; omega)
  have ae2 : ∀ k, k < 20 → ar r2 k = ar r1 k := fun k hk => x2.2.2.2.2.2.2.2.1 k (by simp; omega)
  have sz2 : szP r1 (ar r 3 t.toNatClampNeg) = szP r (ar r 3 t.toNatClampNeg) := by unfold szP; rw [ae1 4 (by decide)]
  rw [sz2] at n2
  have e1 : ∀ θ : Nat → Ut, ∀ y, cev r1 θ y = cev r θ y := fun θ y => cev_eq (ae1 1 (by decide)) (ae1 2 (by decide)) (ae1 3 (by decide))
  have i1 : ∀ v y, cin r1 v y ↔ cin r v y := fun v y => cin_eq (ae1 1 (by decide)) (ae1 2 (by decide)) (ae1 3 (by decide))
  have wt := w.2.2 t t0 t1
  have szt := wt.2.2.2
  have szT : szP r t = ar r 4 t.toNatClampNeg := by unfold szP; rw [if_neg (fun e => by rw [e] at t0; exact absurd t0 (by decide))]
  have lt : fi r2 11 < 4096 := by
    rw [it, show (4096 : Int32).toInt = 4096 from rfl]
    omega
  have c2 : 0 ≤ fi r2 11 := g2.2.1
  have c1 : 0 ≤ fi r1 11 := zo2 c0 x1.2.2.2.1.1
  have a0 : ar r2 0 = ar r 0 := (ae2 0 (by decide)).trans (ae1 0 (by decide))
  have nz : ∀ z : Int32, cs ≤ z → ¬ z = -1 := fun z hz e => by rw [e] at hz; exact absurd (zo2 cs0 hz) (by decide)
  have z1n : z1 = -1 ↔ ar r 2 t.toNatClampNeg = -1 := by
    rcases p1 with k | k
    · exact ⟨fun _ => k.1, fun _ => k.2⟩
    · exact ⟨fun e => absurd e (nz z1 k.2.1), fun e => absurd e k.1⟩
  have z2n : z2 = -1 ↔ ar r 3 t.toNatClampNeg = -1 := by
    rcases p2 with k | k
    · exact ⟨fun _ => k.1, fun _ => k.2⟩
    · exact ⟨fun e => absurd e (nz z2 k.2.1), fun e => absurd e k.1⟩
  have z1c : z1 = -1 ∨ cs ≤ z1 := p1.elim (fun k => Or.inl k.2) (fun k => Or.inr k.2.1)
  have z2c : z2 = -1 ∨ cs ≤ z2 := p2.elim (fun k => Or.inl k.2) (fun k => Or.inr k.2.1)
  have ary := wt.2.2.1 hh
  obtain ⟨rh3, x3, ez, e11, e20, rz⟩ := NN_EXT (cs := cs) hn hnn lt c2 x2.2.1.2.2 (by clear w wt ary hn g2 x1 x2 u1 u2 v1 v2 w1 w2 hnn; grind) (fun _ => by
    rw [a0]
    exact ⟨⟨fun k => ary.1.mp (fun q => k (z1n.mpr q)), fun k q => ary.1.mpr k (z1n.mp q)⟩, ⟨fun k => ary.2.mp (fun q => k (z2n.mpr q)), fun k q => ary.2.mpr k (z2n.mp q)⟩⟩) (fun e => by rw [e] at hh; exact absurd hh (by decide)) z1c z2c
  have xall := EXT_trans c0 (EXT_trans c0 x1 x2) x3
  obtain ⟨ta3, N3, g3⟩ := x3.1
  have inc := i_inc lt
  have z3r : z3 < fi r3 11 := by rw [ez, e11]; rw [it, inc]; omega
  have z3c : cs ≤ z3 := by rw [ez]; exact zo2 cs1 (zo2 x1.2.2.2.1.1 x2.2.2.2.1.1)
  have vc3 : ∀ ρ, VC r3 ρ ↔ VC r2 ρ ∧ ρ z3 = Jn (ar r 1 t.toNatClampNeg) (ρ z1) (ρ z2) := by
    intro ρ
    obtain ⟨_, n1', n2', n3', n4', n5', n6', _⟩ := hn
    rcases hnn with hq | hq
    · have := vcq g2 n6' hq (by clear w wt ary g2 x1 x2 u1 u2 v1 v2 w1 w2; grind) (ρ := ρ)
      rw [this]
      exact ⟨fun k => ⟨k.1, k.2 hh⟩, fun k => ⟨k.1, fun _ => k.2⟩⟩
    · exact absurd lt hq.1
  refine ⟨rh3, xall, ?_, Or.inr ⟨fun e => by rw [e] at t0; exact absurd t0 (by decide), z3c, z3r, rz⟩, fun v hv hm => ?_, fun v hv => ?_, fun v hv => ?_, fun ρ hρ => ?_, fun ρ θ hρ hθ => ?_⟩
  · rw [szT, e11, inc]
    omega
  · rw [e20]
    have q := q1 v hv hm
    rw [← q]
    exact q2 v hv (by rw [q]; exact hm)
  · rw [e20]
    rcases s2 v hv with k | k
    · exact Or.inl k
    · refine Or.inr ⟨k.1, ltt k.2.1 (by rw [e11, it, inc]; omega), ?_⟩
      rw [x3.2.2.2.2.1 _ (zo2 cs0 k.1) k.2.1 21 (by decide) (by decide)]
      exact k.2.2
  · rw [e20]
    rcases (cin_c w t0 t1 hh).mp hv with k | k
    · have m := u1 v k
      exact ⟨m.1, by rw [q2 v m.1 m.2]; exact m.2⟩
    · exact u2 v ((i1 v _).mpr k)
  · obtain ⟨k1, k2⟩ := (vc3 ρ).mp hρ
    obtain ⟨k3, k4⟩ := v2 ρ k1
    obtain ⟨k5, k6⟩ := v1 ρ k3
    refine ⟨k5, ?_⟩
    have kq : cev r (fun v => ρ (ar r1 20 v)) (ar r 2 t.toNatClampNeg) = cev r (fun v => ρ (ar r2 20 v)) (ar r 2 t.toNatClampNeg) := by
      refine cev_cg (fun v hv => ?_)
      have m := u1 v hv
      show ρ (ar r1 20 v) = ρ (ar r2 20 v)
      rw [q2 v m.1 m.2]
    rw [k2, cev_c w t0 t1 hh, e20, k4, e1, k6, kq]
  · obtain ⟨ρ1, k1, k2, k3, k4⟩ := w1 ρ θ hρ hθ
    obtain ⟨ρ2, k5, k6, k7, k8⟩ := w2 ρ1 θ k1 k4
    have m1 : (-1 : Int32) < fi r1 11 := by clear w wt ary g2 x1 x2 u1 u2 v1 v2 w1 w2 hn; grind
    have m2 : (-1 : Int32) < fi r2 11 := by clear w wt ary g2 x1 x2 u1 u2 v1 v2 w1 w2 hn; grind
    have lt1 : z1 < fi r1 11 := p1.elim (fun k => by rw [k.2]; exact m1) (fun k => k.2.2.1)
    have lt2 : z2 < fi r2 11 := p2.elim (fun k => by rw [k.2]; exact m2) (fun k => k.2.2.1)
    have lt12 : z1 < fi r2 11 := zo3 lt1 x2.2.2.2.1.1
    have ne3 : ∀ x : Int32, x < fi r2 11 → ¬ x = z3 := fun x hx e => by rw [e, ez] at hx; exact irr hx
    refine ⟨zUp ρ2 z3 (Jn (ar r 1 t.toNatClampNeg) (ρ2 z1) (ρ2 z2)), (vc3 _).mpr ⟨VC_loc g2 (fun x hx => (zUp_n (ne3 x hx)).symm) k5, ?_⟩, fun x hx => ?_, ?_, fun v hv hm => ?_⟩
    · rw [zUp_s, zUp_n (ne3 _ lt12), zUp_n (ne3 _ lt2)]
    · have hx1 : x < fi r1 11 := zo3 hx x1.2.2.2.1.1
      rw [zUp_n (ne3 x (zo3 hx1 x2.2.2.2.1.1)), k6 x hx1]
      exact k2 x hx
    · rw [zUp_s, cev_c w t0 t1 hh, k7, e1, k6 z1 lt1, k3]
    · rw [e20] at hm ⊢
      rcases s2 v hv with k | k
      · exact absurd k hm
      · rw [zUp_n (ne3 _ k.2.1)]
        exact k8 v hv hm
theorem upd_id {f : Nat → Int32} {i : Nat} : upd f i (f i) = f := by
  funext x
  by_cases h : x = i
  · subst h; rw [pk_us]
  · rw [pk_un h]
theorem ws_writeOut {cs : Int32} (cs0 : 0 ≤ cs) : ∀ (d : Nat) (ad l : Nat → Nat) (r : S_) (rh ta : Int32 → Int32) (N t : Int32) (K : Int32 → L_ → S_ → Prop), GI (A0 l) r rh ta N → PL l → VB r → AYc r → TYz r → FRz cs r → cs ≤ fi r 11 → 0 ≤ t → t < fi r 1 → (fi r 11).toInt + (ar r 4 t.toNatClampNeg).toInt ≤ 4096 → (∀ z ad' l' r' rh', WOX cs r rh z l' r' rh' t → K z (ad', l') r') → wY_writeOut d K (ad, l) r t := by
  intro d
  induction d with
  | zero => intro ad l r rh ta N t K _ _ _ _ _ _ _ _ _ _ _; trivial
  | succ d ih =>
    intro ad l r rh ta N t K hI hp hv ay w fz cs1 t0 t1 rm hK
    rw [wY_writeOut]
    unfold wY_writeOut_B
    have wt := w.2.2 t t0 t1
    have c0 := hI.2.1
    have tn : ¬ t = -1 := fun e => by rw [e] at t0; exact absurd t0 (by decide)
    have szT : szP r t = ar r 4 t.toNatClampNeg := by unfold szP; rw [if_neg tn]
    have szt := wt.2.2.2
    refine fun _ => ⟨fun hh _ _ => ?_, fun hh _ => ⟨fun hf _ => ?_, fun hf => ?_⟩⟩
    · -- a constructor
      have tp := w.2.1 t t0 t1
      have hm1 : -1 ≤ ar r 1 t.toNatClampNeg := by clear w wt hI ih hK; grind
      -- behind the first part
      have snd : ∀ (ad1 l1 : Nat → Nat) (r1 : S_) (rh1 : Int32 → Int32) (z1 : Int32), WOX cs r rh z1 l1 r1 rh1 (ar r 2 t.toNatClampNeg) → wY_writeOut_B_J95 (wY_writeOut d) K (ad1, l1) r1 (ar r 1 t.toNatClampNeg) (ar r 3 t.toNatClampNeg) z1 := by
        intro ad1 l1 r1 rh1 z1 h1
        have h1' := h1
        obtain ⟨x1, n1, p1, q1, s1, _⟩ := h1'
        obtain ⟨ta1, N1, g1⟩ := x1.1
        have ae1 : ∀ k, k < 20 → ar r1 k = ar r k := fun k hk => x1.2.2.2.2.2.2.2.1 k (by simp; omega)
        have fe1 : fi r1 1 = fi r 1 := x1.2.2.2.2.2.2.1 1 (by decide)
        have w1 : TYz r1 := TYz_eq w fe1 (fun k hk => ae1 k (by omega))
        have cs11 : cs ≤ fi r1 11 := zo2 cs1 x1.2.2.2.1.1
        -- behind the second part
        have trd : ∀ (ad2 l2 : Nat → Nat) (r2 : S_) (rh2 : Int32 → Int32) (z2 : Int32), WOX cs r1 rh1 z2 l2 r2 rh2 (ar r 3 t.toNatClampNeg) → wY_writeOut_B_J113 (wY_writeOut d) K (ad2, l2) r2 (ar r 1 t.toNatClampNeg) z1 z2 := by
          intro ad2 l2 r2 rh2 z2 h2
          have h2' := h2
          obtain ⟨x2, n2, p2, _⟩ := h2'
          obtain ⟨ta2, N2, g2⟩ := x2.1
          unfold wY_writeOut_B_J113
          have m1 : -1 ≤ z1 ∧ (z1 < fi r2 11 ∨ z1 = -1) := by
            rcases p1 with k | k
            · rw [k.2]; exact ⟨by decide, Or.inr rfl⟩
            · have := zo2 cs0 k.2.1
              exact ⟨by clear w wt g1 g2 x1 x2 hI h1 h2 ih hK; grind, Or.inl (zo3 k.2.2.1 x2.2.2.2.1.1)⟩
          have m2 : -1 ≤ z2 ∧ (z2 < fi r2 11 ∨ z2 = -1) := by
            rcases p2 with k | k
            · rw [k.2]; exact ⟨by decide, Or.inr rfl⟩
            · have := zo2 cs0 k.2.1
              exact ⟨by clear w wt g1 g2 x1 x2 hI h1 h2 ih hK; grind, Or.inl k.2.2.1⟩
          refine ws_new g2 x2.2.1.1 x2.2.1.2.1 hm1 wt.1.2 m1.1 m1.2 m2.1 m2.2 (fun z3 a3 r3 hn hnn => ?_)
          obtain ⟨ad3, l3⟩ := a3
          intro _
          obtain ⟨rh3, h3⟩ := WOS_c w c0 t0 t1 hh fz cs1 cs0 rm h1 h2 g2 hn hnn
          exact hK z3 ad3 l3 r3 rh3 h3
        unfold wY_writeOut_B_J95
        refine ⟨fun e => ?_, fun e => ?_⟩
        · have s0 : 0 ≤ ar r 3 t.toNatClampNeg := by have := tp.2.1; clear w wt g1 x1 hI h1 ih hK trd; grind
          have sz3 : szP r (ar r 3 t.toNatClampNeg) = ar r 4 (ar r 3 t.toNatClampNeg).toNatClampNeg := by unfold szP; rw [if_neg e]
          exact ih ad1 l1 r1 rh1 ta1 N1 (ar r 3 t.toNatClampNeg) _ g1 x1.2.1.1 x1.2.1.2.1 x1.2.1.2.2 w1 s1 cs11 s0 (by rw [fe1]; exact ltt tp.2.2 t1) (by rw [ae1 4 (by decide), ← sz3]; omega) (fun z2 ad2 l2 r2 rh2 h2 _ => trd ad2 l2 r2 rh2 z2 h2)
        · refine trd ad1 l1 r1 rh1 (-1) ?_
          rw [e]
          exact WOS_n g1 x1.2.1.1 x1.2.1.2.1 x1.2.1.2.2 s1
      refine ⟨fun e => ?_, fun e => ?_⟩
      · have s0 : 0 ≤ ar r 2 t.toNatClampNeg := by have := tp.1.1; clear w wt hI ih hK snd; grind
        have sz2 : szP r (ar r 2 t.toNatClampNeg) = ar r 4 (ar r 2 t.toNatClampNeg).toNatClampNeg := by unfold szP; rw [if_neg e]
        exact ih ad l r rh ta N (ar r 2 t.toNatClampNeg) _ hI hp hv ay w fz cs1 s0 (ltt tp.1.2 t1) (by rw [← sz2]; omega) (fun z1 ad1 l1 r1 rh1 h1 _ => snd ad1 l1 r1 rh1 z1 h1)
      · refine snd ad l r rh (-1) ?_
        rw [e]
        exact WOS_n hI hp hv ay fz
    · -- a variable that is there
      have hneg : ar r 1 t.toNatClampNeg < 0 := Int32.not_le.mp hh
      have v8' := m1v wt.1.1 hneg
      have v8 : (-1 - ar r 1 t.toNatClampNeg).toNatClampNeg < 8 := d_lt v8'.1 v8'.2
      unfold wY_writeOut_B_J52
      intro _ r38 e38 _
      have er : r38 = r := by rw [e38, upd_id, sA_id]
      rw [er]
      refine hK _ ad l r rh ⟨EXT_refl hI hp hv ay, ?_, Or.inr ?_, fun _ _ _ => rfl, fz, fun v hv' => ?_, fun ρ h => ⟨h, by rw [cev_v t0 hneg]⟩, fun ρ θ h1 h2 => ⟨ρ, h1, fun _ _ => rfl, by rw [cev_v t0 hneg]; exact h2 _ v8 hf, h2⟩⟩
      · rw [szT]; omega
      · rcases fz _ v8 with k | k
        · exact absurd k hf
        · refine ⟨tn, k.1, k.2.1, (hI.2.2.2.2.1.2 _ (zo2 cs0 k.1) k.2.1).2.2.2.1 (by rw [k.2.2]; decide)⟩
      · rw [(cin_v t0 hneg).mp hv']
        exact ⟨v8, hf⟩
    · -- a variable's first place
      have hneg : ar r 1 t.toNatClampNeg < 0 := Int32.not_le.mp hh
      have v8' := m1v wt.1.1 hneg
      have v8 : (-1 - ar r 1 t.toNatClampNeg).toNatClampNeg < 8 := d_lt v8'.1 v8'.2
      have lt : fi r 11 < 4096 := by rw [it, show (4096 : Int32).toInt = 4096 from rfl]; omega
      refine ws_new hI hp hv (by decide) (by decide) (by decide) (Or.inr rfl) (by decide) (Or.inr rfl) (fun z3 a3 r3 hn hnn => ?_)
      obtain ⟨ad3, l3⟩ := a3
      unfold wY_writeOut_B_J52
      intro _ _ r38 e38 _
      obtain ⟨rh3, x3, ez, e11, e20, rz⟩ := NN_EXT (cs := cs) hn hnn lt c0 ay (by decide) (fun z => absurd z (by decide)) (fun _ => ⟨rfl, rfl⟩) (Or.inl rfl) (Or.inl rfl)
      have inc := i_inc lt
      have z3c : cs ≤ z3 := by rw [ez]; exact cs1
      have z3r : z3 < fi r3 11 := by rw [ez, e11, it, inc]; omega
      have z3n : ¬ z3 = -1 := fun e => by rw [e] at z3c; exact absurd (zo2 cs0 z3c) (by decide)
      have a20 : ar r38 20 = upd (ar r 20) (-1 - ar r 1 t.toNatClampNeg).toNatClampNeg z3 := by rw [e38, e20]; rfl
      have ax : ∀ k, ¬ k = 20 → ar r38 k = ar r3 k := fun k hk => by rw [e38, ar_sA, if_neg hk]
      have fx' : ∀ k, fi r38 k = fi r3 k := fun k => by rw [e38]; rfl
      have vc3 : ∀ ρ, VC r38 ρ ↔ VC r ρ := by
        intro ρ
        obtain ⟨_, n1', n2', n3', n4', n5', n6', _⟩ := hn
        have e1 : VC r38 ρ ↔ VC r3 ρ := by rw [e38]; exact Iff.rfl
        rw [e1]
        rcases hnn with hq | hq
        · rw [vcq hI n6' hq (by decide)]
          exact ⟨fun k => k.1, fun k => ⟨k, fun z => absurd z (by decide)⟩⟩
        · exact absurd lt hq.1
      have h21 : ar r38 21 z3.toNatClampNeg = -1 := by
        rw [ax 21 (by decide)]
        rcases hnn with hq | hq
        · exact hq.2.2.2.2.1
        · exact absurd lt hq.1
      have xx : EXT cs r rh l3 r38 rh3 := by
        obtain ⟨⟨ta3, N3, b1⟩, b2, b3, b4, b5, b6, b7⟩ := x3
        refine ⟨⟨ta3, N3, ?_⟩, ⟨b2.1, ?_, ?_⟩, b3, ?_, fun x x0 x1 k k0 k1 => ?_, fun x x0 x1 => ?_, Fr_trans b7 (by rw [e38]; exact Fr_sA (by decide))⟩
        · rw [e38]; exact b1
        · rw [e38]; exact b2.2.1
        · rw [e38]; exact b2.2.2
        · rw [fx' 11, fx' 15]; exact b4
        · rw [ax k (by omega)]; exact b5 x x0 x1 k k0 k1
        · rw [fx' 11] at x1
          rw [ax 21 (by decide), ax 22 (by decide), ax 23 (by decide), ax 24 (by decide), ax 25 (by decide), ax 26 (by decide), ax 27 (by decide)]
          exact b6 x x0 x1
      have er : ar r38 20 (-1 - ar r 1 t.toNatClampNeg).toNatClampNeg = z3 := by rw [a20, pk_us]
      rw [er]
      refine hK z3 ad3 l3 r38 rh3 ⟨xx, ?_, Or.inr ⟨tn, z3c, by rw [fx' 11]; exact z3r, rz⟩, fun v hv' hm => ?_, fun v hv' => ?_, fun v hv' => ?_, fun ρ h => ⟨(vc3 ρ).mp h, ?_⟩, fun ρ θ h1 h2 => ?_⟩
      · rw [fx' 11, e11, inc, szT]; omega
      · rw [a20, pk_un (fun e => by rw [e] at hm; exact hm hf)]
      · rw [a20]
        by_cases e : v = (-1 - ar r 1 t.toNatClampNeg).toNatClampNeg
        · rw [e, pk_us]
          exact Or.inr ⟨z3c, by rw [fx' 11]; exact z3r, h21⟩
        · rw [pk_un e]
          rcases fz v hv' with k | k
          · exact Or.inl k
          · refine Or.inr ⟨k.1, zo3 k.2.1 xx.2.2.2.1.1, ?_⟩
            rw [xx.2.2.2.2.1 _ (zo2 cs0 k.1) k.2.1 21 (by decide) (by decide)]
            exact k.2.2
      · rw [(cin_v t0 hneg).mp hv', er]
        exact ⟨v8, z3n⟩
      · rw [cev_v t0 hneg, er]
      · have ne3 : ∀ x : Int32, x < fi r 11 → ¬ x = z3 := fun x hx e => by rw [e, ez] at hx; exact irr hx
        refine ⟨zUp ρ z3 (θ (-1 - ar r 1 t.toNatClampNeg).toNatClampNeg), (vc3 _).mpr (VC_loc hI (fun x hx => (zUp_n (ne3 x hx)).symm) h1), fun x hx => zUp_n (ne3 x hx), by rw [zUp_s, cev_v t0 hneg], fun v hv' hm => ?_⟩
        rw [a20] at hm ⊢
        by_cases e : v = (-1 - ar r 1 t.toNatClampNeg).toNatClampNeg
        · rw [e, pk_us, zUp_s]
        · rw [pk_un e] at hm ⊢
          rcases fz v hv' with k | k
          · exact absurd k hm
          · rw [zUp_n (ne3 _ k.2.1)]
            exact h2 v hv' hm
end ZCWRITE
