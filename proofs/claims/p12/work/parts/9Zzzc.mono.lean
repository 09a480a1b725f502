/-! The class's graph only says more: also where it is past all solutions. -/
section ZCMONO
theorem VC_old {a a' : L_} {r r' : S_} {rh rh' ta ta' : Int32 → Int32} {N N' : Int32} (hI : GI a r rh ta N) (hI' : GI a' r' rh' ta' N') (le : fi r 11 ≤ fi r' 11) (hr : ∀ x : Int32, 0 ≤ x → x < fi r 11 → rh' x = rh x) (ho : ∀ x : Int32, 0 ≤ x → x < fi r 11 → ar r' 21 x.toNatClampNeg = ar r 21 x.toNatClampNeg ∧ ar r' 23 x.toNatClampNeg = ar r 23 x.toNatClampNeg ∧ (¬ ar r 21 x.toNatClampNeg = -2 → ar r' 22 x.toNatClampNeg = ar r 22 x.toNatClampNeg)) {ρ : Int32 → Ut} (v : VC r' ρ) : VC r ρ := by
  refine ⟨v.1, fun x x0 x1 => ⟨fun e => ?_, fun e => ?_⟩⟩
  · have n := hI.2.2.2.1 x x0 x1
    have f0 := n.2.2.2.2.2.2 e
    have f1 := n.2.2.2.1
    rw [VC_rh hI' v x0 (zo3 x1 le), VC_rh hI' v f0 (zo3 f1 le), hr x x0 x1, hr _ f0 f1, ((hI.2.2.2.2.1.2 x x0 x1).2.2.2.2 e).1]
  · have q := ho x x0 x1
    have k := (v.2 x x0 (zo3 x1 le)).2 (by rw [q.1]; exact e)
    rw [q.1, q.2.1, q.2.2 (fun z => by rw [z] at e; exact absurd e (by decide))] at k
    exact k
def cV (r : S_) (ρ : Int32 → Ut) : Prop := fi r 15 = 0 ∧ VC r ρ
/-- nodes more, the old ones as they were but for moved ones' firsts -/
def EXm (r : S_) (rh : Int32 → Int32) (l' : Nat → Nat) (r' : S_) : Prop := (∃ rh' ta' N', GI (A0 l') r' rh' ta' N' ∧ ∀ x : Int32, 0 ≤ x → x < fi r 11 → rh' x = rh x) ∧ (PL l' ∧ VB r' ∧ AYc r') ∧ (fi r 11 ≤ fi r' 11 ∧ (fi r' 15 = 0 → fi r 15 = 0) ∧ ar r' 0 = ar r 0) ∧ ∀ x : Int32, 0 ≤ x → x < fi r 11 → ar r' 21 x.toNatClampNeg = ar r 21 x.toNatClampNeg ∧ ar r' 23 x.toNatClampNeg = ar r 23 x.toNatClampNeg ∧ (¬ ar r 21 x.toNatClampNeg = -2 → ar r' 22 x.toNatClampNeg = ar r 22 x.toNatClampNeg)
theorem EXm_V {a : L_} {r r' : S_} {rh ta : Int32 → Int32} {N : Int32} {l' : Nat → Nat} (hI : GI a r rh ta N) (h : EXm r rh l' r') {ρ : Int32 → Ut} (v : cV r' ρ) : cV r ρ := by
  obtain ⟨⟨rh', ta', N', g, hr⟩, _, h3, h4⟩ := h
  exact ⟨h3.2.1 v.1, VC_old hI g h3.1 hr h4 v.2⟩
theorem EXm_refl {l : Nat → Nat} {r : S_} {rh ta : Int32 → Int32} {N : Int32} (hI : GI (A0 l) r rh ta N) (hp : PL l) (hv : VB r) (ay : AYc r) : EXm r rh l r := ⟨⟨rh, ta, N, hI, fun _ _ _ => rfl⟩, ⟨hp, hv, ay⟩, ⟨Int32.le_refl _, id, rfl⟩, fun _ _ _ => ⟨rfl, rfl, fun _ => rfl⟩⟩
theorem EXm_22 {l : Nat → Nat} {r0 r : S_} {rh0 rh ta : Int32 → Int32} {N : Int32} (h : EXm r0 rh0 l r) (hr : ∀ x : Int32, 0 ≤ x → x < fi r0 11 → rh x = rh0 x) {f : Nat → Int32} (k1 : GI (A0 l) (sA r 22 f) rh ta N) (k2 : FS (fi r 11) (ar r 21) (ar r 22) f) : EXm r0 rh0 l (sA r 22 f) := by
  obtain ⟨_, h2, h3, h4⟩ := h
  refine ⟨⟨rh, ta, N, k1, hr⟩, ⟨h2.1, h2.2.1, AYc_22 k2 h2.2.2⟩, h3, fun x x0 x1 => ?_⟩
  have q := h4 x x0 x1
  refine ⟨q.1, q.2.1, fun e => ?_⟩
  show f x.toNatClampNeg = _
  rw [k2 x x0 (zo3 x1 h3.1) (by rw [q.1]; exact e)]
  exact q.2.2 e
/-- a node more, whether there is room or not -/
theorem EXm_new {l l' : Nat → Nat} {r0 r r' : S_} {rh0 rh ta : Int32 → Int32} {N z p0 p1 p2 : Int32} (h : EXm r0 rh0 l r) (c0 : 0 ≤ fi r 11) (hr : ∀ x : Int32, 0 ≤ x → x < fi r0 11 → rh x = rh0 x) (hn : NP l r rh ta N z l' r') (hnn : NNp r z r' p0 p1 p2) (hp : 0 ≤ p0 → (¬ p1 = -1 ↔ 0 < ar r 0 p0.toNatClampNeg) ∧ (¬ p2 = -1 ↔ 1 < ar r 0 p0.toNatClampNeg)) (hm : p0 = -1 → p1 = -1 ∧ p2 = -1) : EXm r0 rh0 l' r' := by
  obtain ⟨_, h2, h3, h4⟩ := h
  obtain ⟨rh', n1, n2, n3, n4, n5, n6, n7, n8, n9, _⟩ := hn
  have g0 : ar r' 0 = ar r 0 := n5.2.1 0 (by decide)
  refine ⟨⟨rh', ta, N, n1, fun x x0 x1 => (n2 x x0 (zo3 x1 h3.1)).trans (hr x x0 x1)⟩, ⟨n3, n4, NN_AY c0 n6 g0 hnn h2.2.2 hp hm⟩, ⟨zo2 h3.1 n7, fun e => h3.2.1 ?_, g0.trans h3.2.2⟩, fun x x0 x1 => ?_⟩
  · rcases hnn with q | q
    · rw [← q.2.2.2.1]; exact e
    · rw [e] at q
      exact absurd q.2.1 (by decide)
  · have x2 := zo3 x1 h3.1
    rw [n6 x x0 x2 21 (by decide) (by decide), n6 x x0 x2 22 (by decide) (by decide), n6 x x0 x2 23 (by decide) (by decide)]
    exact h4 x x0 x1
/-- copying, past all solutions too -/
def CPG (r0 : S_) (rh : Int32 → Int32) (U : Int32 → Prop) (l : Nat → Nat) (r : S_) : Prop := EXm r0 rh l r ∧ fi r 12 = fi r0 12 ∧ (∀ k : Int32, 0 ≤ k → k < fi r0 12 → ar r 30 k.toNatClampNeg = ar r0 30 k.toNatClampNeg) ∧ ∀ x : Int32, 0 ≤ x → x < fi r0 11 → U x → 0 ≤ ar r 29 x.toNatClampNeg ∧ ar r 29 x.toNatClampNeg < fi r 11
theorem wg_cp11 {r0 : S_} {rh ta0 : Int32 → Int32} {N0 : Int32} {a0 : L_} {U : Int32 → Prop} {p0 : Int32} (hI0 : GI a0 r0 rh ta0 N0) (ole : fi r0 12 ≤ fi r0 11) (hU : ∀ x : Int32, 0 ≤ x → x < fi r0 11 → U x → ¬ ar r0 21 x.toNatClampNeg = -2 ∧ (¬ ar r0 22 x.toNatClampNeg = -1 → U (rh (ar r0 22 x.toNatClampNeg))) ∧ (¬ ar r0 23 x.toNatClampNeg = -1 → U (rh (ar r0 23 x.toNatClampNeg)))) (hO : ∀ k : Int32, 0 ≤ k → k < fi r0 12 → (0 ≤ ar r0 30 k.toNatClampNeg ∧ ar r0 30 k.toNatClampNeg < fi r0 11) ∧ U (ar r0 30 k.toNatClampNeg)) {KX : L_ → S_ → Int32 → Prop} (hK : ∀ ad l r, CPG r0 rh U l r → KX (ad, l) r p0) : ∀ (n : Nat) (ad l : Nat → Nat) (r : S_) (i : Int32), CPG r0 rh U l r → 0 ≤ i → wG_copyOf_L11 KX n (ad, l) r p0 i := by
  intro n
  induction n with
  | zero => intro ad l r i _ _; trivial
  | succ n ih =>
    intro ad l r i h i0
    obtain ⟨ex, h12, h30, h29⟩ := h
    rw [wG_copyOf_L11]
    unfold wG_copyOf_J92
    rw [h12]
    refine ⟨fun g => hK ad l r ⟨ex, h12, h30, h29⟩, fun g _ _ => ?_⟩
    have il : i < fi r0 12 := Int32.not_le.mp g
    have c1 : 0 ≤ i + 1 := by clear ih hI0 hU hO hK ex h30 h29; grind
    obtain ⟨⟨o1, o2⟩, o3⟩ := hO i i0 il
    have u := hU _ o1 o2 o3
    rw [h30 i i0 il]
    refine ⟨fun q => ih ad l r (i + 1) ⟨ex, h12, h30, h29⟩ c1, fun q _ _ => ?_⟩
    obtain ⟨⟨rh', ta', N', gi, hr⟩, h2, h3, h4⟩ := ex
    have ex : EXm r0 rh l r := ⟨⟨rh', ta', N', gi, hr⟩, h2, h3, h4⟩
    have old := h4 _ o1 o2
    have nk := hI0.2.2.2.1 _ o1 o2
    have e21 : ar r 21 (ar r0 30 i.toNatClampNeg).toNatClampNeg = ar r0 21 (ar r0 30 i.toNatClampNeg).toNatClampNeg := old.1
    have e22 : ar r 22 (ar r0 30 i.toNatClampNeg).toNatClampNeg = ar r0 22 (ar r0 30 i.toNatClampNeg).toNatClampNeg := old.2.2 u.1
    have pz : ∀ y : Int32, -1 ≤ y → ¬ y = -1 → 0 ≤ y := fun y y0 y1 => by clear ih hI0 hU hO hK ex h30 h29 gi hr h2 h3 h4 old nk; grind
    have m1 : (-1 : Int32) < fi r 11 := by have := gi.2.1; clear ih hI0 hU hO hK ex h30 h29 gi hr h2 h3 h4 old nk; grind
    -- the parts' values
    have val : ∀ (y : Int32), -1 ≤ y → y < fi r0 11 → (¬ y = -1 → U (rh y)) → ¬ y = -1 → 0 ≤ ar r 29 (rh' y).toNatClampNeg ∧ ar r 29 (rh' y).toNatClampNeg < fi r 11 := by
      intro y y0 y1 y2 y3
      have yy := pz y y0 y3
      rw [hr y yy y1]
      have b := hI0.2.2.2.2.1.2 y yy y1
      exact h29 _ b.1 b.2.1 (y2 y3)
    rw [e22]
    -- behind both
    have fin : ∀ (r3 : S_) (z9 z12 : Int32), EXm r0 rh l r3 → GI (A0 l) r3 rh' ta' N' → Fr [] [22] r r3 → (-1 ≤ z9 ∧ z9 < fi r 11) → (z9 = -1 ↔ ar r0 22 (ar r0 30 i.toNatClampNeg).toNatClampNeg = -1) → (-1 ≤ z12 ∧ z12 < fi r 11) → (z12 = -1 ↔ ar r0 23 (ar r0 30 i.toNatClampNeg).toNatClampNeg = -1) → wG_newNode (fun z14 a16 r15 => fx (ad, l) a16 → vp_in (ar r0 30 i.toNatClampNeg) (ln a16 29) → ∀ r22 : S_, r22 = sA r15 29 (upd (ar r15 29) (ar r0 30 i.toNatClampNeg).toNatClampNeg z14) → vp_in z14 (ln a16 24) → vp_in (ar r0 30 i.toNatClampNeg) (ln a16 25) → vp_in z14 (ln a16 24) → ∀ r26 : S_, r26 = sA r22 24 (upd (ar r22 24) z14.toNatClampNeg ((ar r22 24 z14.toNatClampNeg) ||| (ar r22 25 (ar r0 30 i.toNatClampNeg).toNatClampNeg))) → (wG_copyOf_L11 KX n) a16 r26 p0 (i + 1)) (ad, l) r3 (ar r 21 (ar r0 30 i.toNatClampNeg).toNatClampNeg) z9 z12 := by
      intro r3 z9 z12 x3 g3 F3 a1 a2 b1 b2
      have f11 : fi r3 11 = fi r 11 := F3.1 11 (by simp)
      have f12 : fi r3 12 = fi r 12 := F3.1 12 (by simp)
      have a30 : ar r3 30 = ar r 30 := F3.2.1 30 (by decide)
      have a29 : ar r3 29 = ar r 29 := F3.2.1 29 (by decide)
      have a0 : ar r3 0 = ar r 0 := F3.2.1 0 (by decide)
      have ary := h2.2.2 _ o1 (zo3 o2 h3.1)
      rw [e21]
      rw [e21, e22, old.2.1] at ary
      have hh : -1 ≤ ar r0 21 (ar r0 30 i.toNatClampNeg).toNatClampNeg := by have q1 := nk.1; have q2 := u.1; clear ih hI0 hU hO hK ex h30 h29 gi hr h2 h3 h4 old nk x3 g3 F3 ary; grind
      refine ws_new (l := l) g3 x3.2.1.1 x3.2.1.2.1 hh nk.2.1 a1.1 (Or.inl (by rw [f11]; exact a1.2)) b1.1 (Or.inl (by rw [f11]; exact b1.2)) (fun z a' r4 hn hnn => ?_)
      obtain ⟨ad', l'⟩ := a'
      intro _ _ r22 e22' _ _ _ r26 e26
      have hn' := hn
      obtain ⟨rh4, n1, n2, n3, n4, n5, n6, n7, n8, n9, _⟩ := hn'
      have x4 : EXm r0 rh l' r4 := EXm_new x3 g3.2.1 hr hn hnn (fun hp => by
        rw [a0]
        have q := ary.1 hp
        exact ⟨⟨fun k => q.1.mp (fun k2 => k (a2.mpr k2)), fun k k2 => q.1.mpr k (a2.mp k2)⟩, ⟨fun k => q.2.mp (fun k2 => k (b2.mpr k2)), fun k k2 => q.2.mpr k (b2.mp k2)⟩⟩) (fun hp => by
        have q := ary.2 hp
        exact ⟨a2.mpr q.1, b2.mpr q.2⟩)
      have er : r26 = sA (sA r4 29 (upd (ar r4 29) (ar r0 30 i.toNatClampNeg).toNatClampNeg z)) 24 (upd (ar r4 24) z.toNatClampNeg (ar r4 24 z.toNatClampNeg ||| ar r4 25 (ar r0 30 i.toNatClampNeg).toNatClampNeg)) := by
        rw [e26, e22']
        rfl
      refine ih ad' l' r26 (i + 1) ⟨?_, ?_, fun k k0 k1 => ?_, fun x x0 x1 x2 => ?_⟩ c1
      · rw [er]; exact x4
      · rw [er]
        show fi r4 12 = _
        rw [n5.1 12 (by decide), f12]
        exact h12
      · rw [er]
        show ar r4 30 k.toNatClampNeg = _
        rw [n6 k k0 (by rw [f11]; exact zo3 k1 (zo2 ole h3.1)) 30 (by decide) (by decide), a30]
        exact h30 k k0 k1
      · rw [er]
        show 0 ≤ upd (ar r4 29) (ar r0 30 i.toNatClampNeg).toNatClampNeg z x.toNatClampNeg ∧ upd (ar r4 29) (ar r0 30 i.toNatClampNeg).toNatClampNeg z x.toNatClampNeg < fi r4 11
        rw [updI _ _ o1 x0]
        by_cases e : x = ar r0 30 i.toNatClampNeg
        · rw [if_pos e]; exact ⟨n8, n9⟩
        · rw [if_neg e, n6 x x0 (by rw [f11]; exact zo3 x1 h3.1) 29 (by decide) (by decide), a29]
          have q := h29 x x0 x1 x2
          exact ⟨q.1, zo3 (by rw [f11]; exact q.2) n7⟩
    have snd : ∀ (r2 : S_) (z9 : Int32), EXm r0 rh l r2 → GI (A0 l) r2 rh' ta' N' → Fr [] [22] r r2 → FS (fi r 11) (ar r 21) (ar r 22) (ar r2 22) → (-1 ≤ z9 ∧ z9 < fi r 11) → (z9 = -1 ↔ ar r0 22 (ar r0 30 i.toNatClampNeg).toNatClampNeg = -1) → wG_valueOf (ad, l) (fun z12 r13 => wG_newNode (fun z14 a16 r15 => fx (ad, l) a16 → vp_in (ar r0 30 i.toNatClampNeg) (ln a16 29) → ∀ r22 : S_, r22 = sA r15 29 (upd (ar r15 29) (ar r0 30 i.toNatClampNeg).toNatClampNeg z14) → vp_in z14 (ln a16 24) → vp_in (ar r0 30 i.toNatClampNeg) (ln a16 25) → vp_in z14 (ln a16 24) → ∀ r26 : S_, r26 = sA r22 24 (upd (ar r22 24) z14.toNatClampNeg ((ar r22 24 z14.toNatClampNeg) ||| (ar r22 25 (ar r0 30 i.toNatClampNeg).toNatClampNeg))) → (wG_copyOf_L11 KX n) a16 r26 p0 (i + 1)) (ad, l) r13 (ar r 21 (ar r0 30 i.toNatClampNeg).toNatClampNeg) z9 z12) r2 (ar r2 23 (ar r0 30 i.toNatClampNeg).toNatClampNeg) := by
      intro r2 z9 x2 g2 F2 S2 a1 a2
      have f11 : fi r2 11 = fi r 11 := F2.1 11 (by simp)
      have a23 : ar r2 23 = ar r 23 := F2.2.1 23 (by decide)
      have a29 : ar r2 29 = ar r 29 := F2.2.1 29 (by decide)
      have e23 : ar r2 23 (ar r0 30 i.toNatClampNeg).toNatClampNeg = ar r0 23 (ar r0 30 i.toNatClampNeg).toNatClampNeg := by rw [a23]; exact old.2.1
      rw [e23]
      refine ws_valueOf (a := (ad, l)) g2 nk.2.2.2.2.1 (by rw [f11]; exact zo3 nk.2.2.2.2.2.1 h3.1) (fun e => ?_) (fun e f k1 k2 => ?_)
      · exact fin r2 z9 (-1) x2 g2 F2 a1 a2 ⟨by decide, m1⟩ ⟨fun _ => e, fun _ => rfl⟩
      · have v := val _ nk.2.2.2.2.1 nk.2.2.2.2.2.1 u.2.2 e
        rw [a29]
        refine fin (sA r2 22 f) z9 _ (EXm_22 x2 hr k1 k2) k1 (Fr_trans F2 (Fr_sA (by decide))) a1 a2 ⟨by have := v.1; clear ih hI0 hU hO hK ex h30 h29 gi hr h2 h3 h4 old nk x2 g2 F2 S2 k1 k2 fin val; grind, v.2⟩ ⟨fun z => ?_, fun z => absurd z e⟩
        rw [z] at v
        exact absurd v.1 (by decide)
    refine ws_valueOf (a := (ad, l)) gi nk.2.2.1 (zo3 nk.2.2.2.1 h3.1) (fun e _ => ?_) (fun e f k1 k2 _ => ?_)
    · exact snd r (-1) ex gi (Fr_refl r) (fun _ _ _ _ => rfl) ⟨by decide, m1⟩ ⟨fun _ => e, fun _ => rfl⟩
    · have v := val _ nk.2.2.1 nk.2.2.2.1 u.2.1 e
      refine snd (sA r 22 f) _ (EXm_22 ex hr k1 k2) k1 (Fr_sA (by decide)) k2 ⟨by have := v.1; clear ih hI0 hU hO hK ex h30 h29 gi hr h2 h3 h4 old nk k1 k2 fin val snd; grind, v.2⟩ ⟨fun z => ?_, fun z => absurd z e⟩
      rw [z] at v
      exact absurd v.1 (by decide)
theorem wg_copyOf {ad l : Nat → Nat} {r : S_} {rh ta : Int32 → Int32} {N t : Int32} (hI : GI (A0 l) r rh ta N) (hp : PL l) (ay : AYc r) (hv : VB r) (hb : fi r 13 < 2000000000) (t0 : 0 ≤ t) (t1 : t < fi r 11) {K : Int32 → L_ → S_ → Prop} (hK : ∀ z ad' l' r', EXm r rh l' r' → K z (ad', l') r') : wG_copyOf K (ad, l) r t := by
  unfold wG_copyOf
  refine ws_start ?_
  have w0 := PW_start (acy := False) (rk := id) hI hv hb (fun z => z.elim)
  refine ws_walk (a := (ad, l)) (r := sF (sF r 13 (fi r 13 + 1)) 12 0) (S := fun _ => True) w0 t0 t1 (fun _ _ _ _ _ => ⟨fun _ => trivial, fun _ => trivial⟩) trivial DO0_start (fun r0 w F q3 _ _ d n => ?_)
  have f11 : fi r0 11 = fi r 11 := F.1 11 (by decide) (by decide)
  have f15 : fi r0 15 = fi r 15 := F.1 15 (by decide) (by decide)
  have e21 : ar r0 21 = ar r 21 := F.2.1 21 (by decide) (by decide) (by decide) (by decide) (by decide)
  have e23 : ar r0 23 = ar r 23 := F.2.1 23 (by decide) (by decide) (by decide) (by decide) (by decide)
  have e0 : ar r0 0 = ar r 0 := F.2.1 0 (by decide) (by decide) (by decide) (by decide) (by decide)
  have hfs : FS (fi r 11) (ar r 21) (ar r 22) (ar r0 22) := F.2.2.2.1
  have ay0 : AYc r0 := AYc_fs f11 e0 e21 e23 hfs ay
  have hI0 : GI (A0 l) r0 rh ta N := w.1
  have ole : fi r0 12 ≤ fi r0 11 := by rw [il]; exact (ordL w).2
  have cl := PW_cl w
  have b0 := hI.2.2.2.2.1.2 t t0 t1
  refine wg_cp11 (U := vs r0) hI0 ole (fun x x0 x1 hx => ?_) (fun k k0 k1 => ?_) (fun ad' l' r' h => ?_) n ad l r0 0 ⟨EXm_refl hI0 hp w.2.1 ay0, rfl, fun _ _ _ => rfl, fun x x0 x1 hx => ?_⟩ (by decide)
  · have nm := (w.2.2.2.2.1 x x0 x1 hx.2.2).1
    have q := cl x x0 x1 nm hx
    exact ⟨nm, q.1, q.2⟩
  · have b := ord_in w k0 k1
    exact ⟨⟨b.1, b.2.1⟩, b.1, b.2.1, b.2.2.2.1⟩
  · -- the end
    obtain ⟨ex, _⟩ := h
    have fin : ∀ z r2, EXm r0 rh l' r2 → K z (ad', l') r2 := by
      intro z r2 x2
      refine hK z ad' l' r2 ?_
      obtain ⟨h1, h2, h3, h4⟩ := x2
      refine ⟨?_, h2, ⟨by rw [← f11]; exact h3.1, fun e => by rw [← f15]; exact h3.2.1 e, h3.2.2.trans e0⟩, fun x x0 x1 => ?_⟩
      · obtain ⟨rh', ta', N', g, hr⟩ := h1
        exact ⟨rh', ta', N', g, fun x x0 x1 => hr x x0 (by rw [f11]; exact x1)⟩
      · have q := h4 x x0 (by rw [f11]; exact x1)
        rw [e21, e23] at q
        exact ⟨q.1, q.2.1, fun e => (q.2.2 e).trans (hfs x x0 x1 e)⟩
    have ex' := ex
    obtain ⟨⟨rh', ta', N', g, hr⟩, h2, h3, h4⟩ := ex'
    refine ws_valueOf (a := (ad', l')) g (by clear ex g hr h2 h3 h4 hI hI0 w w0 cl fin; grind) (zo3 (by rw [f11]; exact t1) h3.1) (fun e => by rw [e] at t0; exact absurd t0 (by decide)) (fun _ f k1 k2 => fin _ _ (EXm_22 ex hr k1 k2))
  · have q := w.2.2.2.2.1 x x0 x1 hx.2.2
    exact ⟨q.2.1, q.2.2.1⟩
end ZCMONO
