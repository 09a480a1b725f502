/-! Typing in the class: methods and constants. -/
section ZLEAFD
theorem FRM_EXT {a : L_} {l' : Nat → Nat} {r r' : S_} {rh rh' ta : Int32 → Int32} {N : Int32} {A : Int32 → Prop} (hI : GI a r rh ta N) (hA : LV r rh A) (x : EXT (fi r 11) r rh l' r' rh') (hV : ∀ ρ, cV r' ρ → cV r ρ) : FRM r rh A r' rh' (fun x => A x ∨ (fi r 11 ≤ x ∧ x < fi r' 11)) := by
  obtain ⟨⟨ta', N', g⟩, a2, a3, a4, a5, a6, a7⟩ := x
  have c0 := hI.2.1
  have rt : ∀ y : Int32, fi r 11 ≤ y → y < fi r' 11 → rh' y = y := fun y y0 y1 => (g.2.2.2.2.1.2 y (zo2 c0 y0) y1).2.2.2.1 (a6 y y0 y1).1.1
  refine FRM_ext hI hA a4.1 a3 (fun x x0 x1 => ⟨⟨a5 x x0 x1 21 (by decide) (by decide), a5 x x0 x1 23 (by decide) (by decide), a5 x x0 x1 25 (by decide) (by decide), a5 x x0 x1 26 (by decide) (by decide)⟩, fun _ => a5 x x0 x1 22 (by decide) (by decide)⟩) hV (fun x hx => ?_)
  have k := a6 x hx.1 hx.2
  have n := g.2.2.2.1 x (zo2 c0 hx.1) hx.2
  refine ⟨hx, ⟨k.1.1, by rw [k.1.2.2.2.1]; decide, k.1.2.2.1⟩, fun e => ?_, fun e => ?_⟩
  · have q := k.2.1.resolve_left e
    rw [rt _ q n.2.2.2.1]
    exact Or.inr ⟨q, n.2.2.2.1⟩
  · have q := k.2.2.resolve_left e
    rw [rt _ q n.2.2.2.2.2.1]
    exact Or.inr ⟨q, n.2.2.2.2.2.1⟩
theorem BK_EXT {l' : Nat → Nat} {r r' : S_} {rh rh' : Int32 → Int32} (h6 : 0 ≤ (fi r 6).toInt) (x : EXT (fi r 11) r rh l' r' rh') (b : BK r) : BK r' := by
  obtain ⟨_, a2, a3, a4, a5, a6, a7⟩ := x
  have e6 : fi r' 6 = fi r 6 := a7.1 6 (by decide)
  intro y y0 y1
  rw [e6]
  by_cases h : y < fi r 11
  · rw [a5 y y0 h 27 (by decide) (by decide), a5 y y0 h 25 (by decide) (by decide)]
    exact b y y0 h
  · have k := a6 y (Int32.not_lt.mp h) y1
    rw [k.1.2.2.2.2, k.1.2.2.1]
    exact ⟨h6, fun c q => by rw [gb_0] at q; exact absurd q (by decide)⟩
theorem EXT_SG {cs : Int32} {l' : Nat → Nat} {r r' : S_} {rh rh' : Int32 → Int32} (x : EXT cs r rh l' r' rh') : SG l' r' := by
  obtain ⟨⟨ta', N', g⟩, a2, _⟩ := x
  exact ⟨⟨rh', ta', N', g⟩, a2.1, a2.2.1⟩
theorem TYc_con {ad l : Nat → Nat} {r : S_} {rh ta : Int32 → Int32} {N e : Int32} {Γ : List En} {A : Int32 → Prop} {E m d : Nat} {K : Int32 → L_ → S_ → Prop} (w : TP0 l r m) (hI : GI (A0 l) r rh ta N) (m1 : 1 ≤ m) (m2 : m ≤ 24) (pr : PRc r rh Γ A E m) (hk : ar r 12 e.toNatClampNeg = 5) (q1 : 0 ≤ ar r 13 e.toNatClampNeg) (q2 : ar r 13 e.toNatClampNeg < fi r 1) (hK : ∀ z ad' l' r', PSc r rh Γ A E m (d + 1) e z l' r' → K z (ad', l') r') : wY_freshCopy K (ad, l) r (ar r 13 e.toNatClampNeg) := by
  obtain ⟨y, ay, ty, ar2, h13, h5, h60, h6⟩ := w
  obtain ⟨⟨ρ0, v0⟩, eg, hA, hlm, lts, bk, rm, hE⟩ := pr
  have c0 := SG_c y.1
  obtain ⟨rm1, rm2, rm3⟩ := rm16 rm hE m1 m2
  have b16 := (y.2.2.1.2.2.2 _ q1 q2).2.2.2.1.2
  rw [il, show (16 : Int32).toInt = 16 from rfl] at b16
  refine ws_freshCopy y.2.2.1.2.1.2.2.2.2.2.2 hI y.1.2.1 y.1.2.2 ay ty q1 q2 (by omega) (fun z ad' l' r' rh' x n pz _ hV st => ?_)
  have hS := EXT_SG x
  have fm := FRM_EXT hI hA x hV
  obtain ⟨⟨ta', N', g⟩, a2, a3, a4, a5, a6, a7⟩ := x
  have x : EXT (fi r 11) r rh l' r' rh' := ⟨⟨ta', N', g⟩, a2, a3, a4, a5, a6, a7⟩
  have z0 : 0 ≤ z := zo2 c0.1 pz.1
  refine hK z ad' l' r' ⟨z, fi r' 11, fun _ _ => False, False, False, 0, zTY_k5 hk hV (SG_loc hS) a4.1 ⟨z0, pz.2.1⟩ ⟨ar r' 20 0, st False (fun h => h.elim), fun _ _ h => h, fun h => h, fun h => h, rfl⟩, ⟨SG_loc hS, a4.1, z0, pz.2.1⟩, by have := (SG_c hS).2; omega, fun _ => ⟨rfl, rfl, rh', ta', N', g, ⟨⟨?_, ?_, ?_⟩, BK_EXT h60 x bk, ⟨_, fm, ?_, ⟨fun _ _ h => h.elim, fun x x0 x1 c => ?_⟩, ?_⟩, ?_⟩⟩⟩
  · rw [a7.1 9 (by decide)]; simp
  · rw [a7.1 10 (by decide)]; simp
  · rw [a7.1 8 (by decide)]; simp
  · rw [pz.2.2]; exact Or.inr ⟨pz.1, pz.2.1⟩
  · by_cases hx : x < fi r 11
    · rw [a5 x x0 hx 24 (by decide) (by decide)]
      exact ⟨fun h => Or.inl ⟨hx, h⟩, fun h => h.elim (fun k => k.2) (fun k => k.elim)⟩
    · rw [(a6 x (Int32.not_lt.mp hx) x1).1.2.1, gb_0]
      exact ⟨fun h => absurd h (by decide), fun h => h.elim (fun k => absurd k.1 hx) (fun k => k.elim)⟩
  · obtain ⟨M, n1, n2⟩ := nwL c0.1 a4.1
    exact ⟨M, fun x hx => hx.elim Or.inl (fun k => Or.inr (n2 x k.1 k.2)), by omega⟩
  · omega
theorem TYc_meth {ad l : Nat → Nat} {r : S_} {rh ta : Int32 → Int32} {N e : Int32} {Γ : List En} {A : Int32 → Prop} {E m d : Nat} {K : Int32 → L_ → S_ → Prop} (w : TP0 l r m) (hI : GI (A0 l) r rh ta N) (m1 : 1 ≤ m) (m2 : m ≤ 24) (pr : PRc r rh Γ A E m) (hk : ar r 12 e.toNatClampNeg = 4) (e1 : 0 ≤ ar r 13 e.toNatClampNeg) (e2 : ar r 13 e.toNatClampNeg < 8) (q1 : 0 ≤ ar r 8 (ar r 13 e.toNatClampNeg).toNatClampNeg) (q2 : ar r 8 (ar r 13 e.toNatClampNeg).toNatClampNeg < fi r 1) (q3 : ¬ ar r 5 (ar r 8 (ar r 13 e.toNatClampNeg).toNatClampNeg).toNatClampNeg &&& 1 = 0) (hK : ∀ z ad' l' r', PSc r rh Γ A E m (d + 1) e z l' r' → K z (ad', l') r') : wY_typeOfMethod K (ad, l) r (ar r 13 e.toNatClampNeg) := by
  obtain ⟨y, ay, ty, ar2, h13, h5, h60, h6⟩ := w
  obtain ⟨⟨ρ0, v0⟩, eg, hA, hlm, lts, bk, rm, hE⟩ := pr
  have c0 := SG_c y.1
  obtain ⟨rm1, rm2, rm3⟩ := rm16 rm hE m1 m2
  have b16 := (y.2.2.1.2.2.2 _ q1 q2).2.2.2.1.2
  rw [il, show (16 : Int32).toInt = 16 from rfl] at b16
  have ci := cin0 y.2.2.1 ty ((ar r 8 (ar r 13 e.toNatClampNeg).toNatClampNeg).toInt.toNat + 1) _ q1 q2 (by omega) q3
  unfold wY_typeOfMethod wK_methodOf
  intro _
  refine ws_freshCopy y.2.2.1.2.1.2.2.2.2.2.2 hI y.1.2.1 y.1.2.2 ay ty q1 q2 (by omega) (fun z ad' l' r' rh' x n pz f0 hV st => ?_)
  have hS := EXT_SG x
  have fm := FRM_EXT hI hA x hV
  have bk' := BK_EXT h60 x bk
  obtain ⟨⟨ta', N', g⟩, a2, a3, a4, a5, a6, a7⟩ := x
  have z0 : 0 ≤ z := zo2 c0.1 pz.1
  have w0 := f0 ci
  have wn : ¬ ar r' 20 0 = -1 := fun q => by rw [q] at w0; exact absurd (zo2 c0.1 w0.1) (by decide)
  have w00 : 0 ≤ ar r' 20 0 := zo2 c0.1 w0.1
  intro _ _
  unfold wY_typeOfMethod_J43
  refine ⟨fun q => absurd q wn, fun _ _ _ _ r15 e15 r11 e11 => ?_⟩
  subst e15
  subst e11
  have wr : rh' (ar r' 20 0) = ar r' 20 0 := (g.2.2.2.2.1.2 _ w00 w0.2.1).2.2.2.1 (by rw [w0.2.2]; decide)
  have bit : ∀ i, gb ((0 : Int32) ||| ((1 : Int32) <<< (ar r 13 e.toNatClampNeg &&& 31))) i = true ↔ i = (ar r 13 e.toNatClampNeg).toNatClampNeg := by
    intro i
    rw [gb_or, gb_0, Bool.false_or]
    have q8 : (ar r 13 e.toNatClampNeg).toNatClampNeg < 8 := d_lt e1 e2
    constructor
    · intro h
      have := gb_one e1 e2 (gb_lt h)
      rw [this] at h
      simpa using h
    · intro h
      rw [gb_one e1 e2 (by omega)]
      simpa using h
  have q8 : (ar r 13 e.toNatClampNeg).toNatClampNeg < 8 := d_lt e1 e2
  have fm4 : FRM r rh A (sF (sA r' 24 (upd (ar r' 24) (ar r' 20 0).toNatClampNeg (ar r' 24 (ar r' 20 0).toNatClampNeg ||| (1 <<< (ar r 13 e.toNatClampNeg &&& 31))))) 8 (fi r' 8 + 1)) rh' (fun x => A x ∨ (fi r 11 ≤ x ∧ x < fi r' 11)) := fm
  refine hK z ad' l' (sF (sA r' 24 (upd (ar r' 24) (ar r' 20 0).toNatClampNeg (ar r' 24 (ar r' 20 0).toNatClampNeg ||| (1 <<< (ar r 13 e.toNatClampNeg &&& 31))))) 8 (fi r' 8 + 1)) ⟨z, fi r' 11, fun x c => x = ar r' 20 0 ∧ c = (ar r 13 e.toNatClampNeg).toNatClampNeg, False, False, 1, zTY_k4 hk hV (SG_loc hS) a4.1 ⟨z0, pz.2.1⟩ ⟨ar r' 20 0, st True (fun _ => ci), fun _ _ => Iff.rfl, fun h => h, fun h => h, rfl⟩, ⟨SG_loc hS, a4.1, z0, pz.2.1⟩, by have := (SG_c hS).2; omega, fun _ => ⟨rfl, rfl, rh', ta', N', g, ⟨⟨?_, ?_, ?_⟩, bk', ⟨fun x => A x ∨ (fi r 11 ≤ x ∧ x < fi r' 11), fm4, ?_, ⟨fun x c hx => ?_, fun x x0 x1 c => ?_⟩, ?_⟩, ?_⟩⟩⟩
  · show ¬ fi r' 9 = 0 ↔ _
    rw [a7.1 9 (by decide)]; simp
  · show ¬ fi r' 10 = 0 ↔ _
    rw [a7.1 10 (by decide)]; simp
  · show fi r' 8 + 1 = _
    rw [a7.1 8 (by decide)]; rfl
  · rw [pz.2.2]; exact Or.inr ⟨pz.1, pz.2.1⟩
  · rw [hx.1, hx.2, wr]
    exact ⟨⟨w00, w0.2.1⟩, Or.inr ⟨w0.1, w0.2.1⟩, q8, fun q => absurd (zo3 q w0.1) irr⟩
  · have x1' : x < fi r' 11 := x1
    show gb (upd (ar r' 24) (ar r' 20 0).toNatClampNeg (ar r' 24 (ar r' 20 0).toNatClampNeg ||| (1 <<< (ar r 13 e.toNatClampNeg &&& 31))) x.toNatClampNeg) c = true ↔ _
    rw [updI _ _ w00 x0]
    by_cases hx : x < fi r 11
    · rw [if_neg (fun q => by rw [q] at hx; exact irr (zo3 hx w0.1)), a5 x x0 hx 24 (by decide) (by decide)]
      exact ⟨fun h => Or.inl ⟨hx, h⟩, fun h => h.elim (fun k => k.2) (fun k => absurd k.1 (fun q => by rw [q] at hx; exact irr (zo3 hx w0.1)))⟩
    · by_cases q : x = ar r' 20 0
      · rw [if_pos q, (a6 _ w0.1 w0.2.1).1.2.1, bit c]
        exact ⟨fun h => Or.inr ⟨q, h⟩, fun h => h.elim (fun k => absurd k.1 hx) (fun k => k.2)⟩
      · rw [if_neg q, (a6 x (Int32.not_lt.mp hx) x1').1.2.1, gb_0]
        exact ⟨fun h => absurd h (by decide), fun h => h.elim (fun k => absurd k.1 hx) (fun k => absurd k.1 q)⟩
  · obtain ⟨M, n1, n2⟩ := nwL c0.1 a4.1
    exact ⟨M, fun x hx => hx.elim Or.inl (fun k => Or.inr (n2 x k.1 k.2)), by omega⟩
  · show 9 * ((fi r' 11).toInt - (fi r 11).toInt + 2) ≤ _
    omega
end ZLEAFD
