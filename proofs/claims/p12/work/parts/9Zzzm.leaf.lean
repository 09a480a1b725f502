/-! Typing in the class: names, methods, constants. -/
section ZLEAFC
variable {T : Tbz} {d : Nat} {e : Int32} {Γ : List En} {c t c' : Int32} {V V' : (Int32 → Ut) → Prop} {W : Int32 → Nat → Prop} {k am : Prop} {p : Int}
theorem zTY_k0 (h0 : tK T e = 0) (hV : ∀ ρ, V' ρ → V ρ) (hL : zLoc c' V') (hc : c ≤ c') (ht : 0 ≤ t ∧ t < c') (h : (zLook Γ (tA T e) = none → ∀ ρ, ¬ V' ρ) ∧ ∀ x b te K p' Γ', zLook Γ (tA T e) = some ((x, b, te, K, p'), Γ') → (b = false → t = te ∧ (∀ ρ, V ρ → V' ρ) ∧ (∀ x cl, ¬ W x cl) ∧ ¬ k ∧ ¬ am ∧ p = 0) ∧ (b = true → zCopy (zLams Γ') te K c V t c' V' W ∧ ¬ k ∧ ¬ am ∧ p = p')) : zTY T (d + 1) e Γ c V t c' V' W k am p := by
  rw [zTY]
  refine ⟨hV, Or.inr ⟨hL, hc, ht, Or.inl h0, fun _ => h, fun q => ?_, fun q => ?_, fun q => ?_, fun q => ?_, fun q => ?_⟩⟩ <;> (rw [h0] at q; exact absurd q (by decide))
theorem zTY_k4 (h0 : tK T e = 4) (hV : ∀ ρ, V' ρ → V ρ) (hL : zLoc c' V') (hc : c ≤ c') (ht : 0 ≤ t ∧ t < c') (h : ∃ w, zStat (tE T) (tM T (tA T e)) True w c V t c' V' ∧ (∀ x cl, W x cl ↔ x = w ∧ cl = (tA T e).toNatClampNeg) ∧ ¬ k ∧ ¬ am ∧ p = 1) : zTY T (d + 1) e Γ c V t c' V' W k am p := by
  rw [zTY]
  refine ⟨hV, Or.inr ⟨hL, hc, ht, Or.inr (Or.inr (Or.inr (Or.inr (Or.inl h0)))), fun q => ?_, fun q => ?_, fun q => ?_, fun q => ?_, fun _ => h, fun q => ?_⟩⟩ <;> (rw [h0] at q; exact absurd q (by decide))
theorem zTY_k5 (h0 : tK T e = 5) (hV : ∀ ρ, V' ρ → V ρ) (hL : zLoc c' V') (hc : c ≤ c') (ht : 0 ≤ t ∧ t < c') (h : ∃ w, zStat (tE T) (tA T e) False w c V t c' V' ∧ (∀ x cl, ¬ W x cl) ∧ ¬ k ∧ ¬ am ∧ p = 0) : zTY T (d + 1) e Γ c V t c' V' W k am p := by
  rw [zTY]
  refine ⟨hV, Or.inr ⟨hL, hc, ht, Or.inr (Or.inr (Or.inr (Or.inr (Or.inr h0)))), fun q => ?_, fun q => ?_, fun q => ?_, fun q => ?_, fun q => ?_, fun _ => h⟩⟩ <;> (rw [h0] at q; exact absurd q (by decide))
theorem pz0 {y : Int32} (y0 : -1 ≤ y) (y1 : ¬ y = -1) : 0 ≤ y := by grind
theorem nwL {c c' : Int32} (h0 : 0 ≤ c) (h : c ≤ c') : ∃ L : List Int32, (L.length : Int) = c'.toInt - c.toInt ∧ ∀ x : Int32, c ≤ x → x < c' → x ∈ L := by
  have q0 := h0
  have q := h
  rw [il] at q0 q
  have z0 : (0 : Int32).toInt = 0 := rfl
  rw [z0] at q0
  have ub := ir c'
  refine ⟨(List.range (c'.toInt - c.toInt).toNat).map (fun i => Int32.ofNat (c.toInt.toNat + i)), by simp; omega, fun x x0 x1 => ?_⟩
  rw [il] at x0
  rw [it] at x1
  refine List.mem_map.mpr ⟨(x.toInt - c.toInt).toNat, List.mem_range.mpr (by omega), ?_⟩
  have e1 := (ofNs (n := c.toInt.toNat + (x.toInt - c.toInt).toNat) (by omega)).1
  apply Int32.toInt_inj.mp
  rw [e1]
  omega
theorem rm16 {E m : Nat} {f : Int} (h : 9 * f + ((E + 2) * mt m : Nat) ≤ 36882) (hE : 16 ≤ E) (m1 : 1 ≤ m) (m2 : m ≤ 24) : f + E ≤ 4096 ∧ 9 * (E + 2) ≤ (E + 2) * mt m ∧ 9 * (E + 2) ≤ (E + 2) * qt m := by
  have a := (mt_rng m1 m2).1
  have b := (qt_rng m1 m2).1
  have c := Nat.mul_le_mul_left (E + 2) a
  have d := Nat.mul_le_mul_left (E + 2) b
  refine ⟨by omega, by omega, by omega⟩
theorem ws_copy2 {ad l : Nat → Nat} {r : S_} {rh ta rk : Int32 → Int32} {N t : Int32} (hI : GI (A0 l) r rh ta N) (hp : PL l) (ay : AYc r) (hv : VB r) (hb : fi r 13 < 2000000000) (ac : ACY (fi r 11) (ar r 21) (ar r 22) (ar r 23) rh rk) (t0 : 0 ≤ t) (t1 : t < fi r 11) (hE : ∀ L : List Int32, L.Nodup → (∀ y, y ∈ L → Rq r rh t y ∧ ar r 26 y.toNatClampNeg = 1) → (fi r 11).toInt + L.length ≤ 4096) {K : Int32 → L_ → S_ → Prop} (hK : ∀ z ad' l' r' rh' ta' N' m, GI (A0 l') r' rh' ta' N' → SG l' r' → CPF r r' rh rh' t z m → Fcp r r' → 0 ≤ z → z < fi r' 11 → K z (ad', l') r') : wG_copyOf K (ad, l) r t := by
  obtain ⟨z0, l0, r0, k, s, P, _, _, h⟩ := copyOf_D hI hp hv hb t0 t1
  have q := h ad (fun z a r' => z = z0 ∧ a.2 = l0 ∧ r' = r0) (fun _ _ => ⟨rfl, rfl, rfl⟩)
  refine wq_G_copyOf (K := fun z a r' => z = z0 ∧ a.2 = l0 ∧ r' = r0) (K2 := fun z a r' => ∃ rh' ta' N' m, GI (A0 a.2) r' rh' ta' N' ∧ CPF r r' rh rh' t z m) (fun z a r' h1 h2 => ?_) q (ws_copyOf hI hp ay hv hb ac t0 t1 hE (fun z ad' l' r' rh' ta' N' m x _ y => ⟨rh', ta', N', m, x, y⟩))
  obtain ⟨ad', l'⟩ := a
  obtain ⟨rh', ta', N', m, g1, g2⟩ := h2
  have e2 : l' = l0 := h1.2.1
  refine hK z ad' l' r' rh' ta' N' m g1 ?_ g2 ?_ ?_ ?_
  · rw [e2, h1.2.2]; exact ⟨P.1.1, P.1.2.1, P.1.2.2.1⟩
  · rw [h1.2.2]; exact P.1.2.2.2.1
  · rw [h1.1]; exact P.1.2.2.2.2.2.1
  · rw [h1.1, h1.2.2]; exact P.1.2.2.2.2.2.2.1
theorem TYc_name {ad l : Nat → Nat} {r : S_} {rh ta : Int32 → Int32} {N e : Int32} {A : Int32 → Prop} {E m d : Nat} {K : Int32 → L_ → S_ → Prop} (w : TP0 l r m) (hI : GI (A0 l) r rh ta N) (m1 : 1 ≤ m) (m2 : m ≤ 24) (pr : PRc r rh Γ A E m) (hk : ar r 12 e.toNatClampNeg = 0) (hK : ∀ z ad' l' r', PSc r rh Γ A E m (d + 1) e z l' r' → K z (ad', l') r') : wY_typeOfName K (ad, l) r (ar r 13 e.toNatClampNeg) := by
  obtain ⟨y, ay, ty, ar2, h13, h5, h60, h6⟩ := w
  obtain ⟨⟨ρ0, v0⟩, eg, hA, hlm, lts, bk, rm, hE⟩ := pr
  have hT := y.2.1
  have c0 := SG_c y.1
  obtain ⟨rm1, rm2, rm3⟩ := rm16 rm hE m1 m2
  have b13 : fi r 13 < 2000000000 := by rw [it]; simp; omega
  obtain ⟨lk1, lk2⟩ := EQ_look (x := ar r 13 e.toNatClampNeg) Γ eg.1 lts
  refine ws_name hT.1 (fun j j0 j1 e1 i => ?_) (fun hn => ?_)
  · have jn := i_nat j0
    have j1' := j1
    rw [it] at j1'
    have eg2 := eg.2
    obtain ⟨en, Γ', g1, g2, g3, g4, g5⟩ := lk2 j.toNatClampNeg (by omega) e1 (fun n n0 n1 => by
      have q := ofNs (n := n) (by have := ir (fi r 5); omega)
      have := i (Int32.ofNat n) (by rw [it, q.1]; omega) (by rw [it, q.1]; omega)
      rw [q.2.2] at this
      exact this)
    obtain ⟨x, b, te, Kk, p'⟩ := en
    have q := g3.1
    rw [g2] at q
    have e18 : ar r 18 j.toNatClampNeg = te := q.2.1
    have tr := hT.2.2.2.2.2 j j0 j1
    refine ⟨fun e2 => ?_, fun e2 => ?_⟩
    · have hb : b = false := q.2.2.1.mpr e2
      have hl : zLams Γ te := g5 te ⟨_, List.mem_cons_self .., hb, rfl⟩
      rw [e18]
      rw [e18] at tr
      refine hK te ad l r ⟨te, fi r 11, fun _ _ => False, False, False, 0, zTY_k0 hk (fun _ h => h) (SG_loc y.1) (Int32.le_refl _) tr ⟨fun hn => ?_, fun x2 b2 te2 K2 p2 Γ2 hl2 => ?_⟩, ⟨SG_loc y.1, Int32.le_refl _, tr⟩, by omega, fun _ => ⟨rfl, rfl, rh, ta, N, hI, ⟨⟨by simp, by simp, by simp⟩, bk, ⟨A, FRM_refl (a := A0 l) (ta := ta) (N := N) hA, (hlm te hl).2, ⟨fun _ _ h => h.elim, fun x x0 x1 c => ⟨fun h => Or.inl ⟨x1, h⟩, fun h => h.elim (fun k => k.2) (fun k => k.elim)⟩⟩, [], fun x h => Or.inl h, by simp; omega⟩, by omega⟩⟩⟩
      · have hn' : zLook Γ (ar r 13 e.toNatClampNeg) = none := hn
        rw [g1] at hn'
        exact absurd hn' (by simp)
      · have hl3 : zLook Γ (ar r 13 e.toNatClampNeg) = some ((x2, b2, te2, K2, p2), Γ2) := hl2
        rw [g1] at hl3
        simp only [Option.some.injEq, Prod.mk.injEq] at hl3
        obtain ⟨⟨_, q2, q3, _⟩, _⟩ := hl3
        refine ⟨fun _ => ⟨q3, fun _ h => h, fun _ _ h => h, fun h => h, fun h => h, rfl⟩, fun h => ?_⟩
        rw [← q2, hb] at h
        exact absurd h (by decide)
    · have hb : b = true := by
        cases hh : b with
        | true => rfl
        | false => exact absurd (q.2.2.1.mp hh) e2
      obtain ⟨u1, u2, u3, u4, u5, u6⟩ := g4.1 hb
      have u2' : ∀ x, Rq r rh te x → ¬ ar r 26 x.toNatClampNeg = 1 → DET (cV r) Γ' x ∧ A x := u2
      have e19 : ar r 19 j.toNatClampNeg = Int32.ofInt p' := q.2.2.2 hb
      obtain ⟨rk, ac⟩ := VC_acy hI ay v0.2
      rw [e18]
      rw [e18] at tr
      have hl' : ∀ y, zLams Γ' y → (0 ≤ y ∧ y < fi r 11) ∧ A (rh y) := fun y hy => by
        obtain ⟨e3, y1, y2⟩ := hy
        exact hlm y (g5 y ⟨e3, List.mem_cons_of_mem _ y1, y2⟩)
      refine ws_copy2 (r := sF r 8 (fi r 8 + ar r 19 j.toNatClampNeg)) hI y.1.2.1 ay y.1.2.2 b13 ac tr.1 tr.2 (fun L l1 l2 => ?_) (fun z ad' l' r' rh' ta' N' mm g hS cp f z0 z1 _ => ?_)
      · have := u6 L l1 l2
        show (fi r 11).toInt + L.length ≤ 4096
        omega
      have zc : zCopy (zLams Γ') te Kk (fi r 11) (cV r) z (fi r' 11) (cV r') (fun x c => (fi r 11 ≤ x ∧ x < fi r' 11) ∧ gb (ar r' 24 x.toNatClampNeg) c = true) := zcop_cls (r := sF r 8 (fi r 8 + ar r 19 j.toNatClampNeg)) hI g ay tr.1 tr.2 cp (fun x hx => (hl' x hx).1) (fun x h1 h2 => (u2' x h1 h2).1) (fun x v hx hv hp => (hA.2 v (LV_Rq hA (hl' x hx).2 hv)).2.2.1 hp.2) u3 u4 u5
      have cp' : CPF r r' rh rh' te z mm := cp
      obtain ⟨ez, c1, c2, c3, c4, c5, c6, L, l1, l2, l3⟩ := cp'
      have hV : ∀ ρ, cV r' ρ → cV r ρ := fun ρ v => ⟨by rw [← c6]; exact v.1, VC_old hI g c5 (fun x x0 x1 => (c2 x x0 x1).2.2) (fun x x0 x1 => ⟨(c2 x x0 x1).1.1, (c2 x x0 x1).1.2.1, (c2 x x0 x1).2.1⟩) v.2⟩
      have LE : L.length ≤ E := u6 L l1 l2
      have nwr : ∀ x, Rq r rh te x → ar r 26 x.toNatClampNeg = 1 → rh' (mm x) = mm x := fun x h1 h2 => by
        have k := (c1 x h1).1 h2
        exact (g.2.2.2.2.1.2 _ (zo2 c0.1 k.1.1) k.1.2).2.2.2.1 (by rw [k.2.1]; exact (Rq_in hI tr.1 tr.2 h1).2.1)
      have fl : ∀ y : Int32, -1 ≤ y → y < fi r 11 → (¬ y = -1 → Rq r rh te (rh y)) → ¬ cc rh mm y = -1 → A (rh' (cc rh mm y)) ∨ (fi r 11 ≤ rh' (cc rh mm y) ∧ rh' (cc rh mm y) < fi r' 11) := by
        intro y y0 y1 y2 y3
        have yn : ¬ y = -1 := fun q => y3 (by unfold cc; rw [if_pos q])
        have yy : 0 ≤ y := pz0 y0 yn
        have h := y2 yn
        have b := hI.2.2.2.2.1.2 y yy y1
        unfold cc
        rw [if_neg yn]
        by_cases o : ar r 26 (rh y).toNatClampNeg = 1
        · rw [nwr _ h o]
          exact Or.inr ((c1 _ h).1 o).1
        · rw [(c1 _ h).2 o, (c2 _ b.1 b.2.1).2.2, (hI.2.2.2.2.1.2 _ b.1 b.2.1).2.2.2.1 b.2.2.1]
          exact Or.inl (u2' _ h o).2
      have fm : FRM r rh A r' rh' (fun x => A x ∨ (fi r 11 ≤ x ∧ x < fi r' 11)) := FRM_ext hI hA c5 (fun x x0 x1 => (c2 x x0 x1).2.2) (fun x x0 x1 => ⟨⟨(c2 x x0 x1).1.1, (c2 x x0 x1).1.2.1, (c2 x x0 x1).1.2.2.2.1, (c2 x x0 x1).1.2.2.2.2.1⟩, (c2 x x0 x1).2.1⟩) hV (fun x hx => by
        obtain ⟨y, y1, y2, y3⟩ := c3 x hx.1 hx.2
        have k := (c1 y y1).1 y2
        have b := Rq_in hI tr.1 tr.2 y1
        have n := hI.2.2.2.1 y b.1.1 b.1.2
        have cl := Rq_cl (r := r) (rh := rh) (x := te) y b.1.1 b.1.2 b.2.1 y1
        rw [← y3, k.2.1, k.2.2.1, k.2.2.2.1, k.2.2.2.2.2.1, k.2.2.2.2.2.2.1]
        exact ⟨k.1, ⟨b.2.1, by decide, rfl⟩, fl _ n.2.2.1 n.2.2.2.1 cl.1, fl _ n.2.2.2.2.1 n.2.2.2.2.2.1 cl.2⟩)
      have bt := hI.2.2.2.2.1.2 te tr.1 tr.2
      refine hK z ad' l' r' ⟨z, fi r' 11, fun x c => (fi r 11 ≤ x ∧ x < fi r' 11) ∧ gb (ar r' 24 x.toNatClampNeg) c = true, False, False, p', zTY_k0 hk hV (SG_loc hS) c5 ⟨z0, z1⟩ ⟨fun hn => ?_, fun x2 b2 te2 K2 p2 Γ2 hl2 => ?_⟩, ⟨SG_loc hS, c5, z0, z1⟩, by have := (SG_c hS).2; omega, fun _ => ⟨rfl, rfl, rh', ta', N', g, ⟨⟨?_, ?_, ?_⟩, fun x x0 x1 => ?_, ⟨_, fm, ?_, ⟨fun x c hx => ?_, fun x x0 x1 c => ?_⟩, ?_⟩, ?_⟩⟩⟩
      · have hn' : zLook Γ (ar r 13 e.toNatClampNeg) = none := hn
        rw [g1] at hn'
        exact absurd hn' (by simp)
      · have hl3 : zLook Γ (ar r 13 e.toNatClampNeg) = some ((x2, b2, te2, K2, p2), Γ2) := hl2
        rw [g1] at hl3
        simp only [Option.some.injEq, Prod.mk.injEq] at hl3
        obtain ⟨⟨_, q2, q3, q4, q5⟩, q6⟩ := hl3
        subst q3
        subst q4
        subst q5
        subst q6
        refine ⟨fun h => ?_, fun _ => ⟨zc, fun h => h, fun h => h, rfl⟩⟩
        rw [← q2, hb] at h
        exact absurd h (by decide)
      · have f9 : fi r' 9 = fi r 9 := f.1 9 (by decide)
        rw [f9]; simp
      · have f10 : fi r' 10 = fi r 10 := f.1 10 (by decide)
        rw [f10]; simp
      · have f8 : fi r' 8 = fi r 8 + ar r 19 j.toNatClampNeg := f.1 8 (by decide)
        rw [f8, e19]
      · have f6 : fi r' 6 = fi r 6 := f.1 6 (by decide)
        rw [f6]
        by_cases hx : x < fi r 11
        · rw [(c2 x x0 hx).1.2.2.2.2.2, (c2 x x0 hx).1.2.2.2.1]
          exact bk x x0 hx
        · obtain ⟨y, y1, y2, y3⟩ := c3 x (Int32.not_lt.mp hx) x1
          have k := (c1 y y1).1 y2
          rw [← y3, k.2.2.2.2.2.2.2, k.2.2.2.2.2.1]
          exact ⟨h60, fun c h => by rw [gb_0] at h; exact absurd h (by decide)⟩
      · rw [ez]
        by_cases o : ar r 26 (rh te).toNatClampNeg = 1
        · rw [nwr _ Rq_0 o]
          exact Or.inr ((c1 _ Rq_0).1 o).1
        · rw [(c1 _ Rq_0).2 o, (c2 _ bt.1 bt.2.1).2.2, (hI.2.2.2.2.1.2 _ bt.1 bt.2.1).2.2.2.1 bt.2.2.1]
          exact Or.inl (u2' _ Rq_0 o).2
      · obtain ⟨y, y1, y2, y3⟩ := c3 x hx.1.1 hx.1.2
        have k := (c1 y y1).1 y2
        have b := Rq_in hI tr.1 tr.2 y1
        have h2 := hx.2
        rw [← y3, k.2.2.2.2.1] at h2
        refine ⟨⟨zo2 c0.1 hx.1.1, hx.1.2⟩, ?_, (bk y b.1.1 b.1.2).2 c h2, fun q => absurd (zo3 q hx.1.1) irr⟩
        rw [← y3, nwr y y1 y2]
        exact Or.inr k.1
      · by_cases hx : x < fi r 11
        · rw [(c2 x x0 hx).1.2.2.1]
          exact ⟨fun h => Or.inl ⟨hx, h⟩, fun h => h.elim (fun k => k.2) (fun k => absurd (zo3 hx k.1.1) irr)⟩
        · exact ⟨fun h => Or.inr ⟨⟨Int32.not_lt.mp hx, x1⟩, h⟩, fun h => h.elim (fun k => absurd k.1 hx) (fun k => k.2)⟩
      · obtain ⟨M, n1, n2⟩ := nwL c0.1 c5
        have l3' : (fi r' 11).toInt = (fi r 11).toInt + L.length := l3
        exact ⟨M, fun x hx => hx.elim Or.inl (fun k => Or.inr (n2 x k.1 k.2)), by omega⟩
      · have l3' : (fi r' 11).toInt = (fi r 11).toInt + L.length := l3
        omega
  · refine MO_new (r := sF r 15 1) y.1 ay (by decide) (by decide) (by decide) (Or.inr rfl) (by decide) (Or.inr rfl) (fun z => absurd z (by decide)) (fun _ => ⟨rfl, rfl⟩) (fun z ad' l' r' mo f _ z0 z1 _ => ?_)
    have nv : ∀ ρ, ¬ cV r' ρ := fun ρ v => absurd (mo.2.2.1 ρ v).1 (by show ¬ (1 : Int32) = 0; decide)
    have lk := lk1 (fun n hn' h => by
      have q := ofNs (n := n) (by have := ir (fi r 5); have := eg.2; omega)
      exact hn (Int32.ofNat n) q.2.1 (by rw [it, q.1]; have := eg.2; omega) (by rw [q.2.2]; exact h))
    refine hK z ad' l' r' ⟨z, fi r' 11, fun _ _ => False, False, False, 0, zTY_k0 hk (fun ρ v => absurd v (nv ρ)) (SG_loc mo.1) mo.2.2.2 ⟨z0, z1⟩ ⟨fun _ => nv, fun x2 b2 te2 K2 p2 Γ2 hl2 => ?_⟩, ⟨SG_loc mo.1, mo.2.2.2, z0, z1⟩, by have := (SG_c mo.1).2; omega, fun ⟨ρ, v⟩ => absurd v (nv ρ)⟩
    have hl3 : zLook Γ (ar r 13 e.toNatClampNeg) = some ((x2, b2, te2, K2, p2), Γ2) := hl2
    rw [lk] at hl3
    exact absurd hl3 (by simp)
end ZLEAFC
