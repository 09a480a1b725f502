/-! The class's run: what it comes to. -/
section ZRUNC
/-- what is left where there is a type: r' behind all, of the graph of r1 -/
def FIN (r0 : S_) (m : Nat) (e z : Int32) (l' : Nat → Nat) (r' : S_) : Prop := ∃ (rh ta : Int32 → Int32) (N t : Int32) (W : Int32 → Nat → Prop) (k am : Prop) (p p0 : Int) (W' : Int32 → Nat → Prop) (k' am' : Prop), zTY (ctb r0) 26 e [] (fi r0 11) (cV r0) t (fi r' 11) (cV r') W k am p ∧ (∃ ρ, cV r' ρ) ∧ zLet (ctb r0) [] (fi r' 11) (cV r') t W k am (LEK r' rh t) p0 W' k' am' ∧ ((z = -4 ∧ k') ∨ (z = -5 ∧ ¬ k' ∧ am') ∨ (z = 0 ∧ ¬ k' ∧ ¬ am')) ∧ GI (A0 l') r' rh ta N ∧ (SG l' r' ∧ AYc r') ∧ (0 ≤ t ∧ t < fi r' 11) ∧ fi r' 7 = t ∧ fi r' 8 = Int32.ofInt p ∧ (∀ x, Rq r' rh t x → ar r' 21 x.toNatClampNeg = -1 → ar r' 26 x.toNatClampNeg = 1) ∧ BK r' ∧ (∀ x c, ¬ W' x c) ∧ ar r' 0 = ar r0 0
def NOT (r0 : S_) (e : Int32) : Prop := ∃ (t c' : Int32) (V' : (Int32 → Ut) → Prop) (W : Int32 → Nat → Prop) (k am : Prop) (p : Int), zTY (ctb r0) 26 e [] (fi r0 11) (cV r0) t c' V' W k am p ∧ ∀ ρ, ¬ V' ρ
theorem cV_fs {a a' : L_} {r r' : S_} {rh ta ta' : Int32 → Int32} {N N' : Int32} (g : GI a r rh ta N) (g' : GI a' r' rh ta' N') (e11 : fi r' 11 = fi r 11) (e15 : fi r' 15 = fi r 15) (e21 : ar r' 21 = ar r 21) (e23 : ar r' 23 = ar r 23) (fs : FS (fi r 11) (ar r 21) (ar r 22) (ar r' 22)) : cV r' = cV r := funext (fun ρ => propext ⟨fun h => ⟨by rw [← e15]; exact h.1, VC_old g g' (by rw [e11]; exact Int32.le_refl _) (fun _ _ _ => rfl) (fun x x0 x1 => ⟨by rw [e21], by rw [e23], fun q => fs x x0 x1 q⟩) h.2⟩, fun h => ⟨by rw [e15]; exact h.1, VC_old g' g (by rw [e11]; exact Int32.le_refl _) (fun _ _ _ => rfl) (fun x x0 x1 => ⟨by rw [e21], by rw [e23], fun q => (fs x x0 (by rw [← e11]; exact x1) (by rw [← e21]; exact q)).symm⟩) h.2⟩⟩)
/-- lengths behind a run, and its visits -/
def RN2 (l l' : Nat → Nat) (r' : S_) : Prop := FG l l' ∧ fi r' 13 < 2000000000
/-- what a run leaves alone of what was told, and its settlings -/
def RNF (r : S_) (m : Nat) (r' : S_) : Prop := (∀ k, 16 ≤ k → k ≤ 19 → fi r' k = fi r k) ∧ 0 ≤ (fi r' 6).toInt ∧ (fi r' 6).toInt ≤ (fi r 6).toInt + m + 1 ∧ ar r' 35 = ar r 35
theorem k1619 {k : Nat} (h1 : 16 ≤ k) (h2 : k ≤ 19) {F : List Nat} (h : 16 ∉ F ∧ 17 ∉ F ∧ 18 ∉ F ∧ 19 ∉ F) : k ∉ F := by
  have : k = 16 ∨ k = 17 ∨ k = 18 ∨ k = 19 := by omega
  rcases this with e | e | e | e <;> subst e
  · exact h.1
  · exact h.2.1
  · exact h.2.2.1
  · exact h.2.2.2
theorem ws_runT {ad l : Nat → Nat} {r : S_} {rh ta : Int32 → Int32} {N e : Int32} {m : Nat} {K : Int32 → L_ → S_ → Prop} (hm : (ar r 16 e.toNatClampNeg).toInt = m) (w : TP0 l r m) (hI : GI (A0 l) r rh ta N) (tx : TBX r) (e1 : 0 ≤ e) (e2 : e < fi r 4) (m24 : m ≤ 24) (n0 : fi r 11 = 0) (n5 : fi r 5 = 0) (n8 : fi r 8 = 0) (n9 : fi r 9 = 0) (n10 : fi r 10 = 0) (n15 : fi r 15 = 0) (hK2 : NOT r e → ∀ ad' l' r', RNF r m r' → K (-2) (ad', l') r') (hK : ∀ z ad' l' r', RN2 l l' r' → RNF r m r' → FIN r m e z l' r' → K z (ad', l') r') : wY_typeOf 26 (fun z8 a10 r9 => fx (ad, l) a10 → ∀ r15 : S_, r15 = sF r9 7 z8 → wY_settle a10 (fun z16 r17 => ((¬ (fi r17 15) = 0) → K (-2) a10 r17) ∧ (((fi r17 15) = 0) → wG_isCircular a10 (fun z19 r20 => zb z19 → ((z19 = 0) → (((fi r20 9) = 0) → (((fi r20 10) = 0) → K 0 a10 r20) ∧ ((¬ (fi r20 10) = 0) → K (-5) a10 r20)) ∧ ((¬ (fi r20 9) = 0) → K (-4) a10 r20)) ∧ ((¬ z19 = 0) → K (-2) a10 r20)) r17)) r15 0 (fi r15 7)) (ad, l) r e := by
  have n1 : 1 ≤ m := by
    have := (w.1.2.2.2.2.2.2 e e1 e2).1.1
    rw [il, hm] at this
    simp at this
    omega
  have no : ∀ x : Int32, ¬ (0 ≤ x ∧ x < fi r 11) := fun x h => by rw [n0] at h; exact nl0 h.1 h.2
  have v0 : cV r (fun _ => []) := ⟨n15, rfl, fun x x0 x1 => absurd ⟨x0, x1⟩ (no x)⟩
  have mr := (mt_rng n1 m24).2
  have mr2 := Nat.mul_le_mul_left (16 + 2) mr
  have pr : PRc r rh [] (fun _ => False) 16 m := ⟨⟨_, v0⟩, ⟨trivial, by rw [n5]; rfl⟩, ⟨fun _ _ _ _ h => h.elim, fun _ h => h.elim⟩, fun y ⟨_, h, _⟩ => absurd h List.not_mem_nil, trivial, fun x x0 x1 => absurd ⟨x0, x1⟩ (no x), by rw [n0]; simp; omega, by omega⟩
  obtain ⟨y, ay, ty, ar2, h13, h5, h60, h6⟩ := w
  have w : TP0 l r m := ⟨y, ay, ty, ar2, h13, h5, h60, h6⟩
  refine TYPc 26 ad l r rh ta N e [] _ 16 m _ hm w hI tx e1 e2 (by omega) m24 pr (fun z ad1 l1 r1 m1 q1 y1 z0 z1 ps _ r15 e15 => ?_)
  subst e15
  have yi1 := YI_R y y1
  have tb1 : Tb r r1 := Tb_Fr y1.2.2.1 (by decide) (by decide)
  have v13 := y1.2.2.2.2.2.2
  have v130 := y1.2.2.2.2.2.1
  have v6 := q1.2.2
  have v0' := yi1.1.2.2.1
  have v0i : 0 ≤ (fi r1 13).toInt := by rw [il] at v0'; simpa using v0'
  have inc6 : (fi r1 6 + 1).toInt = (fi r1 6).toInt + 1 := i_inc (y := 2000000000) (by rw [it]; simp; omega)
  have c1 := SG_c m1.1
  have g13 : ∀ r2 : S_, fi r2 13 = fi r1 13 + 3 → fi r2 13 < 2000000000 := fun r2 h => by
    rw [it, h, i_add (by simp; omega) (by simp; omega)]
    simp
    omega
  obtain ⟨t, c', W, k, am, p, hz, ⟨hl1, hc1, ht1⟩, hb1, hpo⟩ := ps
  have rn1 : ∀ (x : Int32) (r2 : S_), (∀ k, 16 ≤ k → k ≤ 19 → fi r2 k = fi (sF r1 7 x) k) → fi r2 6 = fi r1 6 + 1 → ar r2 35 = ar r1 35 → RNF r m r2 := fun x r2 h1 h2 h3 => by
    refine ⟨fun k a1 a2 => (h1 k a1 a2).trans ((show fi (sF r1 7 x) k = fi r1 k by rw [fi_sF, if_neg (by omega)]).trans (y1.2.2.1.1 k (k1619 a1 a2 (by decide)))), ?_, ?_, h3.trans (y1.2.2.1.2.1 35 (by decide))⟩
    · rw [h2, inc6]; omega
    · rw [h2, inc6]; omega
  by_cases hv1 : ∃ ρ, cV r1 ρ
  rotate_left
  · have nt : NOT r e := ⟨t, c', cV r1, W, k, am, p, hz, fun ρ h => hv1 ⟨ρ, h⟩⟩
    refine MO_settle (r := sF r1 7 z) yi1.1 m1.2.1 (by show fi r1 13 < 1999999990; rw [it]; simp; omega) yi1.2.2.2.1 yi1.2.1 (by decide) c1.1 z0 z1 (fun z2 r2 mo2 s2 e13 e6 => ⟨fun _ => hK2 nt ad1 l1 r2 (rn1 z r2 (fun k a1 a2 => s2.1.1 k (k1619 a1 a2 (by decide))) e6 (s2.1.2.1 35 (by decide))), fun f15 => ?_⟩)
    obtain ⟨⟨rh2, ta2, N2, g2⟩, hp2, vb2⟩ := mo2.1
    refine wq_G_isCircular (a := (ad1, l1)) (K := fun z r' => GI (ad1, l1) r' rh2 ta2 N2 ∧ Fr [12, 13, 14] [22, 28, 29, 30, 31] r2 r' ∧ FS (fi r2 11) (ar r2 21) (ar r2 22) (ar r' 22) ∧ (z = 0 → ∃ rk, ACY (fi r' 11) (ar r' 21) (ar r' 22) (ar r' 23) rh2 rk)) (K2 := fun _ _ => True) (fun z3 r3 h1 _ => ?_) (isCircular_ok (a := (ad1, l1)) g2 vb2 (g13 r2 e13) (fun z r' k1 _ k3 k4 _ k6 _ => ⟨k1, k3, k4, k6⟩)) (wa_G_isCircular (fun _ _ => trivial))
    obtain ⟨k1, k2, k3, k4⟩ := h1
    refine fun _ => ⟨fun q => ?_, fun _ => hK2 nt ad1 l1 r3 (rn1 z r3 (fun k a1 a2 => (k2.1 k (k1619 a1 a2 (by decide))).trans (s2.1.1 k (k1619 a1 a2 (by decide)))) ((k2.1 6 (by decide)).trans e6) ((k2.2.1 35 (by decide)).trans (s2.1.2.1 35 (by decide))))⟩
    obtain ⟨rk, ac⟩ := k4 q
    have d11 : fi r3 11 = fi r2 11 := k2.1 11 (by decide)
    have d15 : fi r3 15 = fi r2 15 := k2.1 15 (by decide)
    have d21 : ar r3 21 = ar r2 21 := k2.2.1 21 (by decide)
    have d23 : ar r3 23 = ar r2 23 := k2.2.1 23 (by decide)
    have d0 : ar r3 0 = ar r2 0 := k2.2.1 0 (by decide)
    obtain ⟨ρ, hρ⟩ := acy_VC k1 (AYc_fs d11 d0 d21 d23 k3 mo2.2.1) ac
    have e3 := cV_fs g2 k1 d11 d15 d21 d23 k3
    have c3 : cV r3 ρ := ⟨by rw [d15]; exact f15, hρ⟩
    rw [e3] at c3
    exact absurd ⟨ρ, mo2.2.2.1 ρ c3⟩ hv1
  · obtain ⟨et, ec, rh1, ta1, N1, g1, ⟨fl9, fl10, fl8⟩, bk1, ⟨A1, fm1, hx1, wok1, _⟩, _⟩ := hpo hv1
    subst et
    subst ec
    obtain ⟨ρ1, v1⟩ := hv1
    obtain ⟨rk, ac⟩ := VC_acy g1 m1.2.1 v1.2
    have kt : KTz r1 := (TBX_Tb tx tb1).1
    have eg1 : EG (sF r1 7 t) [] := ⟨trivial, by show (fi r1 5).toInt = 0; rw [q1.1, n5]; rfl⟩
    have hl : ∀ y, zLams [] y → 0 ≤ y ∧ y < fi r1 11 := fun y ⟨_, h, _⟩ => absurd h List.not_mem_nil
    have wA : ∀ x cl, aW r1 0 x cl → W x cl := fun x cl h => ((wok1.2 x h.1 h.2.1 cl).mp h.2.2).resolve_left (fun q => by rw [n0] at q; exact nl0 h.1 q.1)
    have w8 : ∀ x cl, aW r1 0 x cl → cl < 8 := fun x cl h => (wok1.1 x cl (wA x cl h)).2.2.1
    refine ws_settle (a := (ad1, l1)) (r := sF r1 7 t) g1 m1.2.1 yi1.1.2.2 (by show fi r1 13 < 1900000000; rw [it]; simp; omega) ac yi1.2.1 kt (by decide) c1.1 z0 z1 (fun x x0 x1' q => ?_) w8 (fun x cl u h hr => ?_) (fun z2 r2 g2 ay2 vb2 e13 e6 fs fr st2 stl => ?_)
    · have := (bk1 x x0 x1').1
      have q' : ar r1 27 x.toNatClampNeg = fi r1 6 + 1 := q
      rw [q', inc6] at this
      omega
    · exact (fm1.2.2.2.1.2 u (LV_Rq fm1.2.2.2.1 (wok1.1 x cl (wA x cl h)).2.1 hr)).2.2.1
    have e11 : fi r2 11 = fi r1 11 := fr.1 11 (by decide)
    have e15 : fi r2 15 = fi r1 15 := fr.1 15 (by decide)
    have e21 : ar r2 21 = ar r1 21 := fr.2.1 21 (by decide)
    have e23 : ar r2 23 = ar r1 23 := fr.2.1 23 (by decide)
    have V2 : cV r2 = cV r1 := cV_fs g1 g2 e11 e15 e21 e23 fs
    have v2 : cV r2 ρ1 := by rw [V2]; exact v1
    refine ⟨fun q => absurd v2.1 q, fun _ => ?_⟩
    obtain ⟨rk2, ac2⟩ := VC_acy g2 ay2 v2.2
    refine wq_G_isCircular (a := (ad1, l1)) (K := fun z r' => GI (ad1, l1) r' rh1 ta1 N1 ∧ VB r' ∧ Fr [12, 13, 14] [22, 28, 29, 30, 31] r2 r' ∧ FS (fi r2 11) (ar r2 21) (ar r2 22) (ar r' 22) ∧ fi r' 13 = fi r2 13 + 1) (K2 := fun z _ => z = 0) (fun z3 r3 h1 hz0 => ?_) (isCircular_ok (a := (ad1, l1)) g2 vb2 (g13 r2 e13) (fun z r' k1 k2 k3 k4 k5 _ _ => ⟨k1, k2, k3, k4, k5⟩)) (ws_circ0 g2 vb2 (g13 r2 e13) ac2)
    obtain ⟨g3, vb3, f3, fs3, v3⟩ := h1
    refine fun _ => ⟨fun _ => ?_, fun q => absurd hz0 q⟩
    have d11 : fi r3 11 = fi r2 11 := f3.1 11 (by decide)
    have d15 : fi r3 15 = fi r2 15 := f3.1 15 (by decide)
    have d21 : ar r3 21 = ar r2 21 := f3.2.1 21 (by decide)
    have d23 : ar r3 23 = ar r2 23 := f3.2.1 23 (by decide)
    have d0 : ar r3 0 = ar r2 0 := f3.2.1 0 (by decide)
    have d25 : ar r3 25 = ar r2 25 := f3.2.1 25 (by decide)
    have d26 : ar r3 26 = ar r2 26 := f3.2.1 26 (by decide)
    have d27 : ar r3 27 = ar r2 27 := f3.2.1 27 (by decide)
    have V3 : cV r3 = cV r1 := (cV_fs g2 g3 d11 d15 d21 d23 fs3).trans V2
    have hw : ∀ x cl, W x cl ↔ aW r1 0 x cl ∨ (W x cl ∧ x < 0) := fun x cl => ⟨fun h => Or.inl ⟨(wok1.1 x cl h).1.1, (wok1.1 x cl h).1.2, (wok1.2 x (wok1.1 x cl h).1.1 (wok1.1 x cl h).1.2 cl).mpr (Or.inr h)⟩, fun h => h.elim (wA x cl) (fun q => q.1)⟩
    have zs := LET_set (r1 := sF r1 7 t) (k := k) (am := am) fm1.2.2.2.1 g1 m1.2.1 kt hl eg1 v1 z0 z1 hx1 fs fr stl w8 hw (fun x cl h => (wok1.1 x cl h).1) (fun x cl h q => absurd q (fun q => nl0 (wok1.1 x cl h).1.1 q))
    have lek : LEK r3 rh1 t = LEK r2 rh1 t := funext (fun v => funext (fun cl => propext (by
      unfold LEK
      rw [Rq_fs d11 d21 d23 fs3, d21, d25, d26])))
    have zl : zLet (ctb r) [] (fi r3 11) (cV r3) t W k am (LEK r3 rh1 t) z2.toInt (fun x c => (W x c ∧ x < 0) ∨ (zVR (cG r1) x ∧ cNd r1 (aW r1 0) x c ∧ zBd (cG r1) (zLams []) x)) (k ∨ zLK (kI r1) (kF r1 10) (kF r1 11) (cG r1) (aW r1 0)) (am ∨ ∃ v c, zVR (cG r1) v ∧ cNd r1 (aW r1 0) v c ∧ ¬ zBd (cG r1) (zLams []) v ∧ ¬ zRc (cG r1) t v) := by
      rw [← ctb_Tb tb1, V3, d11, e11, lek]
      exact ⟨cG r1, rfl, funext (fun ρ => propext ⟨fun h => (VC_val g1).mpr h.2, fun h => ⟨v1.1, (VC_val g1).mp h⟩⟩), cG_GW g1 m1.2.1, VC_free g1 m1.2.1 v1.2, zs⟩
    have f9 : ¬ fi r3 9 = 0 ↔ (k ∨ zLK (kI r1) (kF r1 10) (kF r1 11) (cG r1) (aW r1 0)) := by
      have a1 : fi r3 9 = fi r2 9 := f3.1 9 (by decide)
      have a2 : ¬ fi r2 9 = 0 ↔ ¬ fi r1 9 = 0 ∨ zLK (kI r1) (kF r1 10) (kF r1 11) (cG r1) (aW r1 0) := stl.2.2.2.2.2.1
      rw [a1, a2, fl9, n9]
      simp
    have f10 : ¬ fi r3 10 = 0 ↔ (am ∨ ∃ v c, zVR (cG r1) v ∧ cNd r1 (aW r1 0) v c ∧ ¬ zBd (cG r1) (zLams []) v ∧ ¬ zRc (cG r1) t v) := by
      have a1 : fi r3 10 = fi r2 10 := f3.1 10 (by decide)
      have a2 : ¬ fi r2 10 = 0 ↔ ¬ fi r1 10 = 0 ∨ ∃ v c, vr r1 v ∧ cNd r1 (aW r1 0) v c ∧ ¬ BdR (sF r1 7 t) rh1 v ∧ ¬ Rq r1 rh1 t v := stl.2.2.2.2.2.2.1
      have ex : (∃ v c, vr r1 v ∧ cNd r1 (aW r1 0) v c ∧ ¬ BdR (sF r1 7 t) rh1 v ∧ ¬ Rq r1 rh1 t v) ↔ ∃ v c, zVR (cG r1) v ∧ cNd r1 (aW r1 0) v c ∧ ¬ zBd (cG r1) (zLams []) v ∧ ¬ zRc (cG r1) t v := by
        have bdd : ∀ v, zBd (cG r1) (zLams []) v ↔ BdR (sF r1 7 t) rh1 v := fun v => cG_bd (r := sF r1 7 t) g1 hl eg1
        constructor
        · rintro ⟨v, cl, u1, u2, u3, u4⟩
          exact ⟨v, cl, (cG_vr g1).mpr u1, u2, fun z => u3 ((bdd v).mp z), fun z => u4 ((cG_rc g1 z0 z1).mp z)⟩
        · rintro ⟨v, cl, u1, u2, u3, u4⟩
          exact ⟨v, cl, (cG_vr g1).mp u1, u2, fun z => u3 ((bdd v).mpr z), fun z => u4 ((cG_rc g1 z0 z1).mpr z)⟩
      rw [a1, a2, fl10, n10, ex]
      simp
    have e11' : fi r3 11 = fi r1 11 := d11.trans e11
    have bk3 : BK r3 := fun x x0 x1' => by
      rw [e11'] at x1'
      rw [show fi r3 6 = fi r2 6 from f3.1 6 (by decide), d27, d25]
      have e6' : fi r2 6 = fi r1 6 + 1 := e6
      refine ⟨?_, fun cl h => ?_⟩
      · rcases st2 x x0 x1' with q | q
        · rw [q, e6]
          exact Int.le_refl _
        · rw [q, e6', inc6]
          have := (bk1 x x0 x1').1
          show (ar r1 27 x.toNatClampNeg).toInt ≤ _
          omega
      · by_cases q : ar r1 21 x.toNatClampNeg = -1 ∧ Rq r1 rh1 t x ∧ ¬ BdR (sF r1 7 t) rh1 x ∧ ∃ cl, cNd r1 (aW r1 0) x cl
        · exact cNd8 kt w8 ((stl.2.2.2.1 x ⟨x0, x1', q.1⟩ q.2.1 q.2.2.1 q.2.2.2 cl (gb_lt h)).mp h).1
        · rw [stl.2.2.1 x x0 x1' q] at h
          exact (bk1 x x0 x1').2 cl h
    have all : ∀ z', ((z' = -4 ∧ ¬ fi r3 9 = 0) ∨ (z' = -5 ∧ fi r3 9 = 0 ∧ ¬ fi r3 10 = 0) ∨ (z' = 0 ∧ fi r3 9 = 0 ∧ fi r3 10 = 0)) → K z' (ad1, l1) r3 := by
      intro z' hz'
      refine hK z' ad1 l1 r3 ⟨y1.2.2.2.2.1, ?_⟩ (rn1 t r3 (fun k a1 a2 => (f3.1 k (k1619 a1 a2 (by decide))).trans (fr.1 k (k1619 a1 a2 (by decide)))) ((f3.1 6 (by decide)).trans e6) ((f3.2.1 35 (by decide)).trans (fr.2.1 35 (by decide)))) ⟨rh1, ta1, N1, t, W, k, am, p, z2.toInt, _, _, _, by rw [e11', V3]; exact hz, ⟨ρ1, by rw [V3]; exact v1⟩, zl, ?_, g3, ⟨⟨⟨rh1, ta1, N1, g3⟩, yi1.1.2.1, vb3⟩, AYc_fs d11 d0 d21 d23 fs3 ay2⟩, by rw [e11']; exact ⟨z0, z1⟩, ?_, ?_, fun x hx hv => ?_, bk3, fun x c h => ?_, d0.trans ((fr.2.1 0 (by decide)).trans (tb1.2 0 (by decide)))⟩
      · have e13' : fi r2 13 = fi r1 13 + 3 := e13
        have a3 : (fi r1 13 + 3).toInt = (fi r1 13).toInt + 3 := i_add (by simp; omega) (by simp; omega)
        rw [it, v3, e13', i_add (by rw [a3]; simp; omega) (by rw [a3]; simp; omega), a3]
        simp
        omega
      · rcases hz' with ⟨h1, h2⟩ | ⟨h1, h2, h3⟩ | ⟨h1, h2, h3⟩
        · exact Or.inl ⟨h1, f9.mp h2⟩
        · exact Or.inr (Or.inl ⟨h1, fun q => f9.mpr q h2, f10.mp h3⟩)
        · exact Or.inr (Or.inr ⟨h1, fun q => f9.mpr q h2, fun q => f10.mpr q h3⟩)
      · have a1 : fi r3 7 = fi r2 7 := f3.1 7 (by decide)
        have a2 : fi r2 7 = t := fr.1 7 (by decide)
        rw [a1, a2]
      · have a1 : fi r3 8 = fi r2 8 := f3.1 8 (by decide)
        have a2 : fi r2 8 = fi r1 8 := fr.1 8 (by decide)
        rw [a1, a2, fl8, n8]
        simp
      · have hx' : Rq r1 rh1 t x := (Rq_fs e11 e21 e23 fs).mp ((Rq_fs d11 d21 d23 fs3).mp hx)
        have b := Rq_in g1 z0 z1 hx'
        rw [d21, e21] at hv
        rw [d26]
        have rxx : Rq r1 rh1 x x := by have := Rq_0 (r := r1) (rh := rh1) (x := x); rw [b.2.2] at this; exact this
        refine (stl.1 x b.1.1 b.1.2 hx').mpr ⟨x, rxx, hv, fun q => ?_⟩
        obtain ⟨yy, ⟨_, h, _⟩, _⟩ := (EG_Bd eg1).mp q
        exact absurd h List.not_mem_nil
      · rcases h with h | h
        · exact nl0 (wok1.1 x c h.1).1.1 h.2
        · obtain ⟨_, ⟨_, h, _⟩, _⟩ := h.2.2
          exact absurd h List.not_mem_nil
    refine ⟨fun h9 => ⟨fun h10 => all 0 (Or.inr (Or.inr ⟨rfl, h9, h10⟩)), fun h10 => all (-5) (Or.inr (Or.inl ⟨rfl, h9, h10⟩))⟩, fun h9 => all (-4) (Or.inl ⟨rfl, h9⟩)⟩
end ZRUNC
