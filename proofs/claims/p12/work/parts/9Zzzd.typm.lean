/-! The class's typing only says more: steps. -/
section ZTYPM
def MO (r : S_) (l' : Nat → Nat) (r' : S_) : Prop := SG l' r' ∧ AYc r' ∧ (∀ ρ, cV r' ρ → cV r ρ) ∧ fi r 11 ≤ fi r' 11
theorem MO_trans {l1 l2 : Nat → Nat} {r r1 r2 : S_} (h : MO r l1 r1) (h2 : MO r1 l2 r2) : MO r l2 r2 := ⟨h2.1, h2.2.1, fun ρ v => h.2.2.1 ρ (h2.2.2.1 ρ v), Int32.le_trans h.2.2.2 h2.2.2.2⟩
theorem MO_refl {l : Nat → Nat} {r : S_} (h : SG l r) (ay : AYc r) : MO r l r := ⟨h, ay, fun _ v => v, Int32.le_refl _⟩
theorem MO_ex {a : L_} {r r' : S_} {rh ta : Int32 → Int32} {N : Int32} {l' : Nat → Nat} (hI : GI a r rh ta N) (h : EXm r rh l' r') : MO r l' r' := by
  have h0 := h
  obtain ⟨⟨rh', ta', N', g, hr⟩, h2, h3, h4⟩ := h
  exact ⟨⟨⟨rh', ta', N', g⟩, h2.1, h2.2.1⟩, h2.2.2, fun ρ v => EXm_V hI h0 v, h3.1⟩
theorem MO_new {ad l : Nat → Nat} {r : S_} {p0 p1 p2 : Int32} (hS : SG l r) (ay : AYc r) (a1 : -1 ≤ p0) (a2 : p0 < 8) (b1 : -1 ≤ p1) (b2 : p1 < fi r 11 ∨ p1 = -1) (c1 : -1 ≤ p2) (c2 : p2 < fi r 11 ∨ p2 = -1) (hp : 0 ≤ p0 → (¬ p1 = -1 ↔ 0 < ar r 0 p0.toNatClampNeg) ∧ (¬ p2 = -1 ↔ 1 < ar r 0 p0.toNatClampNeg)) (hm : p0 = -1 → p1 = -1 ∧ p2 = -1) {K : Int32 → L_ → S_ → Prop} (hK : ∀ z ad' l' r', MO r l' r' → Fn r r' → FG l l' → 0 ≤ z → z < fi r' 11 → K z (ad', l') r') : wG_newNode K (ad, l) r p0 p1 p2 := by
  obtain ⟨⟨rh, ta, N, hI⟩, hpl, hv⟩ := hS
  refine ws_new hI hpl hv a1 a2 b1 b2 c1 c2 (fun z a r' hn hnn => ?_)
  obtain ⟨ad', l'⟩ := a
  have x := EXm_new (EXm_refl hI hpl hv ay) hI.2.1 (fun _ _ _ => rfl) hn hnn hp hm
  obtain ⟨rh', n1, n2, n3, n4, n5, n6, n7, n8, n9, n10, n11⟩ := hn
  exact hK z ad' l' r' (MO_ex hI x) n5 ⟨n10, n11⟩ n8 n9
/-- settling, past all solutions too -/
theorem MO_settle {ad l : Nat → Nat} {r : S_} {p0 p1 : Int32} (hS : SG l r) (ay : AYc r) (hb : fi r 13 < 1999999990) (hk : KT (A0 l) r) (hA : TA (A0 l) r) (x1 : 0 ≤ p0) (x2 : p0 ≤ fi r 11) (y1 : 0 ≤ p1) (y2 : p1 < fi r 11) {K : Int32 → S_ → Prop} (hK : ∀ z r', MO r l r' → Sm r r' → fi r' 13 = fi r 13 + 3 → fi r' 6 = fi r 6 + 1 → K z r') : wY_settle (ad, l) K r p0 p1 := by
  obtain ⟨⟨rh, ta, N, hI⟩, hpl, hv⟩ := hS
  refine wq_Y_settle (K := fun _ r' => GI (ad, l) r' rh ta N ∧ VB r' ∧ Sm r r' ∧ fi r' 13 = fi r 13 + 3) (K2 := fun _ r' => fi r' 6 = fi r 6 + 1) (fun z r' h1 h2 => ?_) (settle_ok (a := (ad, l)) hI hv hb hk hA x1 x2 y1 y2 (fun z r' k1 k2 k3 k4 => ⟨k1, k2, k3, k4⟩)) (w6_settle (fun _ _ h => h))
  obtain ⟨k1, k2, k3, k4⟩ := h1
  have e11 : fi r' 11 = fi r 11 := k3.1.1 11 (by decide)
  have e15 : fi r' 15 = fi r 15 := k3.1.1 15 (by decide)
  have e21 : ar r' 21 = ar r 21 := k3.1.2.1 21 (by decide)
  have e23 : ar r' 23 = ar r 23 := k3.1.2.1 23 (by decide)
  have e0 : ar r' 0 = ar r 0 := k3.1.2.1 0 (by decide)
  refine hK z r' ⟨⟨⟨rh, ta, N, k1⟩, hpl, k2⟩, AYc_fs e11 e0 e21 e23 k3.2 ay, fun ρ v => ⟨by rw [← e15]; exact v.1, ?_⟩, by rw [e11]; exact Int32.le_refl _⟩ k3 k4 h2
  exact VC_old hI k1 (by rw [e11]; exact Int32.le_refl _) (fun _ _ _ => rfl) (fun x x0 x1 => ⟨by rw [e21], by rw [e23], fun e => k3.2 x x0 x1 e⟩) v.2
theorem MO_unify {ad l : Nat → Nat} {r : S_} {x y : Int32} (hS : SG l r) (ay : AYc r) (x1 : 0 ≤ x) (x2 : x < fi r 11) (y1 : 0 ≤ y) (y2 : y < fi r 11) {K : S_ → Prop} (hK : ∀ r', MO r l r' → Fr [14, 15] [21, 22, 31] r r' → K r') : wG_unify (ad, l) K r x y := by
  obtain ⟨⟨rh, ta, N, hI⟩, hpl, hv⟩ := hS
  refine ws_unify (a := (ad, l)) hI ay x1 x2 y1 y2 (fun r' rh2 ta2 N2 g ay2 f u _ => ?_)
  have e11 : fi r' 11 = fi r 11 := f.1 11 (by decide)
  refine hK r' ⟨⟨⟨rh2, ta2, N2, g⟩, hpl, ?_⟩, ay2, fun ρ v => ?_, by rw [e11]; exact Int32.le_refl _⟩ f
  · unfold VB
    rw [f.1 13 (by decide), f.2.1 28 (by decide)]
    exact hv
  · have q := u.1 v.1
    exact ⟨q.1, ((q.2 ρ).mp v.2).1⟩
theorem MO_copy {ad l : Nat → Nat} {r : S_} {t : Int32} (hS : SG l r) (ay : AYc r) (hb : fi r 13 < 2000000000) (t0 : 0 ≤ t) (t1 : t < fi r 11) {K : Int32 → L_ → S_ → Prop} (hK : ∀ z ad' l' r', MO r l' r' → Fcp r r' → K z (ad', l') r') : wG_copyOf K (ad, l) r t := by
  obtain ⟨⟨rh, ta, N, hI⟩, hpl, hv⟩ := hS
  obtain ⟨z0, l0, r0, k, s, P, _, _, h⟩ := copyOf_D hI hpl hv hb t0 t1
  have q := h ad (fun z a r' => z = z0 ∧ a.2 = l0 ∧ r' = r0) (fun _ _ => ⟨rfl, rfl, rfl⟩)
  refine wq_G_copyOf (K := fun z a r' => z = z0 ∧ a.2 = l0 ∧ r' = r0) (K2 := fun _ a r' => EXm r rh a.2 r') (fun z a r' h1 h2 => ?_) q (wg_copyOf hI hpl ay hv hb t0 t1 (fun z ad' l' r' x => x))
  obtain ⟨ad', l'⟩ := a
  refine hK z ad' l' r' (MO_ex hI h2) ?_
  rw [h1.2.2]
  exact P.1.2.2.2.1
/-- writing a type out, past all solutions too -/
theorem wg_writeOut : ∀ (d : Nat) (ad l : Nat → Nat) (r : S_) (t : Int32) (K : Int32 → L_ → S_ → Prop), SG l r → AYc r → TYz r → FRS r → 0 ≤ t → t < fi r 1 → (∀ z ad' l' r', MO r l' r' → FRS r' → Fwo r r' → FG l l' → 0 ≤ z → z < fi r' 11 → K z (ad', l') r') → wY_writeOut d K (ad, l) r t := by
  intro d
  induction d with
  | zero => intro ad l r t K _ _ _ _ _ _ _; trivial
  | succ d ih =>
    intro ad l r t K hS ay w fz t0 t1 hK
    rw [wY_writeOut]
    unfold wY_writeOut_B
    have wt := w.2.2 t t0 t1
    have tp := w.2.1 t t0 t1
    have frs : ∀ (r1 r2 : S_), FRS r1 → fi r1 11 ≤ fi r2 11 → ar r2 20 = ar r1 20 → FRS r2 := fun r1 r2 f le e v v0 v1 => by
      rw [e]
      have q := f v v0 v1
      exact ⟨q.1, zo3 q.2 le⟩
    refine fun _ => ⟨fun hh _ _ => ?_, fun hh _ => ⟨fun hf _ => ?_, fun hf => ?_⟩⟩
    · have hm1 : -1 ≤ ar r 1 t.toNatClampNeg := by clear w wt tp ih hK hS ay fz frs; grind
      have ary := wt.2.2.1 hh
      have snd : ∀ (ad1 l1 : Nat → Nat) (r1 : S_) (z1 : Int32), MO r l1 r1 → FRS r1 → Fwo r r1 → FG l l1 → (-1 ≤ z1 ∧ (z1 < fi r1 11 ∨ z1 = -1)) → (z1 = -1 ↔ ar r 2 t.toNatClampNeg = -1) → wY_writeOut_B_J95 (wY_writeOut d) K (ad1, l1) r1 (ar r 1 t.toNatClampNeg) (ar r 3 t.toNatClampNeg) z1 := by
        intro ad1 l1 r1 z1 m1 f1 w1 g1 p1 q1
        have tb1 : Tb r r1 := Tb_Fr w1 (by decide) (by decide)
        have trd : ∀ (ad2 l2 : Nat → Nat) (r2 : S_) (z2 : Int32), MO r1 l2 r2 → FRS r2 → Fwo r1 r2 → FG l1 l2 → (-1 ≤ z2 ∧ (z2 < fi r2 11 ∨ z2 = -1)) → (z2 = -1 ↔ ar r 3 t.toNatClampNeg = -1) → wY_writeOut_B_J113 (wY_writeOut d) K (ad2, l2) r2 (ar r 1 t.toNatClampNeg) z1 z2 := by
          intro ad2 l2 r2 z2 m2 f2 w2 g2 p2 q2
          have a0 : ar r2 0 = ar r 0 := (w2.2.1 0 (by decide)).trans (w1.2.1 0 (by decide))
          unfold wY_writeOut_B_J113
          refine MO_new m2.1 m2.2.1 hm1 wt.1.2 p1.1 (p1.2.elim (fun q => Or.inl (zo3 q m2.2.2.2)) Or.inr) p2.1 p2.2 (fun _ => ?_) (fun e => by rw [e] at hh; exact absurd hh (by decide)) (fun z3 ad3 l3 r3 m3 n3 g3 z30 z31 _ => ?_)
          · rw [a0]
            exact ⟨⟨fun k => ary.1.mp (fun q => k (q1.mpr q)), fun k q => ary.1.mpr k (q1.mp q)⟩, ⟨fun k => ary.2.mp (fun q => k (q2.mpr q)), fun k q => ary.2.mpr k (q2.mp q)⟩⟩
          · exact hK z3 ad3 l3 r3 (MO_trans m1 (MO_trans m2 m3)) (frs r2 r3 f2 m3.2.2.2 (n3.2.1 20 (by decide))) (Fr_trans w1 (Fr_trans w2 (Fr_mono n3 (by decide) (by decide)))) (FG_trans g1 (FG_trans g2 g3)) z30 z31
        unfold wY_writeOut_B_J95
        refine ⟨fun e => ?_, fun e => ?_⟩
        · have s0 : 0 ≤ ar r 3 t.toNatClampNeg := by have := tp.2.1; clear w wt ih hK hS ay fz frs m1 f1 w1 g1 tb1 trd; grind
          refine ih ad1 l1 r1 (ar r 3 t.toNatClampNeg) _ m1.1 m1.2.1 (TYz_eq w (tb1.1 1 (by omega)) (fun k hk => tb1.2 k (by omega))) f1 s0 (by rw [tb1.1 1 (by omega)]; exact ltt tp.2.2 t1) (fun z2 ad2 l2 r2 m2 f2 w2 g2 z20 z21 _ => trd ad2 l2 r2 z2 m2 f2 w2 g2 ⟨?_, Or.inl z21⟩ ⟨fun q => ?_, fun q => absurd q e⟩)
          · clear w wt ih hK hS ay fz frs m1 f1 w1 g1 tb1 trd m2 f2 w2 g2; grind
          · rw [q] at z20; exact absurd z20 (by decide)
        · exact trd ad1 l1 r1 (-1) (MO_refl m1.1 m1.2.1) f1 (Fr_refl r1) (FG_refl l1) ⟨by decide, Or.inr rfl⟩ ⟨fun _ => e, fun _ => rfl⟩
      refine ⟨fun e => ?_, fun e => ?_⟩
      · have s0 : 0 ≤ ar r 2 t.toNatClampNeg := by have := tp.1.1; clear w wt ih hK hS ay fz frs snd; grind
        refine ih ad l r (ar r 2 t.toNatClampNeg) _ hS ay w fz s0 (ltt tp.1.2 t1) (fun z1 ad1 l1 r1 m1 f1 w1 g1 z10 z11 _ => snd ad1 l1 r1 z1 m1 f1 w1 g1 ⟨?_, Or.inl z11⟩ ⟨fun q => ?_, fun q => absurd q e⟩)
        · clear w wt ih hK hS ay fz frs snd m1 f1 w1 g1; grind
        · rw [q] at z10; exact absurd z10 (by decide)
      · exact snd ad l r (-1) (MO_refl hS ay) fz (Fr_refl r) (FG_refl l) ⟨by decide, Or.inr rfl⟩ ⟨fun _ => e, fun _ => rfl⟩
    · have hneg : ar r 1 t.toNatClampNeg < 0 := Int32.not_le.mp hh
      have v8 := m1v wt.1.1 hneg
      unfold wY_writeOut_B_J52
      intro _ r38 e38 _
      have er : r38 = r := by rw [e38, upd_id, sA_id]
      rw [er]
      have b := fz _ v8.1 v8.2
      exact hK _ ad l r (MO_refl hS ay) fz (Fr_refl r) (FG_refl l) (by have := b.1; clear w wt ih hK hS ay fz frs b e38; grind) b.2
    · have hneg : ar r 1 t.toNatClampNeg < 0 := Int32.not_le.mp hh
      have v8 := m1v wt.1.1 hneg
      refine MO_new hS ay (by decide) (by decide) (by decide) (Or.inr rfl) (by decide) (Or.inr rfl) (fun z => absurd z (by decide)) (fun _ => ⟨rfl, rfl⟩) (fun z3 ad3 l3 r3 m3 n3 g3 z30 z31 => ?_)
      unfold wY_writeOut_B_J52
      intro _ _ r38 e38 _
      have e20 : ar r3 20 = ar r 20 := n3.2.1 20 (by decide)
      have a20 : ar r38 20 = upd (ar r3 20) (-1 - ar r 1 t.toNatClampNeg).toNatClampNeg z3 := by rw [e38]; rfl
      have er : ar r38 20 (-1 - ar r 1 t.toNatClampNeg).toNatClampNeg = z3 := by rw [a20, pk_us]
      rw [er]
      have f11 : fi r38 11 = fi r3 11 := by rw [e38]; rfl
      refine hK z3 ad3 l3 r38 (by rw [e38]; exact m3) (fun v v0 v1 => ?_) (Fr_trans (Fr_mono n3 (by decide) (by decide)) (by rw [e38]; exact Fr_sA (by decide))) g3 z30 (by rw [f11]; exact z31)
      rw [a20, f11, updI _ _ v8.1 v0]
      split
      · exact ⟨by clear w wt ih hK hS ay fz frs m3 n3 g3 e38; grind, z31⟩
      · rw [e20]
        have q := fz v v0 v1
        exact ⟨q.1, zo3 q.2 m3.2.2.2⟩
/-- the array of fresh variables, emptied -/
theorem ws_fill {ad l : Nat → Nat} {r : S_} (h : l 20 = 8) {K : S_ → Prop} (hK : ∀ g, (∀ v : Int32, 0 ≤ v → v < 8 → g v.toNatClampNeg = -1) → K (sA r 20 g)) : wJ_fill (ad, l) 20 K r (-1) := by
  have hd : Det (fun ad (K0 : S_ → Prop) => qJ_fill (ad, l) 20 (fun r => K0 r) r (-1)) := det_qJ_fill (fun r => fun ad K h => ⟨r, h, fun _ _ h => h⟩)
  obtain ⟨r1, ⟨g, e1, hg⟩, h1⟩ := D1r (P := fun r1 => ∃ g, r1 = sA r 20 g ∧ ∀ v : Int32, 0 ≤ v → v < 8 → g v.toNatClampNeg = -1) hd (fill_ok h (fun g hg => ⟨g, rfl, hg⟩))
  exact wq_J_fill (K := fun r' => r' = r1) (K2 := fun _ => True) (fun x h2 _ => by rw [h2, e1]; exact hK g hg) (h1 ad _ rfl) (wa_J_fill (fun _ => trivial))
theorem wg_freshCopy {ad l : Nat → Nat} {r : S_} {t : Int32} {K : Int32 → L_ → S_ → Prop} (l20 : l 20 = 8) (hS : SG l r) (ay : AYc r) (w : TYz r) (t0 : 0 ≤ t) (t1 : t < fi r 1) (hK : ∀ z ad' l' r', MO r l' r' → FRS r' → Fwo r r' → FG l l' → 0 ≤ z → z < fi r' 11 → K z (ad', l') r') : wY_freshCopy K (ad, l) r t := by
  unfold wY_freshCopy
  have c0 : 0 ≤ fi r 11 := by
    obtain ⟨⟨rh, ta, N, hI⟩, -⟩ := hS
    exact hI.2.1
  refine ws_fill l20 (fun g hg => ?_)
  refine wg_writeOut 18 ad l (sA r 20 g) t _ hS ay (TYz_eq w rfl (fun k hk => by rw [ar_sA, if_neg (by omega)])) (fun v v0 v1 => ?_) t0 t1 (fun z ad' l' r' m f w g' z0 z1 _ => hK z ad' l' r' m f (Fr_trans (Fr_sA (by decide)) w) g' z0 z1)
  show -1 ≤ g v.toNatClampNeg ∧ g v.toNatClampNeg < fi r 11
  rw [hg v v0 v1]
  exact ⟨by decide, by clear hS ay w hK hg; grind⟩
end ZTYPM
