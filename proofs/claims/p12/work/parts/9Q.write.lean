/-! Copies of a let's type and of the table's types. -/
section WRITE
theorem copyOf_D {l : Nat → Nat} {r : S_} {rh ta : Int32 → Int32} {N p0 : Int32} (hI : GI (A0 l) r rh ta N) (hp : PL l) (hv : VB r) (hb : fi r 13 < 2000000000) (p1 : 0 ≤ p0) (p2 : p0 < fi r 11) : D2 (fun K a r k s => qG_copyOf K a r k s p0) l r (fun z l' r' => ((∃ rh ta N, GI (A0 l') r' rh ta N) ∧ PL l' ∧ VB r' ∧ Fcp r r' ∧ fi r 11 ≤ fi r' 11 ∧ 0 ≤ z ∧ z < fi r' 11 ∧ FG l l') ∧ fi r' 13 = fi r 13 + 1) := by
  have w0 := PW_start (acy := False) (rk := id) hI hv hb (fun z => z.elim)
  obtain ⟨r2, ⟨q1, q2, q3⟩, q4⟩ := walk_D w0 p1 p2
  have e11 : fi r2 11 = fi r 11 := q2.1 11 (by decide) (by decide)
  have e13 : fi r2 13 = fi r 13 + 1 := q2.1 13 (by decide) (by decide)
  have ol := ordL q1
  have oc := i_nat ol.1
  have g1 : GI (A0 l) r2 rh ta N := q1.1
  have rp := g1.2.2.2.2.1.2 p0 p1 (by rw [e11]; exact p2)
  have ci : CI l r2 rh ta N (fi r 11) (fi r2 12) (fun x => ar r2 28 x.toNatClampNeg = fi r2 13) (fun k => ar r2 30 k.toNatClampNeg) := by
    refine ⟨g1, hp, q1.2.1, by rw [e11]; exact Int32.le_refl _, rfl, ol.1, by rw [il, ← e11]; exact ol.2, fun k k1 k2 => ?_, fun x x1 x2 x3 => ?_⟩
    · have b := ord_in q1 k1 k2
      exact ⟨rfl, b.1, by rw [← e11]; exact b.2.1, b.2.2.2.1⟩
    · have x4 : x < fi r2 11 := by rw [e11]; exact x2
      obtain ⟨b1, b2, b3, b4, b5, b6⟩ := q1.2.2.2.2.1 x x1 x4 x3
      have nx := g1.2.2.2.1 x x1 x4
      refine ⟨b1, b2, b3, fun g => ?_, fun g => ?_, by rw [← e11]; exact nx.2.2.2.1, by rw [← e11]; exact nx.2.2.2.2.2.1⟩
      · have y1 : 0 ≤ ar r2 22 x.toNatClampNeg := by have := nx.2.2.1; clear b1 b2 b3 b4 b5 b6 nx hI hv w0 q1 q2 q3 q4 g1; grind
        have rr := g1.2.2.2.2.1.2 _ y1 nx.2.2.2.1
        rcases b5 g (fun _ => rfl) with b | ⟨k, k1, k2, -⟩
        · exact ⟨b, rr.1, by rw [← e11]; exact rr.2.1⟩
        · exact (nl0 k1 (show k < 0 from k2)).elim
      · have y1 : 0 ≤ ar r2 23 x.toNatClampNeg := by have := nx.2.2.2.2.1; clear b1 b2 b3 b4 b5 b6 nx hI hv w0 q1 q2 q3 q4 g1; grind
        have rr := g1.2.2.2.2.1.2 _ y1 nx.2.2.2.2.2.1
        rcases b6 g (fun _ => by decide) with b | ⟨k, k1, k2, -⟩
        · exact ⟨b, rr.1, by rw [← e11]; exact rr.2.1⟩
        · exact (nl0 k1 (show k < 0 from k2)).elim
  obtain ⟨z, l', r', k, s, ⟨⟨t1, t2, t3, t4, t5, t6, t7, t8⟩, t9⟩, dc, ds, h8⟩ := copy_L p1 p2 (fi r2 12).toNatClampNeg l r2 rh ta N 0 ci q3 (by rw [← e11]; exact rp.2.1) (by decide) ol.1 (by simp; omega)
  refine ⟨z, l', r', k, s, ⟨⟨t1, t2, t3, Fr_trans (Fr_mono (Fr_trans (Fr_trans (Fr_sF (by decide)) (Fr_sF (by decide))) (Fr_w q2)) (by decide) (by decide)) t4, by rw [← e11]; exact t5, t6, t7, t8⟩, t9.trans e13⟩, dc, ds, fun ad K hK => ?_⟩
  unfold qG_copyOf
  exact startWalk_ok (q4 ad _ ⟨_, h8 ad K hK⟩)
/-- the table of types -/
def TT (l : Nat → Nat) (r : S_) : Prop := (1 ≤ fi r 0 ∧ fi r 0 ≤ 8 ∧ 0 ≤ fi r 1 ∧ fi r 1 ≤ 60) ∧ (l 0 = 8 ∧ l 1 = 60 ∧ l 2 = 60 ∧ l 3 = 60 ∧ l 4 = 60 ∧ l 5 = 60 ∧ l 20 = 8) ∧ (∀ c, 0 ≤ c → c < fi r 0 → 0 ≤ ar r 0 c.toNatClampNeg ∧ ar r 0 c.toNatClampNeg ≤ 2) ∧ ∀ t, 0 ≤ t → t < fi r 1 → (-8 ≤ ar r 1 t.toNatClampNeg ∧ ar r 1 t.toNatClampNeg < 8) ∧ (-1 ≤ ar r 2 t.toNatClampNeg ∧ ar r 2 t.toNatClampNeg < t) ∧ (-1 ≤ ar r 3 t.toNatClampNeg ∧ ar r 3 t.toNatClampNeg < t) ∧ (1 ≤ ar r 4 t.toNatClampNeg ∧ ar r 4 t.toNatClampNeg ≤ 16) ∧ (¬ ar r 2 t.toNatClampNeg = -1 → ar r 4 (ar r 2 t.toNatClampNeg).toNatClampNeg < ar r 4 t.toNatClampNeg) ∧ (¬ ar r 3 t.toNatClampNeg = -1 → ar r 4 (ar r 3 t.toNatClampNeg).toNatClampNeg < ar r 4 t.toNatClampNeg) ∧ (ar r 1 t.toNatClampNeg < 0 → ar r 2 t.toNatClampNeg = -1 ∧ ar r 3 t.toNatClampNeg = -1) ∧ (¬ ar r 5 t.toNatClampNeg &&& 1 = 0 → ar r 1 t.toNatClampNeg = -1 ∨ (¬ ar r 2 t.toNatClampNeg = -1 ∧ ¬ ar r 5 (ar r 2 t.toNatClampNeg).toNatClampNeg &&& 1 = 0) ∨ (¬ ar r 3 t.toNatClampNeg = -1 ∧ ¬ ar r 5 (ar r 3 t.toNatClampNeg).toNatClampNeg &&& 1 = 0))
/-- tables untouched -/
def Tb (r r' : S_) : Prop := (∀ k, k < 5 → fi r' k = fi r k) ∧ ∀ k, k < 17 → ar r' k = ar r k
theorem Tb_trans {r1 r2 r3 : S_} (h : Tb r1 r2) (h2 : Tb r2 r3) : Tb r1 r3 := ⟨fun k hk => (h2.1 k hk).trans (h.1 k hk), fun k hk => (h2.2 k hk).trans (h.2 k hk)⟩
theorem Tb_Fr {F A : List Nat} {r r' : S_} (w : Fr F A r r') (h1 : ∀ k ∈ F, 5 ≤ k) (h2 : ∀ k ∈ A, 17 ≤ k) : Tb r r' := ⟨fun k hk => w.1 k (fun z => by have := h1 k z; omega), fun k hk => w.2.1 k (fun z => by have := h2 k z; omega)⟩
theorem TT_Tb {l l' : Nat → Nat} {r r' : S_} (w : TT l r) (h : Tb r r') (hl : FL l l') : TT l' r' := by
  unfold TT
  rw [h.1 0 (by omega), h.1 1 (by omega), h.2 0 (by omega), h.2 1 (by omega), h.2 2 (by omega), h.2 3 (by omega), h.2 4 (by omega), h.2 5 (by omega), hl 0 (by omega), hl 1 (by omega), hl 2 (by omega), hl 3 (by omega), hl 4 (by omega), hl 5 (by omega), hl 20 (by omega)]
  exact w
def FRS (r : S_) : Prop := ∀ v : Int32, 0 ≤ v → v < 8 → -1 ≤ ar r 20 v.toNatClampNeg ∧ ar r 20 v.toNatClampNeg < fi r 11
abbrev Fwo (r r' : S_) : Prop := Fr [11, 15] [20, 21, 22, 23, 24, 25, 26, 27, 28, 29, 30, 31] r r'
def SG (l : Nat → Nat) (r : S_) : Prop := (∃ rh ta N, GI (A0 l) r rh ta N) ∧ PL l ∧ VB r
def WO (l : Nat → Nat) (r : S_) (l' : Nat → Nat) (r' : S_) : Prop := SG l' r' ∧ FRS r' ∧ Fwo r r' ∧ fi r 11 ≤ fi r' 11 ∧ FG l l' ∧ ∀ v : Int32, 0 ≤ v → v < 8 → ¬ ar r 20 v.toNatClampNeg = -1 → ¬ ar r' 20 v.toNatClampNeg = -1
theorem WO_refl {l : Nat → Nat} {r : S_} (h : SG l r) (h2 : FRS r) : WO l r l r := ⟨h, h2, Fr_refl r, Int32.le_refl _, FG_refl l, fun _ _ _ h => h⟩
theorem WO_trans {l l1 l2 : Nat → Nat} {r r1 r2 : S_} (h : WO l r l1 r1) (h2 : WO l1 r1 l2 r2) : WO l r l2 r2 := by
  obtain ⟨a1, a2, a3, a4, a5, a6⟩ := h
  obtain ⟨b1, b2, b3, b4, b5, b6⟩ := h2
  exact ⟨b1, b2, Fr_trans a3 b3, Int32.le_trans a4 b4, FG_trans a5 b5, fun v v1 v2 v3 => b6 v v1 v2 (a6 v v1 v2 v3)⟩
theorem newNode_W {l : Nat → Nat} {r : S_} {p0 p1 p2 : Int32} (hS : SG l r) (hF : FRS r) (a1 : -1 ≤ p0) (a2 : p0 < 8) (b1 : -1 ≤ p1) (b2 : p1 < fi r 11 ∨ p1 = -1) (c1 : -1 ≤ p2) (c2 : p2 < fi r 11 ∨ p2 = -1) : D2 (fun K a r k s => qG_newNode K a r k s p0 p1 p2) l r (fun z l' r' => WO l r l' r' ∧ ar r' 20 = ar r 20 ∧ 0 ≤ z ∧ z < fi r' 11) := by
  obtain ⟨⟨rh, ta, N, hI⟩, hp, hv⟩ := hS
  obtain ⟨z, l', r', k, s, ⟨rh', n1, n2, n3, n4, n5, n6, n7, n8, n9, n10, n11⟩, cc, cs, h⟩ := newNode_D hI hp hv a1 a2 b1 b2 c1 c2
  have e20 : ar r' 20 = ar r 20 := n5.2.1 20 (by decide)
  refine ⟨z, l', r', k, s, ⟨⟨⟨⟨rh', ta, N, n1⟩, n3, n4⟩, fun v v1 v2 => ?_, Fr_mono n5 (by decide) (by decide), n7, ⟨n10, n11⟩, fun v v1 v2 v3 => by rw [e20]; exact v3⟩, e20, n8, n9⟩, cc, cs, h⟩
  rw [e20]
  have := hF v v1 v2
  exact ⟨this.1, by clear hI hv n1 n2 n5 n6 h hF; grind⟩
theorem m1v {x : Int32} (h1 : -8 ≤ x) (h2 : x < 0) : 0 ≤ -1 - x ∧ -1 - x < 8 := by grind
theorem writeOut_D : ∀ (d : Nat) (l : Nat → Nat) (r : S_) (t : Int32), TT l r → 0 ≤ t → t < fi r 1 → (ar r 4 t.toNatClampNeg).toInt < d → SG l r → FRS r → D2 (fun K a r k s => qY_writeOut d K a r k s t) l r (fun z l' r' => WO l r l' r' ∧ 0 ≤ z ∧ z < fi r' 11 ∧ (¬ ar r 5 t.toNatClampNeg &&& 1 = 0 → ¬ ar r' 20 ((0 : Int32)).toNatClampNeg = -1)) := by
  intro d
  induction d with
  | zero =>
    intro l r t w t1 t2 hd hS hF
    have := (w.2.2.2 t t1 t2).2.2.2.1.1
    rw [il] at this
    simp at this
    omega
  | succ d ih =>
    intro l r t w t1 t2 hd hS hF
    obtain ⟨⟨f1, f2, f3, f4⟩, ⟨l0, l1, l2, l3, l4, l5, l20⟩, wc, wt⟩ := w
    have w' : TT l r := ⟨⟨f1, f2, f3, f4⟩, ⟨l0, l1, l2, l3, l4, l5, l20⟩, wc, wt⟩
    obtain ⟨⟨x1, x2⟩, ⟨x3, x4⟩, ⟨x5, x6⟩, ⟨x7, x8⟩, x9, x10, x11, x12⟩ := wt t t1 t2
    have t60 : t.toInt < 60 := by
      rw [it] at t2
      rw [il, show (60 : Int32).toInt = 60 from rfl] at f4
      omega
    have v1 : vp_in t (l 1) := vi t1 (by rw [l1]; omega)
    have v2 : vp_in t (l 2) := vi t1 (by rw [l2]; omega)
    have v3 : vp_in t (l 3) := vi t1 (by rw [l3]; omega)
    by_cases hh : 0 ≤ ar r 1 t.toNatClampNeg
    · -- a constructor: first, second, the node
      have part : ∀ (la : Nat → Nat) (ra : S_) (p : Int32), WO l r la ra → -1 ≤ p → p < t → (¬ p = -1 → ar r 4 p.toNatClampNeg < ar r 4 t.toNatClampNeg) → ∃ (z : Int32) (l' : Nat → Nat) (r' : S_) (k s : Nat), (WO la ra l' r' ∧ -1 ≤ z ∧ (z < fi r' 11 ∨ z = -1) ∧ (¬ p = -1 → ¬ ar r 5 p.toNatClampNeg &&& 1 = 0 → ¬ ar r' 20 ((0 : Int32)).toNatClampNeg = -1)) ∧ k + pC l' ≤ pC la ∧ s + pS l' ≤ pS la ∧ ∀ (ad : Nat → Nat) (J : L_ → S_ → Nat → Nat → Int32 → Prop) (kc ks : Nat), (∀ ad', fx (ad, la) (ad', l') → J (ad', l') r' kc ks z) → ((¬ p = (-1)) → ∃ k9 s11 k10 s12 : Nat, k9 + k10 = k + kc ∧ s11 + s12 = s + ks ∧ qY_writeOut d (fun z6 a8 r7 => fx (ad, la) a8 → J a8 r7 k10 s12 z6) (ad, la) ra k9 s11 p) ∧ ((p = (-1)) → J (ad, la) ra (k + kc) (s + ks) (-1)) := by
        intro la ra p hW p1 p2 p3
        by_cases hp : p = -1
        · obtain ⟨b1, b2, -⟩ := hW
          refine ⟨-1, la, ra, 0, 0, ⟨WO_refl b1 b2, by decide, Or.inr rfl, fun z => absurd hp z⟩, by omega, by omega, fun ad J kc ks hJ => ⟨fun z => absurd hp z, fun _ => ?_⟩⟩
          have := hJ ad (fx_refl _)
          rw [Nat.zero_add, Nat.zero_add]
          exact this
        · have p4 : 0 ≤ p := by clear hW ih wt wc w' hS hF; grind
          have htb : Tb r ra := Tb_Fr hW.2.2.1 (by decide) (by decide)
          have wa : TT la ra := TT_Tb w' htb hW.2.2.2.2.1.1
          have e1 : fi ra 1 = fi r 1 := htb.1 1 (by omega)
          have e4 : ar ra 4 = ar r 4 := htb.2 4 (by omega)
          have e5 : ar ra 5 = ar r 5 := htb.2 5 (by omega)
          have p5 := p3 hp
          rw [it] at p5
          obtain ⟨z, l', r', k, s, ⟨q1, q2, q3, q4⟩, dc, ds, h⟩ := ih la ra p wa p4 (by rw [e1]; exact ltt p2 t2) (by rw [e4]; omega) hW.1 hW.2.1
          rw [e5] at q4
          refine ⟨z, l', r', k, s, ⟨q1, by clear ih wt wc w' hS hF hW h q1 q4; grind, Or.inl q3, fun _ => q4⟩, dc, ds, fun ad J kc ks hJ => ⟨fun _ => ⟨k, s, kc, ks, rfl, rfl, ?_⟩, fun z => absurd z hp⟩⟩
          exact h ad _ (fun ad' f _ => hJ ad' f)
      obtain ⟨z1, la, ra, k1, s1, ⟨q1, q2, q3, q4⟩, c1, c2, h1⟩ := part l r (ar r 2 t.toNatClampNeg) (WO_refl hS hF) x3 x4 x9
      obtain ⟨z2, lb, rb, k2, s2, ⟨q5, q6, q7, q8⟩, c3, c4, h2⟩ := part la ra (ar r 3 t.toNatClampNeg) q1 x5 x6 x10
      have q9 : z1 < fi rb 11 ∨ z1 = -1 := by
        rcases q3 with q | q
        · left
          have := q5.2.2.2.1
          clear ih wt wc w' hS hF part q1 q5 h1 h2 q4 q8
          grind
        · exact Or.inr q
      obtain ⟨z3, lc, rc, k3, s3, ⟨n1, n2, n3, n4⟩, c5, c6, h3⟩ := newNode_W q5.1 q5.2.1 (p0 := ar r 1 t.toNatClampNeg) (p1 := z1) (p2 := z2) (by clear ih wt wc w' hS hF part q1 q5 h1 h2 q4 q8; grind) x2 q2 q9 q6 q7
      have m0 : (0 : Int32) ≤ 0 ∧ (0 : Int32) < 8 := by decide
      refine ⟨z3, lc, rc, k1 + (k2 + k3), s1 + (s2 + s3), ⟨WO_trans q1 (WO_trans q5 n1), n3, n4, fun hb => ?_⟩, by omega, by omega, fun ad K hK => ?_⟩
      · rw [n2]
        rcases x12 hb with e | ⟨e, e2⟩ | ⟨e, e2⟩
        · exact absurd hh (by rw [e]; decide)
        · exact q5.2.2.2.2.2 0 m0.1 m0.2 (q4 e e2)
        · exact q8 e e2
      · show qY_writeOut (d + 1) K (ad, l) r _ _ t
        rw [qY_writeOut]
        unfold qY_writeOut_B
        refine ⟨v1, fun _ => ⟨v2, v3, ?_⟩, fun z => absurd hh z⟩
        refine h1 ad (fun a8 r7 kc ks z6 => qY_writeOut_B_J95 (qY_writeOut d) K a8 r7 kc ks (ar r 1 t.toNatClampNeg) (ar r 3 t.toNatClampNeg) z6) (k2 + k3) (s2 + s3) (fun ad1 f1 => ?_)
        show qY_writeOut_B_J95 (qY_writeOut d) K (ad1, la) ra (k2 + k3) (s2 + s3) (ar r 1 t.toNatClampNeg) (ar r 3 t.toNatClampNeg) z1
        unfold qY_writeOut_B_J95
        refine h2 ad1 (fun a16 r15 kc ks z14 => qY_writeOut_B_J113 (qY_writeOut d) K a16 r15 kc ks (ar r 1 t.toNatClampNeg) z1 z14) k3 s3 (fun ad2 f2 => ?_)
        show qY_writeOut_B_J113 (qY_writeOut d) K (ad2, lb) rb k3 s3 (ar r 1 t.toNatClampNeg) z1 z2
        unfold qY_writeOut_B_J113
        exact ⟨k3, s3, 0, 0, rfl, rfl, h3 ad2 _ (fun ad3 f3 _ => hK ad3 (fx_trans f1 (fx_trans f2 f3)))⟩
    · -- a variable
      have hn : ar r 1 t.toNatClampNeg < 0 := Int32.not_le.mp hh
      have hv := m1v x1 hn
      have v20 : vp_in (-1 - ar r 1 t.toNatClampNeg) (l 20) := vi2 hv.1 hv.2 (by rw [l20]; decide)
      have fin : ∀ (la : Nat → Nat) (ra : S_) (u : Int32), WO l r la ra → ar ra 20 = ar r 20 → 0 ≤ u → u < fi ra 11 → WO l r la (sA ra 20 (upd (ar ra 20) (-1 - ar r 1 t.toNatClampNeg).toNatClampNeg u)) ∧ (¬ ar r 5 t.toNatClampNeg &&& 1 = 0 → ¬ ar (sA ra 20 (upd (ar ra 20) (-1 - ar r 1 t.toNatClampNeg).toNatClampNeg u)) 20 ((0 : Int32)).toNatClampNeg = -1) := by
        intro la ra u hW e20 u1 u2
        have un : ¬ u = -1 := fun e => by rw [e] at u1; exact absurd u1 (by decide)
        refine ⟨⟨hW.1, fun v v1 v2 => ?_, Fr_trans hW.2.2.1 (Fr_sA (by decide)), hW.2.2.2.1, hW.2.2.2.2.1, fun v v1 v2 v3 => ?_⟩, fun hb => ?_⟩
        · show -1 ≤ upd (ar ra 20) (-1 - ar r 1 t.toNatClampNeg).toNatClampNeg u v.toNatClampNeg ∧ upd (ar ra 20) (-1 - ar r 1 t.toNatClampNeg).toNatClampNeg u v.toNatClampNeg < fi ra 11
          rw [updI _ _ hv.1 v1]
          split
          · exact ⟨by clear hW wt wc w' hS hF ih; grind, u2⟩
          · exact hW.2.1 v v1 v2
        · show ¬ upd (ar ra 20) (-1 - ar r 1 t.toNatClampNeg).toNatClampNeg u v.toNatClampNeg = -1
          rw [updI _ _ hv.1 v1]
          split
          · exact un
          · exact hW.2.2.2.2.2 v v1 v2 v3
        · rcases x12 hb with e | ⟨e, e2⟩ | ⟨e, e2⟩
          · rw [ar_sA, if_pos rfl, e]
            have : ((-1 : Int32) - -1).toNatClampNeg = ((0 : Int32)).toNatClampNeg := rfl
            rw [this, pk_us]
            exact un
          · exact absurd (x11 hn).1 e
          · exact absurd (x11 hn).2 e
      by_cases hf : ar r 20 (-1 - ar r 1 t.toNatClampNeg).toNatClampNeg = -1
      · obtain ⟨z3, lc, rc, k3, s3, ⟨n1, n2, n3, n4⟩, c5, c6, h3⟩ := newNode_W hS hF (p0 := -1) (p1 := -1) (p2 := -1) (by decide) (by decide) (by decide) (Or.inr rfl) (by decide) (Or.inr rfl)
        obtain ⟨g1, g2⟩ := fin lc rc z3 n1 n2 n3 n4
        have l20c : lc 20 = 8 := (n1.2.2.2.2.1.1 20 (by omega)).trans l20
        have v20c : vp_in (-1 - ar r 1 t.toNatClampNeg) (lc 20) := vi2 hv.1 hv.2 (by rw [l20c]; decide)
        refine ⟨z3, lc, sA rc 20 (upd (ar rc 20) (-1 - ar r 1 t.toNatClampNeg).toNatClampNeg z3), k3, s3, ⟨g1, n3, by rw [fi_sA]; exact n4, g2⟩, c5, c6, fun ad K hK => ?_⟩
        show qY_writeOut (d + 1) K (ad, l) r _ _ t
        rw [qY_writeOut]
        unfold qY_writeOut_B
        refine ⟨v1, fun z => absurd z hh, fun _ => ⟨v20, fun z => absurd hf z, fun _ => ⟨k3, s3, 0, 0, rfl, rfl, h3 ad _ (fun ad1 f1 _ => ?_)⟩⟩⟩
        unfold qY_writeOut_B_J52
        refine ⟨v20c, fun r38 e38 => ⟨v20c, ?_⟩⟩
        subst e38
        have := hK ad1 f1
        have e9 : ar (sA rc 20 (upd (ar rc 20) (-1 - ar r 1 t.toNatClampNeg).toNatClampNeg z3)) 20 (-1 - ar r 1 t.toNatClampNeg).toNatClampNeg = z3 := by
          rw [ar_sA, if_pos rfl, pk_us]
        rw [e9]
        exact this
      · have b := hF _ hv.1 hv.2
        have b1 : 0 ≤ ar r 20 (-1 - ar r 1 t.toNatClampNeg).toNatClampNeg := by
          have q := b.1
          clear ih wt wc w' hS hF fin b
          grind
        obtain ⟨g1, g2⟩ := fin l r _ (WO_refl hS hF) rfl b1 b.2
        refine ⟨ar r 20 (-1 - ar r 1 t.toNatClampNeg).toNatClampNeg, l, sA r 20 (upd (ar r 20) (-1 - ar r 1 t.toNatClampNeg).toNatClampNeg (ar r 20 (-1 - ar r 1 t.toNatClampNeg).toNatClampNeg)), 0, 0, ⟨g1, b1, by rw [fi_sA]; exact b.2, g2⟩, by omega, by omega, fun ad K hK => ?_⟩
        show qY_writeOut (d + 1) K (ad, l) r _ _ t
        rw [qY_writeOut]
        unfold qY_writeOut_B
        refine ⟨v1, fun z => absurd z hh, fun _ => ⟨v20, fun _ => ⟨v20, ?_⟩, fun z => absurd z hf⟩⟩
        unfold qY_writeOut_B_J52
        refine ⟨v20, fun r38 e38 => ⟨v20, ?_⟩⟩
        subst e38
        have := hK ad (fx_refl _)
        have e9 : ar (sA r 20 (upd (ar r 20) (-1 - ar r 1 t.toNatClampNeg).toNatClampNeg (ar r 20 (-1 - ar r 1 t.toNatClampNeg).toNatClampNeg))) 20 (-1 - ar r 1 t.toNatClampNeg).toNatClampNeg = ar r 20 (-1 - ar r 1 t.toNatClampNeg).toNatClampNeg := by
          rw [ar_sA, if_pos rfl, pk_us]
        rw [e9]
        exact this
end WRITE
