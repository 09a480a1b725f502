/-! Two typings of one expression come to the same. -/
section ZTYC
theorem zo1 {x y z : Int32} (h : x ≤ y) (h2 : y < z) : x ≤ z := by grind
theorem zo2 {x y z : Int32} (h : x ≤ y) (h2 : y ≤ z) : x ≤ z := by grind
theorem zo3 {x y z : Int32} (h : x < y) (h2 : y ≤ z) : x < z := by grind
theorem zo4 {x y : Int32} (h : x < y) : x ≤ y := by grind
variable {T : Tbz} {L L' : Int32 → Int32 → Prop} {V V2 V' V2' : (Int32 → Ut) → Prop} {c c2 c' c2' : Int32}
def zRes (T : Tbz) (L : Int32 → Int32 → Prop) (V' V2' : (Int32 → Ut) → Prop) (t t' c' c2' : Int32) (W : Int32 → Nat → Prop) (k am : Prop) (p : Int) (W2 : Int32 → Nat → Prop) (k2 am2 : Prop) (p2 : Int) : Prop := ((∀ ρ, ¬ V' ρ) ∧ ∀ ρ, ¬ V2' ρ) ∨ ((∃ ρ, V' ρ) ∧ ∃ L', (∀ x y, L x y → L' x y) ∧ zLb L' c' c2' ∧ L' t t' ∧ zSM V' V2' L' ∧ zWR (tI T) (t1 T) (t2 T) V' V2' L' k W k2 W2 ∧ (am ↔ am2) ∧ p = p2)
theorem zRes_empty {t t' : Int32} {W W2 : Int32 → Nat → Prop} {k am k2 am2 : Prop} {p p2 : Int} (h1 : ∀ ρ, ¬ V' ρ) (h2 : ∀ ρ, ¬ V2' ρ) : zRes T L V' V2' t t' c' c2' W k am p W2 k2 am2 p2 := Or.inl ⟨h1, h2⟩
theorem zRes_mk {t t' : Int32} {W W2 : Int32 → Nat → Prop} {k am k2 am2 : Prop} {p p2 : Int} (L' : Int32 → Int32 → Prop) (h1 : ∀ x y, L x y → L' x y) (h2 : zLb L' c' c2') (h3 : L' t t') (h4 : zSM V' V2' L') (h5 : zWR (tI T) (t1 T) (t2 T) V' V2' L' k W k2 W2) (h6 : am ↔ am2) (h7 : p = p2) : zRes T L V' V2' t t' c' c2' W k am p W2 k2 am2 p2 := by
  rcases zSM_ne h4 with h | h
  · exact Or.inl h
  · exact Or.inr ⟨h.1, L', h1, h2, h3, h4, h5, h6, h7⟩
theorem zcopy_c {G G2 : Int32 → Prop} {te te2 t t' : Int32} {K K2 W W2 : Int32 → Nat → Prop} {k am k2 am2 : Prop} {p p2 : Int} (s : zSM V V2 L) (lb : zLb L c c2) (hG : ∀ x, G x → ∃ y, G2 y ∧ L x y) (hG2 : ∀ y, G2 y → ∃ x, G x ∧ L x y) (ht : L te te2) (hK : zKR L K K2) (h : zCopy G te K c V t c' V' W) (h2 : zCopy G2 te2 K2 c2 V2 t' c2' V2' W2) (i1 : ∀ ρ, V' ρ → V ρ) (i2 : ∀ ρ, V2' ρ → V2 ρ) (cc : c ≤ c') (cc2 : c2 ≤ c2') (tt : 0 ≤ t ∧ t < c') (tt2 : 0 ≤ t' ∧ t' < c2') (nk : ¬ k) (nk2 : ¬ k2) (ha : am ↔ am2) (hp : p = p2) : zRes T L V' V2' t t' c' c2' W k am p W2 k2 am2 p2 := by
  obtain ⟨cp, b1, b2, b3, b4⟩ := h
  obtain ⟨cq, d1, d2, d3, d4⟩ := h2
  let L' : Int32 → Int32 → Prop := fun x y => L x y ∨ (x = t ∧ y = t') ∨ ∃ v u, L v u ∧ (∃ cl, K v cl) ∧ (∃ cl, K2 u cl) ∧ x = cp v ∧ y = cq u
  refine zRes_mk L' (fun x y h => Or.inl h) ?_ (Or.inr (Or.inl ⟨rfl, rfl⟩)) ⟨fun ρ hr => ?_, fun σ hs => ?_⟩ ⟨fun x cl hw => ?_, fun y cl hw => ?_, fun ρ σ r1 r2 r3 q A md => ?_⟩ ha hp
  · intro x y hl
    rcases hl with hl | ⟨e1, e2⟩ | ⟨v, u, _, ⟨cl, kv⟩, ⟨cl2, ku⟩, e1, e2⟩
    · exact zLb_le lb cc cc2 x y hl
    · subst e1 e2
      exact ⟨tt, tt2⟩
    · subst e1 e2
      exact ⟨b1 v cl kv, d1 u cl2 ku⟩
  · obtain ⟨ρ3, p1, p2, p3, p4⟩ := b2 ρ hr
    obtain ⟨σ, s1, s2⟩ := s.1 ρ (i1 ρ hr)
    obtain ⟨σ3, s3, s4⟩ := s.1 ρ3 p1
    obtain ⟨σ', q1, q2, q3, q4⟩ := d3 σ σ3 s1 s3 (fun y hy => by
      obtain ⟨x, x1, x2⟩ := hG2 y hy
      rw [← s4 x y x2, p2 x x1, s2 x y x2])
    refine ⟨σ', q1, fun x y hl => ?_⟩
    rcases hl with hl | ⟨e1, e2⟩ | ⟨v, u, lv, ⟨cl, kv⟩, ⟨cl2, ku⟩, e1, e2⟩
    · rw [q2 y (lb x y hl).2.2]
      exact s2 x y hl
    · subst e1 e2
      rw [q3, ← p3]
      exact s4 te te2 ht
    · subst e1 e2
      rw [q4 u cl2 ku, ← p4 v cl kv]
      exact s4 v u lv
  · obtain ⟨σ3, p1, p2, p3, p4⟩ := d2 σ hs
    obtain ⟨ρ, s1, s2⟩ := s.2 σ (i2 σ hs)
    obtain ⟨ρ3, s3, s4⟩ := s.2 σ3 p1
    obtain ⟨ρ', q1, q2, q3, q4⟩ := b3 ρ ρ3 s1 s3 (fun x hx => by
      obtain ⟨y, y1, y2⟩ := hG x hx
      rw [s4 x y y2, p2 y y1, s2 x y y2])
    refine ⟨ρ', q1, fun x y hl => ?_⟩
    rcases hl with hl | ⟨e1, e2⟩ | ⟨v, u, lv, ⟨cl, kv⟩, ⟨cl2, ku⟩, e1, e2⟩
    · rw [q2 x (lb x y hl).1.2]
      exact s2 x y hl
    · subst e1 e2
      rw [q3, ← p3]
      exact s4 te te2 ht
    · subst e1 e2
      rw [q4 v cl kv, ← p4 u cl2 ku]
      exact s4 v u lv
  · obtain ⟨v, e, kv⟩ := (b4 x cl).mp hw
    obtain ⟨u, u1, u2⟩ := hK.1 v cl kv
    exact ⟨cq u, Or.inr (Or.inr ⟨v, u, u1, ⟨cl, kv⟩, ⟨cl, u2⟩, e, rfl⟩)⟩
  · obtain ⟨u, e, ku⟩ := (d4 y cl).mp hw
    obtain ⟨v, u1, u2⟩ := hK.2 u cl ku
    exact ⟨cp v, Or.inr (Or.inr ⟨v, u, u1, ⟨cl, u2⟩, ⟨cl, ku⟩, rfl, e⟩)⟩
  · constructor
    · rintro ⟨_, x2⟩
      refine ⟨fun z => absurd z nk2, fun y cl hw => ?_⟩
      obtain ⟨u, e, ku⟩ := (d4 y cl).mp hw
      obtain ⟨v, u1, u2⟩ := hK.2 u cl ku
      rw [e, ← r3 (cp v) (cq u) (Or.inr (Or.inr ⟨v, u, u1, ⟨cl, u2⟩, ⟨cl, ku⟩, rfl, rfl⟩))]
      exact x2 (cp v) cl ((b4 _ cl).mpr ⟨v, rfl, u2⟩)
    · rintro ⟨_, x2⟩
      refine ⟨fun z => absurd z nk, fun x cl hw => ?_⟩
      obtain ⟨v, e, kv⟩ := (b4 x cl).mp hw
      obtain ⟨u, u1, u2⟩ := hK.1 v cl kv
      rw [e, r3 (cp v) (cq u) (Or.inr (Or.inr ⟨v, u, u1, ⟨cl, kv⟩, ⟨cl, u2⟩, rfl, rfl⟩))]
      exact x2 (cq u) cl ((d4 _ cl).mpr ⟨u, rfl, u2⟩)
theorem zstat_c {ev : (Nat → Ut) → Int32 → Ut} {ty : Int32} {m : Prop} {w w2 t t' : Int32} {W W2 : Int32 → Nat → Prop} {k am k2 am2 : Prop} {p p2 : Int} {C : Nat} (s : zSM V V2 L) (lb : zLb L c c2) (h : zStat ev ty m w c V t c' V') (h2 : zStat ev ty m w2 c2 V2 t' c2' V2') (i1 : ∀ ρ, V' ρ → V ρ) (i2 : ∀ ρ, V2' ρ → V2 ρ) (cc : c ≤ c') (cc2 : c2 ≤ c2') (tt : 0 ≤ t ∧ t < c') (tt2 : 0 ≤ t' ∧ t' < c2') (nk : ¬ k) (nk2 : ¬ k2) (ha : am ↔ am2) (hp : p = p2) (hW : ∀ x cl, W x cl ↔ m ∧ x = w ∧ cl = C) (hW2 : ∀ x cl, W2 x cl ↔ m ∧ x = w2 ∧ cl = C) : zRes T L V' V2' t t' c' c2' W k am p W2 k2 am2 p2 := by
  obtain ⟨b1, b2, b3⟩ := h
  obtain ⟨d1, d2, d3⟩ := h2
  let L' : Int32 → Int32 → Prop := fun x y => L x y ∨ (x = t ∧ y = t') ∨ (m ∧ x = w ∧ y = w2)
  refine zRes_mk L' (fun x y h => Or.inl h) ?_ (Or.inr (Or.inl ⟨rfl, rfl⟩)) ⟨fun ρ hr => ?_, fun σ hs => ?_⟩ ⟨fun x cl hw => ?_, fun y cl hw => ?_, fun ρ σ r1 r2 r3 q A md => ?_⟩ ha hp
  · intro x y hl
    rcases hl with hl | ⟨e1, e2⟩ | ⟨hm, e1, e2⟩
    · exact zLb_le lb cc cc2 x y hl
    · subst e1 e2
      exact ⟨tt, tt2⟩
    · subst e1 e2
      exact ⟨b1 hm, d1 hm⟩
  · obtain ⟨θ, p1, p2⟩ := b2 ρ hr
    obtain ⟨σ, s1, s2⟩ := s.1 ρ (i1 ρ hr)
    obtain ⟨σ', q1, q2, q3, q4⟩ := d3 σ θ s1
    refine ⟨σ', q1, fun x y hl => ?_⟩
    rcases hl with hl | ⟨e1, e2⟩ | ⟨hm, e1, e2⟩
    · rw [q2 y (lb x y hl).2.2]
      exact s2 x y hl
    · subst e1 e2
      rw [q3, p1]
    · subst e1 e2
      rw [q4 hm, p2 hm]
  · obtain ⟨θ, p1, p2⟩ := d2 σ hs
    obtain ⟨ρ, s1, s2⟩ := s.2 σ (i2 σ hs)
    obtain ⟨ρ', q1, q2, q3, q4⟩ := b3 ρ θ s1
    refine ⟨ρ', q1, fun x y hl => ?_⟩
    rcases hl with hl | ⟨e1, e2⟩ | ⟨hm, e1, e2⟩
    · rw [q2 x (lb x y hl).1.2]
      exact s2 x y hl
    · subst e1 e2
      rw [q3, p1]
    · subst e1 e2
      rw [q4 hm, p2 hm]
  · obtain ⟨hm, e, _⟩ := (hW x cl).mp hw
    exact ⟨w2, Or.inr (Or.inr ⟨hm, e, rfl⟩)⟩
  · obtain ⟨hm, e, _⟩ := (hW2 y cl).mp hw
    exact ⟨w, Or.inr (Or.inr ⟨hm, rfl, e⟩)⟩
  · constructor
    · rintro ⟨_, x2⟩
      refine ⟨fun z => absurd z nk2, fun y cl hw => ?_⟩
      obtain ⟨hm, e, e2⟩ := (hW2 y cl).mp hw
      rw [e, ← r3 w w2 (Or.inr (Or.inr ⟨hm, rfl, rfl⟩))]
      exact x2 w cl ((hW w cl).mpr ⟨hm, rfl, e2⟩)
    · rintro ⟨_, x2⟩
      refine ⟨fun z => absurd z nk, fun x cl hw => ?_⟩
      obtain ⟨hm, e, e2⟩ := (hW x cl).mp hw
      rw [e, r3 w w2 (Or.inr (Or.inr ⟨hm, rfl, rfl⟩))]
      exact x2 w2 cl ((hW2 w2 cl).mpr ⟨hm, rfl, e2⟩)
theorem zTYC (f1 : ∀ c k c1, t1 T c k c1 → ta1 T k) (f2 : ∀ c k c1, t2 T c k c1 → ta2 T k) : ∀ (d : Nat) (e : Int32) (Γ Γ2 : List En) (c c2 : Int32) (V V2 : (Int32 → Ut) → Prop) (L : Int32 → Int32 → Prop) (t c' : Int32) (V' : (Int32 → Ut) → Prop) (W : Int32 → Nat → Prop) (k am : Prop) (p : Int) (t' c2' : Int32) (V2' : (Int32 → Ut) → Prop) (W2 : Int32 → Nat → Prop) (k2 am2 : Prop) (p2 : Int), zTY T d e Γ c V t c' V' W k am p → zTY T d e Γ2 c2 V2 t' c2' V2' W2 k2 am2 p2 → zLoc c V → zLoc c2 V2 → 0 ≤ c ∧ 0 ≤ c2 → zLb L c c2 → zSM V V2 L → zEnv L Γ Γ2 → zRes T L V' V2' t t' c' c2' W k am p W2 k2 am2 p2 := by
  intro d
  induction d with
  | zero => intro e Γ Γ2 c c2 V V2 L t c' V' W k am p t' c2' V2' W2 k2 am2 p2 h; exact h.elim
  | succ d ih =>
    intro e Γ Γ2 c c2 V V2 L t c' V' W k am p t' c2' V2' W2 k2 am2 p2 h h' l l2 c0 lb s en
    rw [zTY] at h h'
    obtain ⟨i1, h⟩ := h
    obtain ⟨i2, h'⟩ := h'
    rcases zSM_ne s with ne | ⟨⟨ρ0, n1⟩, σ0, n2⟩
    · exact zRes_empty (fun ρ hr => ne.1 ρ (i1 ρ hr)) (fun ρ hr => ne.2 ρ (i2 ρ hr))
    rcases h with ⟨_, h⟩ | ⟨m1, m2, m3, m4, h0, h1, h2, h3, h4, h5⟩
    · exact absurd n1 (h ρ0)
    rcases h' with ⟨_, h⟩ | ⟨m1', m2', m3', _, h0', h1', h2', h3', h4', h5'⟩
    · exact absurd n2 (h σ0)
    rcases m4 with hk | hk | hk | hk | hk | hk
    · -- NAME
      obtain ⟨x1, x2⟩ := h0 hk
      obtain ⟨y1, y2⟩ := h0' hk
      rcases zEnv_look Γ Γ2 (x := tA T e) en with ⟨q1, q2⟩ | ⟨⟨x, b, te, K, pe⟩, Γ', ⟨x', b', te', K', pe'⟩, Γ2', q1, q2, ⟨q3, q4, q5, q6⟩, q7⟩
      · exact zRes_empty (x1 q1) (y1 q2)
      · have q4 : b = b' := q4
        have q5 : L te te' := q5
        have q6 : b = true → zKR L K K' ∧ pe = pe' := q6
        have u1 := x2 x b te K pe Γ' q1
        have u2 := y2 x' b' te' K' pe' Γ2' q2
        subst q4
        cases b with
        | false =>
          obtain ⟨e1, e2, e3, e4, e5, e6⟩ := u1.1 rfl
          obtain ⟨g1, g2, g3, g4, g5, g6⟩ := u2.1 rfl
          subst e1 g1
          refine zRes_mk L (fun _ _ h => h) (zLb_le lb m2 m2') q5 ?_ (zWR_no e4 g4 e3 g3) ⟨fun z => absurd z e5, fun z => absurd z g5⟩ (by rw [e6, g6])
          exact zSM_cut (P := fun _ => True) (P2 := fun _ => True) s (fun ρ => ⟨fun h => ⟨i1 ρ h, trivial⟩, fun h => e2 ρ h.1⟩) (fun ρ => ⟨fun h => ⟨i2 ρ h, trivial⟩, fun h => g2 ρ h.1⟩) (fun _ _ _ => Iff.rfl)
        | true =>
          obtain ⟨e1, e2, e3, e4⟩ := u1.2 rfl
          obtain ⟨g1, g2, g3, g4⟩ := u2.2 rfl
          have lm := zEnv_lams Γ' Γ2' q7
          exact zcopy_c s lb lm.1 lm.2 q5 (q6 rfl).1 e1 g1 i1 i2 m2 m2' m3 m3' e2 g2 ⟨fun z => absurd z e3, fun z => absurd z g3⟩ (by rw [e4, g4]; exact (q6 rfl).2)
    · -- LAMBDA
      obtain ⟨f, ca, tb, cb, Vb, z1, z2, z3, z4, z5, z6⟩ := h1 hk
      obtain ⟨f', ca', tb', cb', Vb', y1, y2, y3, y4, y5, y6⟩ := h1' hk
      have fc : c ≤ ca := zo1 z1.1 z1.2
      have fc2 : c2 ≤ ca' := zo1 y1.1 y1.2
      have r := ih (tB T e) _ _ ca ca' V V2 (zAd L f f') tb cb Vb W k am p tb' cb' Vb' W2 k2 am2 p2 z2 y2 (zLoc_le l fc) (zLoc_le l2 fc2) ⟨zo2 c0.1 fc, zo2 c0.2 fc2⟩ (zLb_ad lb fc fc2 ⟨z3.2.2, z1.2⟩ ⟨y3.2.2, y1.2⟩) (zSM_fresh s l l2 lb z1.1 y1.1) ⟨⟨rfl, rfl, zAd_n, fun hb => absurd (show false = true from hb) (by decide)⟩, zEnv_mono (fun _ _ h => zAd_o h) Γ Γ2 en⟩
      rcases r with ⟨r1, r2⟩ | ⟨r0, L1, r1, r2, r3, r4, r5, r6, r7⟩
      · exact zRes_empty (fun ρ hr => r1 ρ ((z6 ρ).mp hr).1) (fun ρ hr => r2 ρ ((y6 ρ).mp hr).1)
      · have s2 := zSM_fresh r4 z4 y4 r2 z3.1 y3.1
        have s3 : zSM V' V2' (zAd L1 t t') := zSM_cut s2 z6 y6 (fun ρ σ ag => by
          rw [ag t t' zAd_n, ag tb tb' (zAd_o r3), ag f f' (zAd_o (r1 _ _ zAd_n))])
        have cle : cb ≤ c' := zo1 z3.1 z3.2.1
        have cle2 : cb' ≤ c2' := zo1 y3.1 y3.2.1
        exact zRes_mk (zAd L1 t t') (fun x y h => zAd_o (r1 x y (zAd_o h))) (zLb_ad r2 cle cle2 m3 m3') zAd_n s3 (zWR_mono (fun ρ hr => ((z6 ρ).mp hr).1) (fun ρ hr => ((y6 ρ).mp hr).1) (fun _ _ h => zAd_o h) r5) r6 r7
    · -- APPLY
      obtain ⟨x1, d1, V1, W1, k1, am1, p1, x2, d2, V3, W3, k3, am3, p3, ar, z1, z2, z3, z4, z5, z6, z7, z8, z9, z10, z11⟩ := h2 hk
      obtain ⟨x1', d1', V1', W1', k1', am1', p1', x2', d2', V3', W3', k3', am3', p3', ar', y1, y2, y3, y4, y5, y6, y7, y8, y9, y10, y11⟩ := h2' hk
      have r := ih (tA T e) Γ Γ2 c c2 V V2 L x1 d1 V1 W1 k1 am1 p1 x1' d1' V1' W1' k1' am1' p1' z1 y1 l l2 c0 lb s en
      have j2 : ∀ ρ, V3 ρ → V1 ρ := by
        cases d with
        | zero => exact z2.elim
        | succ d => exact (by rw [zTY] at z2; exact z2.1)
      have j2' : ∀ ρ, V3' ρ → V1' ρ := by
        cases d with
        | zero => exact y2.elim
        | succ d => exact (by rw [zTY] at y2; exact y2.1)
      rcases r with ⟨r1, r2⟩ | ⟨r0, L1, r1, r2, r3, r4, r5, r6, r7⟩
      · exact zRes_empty (fun ρ hr => r1 ρ (j2 ρ ((z7 ρ).mp hr).1)) (fun ρ hr => r2 ρ (j2' ρ ((y7 ρ).mp hr).1))
      · have c1 : 0 ≤ d1 ∧ 0 ≤ d1' := ⟨zo2 c0.1 z6.1, zo2 c0.2 y6.1⟩
        have q := ih (tB T e) Γ Γ2 d1 d1' V1 V1' L1 x2 d2 V3 W3 k3 am3 p3 x2' d2' V3' W3' k3' am3' p3' z2 y2 z4 y4 c1 r2 r4 (zEnv_mono r1 Γ Γ2 en)
        rcases q with ⟨q1, q2⟩ | ⟨q0, L2, q1, q2, q3, q4, q5, q6, q7⟩
        · exact zRes_empty (fun ρ hr => q1 ρ ((z7 ρ).mp hr).1) (fun ρ hr => q2 ρ ((y7 ρ).mp hr).1)
        · have s2 := zSM_fresh q4 z5 y5 q2 z3.1 y3.1
          have le1 : d2 ≤ c' := zo1 z3.1 m3.2
          have le2 : d2' ≤ c2' := zo1 y3.1 m3'.2
          have lb2 := zLb_ad q2 le1 le2 m3 m3'
          -- the arrow's node: its value is told by the others
          have s3 : zSM V' V2' (zAd L2 t t') := by
            refine ⟨fun ρ hr => ?_, fun σ hs => ?_⟩
            · obtain ⟨v1, v2, v3⟩ := (z7 ρ).mp hr
              obtain ⟨σ, u1, u2⟩ := s2.1 ρ v1
              have nt : ¬ t' = ar' := y3.2.2
              refine ⟨zUp σ ar' (ρ ar), (y7 _).mpr ⟨zLoc_up y5 y3.2.1 u1, ?_, ?_⟩, fun x y hl => ?_⟩
              · rw [zUp_s, zUp_n (zlt_ne y6.2.2.2.2 y3.2.1), zUp_n nt, v2, u2 x2 x2' (zAd_o q3), u2 t t' zAd_n]
              · rw [zUp_s, zUp_n (zlt_ne (zo3 y6.2.2.1.2 y6.2.1) y3.2.1), ← v3]
                exact (u2 x1 x1' (zAd_o (q1 _ _ r3))).symm
              · have ny : ¬ y = ar' := by
                  rcases hl with hl | ⟨_, e2⟩
                  · exact zlt_ne (q2 x y hl).2.2 y3.2.1
                  · rw [e2]; exact nt
                rw [zUp_n ny]
                exact u2 x y hl
            · obtain ⟨v1, v2, v3⟩ := (y7 σ).mp hs
              obtain ⟨ρ, u1, u2⟩ := s2.2 σ v1
              have nt : ¬ t = ar := z3.2.2
              refine ⟨zUp ρ ar (σ ar'), (z7 _).mpr ⟨zLoc_up z5 z3.2.1 u1, ?_, ?_⟩, fun x y hl => ?_⟩
              · rw [zUp_s, zUp_n (zlt_ne z6.2.2.2.2 z3.2.1), zUp_n nt, v2, u2 x2 x2' (zAd_o q3), u2 t t' zAd_n]
              · rw [zUp_s, zUp_n (zlt_ne (zo3 z6.2.2.1.2 z6.2.1) z3.2.1), ← v3]
                exact u2 x1 x1' (zAd_o (q1 _ _ r3))
              · have ny : ¬ x = ar := by
                  rcases hl with hl | ⟨e1, _⟩
                  · exact zlt_ne (q2 x y hl).1.2 z3.2.1
                  · rw [e1]; exact nt
                rw [zUp_n ny]
                exact u2 x y hl
          refine zRes_mk (zAd L2 t t') (fun x y h => zAd_o (q1 x y (r1 x y h))) lb2 zAd_n s3 ?_ (by rw [z10, y10, r6, q6]) (by rw [z11, y11, r7, q7])
          have w1 := zWR_mono (V' := V') (V2' := V2') (L' := zAd L2 t t') (fun ρ hr => j2 ρ ((z7 ρ).mp hr).1) (fun ρ hr => j2' ρ ((y7 ρ).mp hr).1) (fun x y h => zAd_o (q1 x y h)) r5
          have w2 := zWR_mono (V' := V') (V2' := V2') (L' := zAd L2 t t') (fun ρ hr => ((z7 ρ).mp hr).1) (fun ρ hr => ((y7 ρ).mp hr).1) (fun x y h => zAd_o h) q5
          exact zWR_or w1 w2 z9 y9 z8 y8
    · -- LET
      obtain ⟨x1, d1, V1, W1, k1, am1, p1, K, p0, Wb, kb, amb, W3, k3, am3, p3, z1, z2, z3, z4, z5, z6, z7, z8⟩ := h3 hk
      obtain ⟨x1', d1', V1', W1', k1', am1', p1', K', p0', Wb', kb', amb', W3', k3', am3', p3', y1, y2, y3, y4, y5, y6, y7, y8⟩ := h3' hk
      have r := ih (tB T e) Γ Γ2 c c2 V V2 L x1 d1 V1 W1 k1 am1 p1 x1' d1' V1' W1' k1' am1' p1' z1 y1 l l2 c0 lb s en
      have j2 : ∀ ρ, V' ρ → V1 ρ := by
        cases d with
        | zero => exact z4.elim
        | succ d => exact (by rw [zTY] at z4; exact z4.1)
      have j2' : ∀ ρ, V2' ρ → V1' ρ := by
        cases d with
        | zero => exact y4.elim
        | succ d => exact (by rw [zTY] at y4; exact y4.1)
      rcases r with ⟨r1, r2⟩ | ⟨r0, L1, r1, r2, r3, r4, r5, r6, r7⟩
      · exact zRes_empty (fun ρ hr => r1 ρ (j2 ρ hr)) (fun ρ hr => r2 ρ (j2' ρ hr))
      · have r0' : ∃ ρ, V1' ρ := by
          obtain ⟨ρ, hr⟩ := r0
          obtain ⟨σ, hs, _⟩ := r4.1 ρ hr
          exact ⟨σ, hs⟩
        obtain ⟨g, b1, b2, b3, b4, b5⟩ := z3 r0
        obtain ⟨g2, e1, e2, e3, e4, e5⟩ := y3 r0'
        subst b2 e2
        have hL : ∀ x y, L1 x y → zNx g x ∧ zNx g2 y := fun x y hl => by
          have := r2 x y hl
          rw [← b1, ← e1] at this
          exact this
        have lm := zEnv_lams Γ Γ2 en
        obtain ⟨o1, o2, o3, o4⟩ := zset_c f1 f2 b3 e3 r4 b4 e4 hL r5 r6 (fun x hx => by
          obtain ⟨y, y1, y2⟩ := lm.1 x hx
          exact ⟨y, y1, r1 _ _ y2⟩) (fun y hy => by
          obtain ⟨x, x1, x2⟩ := lm.2 y hy
          exact ⟨x, x1, r1 _ _ x2⟩) r3 b5 e5
        have up : ∀ x y, L1 x y → zCl g g2 L1 x y := fun x y hl => ⟨(hL x y hl).1, (hL x y hl).2, zRel_L hl⟩
        have lb3 : zLb (zCl g g2 L1) d1 d1' := fun x y hl => by
          rw [← b1, ← e1]
          exact ⟨hl.1, hl.2.1⟩
        have c1 : 0 ≤ d1 ∧ 0 ≤ d1' := by
          have q1 := (r2 x1 x1' r3)
          exact ⟨zo1 q1.1.1 q1.1.2, zo1 q1.2.1 q1.2.2⟩
        have q := ih (tC T e) ((tA T e, true, x1, K, p0) :: Γ) ((tA T e, true, x1', K', p0') :: Γ2) d1 d1' (zVal g) (zVal g2) (zCl g g2 L1) t c' V' W3 k3 am3 p3 t' c2' V2' W3' k3' am3' p3' z4 y4 z2 y2 c1 lb3 (zCl_sm r4) ⟨⟨rfl, rfl, up _ _ r3, fun _ => ⟨o3, o4⟩⟩, zEnv_mono (fun x y h => up x y (r1 x y h)) Γ Γ2 en⟩
        rcases q with ⟨q1, q2⟩ | ⟨q0, L2, q1, q2, q3, q4, q5, q6, q7⟩
        · exact zRes_empty q1 q2
        · refine zRes_mk L2 (fun x y h => q1 x y (up x y (r1 x y h))) q2 q3 q4 ?_ (by rw [z7, y7, o2, q6]) (by rw [z8, y8, r7, q7])
          have w1 := zWR_mono (V' := V') (V2' := V2') (L' := L2) j2 j2' q1 o1
          exact zWR_or w1 q5 z6 y6 z5 y5
    · -- METHOD
      obtain ⟨w, z1, z2, z3, z4, z5⟩ := h4 hk
      obtain ⟨w2, y1, y2, y3, y4, y5⟩ := h4' hk
      exact zstat_c (C := (tA T e).toNatClampNeg) s lb z1 y1 i1 i2 m2 m2' m3 m3' z3 y3 ⟨fun z => absurd z z4, fun z => absurd z y4⟩ (by rw [z5, y5]) (fun x cl => by rw [z2]; simp) (fun x cl => by rw [y2]; simp)
    · -- CONSTANT
      obtain ⟨w, z1, z2, z3, z4, z5⟩ := h5 hk
      obtain ⟨w2, y1, y2, y3, y4, y5⟩ := h5' hk
      exact zstat_c (C := 0) s lb z1 y1 i1 i2 m2 m2' m3 m3' z3 y3 ⟨fun z => absurd z z4, fun z => absurd z y4⟩ (by rw [z5, y5]) (fun x cl => ⟨fun h => absurd h (z2 x cl), fun h => h.1.elim⟩) (fun x cl => ⟨fun h => absurd h (y2 x cl), fun h => h.1.elim⟩)
end ZTYC
