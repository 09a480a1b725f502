/-! The reference: what is reached, exactly. -/
section ZMREACH
variable {a : L_} {r r' : S_} {rh ta : Int32 → Int32} {N : Int32}
theorem mG_Fr {F A : List Nat} (h : Fr F A r r') (h1 : 28 ∉ F) (h2 : 64 ∉ A ∧ 65 ∉ A ∧ 66 ∉ A ∧ 67 ∉ A) : mG r' = mG r := by
  unfold mG rtm
  rw [h.1 28 h1, h.2.1 64 h2.1, h.2.1 65 h2.2.1, h.2.1 66 h2.2.2.1, h.2.1 67 h2.2.2.2]
theorem mgR (w : MI a r rh ta N) {y : Int32} (h : vt r y) : gR (mG r) y = rh y := rtm_eq w h.1 h.2
theorem m_rr (w : MI a r rh ta N) {y : Int32} (h : vt r y) : vt r (rh y) ∧ rh (rh y) = rh y ∧ ar r 64 (rh y).toNatClampNeg = rh y := by
  have b := w.2.2.2.2.1.2 y h.1 h.2
  exact ⟨b.1, (w.2.2.2.2.1.2 _ b.1.1 b.1.2).2.2.1 b.2.1, b.2.1⟩
theorem m_rt (w : MI a r rh ta N) {y : Int32} (h : vt r y) : zRn (mG r) y ↔ rh y = y := ⟨fun q => by have := q.2; rw [mgR w h] at this; exact this, fun q => ⟨h, by rw [mgR w h]; exact q⟩⟩
theorem m_lf (w : MI a r rh ta N) {y : Int32} (h : vt r y) : (-1 ≤ ar r 66 y.toNatClampNeg ∧ (0 ≤ ar r 66 y.toNatClampNeg → vt r (ar r 66 y.toNatClampNeg))) ∧ (-1 ≤ ar r 67 y.toNatClampNeg ∧ (0 ≤ ar r 67 y.toNatClampNeg → vt r (ar r 67 y.toNatClampNeg))) := by
  have n := w.2.2.2.1 y h.1 h.2
  exact ⟨⟨n.2.2.1.1, fun q => ⟨q, n.2.2.1.2⟩⟩, n.2.2.2.1.1, fun q => ⟨q, n.2.2.2.1.2⟩⟩
theorem nm1 {x : Int32} (h : 0 ≤ x) : ¬ x = -1 := fun e => by rw [e] at h; exact absurd h (by decide)
theorem m_rc1 (w : MI a r rh ta N) {t y : Int32} (h : zRc (mG r) t y) (vy : vt r y) (ry : rh y = y) (q : 0 ≤ ar r 66 y.toNatClampNeg) : zRc (mG r) t (rh (ar r 66 y.toNatClampNeg)) := by
  have := zRc_1 h ((m_rt w vy).mpr ry) (nm1 q)
  rw [show gF (mG r) y = ar r 66 y.toNatClampNeg from rfl, mgR w ((m_lf w vy).1.2 q)] at this
  exact this
theorem m_rc2 (w : MI a r rh ta N) {t y : Int32} (h : zRc (mG r) t y) (vy : vt r y) (ry : rh y = y) (q : 0 ≤ ar r 67 y.toNatClampNeg) : zRc (mG r) t (rh (ar r 67 y.toNatClampNeg)) := by
  have := zRc_2 h ((m_rt w vy).mpr ry) (nm1 q)
  rw [show gS (mG r) y = ar r 67 y.toNatClampNeg from rfl, mgR w ((m_lf w vy).2.2 q)] at this
  exact this
theorem m_rc0 (w : MI a r rh ta N) {t : Int32} (h : vt r t) : zRc (mG r) t (rh t) := by
  have := zRc_0 (g := mG r) (x := t)
  rw [mgR w h] at this
  exact this
theorem m_rcv (w : MI a r rh ta N) {t x : Int32} (h : vt r t) (hc : zRc (mG r) t x) : vt r x ∧ rh x = x := by
  have := zRc_r (mG_GW w) h hc
  exact ⟨this.1, (m_rt w this.1).mp this⟩
theorem m_rcm (w : MI a r rh ta N) {t x : Int32} (h : vt r t) {S : Int32 → Prop} (s0 : S (rh t)) (s1 : ∀ y, vt r y → S y → (0 ≤ ar r 66 y.toNatClampNeg → S (rh (ar r 66 y.toNatClampNeg))) ∧ (0 ≤ ar r 67 y.toNatClampNeg → S (rh (ar r 67 y.toNatClampNeg)))) (hc : zRc (mG r) t x) : S x := by
  refine hc S (by rw [mgR w h]; exact s0) (fun y hy sy => ?_)
  have v : vt r y := hy.1
  have l := m_lf w v
  have k := s1 y v sy
  refine ⟨fun q => ?_, fun q => ?_⟩
  · have q0 : 0 ≤ ar r 66 y.toNatClampNeg := (m1c l.1.1).resolve_left q
    rw [show gF (mG r) y = ar r 66 y.toNatClampNeg from rfl, mgR w (l.1.2 q0)]
    exact k.1 q0
  · have q0 : 0 ≤ ar r 67 y.toNatClampNeg := (m1c l.2.1).resolve_left q
    rw [show gS (mG r) y = ar r 67 y.toNatClampNeg from rfl, mgR w (l.2.2 q0)]
    exact k.2 q0
/-- on the pile -/
def Sk (rh : Int32 → Int32) (r : S_) (v y : Int32) : Prop := ∃ k : Int32, 0 ≤ k ∧ k < v ∧ rh (ar r 72 k.toNatClampNeg) = y
def Mc (r0 r : S_) (rh : Int32 → Int32) (x v : Int32) : Prop := (0 ≤ ar r0 66 x.toNatClampNeg → ar r 68 (rh (ar r0 66 x.toNatClampNeg)).toNatClampNeg = fi r0 29 ∨ Sk rh r v (rh (ar r0 66 x.toNatClampNeg))) ∧ (0 ≤ ar r0 67 x.toNatClampNeg → ar r 68 (rh (ar r0 67 x.toNatClampNeg)).toNatClampNeg = fi r0 29 ∨ Sk rh r v (rh (ar r0 67 x.toNatClampNeg)))
def LSr (r0 r : S_) (t : Int32) : Prop := 0 ≤ fi r0 30 → fi r0 30 ≤ fi r 30 ∧ (∀ x, vt r0 x → ar r 68 x.toNatClampNeg = fi r0 29 → ar r0 68 x.toNatClampNeg = fi r0 29 ∨ ∃ i, (fi r0 30).toNatClampNeg ≤ i ∧ i < (fi r 30).toNatClampNeg ∧ ar r 73 i = x) ∧ ∀ i, (fi r0 30).toNatClampNeg ≤ i → i < (fi r 30).toNatClampNeg → vt r0 (ar r 73 i) ∧ zRc (mG r0) t (ar r 73 i)
def RWI (r0 r : S_) (rh : Int32 → Int32) (t v : Int32) : Prop := Fr [30] [68, 72, 73] r0 r ∧ (0 ≤ v.toInt ∧ v.toInt ≤ 200000) ∧ (∀ k : Int32, 0 ≤ k → k < v → vt r0 (ar r 72 k.toNatClampNeg) ∧ zRc (mG r0) t (rh (ar r 72 k.toNatClampNeg))) ∧ (∀ x, vt r0 x → ar r 68 x.toNatClampNeg = ar r0 68 x.toNatClampNeg ∨ (ar r 68 x.toNatClampNeg = fi r0 29 ∧ zRc (mG r0) t x)) ∧ (∀ x, vt r0 x → ar r 68 x.toNatClampNeg = fi r0 29 → Mc r0 r rh x v) ∧ (ar r 68 (rh t).toNatClampNeg = fi r0 29 ∨ Sk rh r v (rh t)) ∧ LSr r0 r t
def mCl (r0 r : S_) (rh : Int32 → Int32) : Prop := ∀ x, vt r0 x → ar r 68 x.toNatClampNeg = fi r0 29 → (0 ≤ ar r0 66 x.toNatClampNeg → ar r 68 (rh (ar r0 66 x.toNatClampNeg)).toNatClampNeg = fi r0 29) ∧ (0 ≤ ar r0 67 x.toNatClampNeg → ar r 68 (rh (ar r0 67 x.toNatClampNeg)).toNatClampNeg = fi r0 29)
def RWP (r0 r : S_) (rh : Int32 → Int32) (t : Int32) : Prop := Fr [30] [68, 72, 73] r0 r ∧ (∀ x, vt r0 x → ar r 68 x.toNatClampNeg = ar r0 68 x.toNatClampNeg ∨ ar r 68 x.toNatClampNeg = fi r0 29) ∧ (∀ x, vt r0 x → (ar r 68 x.toNatClampNeg = fi r0 29 ↔ ar r0 68 x.toNatClampNeg = fi r0 29 ∨ zRc (mG r0) t x)) ∧ mCl r0 r rh ∧ LSr r0 r t
theorem Sk_no {v y : Int32} (h : v ≤ 0) : ¬ Sk rh r v y := fun ⟨k, k0, k1, _⟩ => nl0 k0 (zo3 k1 h)
theorem Sk_push {v y s : Int32} (v0 : 0 ≤ v.toInt) (vl : v.toInt < 200000) (v1 : (v + 1).toInt = v.toInt + 1) : (∀ z, Sk rh r v z ∨ z = rh s → Sk rh (sA r 72 (upd (ar r 72) v.toNatClampNeg s)) (v + 1) z) := by
  intro z hz
  have z0 : 0 ≤ v := by rw [il]; simpa using v0
  rcases hz with ⟨k, k0, k1, k2⟩ | e
  · have k1' := k1
    rw [it] at k1'
    refine ⟨k, k0, by rw [it, v1]; omega, ?_⟩
    rw [ar_sA, if_pos rfl, updI _ _ z0 k0, if_neg (by rw [ie]; omega)]
    exact k2
  · exact ⟨v, z0, by rw [it, v1]; omega, by rw [ar_sA, if_pos rfl, updI _ _ z0 z0, if_pos rfl, e]⟩
theorem en_push {v s : Int32} {P : Int32 → Prop} (v0 : 0 ≤ v.toInt) (v1 : (v + 1).toInt = v.toInt + 1) (h : ∀ k : Int32, 0 ≤ k → k < v → P (ar r 72 k.toNatClampNeg)) (hs : P s) : ∀ k : Int32, 0 ≤ k → k < v + 1 → P (ar (sA r 72 (upd (ar r 72) v.toNatClampNeg s)) 72 k.toNatClampNeg) := by
  intro k k0 k1
  have z0 : 0 ≤ v := by rw [il]; simpa using v0
  rw [ar_sA, if_pos rfl, updI _ _ z0 k0]
  split
  · exact hs
  · rename_i q
    rw [it, v1] at k1
    rw [ie] at q
    exact h k k0 (by rw [it]; omega)
theorem inc_v {v : Int32} (v0 : 0 ≤ v.toInt) (vp : vp_in v (ln a 72)) (hM : ML a) : (v + 1).toInt = v.toInt + 1 ∧ v.toInt < 200000 := by
  have l72 : ln a 72 = 200000 := ml hM (by decide) (by decide) rfl
  have := (vpl vp).2
  rw [l72] at this
  exact ⟨i_add (by simp; omega) (by simp; omega), by omega⟩
theorem RWI_push {r0 : S_} {t v s : Int32} (hM : ML a) (w : RWI r0 r rh t v) (vp : vp_in v (ln a 72)) (vs : vt r0 s) (hs : zRc (mG r0) t (rh s)) : RWI r0 (sA r 72 (upd (ar r 72) v.toNatClampNeg s)) rh t (v + 1) ∧ Sk rh (sA r 72 (upd (ar r 72) v.toNatClampNeg s)) (v + 1) (rh s) ∧ ∀ z, Sk rh r v z → Sk rh (sA r 72 (upd (ar r 72) v.toNatClampNeg s)) (v + 1) z := by
  obtain ⟨w1, w2, w3, w4, w5, w6, w7⟩ := w
  obtain ⟨v1, vl⟩ := inc_v w2.1 vp hM
  have sp := Sk_push (rh := rh) (r := r) (y := 0) (s := s) w2.1 vl v1
  refine ⟨⟨Fr_trans w1 (Fr_sA (by decide)), ⟨by omega, by omega⟩, en_push (P := fun y => vt r0 y ∧ zRc (mG r0) t (rh y)) w2.1 v1 w3 ⟨vs, hs⟩, w4, fun x vx mx => ⟨fun q => ((w5 x vx mx).1 q).imp id (fun z => sp _ (Or.inl z)), fun q => ((w5 x vx mx).2 q).imp id (fun z => sp _ (Or.inl z))⟩, w6.imp id (fun z => sp _ (Or.inl z)), w7⟩, sp _ (Or.inr rfl), fun z h => sp z (Or.inl h)⟩
theorem ws_reach_L {r0 : S_} {t : Int32} (w0 : MI a r0 rh ta N) (ht : vt r0 t) (hc : mCl r0 r0 rh) {KX : S_ → Prop} (hK : ∀ r, RWP r0 r rh t → KX r) : ∀ (n : Nat) (r : S_) (v : Int32), RWI r0 r rh t v → wM_reach_L9 a KX n r v := by
  intro n
  induction n with
  | zero => intro r v _; trivial
  | succ n ih =>
    intro r v w
    have w' := w
    obtain ⟨w1, w2, w3, w4, w5, w6, w7⟩ := w
    rw [wM_reach_L9]
    refine ⟨fun g => ?_, fun g vp => ?_⟩
    · have cl : mCl r0 r rh := fun x vx mx => ⟨fun q => ((w5 x vx mx).1 q).resolve_right (Sk_no g), fun q => ((w5 x vx mx).2 q).resolve_right (Sk_no g)⟩
      refine hK r ⟨w1, fun x vx => (w4 x vx).imp id (fun z => z.1), fun x vx => ⟨fun q => ?_, fun q => ?_⟩, cl, w7⟩
      · rcases w4 x vx with z | z
        · rw [z] at q; exact Or.inl q
        · exact Or.inr z.2
      · rcases q with q | q
        · rcases w4 x vx with z | z
          · rw [z]; exact q
          · exact z.1
        · refine (m_rcm w0 ht (S := fun y => vt r0 y ∧ ar r 68 y.toNatClampNeg = fi r0 29) ⟨(m_rr w0 ht).1, w6.resolve_right (Sk_no g)⟩ (fun y vy sy => ⟨fun q => ⟨(m_rr w0 ((m_lf w0 vy).1.2 q)).1, (cl y vy sy.2).1 q⟩, fun q => ⟨(m_rr w0 ((m_lf w0 vy).2.2 q)).1, (cl y vy sy.2).2 q⟩⟩) q).2
    have g' := Int32.not_le.mp g
    have gi := g'
    rw [it] at gi
    simp at gi
    have d1 : (v + -1).toInt = v.toInt - 1 := by
      rw [i_add (by simp; omega) (by simp; omega)]
      simp
      omega
    have k0 : 0 ≤ v + -1 := by rw [il, d1]; simp; omega
    have en := w3 _ k0 (by rw [it, d1]; omega)
    have wr : MI a r rh ta N := MI_Fr w0 w1 (by decide) (by decide)
    have e28 := w1.1 28 (by decide)
    have e29 := w1.1 29 (by decide)
    refine ws_mfind wr en.1.1 (by rw [e28]; exact en.1.2) (fun _ => ?_)
    have mr := m_rr w0 en.1
    obtain ⟨x, ex⟩ : ∃ x, x = rh (ar r 72 (v + -1).toNatClampNeg) := ⟨_, rfl⟩
    rw [← ex] at mr en
    rw [← ex, e29]
    have pop : ∀ z, Sk rh r v z → Sk rh r (v + -1) z ∨ z = x := fun z ⟨k, q0, q1, q2⟩ => by
      by_cases e : k = v + -1
      · right; rw [← q2, ex, e]
      · refine Or.inl ⟨k, q0, ?_, q2⟩
        rw [it] at q1 ⊢
        rw [ie, d1] at e
        rw [d1]
        omega
    refine ⟨fun hm => ?_, fun hm _ r9 e9 vp73 r11 e11 r12 e12 _ => ?_⟩
    · unfold wM_reach_J118
      have st : ∀ z, Sk rh r v z → ar r 68 z.toNatClampNeg = fi r0 29 ∨ Sk rh r (v + -1) z := fun z h => (pop z h).elim Or.inr (fun e => Or.inl (by rw [e]; exact hm))
      refine ih r (v + -1) ⟨w1, ⟨by omega, by omega⟩, fun k q0 q1 => w3 k q0 ?_, w4, fun y vy my => ⟨fun q => ?_, fun q => ?_⟩, ?_, w7⟩
      · rw [it, d1] at q1
        rw [it]
        omega
      · exact ((w5 y vy my).1 q).elim Or.inl (st _)
      · exact ((w5 y vy my).2 q).elim Or.inl (st _)
      · exact w6.elim Or.inl (st _)
    · have F12 : Fr [30] [68, 72, 73] r r12 := by
        rw [e12, e11, e9]
        exact Fr_trans (Fr_sA (by decide)) (Fr_trans (Fr_sA (by decide)) (Fr_sF (by decide)))
      have a72 : ar r12 72 = ar r 72 := by rw [e12, e11, e9]; rfl
      have a66 : ar r12 66 = ar r0 66 := (F12.2.1 66 (by decide)).trans (w1.2.1 66 (by decide))
      have a67 : ar r12 67 = ar r0 67 := (F12.2.1 67 (by decide)).trans (w1.2.1 67 (by decide))
      have a68 : ∀ y : Int32, 0 ≤ y → ar r12 68 y.toNatClampNeg = if y = x then fi r0 29 else ar r 68 y.toNatClampNeg := fun y y0 => by
        rw [e12, e11, e9]
        show upd (ar r 68) x.toNatClampNeg (fi r0 29) y.toNatClampNeg = _
        rw [updI _ _ mr.1.1 y0]
      have mk : ∀ y : Int32, 0 ≤ y → ar r 68 y.toNatClampNeg = fi r0 29 → ar r12 68 y.toNatClampNeg = fi r0 29 := fun y y0 h => by
        rw [a68 y y0]
        split
        · rfl
        · exact h
      have mx : ar r12 68 x.toNatClampNeg = fi r0 29 := by rw [a68 x mr.1.1, if_pos rfl]
      have st : ∀ z, 0 ≤ z → Sk rh r v z → ar r12 68 z.toNatClampNeg = fi r0 29 ∨ Sk rh r12 (v + -1) z := fun z z0 h => (pop z h).elim (fun ⟨k, h1, h2, h3⟩ => Or.inr ⟨k, h1, h2, by rw [a72]; exact h3⟩) (fun e => Or.inl (by rw [e]; exact mx))
      have xr : rh x = x := by rw [ex]; rw [← ex]; exact (m_rcv w0 ht en.2).2
      have l := m_lf w0 mr.1
      have r0x : ∀ y, vt r0 y → 0 ≤ rh y := fun y h => (m_rr w0 h).1.1
      have w7' : LSr r0 r12 t := fun h0 => by
        obtain ⟨l1, l2, l3⟩ := w7 h0
        have f9 : fi r9 30 = fi r 30 := by rw [e9]; rfl
        rw [f9] at vp73
        have lb := (vpl vp73).2
        rw [ml (n := 40000) w0.1 (by decide) (by decide) rfl] at lb
        have f30 : 0 ≤ fi r 30 := (vpl vp73).1
        have n30 := i_nat f30
        have n00 := i_nat h0
        have i30 : (fi r 30 + 1).toInt = (fi r 30).toInt + 1 := i_add (by simp; omega) (by simp; omega)
        have s30 : (fi r 30 + 1).toNatClampNeg = (fi r 30).toNatClampNeg + 1 := by
          have := i_nat (x := fi r 30 + 1) (by rw [il, i30]; simp; omega)
          omega
        have l1' := l1
        rw [il] at l1'
        have g30 : fi r12 30 = fi r 30 + 1 := by rw [e12, e11, e9]; rfl
        have a73 : ∀ i, ar r12 73 i = if i = (fi r 30).toNatClampNeg then x else ar r 73 i := fun i => by
          rw [e12, e11, e9]
          show upd (ar r 73) (fi r 30).toNatClampNeg x i = _
          by_cases e : i = (fi r 30).toNatClampNeg
          · rw [e, pk_us, if_pos rfl]
          · rw [pk_un e, if_neg e]
        refine ⟨by rw [g30, il, i30]; omega, fun y vy my => ?_, fun i h1 h2 => ?_⟩
        · rw [a68 y vy.1] at my
          rw [g30, s30]
          by_cases e : y = x
          · exact Or.inr ⟨(fi r 30).toNatClampNeg, by omega, by omega, by rw [a73, if_pos rfl, e]⟩
          · rw [if_neg e] at my
            exact (l2 y vy my).imp id (fun ⟨i, h1, h2, h3⟩ => ⟨i, h1, by omega, by rw [a73, if_neg (by omega)]; exact h3⟩)
        · rw [g30, s30] at h2
          rw [a73]
          by_cases e : i = (fi r 30).toNatClampNeg
          · rw [if_pos e]; exact ⟨mr.1, en.2⟩
          · rw [if_neg e]; exact l3 i h1 (by omega)
      -- the state behind the mark, with x's parts still to be put on the pile
      have fin : ∀ (r2 : S_) (v2 : Int32), Fr [] [72] r12 r2 → (0 ≤ v2.toInt ∧ v2.toInt ≤ 200000) → (∀ k : Int32, 0 ≤ k → k < v2 → vt r0 (ar r2 72 k.toNatClampNeg) ∧ zRc (mG r0) t (rh (ar r2 72 k.toNatClampNeg))) → (∀ z, Sk rh r12 (v + -1) z → Sk rh r2 v2 z) → (0 ≤ ar r0 66 x.toNatClampNeg → Sk rh r2 v2 (rh (ar r0 66 x.toNatClampNeg))) → (0 ≤ ar r0 67 x.toNatClampNeg → Sk rh r2 v2 (rh (ar r0 67 x.toNatClampNeg))) → wM_reach_L9 a KX n r2 v2 := by
        intro r2 v2 F2 b2 en2 sk sl sr
        have a68' : ar r2 68 = ar r12 68 := F2.2.1 68 (by decide)
        refine ih r2 v2 ⟨Fr_trans w1 (Fr_trans F12 (Fr_mono F2 (by decide) (by decide))), b2, en2, fun y vy => ?_, fun y vy my => ?_, ?_, ?_⟩
        · rw [a68', a68 y vy.1]
          split
          · rename_i e
            right
            rw [e]
            exact ⟨rfl, en.2⟩
          · exact w4 y vy
        · unfold Mc
          rw [a68'] at my ⊢
          by_cases e : y = x
          · rw [e]; exact ⟨fun q => Or.inr (sl q), fun q => Or.inr (sr q)⟩
          · rw [a68 y vy.1, if_neg e] at my
            refine ⟨fun q => ?_, fun q => ?_⟩
            · have z0 := r0x _ ((m_lf w0 vy).1.2 q)
              exact ((w5 y vy my).1 q).elim (fun z => Or.inl (mk _ z0 z)) (fun z => (st _ z0 z).imp id (sk _))
            · have z0 := r0x _ ((m_lf w0 vy).2.2 q)
              exact ((w5 y vy my).2 q).elim (fun z => Or.inl (mk _ z0 z)) (fun z => (st _ z0 z).imp id (sk _))
        · rw [a68']
          exact w6.elim (fun z => Or.inl (mk _ (r0x t ht) z)) (fun z => (st _ (r0x t ht) z).imp id (sk _))
        · intro h0
          have k := w7' h0
          rw [a68', F2.1 30 List.not_mem_nil, F2.2.1 73 (by decide)]
          exact k
      have en12 : ∀ k : Int32, 0 ≤ k → k < v + -1 → vt r0 (ar r12 72 k.toNatClampNeg) ∧ zRc (mG r0) t (rh (ar r12 72 k.toNatClampNeg)) := fun k q0 q1 => by
        rw [a72]
        refine w3 k q0 ?_
        rw [it, d1] at q1
        rw [it]
        omega
      -- the second part
      have right : ∀ (r2 : S_) (v2 : Int32), Fr [] [72] r12 r2 → (0 ≤ v2.toInt ∧ v2.toInt ≤ 200000) → (∀ k : Int32, 0 ≤ k → k < v2 → vt r0 (ar r2 72 k.toNatClampNeg) ∧ zRc (mG r0) t (rh (ar r2 72 k.toNatClampNeg))) → (∀ z, Sk rh r12 (v + -1) z → Sk rh r2 v2 z) → (0 ≤ ar r0 66 x.toNatClampNeg → Sk rh r2 v2 (rh (ar r0 66 x.toNatClampNeg))) → wM_reach_J94 a (wM_reach_L9 a KX n) KX r2 v2 x := by
        intro r2 v2 F2 b2 en2 sk sl
        have b67 : ar r2 67 = ar r0 67 := (F2.2.1 67 (by decide)).trans a67
        unfold wM_reach_J94 wM_reach_J118
        rw [b67]
        refine fun _ => ⟨fun q => fin r2 v2 F2 b2 en2 sk sl (fun z => absurd q (Int32.not_lt.mpr z)), fun q _ vp2 r19 e19 => ?_⟩
        have q0 := Int32.not_lt.mp q
        obtain ⟨i1, i2⟩ := inc_v b2.1 vp2 w0.1
        have sp := Sk_push (rh := rh) (r := r2) (y := 0) (s := ar r0 67 x.toNatClampNeg) b2.1 i2 i1
        rw [e19]
        exact fin _ _ (Fr_trans F2 (Fr_sA (by decide))) ⟨by omega, by omega⟩ (en_push (P := fun y => vt r0 y ∧ zRc (mG r0) t (rh y)) b2.1 i1 en2 ⟨l.2.2 q0, m_rc2 w0 en.2 mr.1 xr q0⟩) (fun z h => sp z (Or.inl (sk z h))) (fun z => sp _ (Or.inl (sl z))) (fun _ => sp _ (Or.inr rfl))
      rw [a66]
      refine ⟨fun q => right r12 (v + -1) (Fr_refl _) ⟨by omega, by omega⟩ en12 (fun _ h => h) (fun z => absurd q (Int32.not_lt.mpr z)), fun q _ vp2 r22 e22 => ?_⟩
      have q0 := Int32.not_lt.mp q
      have b0 : 0 ≤ (v + -1).toInt := by omega
      obtain ⟨i1, i2⟩ := inc_v b0 vp2 w0.1
      have sp := Sk_push (rh := rh) (r := r12) (y := 0) (s := ar r0 66 x.toNatClampNeg) b0 i2 i1
      rw [e22]
      exact right _ _ (Fr_sA (by decide)) ⟨by omega, by omega⟩ (en_push (P := fun y => vt r0 y ∧ zRc (mG r0) t (rh y)) b0 i1 en12 ⟨l.1.2 q0, m_rc1 w0 en.2 mr.1 xr q0⟩) (fun z h => sp z (Or.inl h)) (fun _ => sp _ (Or.inr rfl))
theorem ws_mreach {t : Int32} (w0 : MI a r rh ta N) (ht : vt r t) (hc : mCl r r rh) {K : S_ → Prop} (hK : ∀ r', RWP r r' rh t → K r') : wM_reach a K r t := by
  unfold wM_reach
  intro _ r2 e2 n
  have a72 : ar r2 72 ((0 : Int32)).toNatClampNeg = t := by rw [e2, ar_sA, if_pos rfl, pk_us]
  have F : Fr [30] [68, 72, 73] r r2 := by rw [e2]; exact Fr_sA (by decide)
  have a68 : ar r2 68 = ar r 68 := by rw [e2]; rfl
  have lt1 : ∀ k : Int32, 0 ≤ k → k < 1 → k = 0 := fun k k0 k1 => by
    rw [il] at k0
    rw [it] at k1
    rw [ie]
    simp at k0 k1 ⊢
    omega
  refine ws_reach_L w0 ht hc hK n r2 1 ⟨F, by decide, fun k k0 k1 => ?_, fun x _ => Or.inl (by rw [a68]), fun x vx mx => ?_, Or.inr ⟨0, by decide, by decide, by rw [a72]⟩, fun h0 => ?_⟩
  · rw [lt1 k k0 k1, a72]
    exact ⟨ht, m_rc0 w0 ht⟩
  · rw [a68] at mx
    have := hc x vx mx
    unfold Mc
    rw [a68]
    exact ⟨fun q => Or.inl (this.1 q), fun q => Or.inl (this.2 q)⟩
  · have f30 : fi r2 30 = fi r 30 := by rw [e2]; rfl
    rw [f30, a68]
    exact ⟨Int32.le_refl _, fun x _ h => Or.inl h, fun i h1 h2 => absurd h2 (by omega)⟩
/-- all that is around -/
def AW (r0 r : S_) (rh : Int32 → Int32) (G : Int32 → Prop) : Prop := Fr [30] [68, 72, 73] r0 r ∧ (∀ x, vt r0 x → ar r 68 x.toNatClampNeg = ar r0 68 x.toNatClampNeg ∨ ar r 68 x.toNatClampNeg = fi r0 29) ∧ (∀ x, vt r0 x → (ar r 68 x.toNatClampNeg = fi r0 29 ↔ zBd (mG r0) G x)) ∧ mCl r0 r rh
theorem AW_start {r0 : S_} (h : ∀ x, vt r0 x → ¬ ar r0 68 x.toNatClampNeg = fi r0 29) {G : Int32 → Prop} (hG : ∀ x, ¬ G x) : AW r0 r0 rh G := ⟨Fr_refl _, fun _ _ => Or.inl rfl, fun x vx => ⟨fun q => absurd q (h x vx), fun ⟨y, hy, _⟩ => absurd hy (hG y)⟩, fun x vx q => absurd q (h x vx)⟩
theorem AW_step {r0 : S_} {G G' : Int32 → Prop} {t : Int32} (w0 : MI a r0 rh ta N) (h : AW r0 r rh G) (ht : vt r0 t) (hG : ∀ x, G' x ↔ G x ∨ x = t) {K : S_ → Prop} (hK : ∀ r', AW r0 r' rh G' → K r') : wM_reach a K r t := by
  obtain ⟨h1, h2, h3, h4⟩ := h
  have w : MI a r rh ta N := MI_Fr w0 h1 (by decide) (by decide)
  have e28 := h1.1 28 (by decide)
  have e29 := h1.1 29 (by decide)
  have e66 := h1.2.1 66 (by decide)
  have e67 := h1.2.1 67 (by decide)
  have mg : mG r = mG r0 := mG_Fr h1 (by decide) (by decide)
  have vv : ∀ x, vt r x ↔ vt r0 x := fun x => vt_eq e28
  have cl : mCl r r rh := fun x vx mx => by
    rw [e66, e67, e29]
    rw [e29] at mx
    exact h4 x ((vv x).mp vx) mx
  refine ws_mreach w ((vv t).mpr ht) cl (fun r' p => hK r' ⟨Fr_trans h1 p.1, fun x vx => ?_, fun x vx => ?_, fun x vx mx => ?_⟩)
  · rcases p.2.1 x ((vv x).mpr vx) with z | z
    · rw [z]; exact h2 x vx
    · rw [z, e29]; exact Or.inr rfl
  · have k := p.2.2.1 x ((vv x).mpr vx)
    rw [e29, mg] at k
    rw [k, h3 x vx]
    constructor
    · rintro (⟨y, y1, y2⟩ | z)
      · exact ⟨y, (hG y).mpr (Or.inl y1), y2⟩
      · exact ⟨t, (hG t).mpr (Or.inr rfl), z⟩
    · rintro ⟨y, y1, y2⟩
      rcases (hG y).mp y1 with z | z
      · exact Or.inl ⟨y, z, y2⟩
      · rw [z] at y2; exact Or.inr y2
  · have k := p.2.2.2.1 x ((vv x).mpr vx) (by rw [e29]; exact mx)
    rw [e66, e67, e29] at k
    exact k
theorem ws_genAR {r0 : S_} {v1 v2 : Int32} (w : MI a r0 rh ta N) {KX : S_ → Int32 → Int32 → Prop} : ∀ (L : List (Int32 × Nat)) (n : Nat) (r : S_) (c v3 : Int32) (G : Int32 → Prop), CH r0 c L → v3 = ar r0 51 c.toNatClampNeg → AW r0 r rh G → (∀ p, (p, 0) ∈ L → vt r0 (ar r0 56 p.toNatClampNeg)) → (∀ r', AW r0 r' rh (fun x => G x ∨ GC r0 L x) → KX r' v1 v2) → wM_generalise_L63 a KX n r v1 v2 v3 := by
  intro L
  induction L with
  | nil =>
    intro n r c v3 G ch e3 aw _ hK
    cases n with
    | zero => trivial
    | succ n =>
      have c' : ar r0 51 c.toNatClampNeg = -1 := ch
      rw [wM_generalise_L63, e3, c']
      refine ⟨fun _ => hK r ?_, fun z => absurd (by decide) z⟩
      have e : (fun x => G x ∨ GC r0 [] x) = G := funext (fun x => propext ⟨fun h => h.resolve_right (fun ⟨p, p1, _⟩ => List.not_mem_nil p1), Or.inl⟩)
      rw [e]
      exact aw
  | cons e L ih =>
    obtain ⟨p, t⟩ := e
    intro n r c v3 G ch e3 aw hv hK
    cases n with
    | zero => trivial
    | succ n =>
      obtain ⟨c1, c2, c3, c4⟩ := ch
      rw [c1] at e3
      subst e3
      have F := aw.1
      have e51 := F.2.1 51 (by decide)
      have e56 := F.2.1 56 (by decide)
      have ek : ar r 45 (ar r 50 v3.toNatClampNeg).toNatClampNeg = kd r0 v3 := by unfold kd; rw [F.2.1 45 (by decide), F.2.1 50 (by decide)]
      rw [wM_generalise_L63]
      unfold wM_kindOf wM_generalise_J86
      rw [ek, e51, e56]
      refine ⟨fun z => absurd z (Int32.not_lt.mpr c2.1.1), fun _ _ _ => ⟨fun nk _ => ?_, fun k _ => ?_⟩⟩
      · have t0 : ¬ t = 0 := fun e => by
          rcases c3 with ⟨_, k2⟩ | ⟨k1, _⟩ | ⟨k1, _⟩
          · exact nk k2
          · omega
          · omega
        refine ih n r v3 _ G c4 rfl aw (fun q hq => hv q (List.mem_cons_of_mem _ hq)) (fun r' a' => hK r' ?_)
        have e : (fun x => G x ∨ GC r0 ((v3, t) :: L) x) = (fun x => G x ∨ GC r0 L x) := funext (fun x => propext (or_congr_right ⟨fun ⟨q, q1, q2⟩ => ⟨q, (List.mem_cons.mp q1).resolve_left (fun z => t0 (congrArg Prod.snd z).symm), q2⟩, fun ⟨q, q1, q2⟩ => ⟨q, List.mem_cons_of_mem _ q1, q2⟩⟩))
        rw [e]
        exact a'
      · have t0 : t = 0 := by
          rcases c3 with ⟨k1, _⟩ | ⟨_, k2, _⟩ | ⟨_, k2, _⟩
          · exact k1
          · rw [k] at k2; exact absurd k2 (by decide)
          · exact absurd k k2
        subst t0
        refine AW_step (G' := fun x => G x ∨ x = ar r0 56 v3.toNatClampNeg) w aw (hv v3 List.mem_cons_self) (fun x => Iff.rfl) (fun r9 a9 => ?_)
        intro _
        rw [a9.1.2.1 51 (by decide)]
        refine ih n r9 v3 _ _ c4 rfl a9 (fun q hq => hv q (List.mem_cons_of_mem _ hq)) (fun r' a' => hK r' ?_)
        have e : (fun x => G x ∨ GC r0 ((v3, 0) :: L) x) = (fun x => (G x ∨ x = ar r0 56 v3.toNatClampNeg) ∨ GC r0 L x) := funext (fun x => propext ⟨fun h => ?_, fun h => ?_⟩)
        · rw [e]
          exact a'
        · rcases h with h | ⟨q, q1, q2⟩
          · exact Or.inl (Or.inl h)
          · rcases List.mem_cons.mp q1 with z | z
            · exact Or.inl (Or.inr (by rw [q2, show q = v3 from congrArg Prod.fst z]))
            · exact Or.inr ⟨q, z, q2⟩
        · rcases h with (h | h) | ⟨q, q1, q2⟩
          · exact Or.inl h
          · exact Or.inr ⟨v3, List.mem_cons_self, h⟩
          · exact Or.inr ⟨q, List.mem_cons_of_mem _ q1, q2⟩
theorem ws_copAR {r0 : S_} {v1 v2 : Int32} (w : MI a r0 rh ta N) {KX : S_ → Int32 → Int32 → Prop} : ∀ (L : List (Int32 × Nat)) (n : Nat) (r : S_) (c v3 : Int32) (G : Int32 → Prop), CH r0 c L → v3 = ar r0 51 c.toNatClampNeg → AW r0 r rh G → (∀ p, (p, 0) ∈ L → vt r0 (ar r0 56 p.toNatClampNeg)) → (∀ r', AW r0 r' rh (fun x => G x ∨ GC r0 L x) → KX r' v1 v2) → wM_copyOf_L27 a KX n r v1 v2 v3 := by
  intro L
  induction L with
  | nil =>
    intro n r c v3 G ch e3 aw _ hK
    cases n with
    | zero => trivial
    | succ n =>
      have c' : ar r0 51 c.toNatClampNeg = -1 := ch
      rw [wM_copyOf_L27, e3, c']
      refine ⟨fun _ => hK r ?_, fun z => absurd (by decide) z⟩
      have e : (fun x => G x ∨ GC r0 [] x) = G := funext (fun x => propext ⟨fun h => h.resolve_right (fun ⟨p, p1, _⟩ => List.not_mem_nil p1), Or.inl⟩)
      rw [e]
      exact aw
  | cons e L ih =>
    obtain ⟨p, t⟩ := e
    intro n r c v3 G ch e3 aw hv hK
    cases n with
    | zero => trivial
    | succ n =>
      obtain ⟨c1, c2, c3, c4⟩ := ch
      rw [c1] at e3
      subst e3
      have F := aw.1
      have e51 := F.2.1 51 (by decide)
      have e56 := F.2.1 56 (by decide)
      have ek : ar r 45 (ar r 50 v3.toNatClampNeg).toNatClampNeg = kd r0 v3 := by unfold kd; rw [F.2.1 45 (by decide), F.2.1 50 (by decide)]
      rw [wM_copyOf_L27]
      unfold wM_kindOf wM_copyOf_J50
      rw [ek, e51, e56]
      refine ⟨fun z => absurd z (Int32.not_lt.mpr c2.1.1), fun _ _ _ => ⟨fun nk _ => ?_, fun k _ => ?_⟩⟩
      · have t0 : ¬ t = 0 := fun e => by
          rcases c3 with ⟨_, k2⟩ | ⟨k1, _⟩ | ⟨k1, _⟩
          · exact nk k2
          · omega
          · omega
        refine ih n r v3 _ G c4 rfl aw (fun q hq => hv q (List.mem_cons_of_mem _ hq)) (fun r' a' => hK r' ?_)
        have e : (fun x => G x ∨ GC r0 ((v3, t) :: L) x) = (fun x => G x ∨ GC r0 L x) := funext (fun x => propext (or_congr_right ⟨fun ⟨q, q1, q2⟩ => ⟨q, (List.mem_cons.mp q1).resolve_left (fun z => t0 (congrArg Prod.snd z).symm), q2⟩, fun ⟨q, q1, q2⟩ => ⟨q, List.mem_cons_of_mem _ q1, q2⟩⟩))
        rw [e]
        exact a'
      · have t0 : t = 0 := by
          rcases c3 with ⟨k1, _⟩ | ⟨_, k2, _⟩ | ⟨_, k2, _⟩
          · exact k1
          · rw [k] at k2; exact absurd k2 (by decide)
          · exact absurd k k2
        subst t0
        refine AW_step (G' := fun x => G x ∨ x = ar r0 56 v3.toNatClampNeg) w aw (hv v3 List.mem_cons_self) (fun x => Iff.rfl) (fun r9 a9 => ?_)
        intro _
        rw [a9.1.2.1 51 (by decide)]
        refine ih n r9 v3 _ _ c4 rfl a9 (fun q hq => hv q (List.mem_cons_of_mem _ hq)) (fun r' a' => hK r' ?_)
        have e : (fun x => G x ∨ GC r0 ((v3, 0) :: L) x) = (fun x => (G x ∨ x = ar r0 56 v3.toNatClampNeg) ∨ GC r0 L x) := funext (fun x => propext ⟨fun h => ?_, fun h => ?_⟩)
        · rw [e]
          exact a'
        · rcases h with h | ⟨q, q1, q2⟩
          · exact Or.inl (Or.inl h)
          · rcases List.mem_cons.mp q1 with z | z
            · exact Or.inl (Or.inr (by rw [q2, show q = v3 from congrArg Prod.fst z]))
            · exact Or.inr ⟨q, z, q2⟩
        · rcases h with (h | h) | ⟨q, q1, q2⟩
          · exact Or.inl h
          · exact Or.inr ⟨v3, List.mem_cons_self, h⟩
          · exact Or.inr ⟨q, List.mem_cons_of_mem _ q1, q2⟩
end ZMREACH
