/-! The class's walk orders variables as they are met, left first. -/
section ZWDFS
variable {a : L_} {r r2 : S_} {rh ta rk : Int32 → Int32} {N : Int32} {acy : Prop} {px pp rt : Int32} {ρ : Int32 → Ut} {g : Gr} {a1 a2 : Int32 → Prop}
/-- the variables of the order -/
def VLo (h ord : Nat → Int32) : Nat → List Int32
  | 0 => []
  | n + 1 => VLo h ord n ++ (if h (ord n).toNatClampNeg = -1 then [ord n] else [])
theorem VLo_upd {h ord : Nat → Int32} {m : Nat} {x : Int32} : ∀ n, n ≤ m → VLo h (upd ord m x) n = VLo h ord n := by
  intro n
  induction n with
  | zero => intro _; rfl
  | succ n ih => intro hn; rw [VLo, VLo, ih (by omega), pk_un (by omega)]
theorem VLo_mem {h ord : Nat → Int32} {x : Int32} : ∀ n, x ∈ VLo h ord n ↔ ∃ i, i < n ∧ ord i = x ∧ h x.toNatClampNeg = -1 := by
  intro n
  induction n with
  | zero => exact ⟨fun q => absurd q List.not_mem_nil, fun ⟨i, q, _⟩ => by omega⟩
  | succ n ih =>
    rw [VLo, List.mem_append, ih]
    constructor
    · rintro (⟨i, i1, i2⟩ | q)
      · exact ⟨i, by omega, i2⟩
      · by_cases z : h (ord n).toNatClampNeg = -1
        · rw [if_pos z] at q
          have e := List.mem_singleton.mp q
          exact ⟨n, by omega, e.symm, by rw [e]; exact z⟩
        · rw [if_neg z] at q
          exact absurd q List.not_mem_nil
    · rintro ⟨i, i1, i2, i3⟩
      by_cases e : i = n
      · right
        rw [← e, i2, if_pos i3]
        exact List.mem_singleton.mpr rfl
      · exact Or.inl ⟨i, by omega, i2, i3⟩
def abI (h : Nat → Int32) (s : Int32) : List Int32 := if 0 ≤ s then [s] else if h (-1 - s).toNatClampNeg = -1 then [-1 - s] else []
def AbS (h st : Nat → Int32) (n : Nat) : List Int32 := (stk st n).flatMap (abI h)
theorem stk_push {st : Nat → Int32} {hh y : Int32} (h0 : 0 ≤ hh) (h9 : hh < 20000) : stk (upd st hh.toNatClampNeg y) (hh + 1).toNatClampNeg = y :: stk st hh.toNatClampNeg := by
  have e : (hh + 1).toNatClampNeg = hh.toNatClampNeg + 1 := by
    have i1 := i_inc h9
    have b0 := i_nat h0
    rw [il] at h0
    have c0 : 0 ≤ hh + 1 := by rw [il, i1]; simp at h0 ⊢; omega
    have b1 := i_nat c0
    omega
  rw [e, stk, pk_us, stk_upd _ (Nat.le_refl _)]
theorem stk_pop {st : Nat → Int32} {hh : Int32} (h0 : 0 < hh) : stk st hh.toNatClampNeg = st (hh - 1).toNatClampNeg :: stk st (hh - 1).toNatClampNeg := by
  have p3 := pl3 h0
  have e : hh.toNatClampNeg = (hh - 1).toNatClampNeg + 1 := by
    have h9 := h0
    rw [it] at h9
    simp at h9
    have mx : hh.toInt ≤ 2147483647 := Int32.toInt_le _
    have i1 : (hh - 1).toInt = hh.toInt - 1 := i_sub (by simp; omega) (by simp; omega)
    have b0 := i_nat p3.1
    have b1 := i_nat (Int32.le_of_lt h0)
    omega
  rw [e, stk]
theorem stk_mem {st : Nat → Int32} {q : Int32} : ∀ n, q ∈ stk st n → ∃ k, k < n ∧ st k = q := by
  intro n
  induction n with
  | zero => intro h; exact absurd h List.not_mem_nil
  | succ n ih =>
    intro h
    rw [stk] at h
    rcases List.mem_cons.mp h with e | e
    · exact ⟨n, by omega, e.symm⟩
    · obtain ⟨k, k1, k2⟩ := ih e
      exact ⟨k, by omega, k2⟩
/-- the graph stands for what the walk reads -/
def CGf (g : Gr) (r : S_) (rh : Int32 → Int32) : Prop := gC g = fi r 11 ∧ (∀ x, gH g x = ar r 21 x.toNatClampNeg) ∧ (∀ x, gS g x = ar r 23 x.toNatClampNeg) ∧ (∀ x : Int32, 0 ≤ x → x < fi r 11 → ¬ ar r 21 x.toNatClampNeg = -2 → gF g x = ar r 22 x.toNatClampNeg) ∧ ∀ x : Int32, 0 ≤ x → x < fi r 11 → gR g x = rh x
theorem CGf_22 {f : Nat → Int32} (hf : FS (fi r 11) (ar r 21) (ar r 22) f) (h : CGf g r rh) : CGf g (sA r 22 f) rh := ⟨h.1, h.2.1, h.2.2.1, fun x x0 x1 x2 => (h.2.2.2.1 x x0 x1 x2).trans (hf x x0 x1 x2).symm, h.2.2.2.2⟩
def KPw (r r2 : S_) : Prop := fi r2 11 = fi r 11 ∧ fi r2 12 = fi r 12 ∧ fi r2 13 = fi r 13 ∧ ar r2 21 = ar r 21 ∧ ar r2 28 = ar r 28 ∧ ar r2 30 = ar r 30
theorem wd_J142 {S : Int32 → Prop} {V0 : Nat → Int32} {KB : S_ → Int32 → Prop} {KX : S_ → Prop} {v2 : Int32} (w : WI a r rh ta N acy rk px pp 1) (cr : Cr r rh S) (x : WX S V0 r) (sx : S px) (cf : CGf g r rh) (hrec : ∀ r2, WI a r2 rh ta N acy rk px pp 0 → Cr r2 rh S → WX S V0 r2 → CGf g r2 rh → KPw r r2 → stk (ar r2 31) (fi r2 14).toNatClampNeg = p1L g (gF g px) ++ stk (ar r 31) (fi r 14).toNatClampNeg → KB r2 (v2 + 1)) : wG_walk_J142 a KB KX r v2 px := by
  have hp := px_in w
  have w1 := w.1
  have n := w1.2.2.2.1 px hp.1 hp.2.1
  have ef : gF g px = ar r 22 px.toNatClampNeg := cf.2.2.2.1 px hp.1 hp.2.1 hp.2.2
  unfold wG_walk_J142 wG_walk_J166
  refine fun _ => ⟨fun g1 => hrec r (WI_skipF w g1) cr x cf ⟨rfl, rfl, rfl, rfl, rfl, rfl⟩ ?_, fun g1 _ => ?_⟩
  · unfold p1L
    rw [ef, if_pos g1]
    rfl
  have g0 : 0 ≤ ar r 22 px.toNatClampNeg := by have b := n.2.2.1; clear w w1 hrec n cr x cf ef; grind
  refine ws_settled w1 g0 n.2.2.2.1 (fun f k1 k2 => ?_)
  have w2 := WI_fs w k1 k2
  have hc := cap w2
  have ho := (o_lt w2).2
  have e : (ar (sA r 22 f) 22) px.toNatClampNeg = ar r 22 px.toNatClampNeg := k2 px hp.1 hp.2.1 hp.2.2
  have w3 := WI_pushF w2 (by rw [e]; exact g1)
  rw [e] at w3
  have b := w1.2.2.2.2.1.2 _ g0 n.2.2.2.1
  refine ws_push w2.2.2.1.2.1 hc.1 hc.2 (hrec _ w3 (Cr_22 (r := r) k2 cr) (WX_push (r := sA r 22 f) x w2.2.2.1.2.1 ho b.1 ((cr px hp.1 hp.2.1 hp.2.2 sx).1 g1)) (CGf_22 (r := r) k2 cf) ⟨rfl, rfl, rfl, rfl, rfl, rfl⟩ ?_)
  show stk (upd (ar r 31) (fi r 14).toNatClampNeg (rh (ar r 22 px.toNatClampNeg))) (fi r 14 + 1).toNatClampNeg = _
  rw [stk_push (hh := fi r 14) w2.2.2.1.2.1 ho]
  unfold p1L
  rw [ef, if_neg g1, cf.2.2.2.2 _ g0 n.2.2.2.1]
  rfl
theorem wd_JS {S : Int32 → Prop} {V0 : Nat → Int32} {KB : S_ → Int32 → Prop} {KX : S_ → Prop} {v2 : Int32} (w : WI a r rh ta N acy rk px pp 2) (cr : Cr r rh S) (x : WX S V0 r) (sx : S px) (cf : CGf g r rh) (hrec : ∀ r2, WI a r2 rh ta N acy rk px pp 0 → Cr r2 rh S → WX S V0 r2 → CGf g r2 rh → KPw r r2 → stk (ar r2 31) (fi r2 14).toNatClampNeg = p1L g (gF g px) ++ (p1L g (gS g px) ++ stk (ar r 31) (fi r 14).toNatClampNeg) → KB r2 (v2 + 1)) : vp_in px (ln a 23) → ((ar r 23 px.toNatClampNeg = -1) → wG_walk_J142 a KB KX r v2 px) ∧ ((¬ ar r 23 px.toNatClampNeg = -1) → vp_in px (ln a 23) → wG_settled a (fun z26 r27 => wG_push a (fun r28 => wG_walk_J142 a KB KX r28 v2 px) r27 z26) r (ar r 23 px.toNatClampNeg)) := by
  have hp := px_in w
  have w1 := w.1
  have n := w1.2.2.2.1 px hp.1 hp.2.1
  have es : gS g px = ar r 23 px.toNatClampNeg := cf.2.2.1 px
  refine fun _ => ⟨fun g1 => wd_J142 (WI_skipS w g1) cr x sx cf (fun r2 q1 q2 q3 q4 q5 q6 => hrec r2 q1 q2 q3 q4 q5 ?_), fun g1 _ => ?_⟩
  · rw [q6]
    unfold p1L
    rw [es, if_pos g1]
    rfl
  have g0 : 0 ≤ ar r 23 px.toNatClampNeg := by have b := n.2.2.2.2.1; clear w w1 hrec n cr x cf es; grind
  refine ws_settled w1 g0 n.2.2.2.2.2.1 (fun f k1 k2 => ?_)
  have w2 := WI_fs w k1 k2
  have hc := cap w2
  have ho := (o_lt w2).2
  have w3 := WI_pushS w2 g1
  have b := w1.2.2.2.2.1.2 _ g0 n.2.2.2.2.2.1
  refine ws_push w2.2.2.1.2.1 hc.1 hc.2 (wd_J142 w3 (Cr_22 (r := r) k2 cr) (WX_push (r := sA r 22 f) x w2.2.2.1.2.1 ho b.1 ((cr px hp.1 hp.2.1 hp.2.2 sx).2 g1)) sx (CGf_22 (r := r) k2 cf) (fun r2 q1 q2 q3 q4 q5 q6 => hrec r2 q1 q2 q3 q4 q5 ?_))
  rw [q6]
  show p1L g (gF g px) ++ stk (upd (ar r 31) (fi r 14).toNatClampNeg (rh (ar r 23 px.toNatClampNeg))) (fi r 14 + 1).toNatClampNeg = _
  rw [stk_push (hh := fi r 14) w2.2.2.1.2.1 ho]
  unfold p1L
  rw [es, if_neg g1, cf.2.2.2.2 _ g0 n.2.2.2.2.2.1]
  rfl
def DLo (r : S_) : List Int32 := VLo (ar r 21) (ar r 30) (fi r 12).toNatClampNeg
def vsD (r : S_) (y : Int32) : Prop := vs r y ∧ (ar r 21 y.toNatClampNeg = -1 → y ∈ DLo r)
def WDx (g : Gr) (ρ : Int32 → Ut) (rt : Int32) (rh : Int32 → Int32) (r : S_) : Prop := CGf g r rh ∧ DFI g ρ (DLo r) (vsD r) (AbS (ar r 21) (ar r 31) (fi r 14).toNatClampNeg) ∧ FFd g ρ (DLo r) (AbS (ar r 21) (ar r 31) (fi r 14).toNatClampNeg) = FFd g ρ [] [rt] ∧ ∀ y, vs r y → ar r 21 y.toNatClampNeg = -1 → y ∈ DLo r ∨ ∃ B, stk (ar r 31) (fi r 14).toNatClampNeg = (-1 - y) :: B
theorem DFI_cg {D S : List Int32} {Vs Vs' : Int32 → Prop} (h : ∀ y, Vs y ↔ Vs' y) (d : DFI g ρ D Vs S) : DFI g ρ D Vs' S := by
  have e : Vs = Vs' := funext (fun y => propext (h y))
  rw [← e]
  exact d
theorem p1L_ab {h : Nat → Int32} {p : Int32} (hp : ¬ p = -1 → 0 ≤ gR g p) : (p1L g p).flatMap (abI h) = p1L g p := by
  unfold p1L
  by_cases q : p = -1
  · rw [if_pos q]; rfl
  · rw [if_neg q, List.flatMap_cons, List.flatMap_nil, List.append_nil]
    unfold abI
    rw [if_pos (hp q)]
theorem wd_L {S : Int32 → Prop} {V0 : Nat → Int32} (gw : zGW a1 a2 g) (vz : zVal g ρ) {KX : S_ → Prop} (hK : ∀ r', WI a r' rh ta N acy rk 0 0 0 → WX S V0 r' → WDx g ρ rt rh r' → KX r') : ∀ (n : Nat) (r : S_) (v2 : Int32), WI a r rh ta N acy rk 0 0 0 → Cr r rh S → WX S V0 r → WDx g ρ rt rh r → wG_walk_L16 a KX n r v2 := by
  intro n
  induction n with
  | zero => intro r v2 _ _ _ _; trivial
  | succ n ih =>
    intro r v2 w cr x dx
    have ho := o_lt w
    have hcap := cap w
    have w1 := w.1
    rw [wG_walk_L16]
    refine ⟨fun g1 => hK r w x dx, fun g1 => ⟨fun g2 => hK r w x dx, fun g2 r7 e7 => ?_⟩⟩
    have h0 : 0 < fi r 14 := Int32.not_le.mp g1
    have p3 := pl3 h0
    have hd1 : (fi r 14 - 1).toInt = (fi r 14).toInt - 1 := by
      have := ir (fi r 14)
      have h9 := h0
      rw [it] at h9
      exact i_sub (by simp at h9 ⊢; omega) (by simp at h9 ⊢; omega)
    have sp : stk (ar r 31) (fi r 14).toNatClampNeg = ar r 31 (fi r 14 - 1).toNatClampNeg :: stk (ar r 31) (fi r 14 - 1).toNatClampNeg := stk_pop h0
    obtain ⟨cf, df, ff, tp⟩ := dx
    have ab : AbS (ar r 21) (ar r 31) (fi r 14).toNatClampNeg = abI (ar r 21) (ar r 31 (fi r 14 - 1).toNatClampNeg) ++ AbS (ar r 21) (ar r 31) (fi r 14 - 1).toNatClampNeg := by
      unfold AbS
      rw [sp, List.flatMap_cons]
    rw [ab] at df ff
    subst e7
    simp only [fi_sF, fi_sA, ar_sF, ar_sA, la_sF, la_sA, reduceIte, Nat.reduceEqDiff]
    refine fun _ => ⟨fun g3 _ => ⟨fun g4 _ r13 e13 _ r15 e15 => ?_, fun g4 => ?_⟩, fun g3 => ?_⟩
    · subst e13
      subst e15
      have b := (w.2.2.2.1.2 _ p3.1 p3.2).1 g3
      have w2 := WI_visit w h0 g3 g4 (g := fi r 14 - 1 + 1) (by clear w w1 ih hK cr x cf df ff tp; grind)
      have sx := x.2.2.1 _ p3.1 p3.2 g3
      have ee : fi r 14 - 1 + 1 = fi r 14 := by clear w w1 ih hK cr x w2 cf df ff tp; grind
      have hx : zRn g (ar r 31 (fi r 14 - 1).toNatClampNeg) := ⟨⟨g3, by rw [cf.1]; exact b.1⟩, by rw [cf.2.2.2.2 _ g3 b.1]; exact (w1.2.2.2.2.1.2 _ g3 b.1).2.2.2.1 b.2⟩
      have hb : 0 ≤ gH g (ar r 31 (fi r 14 - 1).toNatClampNeg) ↔ ¬ ar r 21 (ar r 31 (fi r 14 - 1).toNatClampNeg).toNatClampNeg = -1 := by
        rw [cf.2.1]
        have h1 := (w1.2.2.2.1 _ g3 b.1).1
        have h2 := b.2
        clear w w1 ih hK cr x w2 cf df ff tp hx b
        grind
      have ax : abI (ar r 21) (ar r 31 (fi r 14 - 1).toNatClampNeg) = [ar r 31 (fi r 14 - 1).toNatClampNeg] := by unfold abI; rw [if_pos g3]
      rw [ax, List.cons_append, List.nil_append] at df ff
      have ntop : ∀ y, vs r y → ar r 21 y.toNatClampNeg = -1 → y ∈ DLo r := fun y y1 y2 => (tp y y1 y2).resolve_right (fun ⟨B, hB⟩ => by
        rw [sp] at hB
        have e1 := (List.cons.inj hB).1
        rw [e1] at g3
        exact nl0 g3 (m1n y1.1))
      refine ws_push ?_ ?_ hcap.2 ?_
      · exact p3.1
      · show (fi r 14 - 1).toInt < _
        rw [hd1]
        omega
      · refine wd_JS (g := g) w2 cr ⟨fun y y0 y1 y2 y3 => ?_, fun y y0 y1 y2 => ?_, fun k k0 k1 k2 => ?_, ?_⟩ sx cf (fun r2 q1 q2 q3 q4 q5 q6 => ih r2 (v2 + 1) (WI_any q1 0 0) q2 q3 ?_)
        · have y2' : upd (ar r 28) (ar r 31 (fi r 14 - 1).toNatClampNeg).toNatClampNeg (fi r 13) y.toNatClampNeg = fi r 13 := y2
          show upd (ar r 29) (ar r 31 (fi r 14 - 1).toNatClampNeg).toNatClampNeg (ar r 31 (fi r 14 - 1).toNatClampNeg) y.toNatClampNeg = y
          rw [updI _ _ g3 y0] at y2' ⊢
          by_cases e : y = ar r 31 (fi r 14 - 1).toNatClampNeg
          · rw [if_pos e, e]
          · rw [if_neg e] at y2' ⊢
            exact x.1 y y0 y1 y2' y3
        · have y2' : upd (ar r 28) (ar r 31 (fi r 14 - 1).toNatClampNeg).toNatClampNeg (fi r 13) y.toNatClampNeg = fi r 13 := y2
          rw [updI _ _ g3 y0] at y2'
          by_cases e : y = ar r 31 (fi r 14 - 1).toNatClampNeg
          · rw [e]; exact Or.inr sx
          · rw [if_neg e] at y2'
            exact x.2.1 y y0 y1 y2'
        · have k1' : k < fi r 14 - 1 + 1 := k1
          rw [ee] at k1'
          have k2' : 0 ≤ upd (ar r 31) (fi r 14 - 1).toNatClampNeg (-1 - ar r 31 (fi r 14 - 1).toNatClampNeg) k.toNatClampNeg := k2
          show S (upd (ar r 31) (fi r 14 - 1).toNatClampNeg (-1 - ar r 31 (fi r 14 - 1).toNatClampNeg) k.toNatClampNeg)
          rw [updI _ _ p3.1 k0] at k2' ⊢
          by_cases e : k = fi r 14 - 1
          · rw [if_pos e] at k2'
            exact (nl0 k2' (m1n g3)).elim
          · rw [if_neg e] at k2' ⊢
            exact x.2.2.1 k k0 k1' k2'
        · have d := DO_visit x.2.2.2 w.2.2.2.1 h0 g3 g4
          show DO (ar r 30) (fi r 12) (upd (ar r 31) (fi r 14 - 1).toNatClampNeg (-1 - ar r 31 (fi r 14 - 1).toNatClampNeg)) (fi r 14 - 1 + 1)
          rw [ee]
          exact d
        · obtain ⟨k11, k12, k13, k21, k28, k30⟩ := q5
          obtain ⟨u, eu⟩ : ∃ u, u = ar r 31 (fi r 14 - 1).toNatClampNeg := ⟨_, rfl⟩
          have q6' : stk (ar r2 31) (fi r2 14).toNatClampNeg = p1L g (gF g (ar r 31 (fi r 14 - 1).toNatClampNeg)) ++ (p1L g (gS g (ar r 31 (fi r 14 - 1).toNatClampNeg)) ++ stk (upd (ar r 31) (fi r 14 - 1).toNatClampNeg (-1 - ar r 31 (fi r 14 - 1).toNatClampNeg)) (fi r 14 - 1 + 1).toNatClampNeg) := q6
          rw [stk_push p3.1 (ltt p3.2 ho.2)] at q6'
          have k11' : fi r2 11 = fi r 11 := k11
          have k12' : fi r2 12 = fi r 12 := k12
          have k13' : fi r2 13 = fi r 13 := k13
          have k21' : ar r2 21 = ar r 21 := k21
          have k28' : ar r2 28 = upd (ar r 28) (ar r 31 (fi r 14 - 1).toNatClampNeg).toNatClampNeg (fi r 13) := k28
          have k30' : ar r2 30 = ar r 30 := k30
          have eD : DLo r2 = DLo r := by unfold DLo; rw [k21', k30', k12']
          rw [← eu] at q6' hx hb df ff g3 g4 k28'
          have evs : ∀ y, vs r2 y ↔ vs r y ∨ y = u := fun y => by
            unfold vs
            rw [k11', k13', k28']
            constructor
            · rintro ⟨y0, y1, y2⟩
              rw [updI _ _ g3 y0] at y2
              by_cases e : y = u
              · exact Or.inr e
              · rw [if_neg e] at y2
                exact Or.inl ⟨y0, y1, y2⟩
            · rintro (⟨y0, y1, y2⟩ | e)
              · refine ⟨y0, y1, ?_⟩
                rw [updI _ _ g3 y0]
                split
                · rfl
                · exact y2
              · rw [e]
                exact ⟨g3, by have := b.1; rw [← eu] at this; exact this, pk_us ..⟩
          have gp : (¬ gF g u = -1 → 0 ≤ gR g (gF g u)) ∧ (¬ gS g u = -1 → 0 ≤ gR g (gS g u)) := ⟨fun z => (zGW_1 gw hx z).1.1, fun z => (zGW_2 gw hx z).1.1⟩
          have a2' : AbS (ar r2 21) (ar r2 31) (fi r2 14).toNatClampNeg = p1L g (gF g u) ++ (p1L g (gS g u) ++ (abI (ar r 21) (-1 - u) ++ AbS (ar r 21) (ar r 31) (fi r 14 - 1).toNatClampNeg)) := by
            unfold AbS
            rw [q6', k21', List.flatMap_append, List.flatMap_append, List.flatMap_cons, p1L_ab gp.1, p1L_ab gp.2]
          have am : abI (ar r 21) (-1 - u) = if ar r 21 u.toNatClampNeg = -1 then [u] else [] := by
            unfold abI
            rw [if_neg (fun z => nl0 z (m1n g3)), m1m]
          by_cases hv : ar r 21 u.toNatClampNeg = -1
          · have nb : ¬ 0 ≤ gH g u := fun z => hb.mp z hv
            have z := (gw.2 u hx).2.2.2 nb
            have p1 : p1L g (gF g u) = [] := by unfold p1L; rw [if_pos z.1]
            have p2 : p1L g (gS g u) = [] := by unfold p1L; rw [if_pos z.2]
            rw [am, if_pos hv, p1, p2, List.nil_append, List.nil_append, List.cons_append, List.nil_append] at a2'
            have nu : ¬ u ∈ DLo r := fun q => g4 (df.1 u q).1.2.2
            refine ⟨q4, ?_, ?_, fun y y1 y2 => ?_⟩
            · rw [eD, a2']
              refine DFI_cg (fun y => ?_) df
              unfold vsD
              rw [evs, k21', eD]
              constructor
              · rintro ⟨h1, h2⟩
                exact ⟨Or.inl h1, h2⟩
              · rintro ⟨h1 | h1, h2⟩
                · exact ⟨h1, h2⟩
                · rw [h1] at h2
                  exact absurd (h2 hv) nu
            · rw [eD, a2']
              exact ff
            · rw [k21'] at y2
              rcases (evs y).mp y1 with h1 | h1
              · left; rw [eD]; exact ntop y h1 y2
              · right
                rw [q6', p1, p2, h1]
                exact ⟨_, rfl⟩
          · have yb : 0 ≤ gH g u := hb.mpr hv
            obtain ⟨d2, f2⟩ := DF_built gw vz hx yb df
            rw [am, if_neg hv, List.nil_append] at a2'
            refine ⟨q4, ?_, ?_, fun y y1 y2 => ?_⟩
            · rw [eD, a2']
              refine DFI_cg (fun y => ?_) d2
              unfold vsD
              rw [evs, k21', eD]
              constructor
              · rintro (⟨h1, h2⟩ | h1)
                · exact ⟨Or.inl h1, h2⟩
                · exact ⟨Or.inr h1, fun h2 => by rw [h1] at h2; exact absurd h2 hv⟩
              · rintro ⟨h1 | h1, h2⟩
                · exact Or.inl ⟨h1, h2⟩
                · exact Or.inr h1
            · rw [eD, a2']
              exact f2.symm.trans ff
            · rw [k21'] at y2
              rcases (evs y).mp y1 with h1 | h1
              · left; rw [eD]; exact ntop y h1 y2
              · rw [h1] at y2
                exact absurd y2 hv
    · have ax : abI (ar r 21) (ar r 31 (fi r 14 - 1).toNatClampNeg) = [ar r 31 (fi r 14 - 1).toNatClampNeg] := by unfold abI; rw [if_pos g3]
      rw [ax, List.cons_append, List.nil_append] at df ff
      have b := (w.2.2.2.1.2 _ p3.1 p3.2).1 g3
      have ntop : ∀ y, vs r y → ar r 21 y.toNatClampNeg = -1 → y ∈ DLo r := fun y y1 y2 => (tp y y1 y2).resolve_right (fun ⟨B, hB⟩ => by
        rw [sp] at hB
        have e1 := (List.cons.inj hB).1
        rw [e1] at g3
        exact nl0 g3 (m1n y1.1))
      have vx : vs r (ar r 31 (fi r 14 - 1).toNatClampNeg) := ⟨g3, b.1, g4⟩
      obtain ⟨d2, f2⟩ := DF_vis df ⟨vx, fun z => ntop _ vx z⟩
      refine ih _ (v2 + 1) (WI_any (WI_pop w h0 g3 g4) 0 0) cr ⟨x.1, x.2.1, fun k k0 k1 => x.2.2.1 k k0 (pl2 h0 k1), DO_pop x.2.2.2 h0⟩ ⟨cf, d2, f2.symm.trans ff, fun y y1 y2 => Or.inl (ntop y y1 y2)⟩
    · intro _ r30 e30 r31 e31
      subst e30
      subst e31
      have h1 : ar r 31 (fi r 14 - 1).toNatClampNeg < 0 := Int32.not_le.mp g3
      have b := (w.2.2.2.1.2 _ p3.1 p3.2).2 h1
      refine ih _ (v2 + 1) (WI_any (WI_mark w h0 h1) 0 0) cr ⟨x.1, x.2.1, fun k k0 k1 => x.2.2.1 k k0 (pl2 h0 k1), DO_mark x.2.2.2 h0 w.2.2.1.1 (by have := ho.1; clear w w1 ih hK cr x hcap cf df ff tp; grind) h1⟩ ?_
      obtain ⟨u, eu⟩ : ∃ u, u = -1 - ar r 31 (fi r 14 - 1).toNatClampNeg := ⟨_, rfl⟩
      have o12 : (fi r 12 + 1).toNatClampNeg = (fi r 12).toNatClampNeg + 1 := by
        have o0 := w.2.2.1.1
        have i1 := i_inc (y := 10000) ho.1
        have b0 := i_nat o0
        rw [il] at o0
        have c0 : 0 ≤ fi r 12 + 1 := by rw [il, i1]; simp at o0 ⊢; omega
        have b1 := i_nat c0
        omega
      have au : abI (ar r 21) (ar r 31 (fi r 14 - 1).toNatClampNeg) = if ar r 21 u.toNatClampNeg = -1 then [u] else [] := by
        unfold abI
        rw [if_neg g3, eu]
      have eD : VLo (ar r 21) (upd (ar r 30) (fi r 12).toNatClampNeg u) (fi r 12 + 1).toNatClampNeg = DLo r ++ (if ar r 21 u.toNatClampNeg = -1 then [u] else []) := by
        rw [o12, VLo, pk_us, VLo_upd _ (Nat.le_refl _)]
        rfl
      rw [au] at df ff
      have tpu : ∀ y, vs r y → ar r 21 y.toNatClampNeg = -1 → y ∈ DLo r ∨ y = u := fun y y1 y2 => (tp y y1 y2).imp id (fun ⟨B, hB⟩ => by
        rw [sp] at hB
        rw [eu, (List.cons.inj hB).1, m1m])
      rw [← eu] at b
      have vu : vs r u := ⟨b.1, b.2.1, b.2.2.2⟩
      have nu : ¬ u ∈ DLo r := fun q => by
        obtain ⟨i, i1, i2, _⟩ := (VLo_mem _).mp q
        have o0 := i_nat w.2.2.1.1
        have mx : (fi r 12).toInt ≤ 2147483647 := Int32.toInt_le _
        have bi := ofNs (n := i) (by have := ho.1; rw [it] at this; simp at this; omega)
        refine x.2.2.2.2.1 (fi r 14 - 1) (Int32.ofNat i) p3.1 p3.2 h1 bi.2.1 (by rw [it, bi.1]; omega) ?_
        rw [bi.2.2, i2, eu]
      have goal : ∀ rz : S_, fi rz 11 = fi r 11 → fi rz 13 = fi r 13 → ar rz 28 = ar r 28 → ar rz 21 = ar r 21 → ar rz 31 = ar r 31 → fi rz 14 = fi r 14 - 1 → DLo rz = DLo r ++ (if ar r 21 u.toNatClampNeg = -1 then [u] else []) → CGf g rz rh → WDx g ρ rt rh rz := fun rz z11 z13 z28 z21 z31 z14 zD zc => by
        have evs : ∀ y, vs rz y ↔ vs r y := fun y => by unfold vs; rw [z11, z13, z28]
        by_cases hv : ar r 21 u.toNatClampNeg = -1
        · rw [if_pos hv] at zD df ff
          rw [List.cons_append, List.nil_append] at df ff
          have nb : ¬ 0 ≤ gH g u := by rw [cf.2.1, hv]; decide
          obtain ⟨d2, f2⟩ := DF_var nb (fun z => nu (z.2 hv)) df
          refine ⟨zc, ?_, ?_, fun y y1 y2 => ?_⟩
          · rw [zD, z21, z31, z14]
            refine DFI_cg (fun y => ?_) d2
            unfold vsD
            rw [evs, z21, zD]
            constructor
            · rintro (⟨h1, h2⟩ | h1)
              · exact ⟨h1, fun q => List.mem_append.mpr (Or.inl (h2 q))⟩
              · rw [h1]
                exact ⟨vu, fun _ => List.mem_append.mpr (Or.inr (List.mem_singleton.mpr rfl))⟩
            · rintro ⟨h1, h2⟩
              by_cases e : y = u
              · exact Or.inr e
              · refine Or.inl ⟨h1, fun q => ?_⟩
                rcases List.mem_append.mp (h2 q) with k | k
                · exact k
                · exact absurd (List.mem_singleton.mp k) e
          · rw [zD, z21, z31, z14]
            exact f2.symm.trans ff
          · rw [z21] at y2
            left
            rw [zD]
            rcases tpu y ((evs y).mp y1) y2 with k | k
            · exact List.mem_append.mpr (Or.inl k)
            · rw [k]; exact List.mem_append.mpr (Or.inr (List.mem_singleton.mpr rfl))
        · rw [if_neg hv] at zD df ff
          rw [List.append_nil] at zD
          rw [List.nil_append] at df ff
          refine ⟨zc, ?_, ?_, fun y y1 y2 => ?_⟩
          · rw [zD, z21, z31, z14]
            refine DFI_cg (fun y => ?_) df
            unfold vsD
            rw [evs, z21, zD]
          · rw [zD, z21, z31, z14]
            exact ff
          · rw [z21] at y2
            left
            rw [zD]
            rcases tpu y ((evs y).mp y1) y2 with k | k
            · exact k
            · rw [k] at y2; exact absurd y2 hv
      exact goal _ rfl rfl rfl rfl rfl rfl (by rw [← eD, eu]; rfl) cf
theorem ws_walkD {p0 : Int32} {S : Int32 → Prop} (w : PW a r rh ta N acy rk) (h1 : 0 ≤ p0) (h2 : p0 < fi r 11) (cr : Cr r rh S) (sp : S (rh p0)) (d : DO0 r) (gw : zGW a1 a2 g) (vz : zVal g ρ) (cf : CGf g r rh) (o0 : fi r 12 = 0) (nv : ∀ x, ¬ vs r x) {K : S_ → Prop} (hK : ∀ r', PW a r' rh ta N acy rk → Fw r r' → ar r' 28 (rh p0).toNatClampNeg = fi r' 13 → (∀ x : Int32, 0 ≤ x → x < fi r 11 → ar r' 28 x.toNatClampNeg = fi r 13 → ar r 28 x.toNatClampNeg = fi r 13 ∨ S x) → (∀ x : Int32, 0 ≤ x → x < fi r 11 → ar r' 28 x.toNatClampNeg = fi r 13 → ¬ ar r 28 x.toNatClampNeg = fi r 13 → ar r' 29 x.toNatClampNeg = x) → DO0 r' → (∃ A, FFd g ρ (DLo r') A = FFd g ρ [] [rh p0] ∧ ∀ s, s ∈ A → S s) → K r') : wG_walk a K r p0 := by
  have key : wG_walk a (fun r' => WX S (ar r 28) r' ∧ ∃ A, FFd g ρ (DLo r') A = FFd g ρ [] [rh p0] ∧ ∀ s, s ∈ A → (0 ≤ s ∧ s < fi r' 11 ∧ ar r 28 s.toNatClampNeg = fi r' 13) ∨ S s) r p0 := by
    unfold wG_walk
    intro r1 e1
    have w0 : WI a r1 rh ta N acy rk 0 0 0 := by rw [e1]; exact w
    have h14 : fi r1 14 = 0 := by rw [e1]; rfl
    have h11 : fi r1 11 = fi r 11 := by rw [e1]; rfl
    have x1 : WX S (ar r 28) r1 := by
      refine ⟨fun x x0 x1 x2 x3 => absurd ?_ x3, fun x x0 x1 x2 => Or.inl ?_, fun k k0 k1 => ?_, ?_, fun k i k0 k1 => ?_, fun k k' k0 k1 k2 => ?_⟩
      · rw [e1] at x2 ⊢; exact x2
      · rw [e1] at x2 ⊢; exact x2
      · rw [h14] at k1; exact (nl0 k0 k1).elim
      · rw [e1]; exact d
      · rw [h14] at k1; exact (nl0 k0 k1).elim
      · rw [h14] at k2; exact (nl0 (le0 k0 k1) k2).elim
    have cr1 : Cr r1 rh S := by rw [e1]; exact cr
    have cf1 : CGf g r1 rh := by rw [e1]; exact cf
    have nv1 : ∀ x, ¬ vs r1 x := fun x => by rw [e1]; exact nv x
    have o1 : fi r1 12 = 0 := by rw [e1]; exact o0
    have hr := w0.1.2.2.2.2.1.2 p0 h1 (by rw [h11]; exact h2)
    refine ws_settled w0.1 h1 (by rw [h11]; exact h2) (fun f k1 k2 => ?_)
    have w2 := WI_fs w0 k1 k2
    have hc := cap w2
    have w3 := WI_push0 w2 h14 hr.1 hr.2.1 hr.2.2.1
    refine ws_push w2.2.2.1.2.1 hc.1 hc.2 (fun n => ?_)
    refine wd_L (rt := rh p0) gw vz (fun r' w' h dx => ⟨h, AbS (ar r' 21) (ar r' 31) (fi r' 14).toNatClampNeg, dx.2.2.1, fun s hs => ?_⟩) n _ 0 w3 (Cr_22 (r := r1) k2 cr1) (WX_push (r := sA r1 22 f) x1 w2.2.2.1.2.1 (o_lt w2).2 hr.1 sp) ?_
    · have goal : ∀ r4 : S_, r4 = sF (sA (sA r1 22 f) 31 (upd (ar r1 31) (fi r1 14).toNatClampNeg (rh p0))) 14 (fi r1 14 + 1) → CGf g r4 rh → WDx g ρ (rh p0) rh r4 := fun r4 e4 c4 => by
        have z0 : ((0 : Int32)).toNatClampNeg = 0 := by decide
        have st : stk (ar r4 31) (fi r4 14).toNatClampNeg = [rh p0] := by
          rw [e4]
          show stk (upd (ar r1 31) (fi r1 14).toNatClampNeg (rh p0)) (fi r1 14 + 1).toNatClampNeg = _
          rw [stk_push (by rw [h14]; decide) (by rw [h14]; decide), h14, z0]
          rfl
        have ab : AbS (ar r4 21) (ar r4 31) (fi r4 14).toNatClampNeg = [rh p0] := by
          unfold AbS
          rw [st, List.flatMap_cons, List.flatMap_nil, List.append_nil]
          unfold abI
          rw [if_pos hr.1]
        have dl : DLo r4 = [] := by
          have e12 : fi r4 12 = 0 := by rw [e4]; exact o1
          unfold DLo
          rw [e12, z0]
          rfl
        have nv4 : ∀ x, ¬ vs r4 x := fun x => by rw [e4]; exact nv1 x
        refine ⟨c4, ?_, by rw [dl, ab], fun y y1 => absurd y1 (nv4 y)⟩
        rw [dl, ab]
        exact DFI_cg (fun y => ⟨False.elim, fun h => nv4 y h.1⟩) DF_start
      exact goal _ rfl (CGf_22 (r := r1) k2 cf1)
    · unfold AbS at hs
      obtain ⟨q, q1, q2⟩ := List.mem_flatMap.mp hs
      obtain ⟨k, k1, k2⟩ := stk_mem _ q1
      have h0 := w'.2.2.1.2.1
      have b0 := i_nat h0
      have mx := (o_lt w').2
      rw [it] at mx
      simp at mx
      have bk := ofNs (n := k) (by omega)
      have kl : Int32.ofNat k < fi r' 14 := by rw [it, bk.1]; omega
      unfold abI at q2
      by_cases z : 0 ≤ q
      · rw [if_pos z] at q2
        rw [List.mem_singleton.mp q2, ← k2]
        have := h.2.2.1 (Int32.ofNat k) bk.2.1 kl
        rw [bk.2.2, k2] at this
        rw [k2]
        exact Or.inr (this z)
      · rw [if_neg z] at q2
        by_cases z2 : ar r' 21 (-1 - q).toNatClampNeg = -1
        · rw [if_pos z2] at q2
          rw [List.mem_singleton.mp q2]
          have b := (w'.2.2.2.1.2 (Int32.ofNat k) bk.2.1 kl).2
          rw [bk.2.2, k2] at b
          have b' := b (Int32.not_le.mp z)
          exact (h.2.1 _ b'.1 b'.2.1 b'.2.2.2).imp (fun q => ⟨b'.1, b'.2.1, q⟩) id
        · rw [if_neg z2] at q2
          exact absurd q2 List.not_mem_nil
  refine wq_G_walk (K := fun r' => PW a r' rh ta N acy rk ∧ Fw r r' ∧ ar r' 28 (rh p0).toNatClampNeg = fi r' 13) (K2 := fun r' => WX S (ar r 28) r' ∧ ∃ A, FFd g ρ (DLo r') A = FFd g ρ [] [rh p0] ∧ ∀ s, s ∈ A → (0 ≤ s ∧ s < fi r' 11 ∧ ar r 28 s.toNatClampNeg = fi r' 13) ∨ S s) (fun r' h x => ?_) (walk_ok w h1 h2 (fun r' q1 q2 q3 => ⟨q1, q2, q3⟩)) key
  obtain ⟨q1, q2, q3⟩ := h
  obtain ⟨x, xa⟩ := x
  have e11 : fi r' 11 = fi r 11 := q2.1 11 (by decide) (by decide)
  have e13 : fi r' 13 = fi r 13 := q2.1 13 (by decide) (by decide)
  obtain ⟨A, xa, xb⟩ := xa
  exact hK r' q1 q2 q3 (fun y y0 y1 y2 => by
    have := x.2.1 y y0 (by rw [e11]; exact y1) (by rw [e13]; exact y2)
    rw [e13] at this
    exact this) (fun y y0 y1 y2 y3 => x.1 y y0 (by rw [e11]; exact y1) (by rw [e13]; exact y2) (by rw [e13]; exact y3)) x.2.2.2.1 ⟨A, xa, fun s hs => (xb s hs).resolve_left (fun q => nv s (by rw [e11, e13] at q; exact q))⟩
end ZWDFS
