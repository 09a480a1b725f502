/-! Making a node. -/
section NEWNODE
def PL (l : Nat → Nat) : Prop := l 21 = 64 ∨ l 21 = 128 ∨ l 21 = 256 ∨ l 21 = 512 ∨ l 21 = 1024 ∨ l 21 = 2048 ∨ l 21 = 4096
/-- the old nodes' rows are as they were -/
def Ol (r r' : S_) : Prop := ∀ x : Int32, 0 ≤ x → x < fi r 11 → ∀ k, 21 ≤ k → k ≤ 30 → ar r' k x.toNatClampNeg = ar r k x.toNatClampNeg
abbrev Fn (r r' : S_) : Prop := Fr [11, 15] [21, 22, 23, 24, 25, 26, 27, 28, 29, 30, 31] r r'
def nn (r : S_) (p0 p1 p2 : Int32) : S_ := sF (sA (sA (sA (sA (sA (sA (sA r 21 (upd (ar r 21) (fi r 11).toNatClampNeg p0)) 22 (upd (ar r 22) (fi r 11).toNatClampNeg p1)) 23 (upd (ar r 23) (fi r 11).toNatClampNeg p2)) 24 (upd (ar r 24) (fi r 11).toNatClampNeg 0)) 25 (upd (ar r 25) (fi r 11).toNatClampNeg 0)) 26 (upd (ar r 26) (fi r 11).toNatClampNeg 0)) 27 (upd (ar r 27) (fi r 11).toNatClampNeg 0)) 11 (fi r 11 + 1)
theorem J40_ok {ad l : Nat → Nat} {r : S_} {K : Int32 → L_ → S_ → Prop} {kc ks : Nat} {p0 p1 p2 : Int32} (hL : GL (A0 l)) (h0 : 0 ≤ fi r 11) (h1 : (fi r 11).toInt < l 21) (hK : K (fi r 11) (ad, l) (nn r p0 p1 p2)) : qG_newNode_J40 K (ad, l) r kc ks p0 p1 p2 := by
  have v21 : vp_in (fi r 11) (l 21) := vi h0 h1
  have e22 : l 22 = l 21 := hL.1
  have e23 : l 23 = l 21 := hL.2.1
  have e24 : l 24 = l 21 := hL.2.2.1
  have e25 : l 25 = l 21 := hL.2.2.2.1
  have e26 : l 26 = l 21 := hL.2.2.2.2.1
  have e27 : l 27 = l 21 := hL.2.2.2.2.2.1
  unfold qG_newNode_J40
  refine ⟨v21, fun r4 e4 => ?_⟩
  subst e4
  refine ⟨by show vp_in (fi r 11) (l 22); rw [e22]; exact v21, fun r6 e6 => ?_⟩
  subst e6
  refine ⟨by show vp_in (fi r 11) (l 23); rw [e23]; exact v21, fun r8 e8 => ?_⟩
  subst e8
  refine ⟨by show vp_in (fi r 11) (l 24); rw [e24]; exact v21, fun r10 e10 => ?_⟩
  subst e10
  refine ⟨by show vp_in (fi r 11) (l 25); rw [e25]; exact v21, fun r12 e12 => ?_⟩
  subst e12
  refine ⟨by show vp_in (fi r 11) (l 26); rw [e26]; exact v21, fun r14 e14 => ?_⟩
  subst e14
  refine ⟨by show vp_in (fi r 11) (l 27); rw [e27]; exact v21, fun r16 e16 r17 e17 => ?_⟩
  subst e16
  subst e17
  have e : fi r 11 + 1 - 1 = fi r 11 := by clear hK hL; grind
  show K (fi r 11 + 1 - 1) (ad, l) (nn r p0 p1 p2)
  rw [e]
  exact hK
theorem nn_Ol {r : S_} {p0 p1 p2 : Int32} (h0 : 0 ≤ fi r 11) : Ol r (nn r p0 p1 p2) := by
  intro x x1 x2 k k1 k2
  have hne : ¬ x.toNatClampNeg = (fi r 11).toNatClampNeg := fun e => by
    have := (i_inj x1 h0).mp e
    rw [this] at x2
    exact irr x2
  have hk : k = 21 ∨ k = 22 ∨ k = 23 ∨ k = 24 ∨ k = 25 ∨ k = 26 ∨ k = 27 ∨ k = 28 ∨ k = 29 ∨ k = 30 := by omega
  rcases hk with e | e | e | e | e | e | e | e | e | e <;> subst e
  · show upd (ar r 21) (fi r 11).toNatClampNeg p0 x.toNatClampNeg = ar r 21 x.toNatClampNeg
    rw [pk_un hne]
  · show upd (ar r 22) (fi r 11).toNatClampNeg p1 x.toNatClampNeg = ar r 22 x.toNatClampNeg
    rw [pk_un hne]
  · show upd (ar r 23) (fi r 11).toNatClampNeg p2 x.toNatClampNeg = ar r 23 x.toNatClampNeg
    rw [pk_un hne]
  · show upd (ar r 24) (fi r 11).toNatClampNeg 0 x.toNatClampNeg = ar r 24 x.toNatClampNeg
    rw [pk_un hne]
  · show upd (ar r 25) (fi r 11).toNatClampNeg 0 x.toNatClampNeg = ar r 25 x.toNatClampNeg
    rw [pk_un hne]
  · show upd (ar r 26) (fi r 11).toNatClampNeg 0 x.toNatClampNeg = ar r 26 x.toNatClampNeg
    rw [pk_un hne]
  · show upd (ar r 27) (fi r 11).toNatClampNeg 0 x.toNatClampNeg = ar r 27 x.toNatClampNeg
    rw [pk_un hne]
  · rfl
  · rfl
  · rfl
theorem nn_Fn {r : S_} {p0 p1 p2 : Int32} : Fn r (nn r p0 p1 p2) := by
  unfold nn
  refine Fr_trans ?_ (Fr_sF (by decide))
  refine ⟨fun _ _ => rfl, fun k hk => ?_, fun _ => rfl⟩
  simp at hk
  simp [ar_sA, hk]
theorem nn_GI {l : Nat → Nat} {r : S_} {rh ta : Int32 → Int32} {N p0 p1 p2 : Int32} (hI : GI (A0 l) r rh ta N) (h1 : (fi r 11).toInt < l 21) (a1 : -1 ≤ p0) (a2 : p0 < 8) (b1 : -1 ≤ p1) (b2 : p1 < fi r 11) (c1 : -1 ≤ p2) (c2 : p2 < fi r 11) : GI (A0 l) (nn r p0 p1 p2) (fun x => if x = fi r 11 then fi r 11 else rh x) ta N := by
  have hO := nn_Ol (p0 := p0) (p1 := p1) (p2 := p2) hI.2.1
  obtain ⟨hL, hc0, hcl, hN, hR, hn⟩ := hI
  have l4 : l 21 ≤ 4096 := hL.2.2.2.2.2.2.2.2.2.2.2
  have hi : (fi r 11 + 1).toInt = (fi r 11).toInt + 1 := by
    rw [il] at hc0
    exact i_add (by simp at hc0 ⊢; omega) (by simp; omega)
  have s0 : 0 ≤ fi r 11 + 1 := by rw [il] at hc0 ⊢; rw [hi]; simp at hc0 ⊢; omega
  have s1 : fi r 11 < fi r 11 + 1 := by rw [it, hi]; omega
  have s2 : ∀ x, x < fi r 11 + 1 → ¬ x = fi r 11 → x < fi r 11 := fun x h e => by
    rw [it] at h ⊢
    rw [ie] at e
    omega
  have e21 : ∀ x, 0 ≤ x → x < fi r 11 → ar (nn r p0 p1 p2) 21 x.toNatClampNeg = ar r 21 x.toNatClampNeg := fun x x1 x2 => hO x x1 x2 21 (by omega) (by omega)
  have e22 : ∀ x, 0 ≤ x → x < fi r 11 → ar (nn r p0 p1 p2) 22 x.toNatClampNeg = ar r 22 x.toNatClampNeg := fun x x1 x2 => hO x x1 x2 22 (by omega) (by omega)
  have e23 : ∀ x, 0 ≤ x → x < fi r 11 → ar (nn r p0 p1 p2) 23 x.toNatClampNeg = ar r 23 x.toNatClampNeg := fun x x1 x2 => hO x x1 x2 23 (by omega) (by omega)
  have n21 : ar (nn r p0 p1 p2) 21 (fi r 11).toNatClampNeg = p0 := by show upd (ar r 21) (fi r 11).toNatClampNeg p0 (fi r 11).toNatClampNeg = p0; rw [pk_us]
  have n22 : ar (nn r p0 p1 p2) 22 (fi r 11).toNatClampNeg = p1 := by show upd (ar r 22) (fi r 11).toNatClampNeg p1 (fi r 11).toNatClampNeg = p1; rw [pk_us]
  have n23 : ar (nn r p0 p1 p2) 23 (fi r 11).toNatClampNeg = p2 := by show upd (ar r 23) (fi r 11).toNatClampNeg p2 (fi r 11).toNatClampNeg = p2; rw [pk_us]
  have np : ¬ p0 = -2 := fun e => by rw [e] at a1; exact absurd a1 (by decide)
  refine ⟨hL, s0, ?_, ?_, ⟨?_, ?_⟩, ?_⟩
  · show (fi r 11 + 1).toInt ≤ l 21
    omega
  · intro x x1 x2
    by_cases e : x = fi r 11
    · subst e
      rw [n21, n22, n23]
      refine ⟨by clear hN hR hO e21 e22 e23; grind, a2, b1, ltt b2 s1, c1, ltt c2 s1, fun z => absurd z np⟩
    · have x3 := s2 x x2 e
      rw [e21 x x1 x3, e22 x x1 x3, e23 x x1 x3]
      have b := hN x x1 x3
      exact ⟨b.1, b.2.1, b.2.2.1, ltt b.2.2.2.1 s1, b.2.2.2.2.1, ltt b.2.2.2.2.2.1 s1, b.2.2.2.2.2.2⟩
  · have := hR.1
    show N ≤ fi r 11 + 1
    rw [il] at this ⊢
    omega
  · intro x x1 x2
    by_cases e : x = fi r 11
    · subst e
      simp only [if_true]
      rw [n21]
      exact ⟨hc0, s1, np, fun _ => trivial, fun z => absurd z np⟩
    · have x3 := s2 x x2 e
      have b := hR.2 x x1 x3
      have nr : ¬ rh x = fi r 11 := fun z => by have := b.2.1; rw [z] at this; exact irr this
      simp only [if_neg e]
      rw [e21 x x1 x3, e22 x x1 x3, e21 _ b.1 b.2.1]
      refine ⟨b.1, ltt b.2.1 s1, b.2.2.1, b.2.2.2.1, fun z => ?_⟩
      have nb := hN x x1 x3
      have fz := nb.2.2.2.2.2.2 z
      have f2 : ¬ ar r 22 x.toNatClampNeg = fi r 11 := fun q => by have := nb.2.2.2.1; rw [q] at this; exact irr this
      have bz := b.2.2.2.2 z
      rw [if_neg f2]
      refine ⟨bz.1, bz.2.1, bz.2.2.1, fun q => bz.2.2.2 ?_⟩
      rw [e21 _ fz nb.2.2.2.1] at q
      exact q
  · rw [hn]
    unfold nmv
    have : (fi (nn r p0 p1 p2) 11) = fi r 11 + 1 := rfl
    rw [this, cnt_suc hc0 s1, n21]
    have hp : ((p0 == -2) : Bool) = false := by simp [np]
    rw [hp]
    simp
    refine congrArg (fun n : Nat => (n : Int)) (cnt_congr (fun i hi2 => ?_))
    have hb : ar (nn r p0 p1 p2) 21 i = ar r 21 i := by
      show upd (ar r 21) (fi r 11).toNatClampNeg p0 i = ar r 21 i
      rw [pk_un (by omega)]
    rw [hb]
theorem gr_Ol {l : Nat → Nat} {r : S_} {p0 : Int32} {n : Nat} (hl : ∀ k, 21 ≤ k → k ≤ 30 → l k = n) (hp : (n : Int) ≤ p0.toInt) (hn : n ≤ 4096) (hc : (fi r 11).toInt ≤ n) : Ol r (gr l p0 r) := by
  intro x x1 x2 k k1 k2
  have hx := i_nat x1
  have hlt : x.toNatClampNeg < n := by rw [it] at x2; omega
  have hcp : (cp_n p0 n).toNatClampNeg = n := cp_old hp (by omega)
  have hk : k = 21 ∨ k = 22 ∨ k = 23 ∨ k = 24 ∨ k = 25 ∨ k = 26 ∨ k = 27 ∨ k = 28 ∨ k = 29 ∨ k = 30 := by omega
  rcases hk with e | e | e | e | e | e | e | e | e | e <;> subst e
  · show va_cpy (ar r 21) (fun _ => 0) 0 0 (cp_n p0 (l 21)).toNatClampNeg x.toNatClampNeg = ar r 21 x.toNatClampNeg
    rw [hl 21 (by omega) (by omega), hcp, cpy_old hlt]
  · show va_cpy (ar r 22) (fun _ => 0) 0 0 (cp_n p0 (l 22)).toNatClampNeg x.toNatClampNeg = ar r 22 x.toNatClampNeg
    rw [hl 22 (by omega) (by omega), hcp, cpy_old hlt]
  · show va_cpy (ar r 23) (fun _ => 0) 0 0 (cp_n p0 (l 23)).toNatClampNeg x.toNatClampNeg = ar r 23 x.toNatClampNeg
    rw [hl 23 (by omega) (by omega), hcp, cpy_old hlt]
  · show va_cpy (ar r 24) (fun _ => 0) 0 0 (cp_n p0 (l 24)).toNatClampNeg x.toNatClampNeg = ar r 24 x.toNatClampNeg
    rw [hl 24 (by omega) (by omega), hcp, cpy_old hlt]
  · show va_cpy (ar r 25) (fun _ => 0) 0 0 (cp_n p0 (l 25)).toNatClampNeg x.toNatClampNeg = ar r 25 x.toNatClampNeg
    rw [hl 25 (by omega) (by omega), hcp, cpy_old hlt]
  · show va_cpy (ar r 26) (fun _ => 0) 0 0 (cp_n p0 (l 26)).toNatClampNeg x.toNatClampNeg = ar r 26 x.toNatClampNeg
    rw [hl 26 (by omega) (by omega), hcp, cpy_old hlt]
  · show va_cpy (ar r 27) (fun _ => 0) 0 0 (cp_n p0 (l 27)).toNatClampNeg x.toNatClampNeg = ar r 27 x.toNatClampNeg
    rw [hl 27 (by omega) (by omega), hcp, cpy_old hlt]
  · show va_cpy (ar r 28) (fun _ => 0) 0 0 (cp_n p0 (l 28)).toNatClampNeg x.toNatClampNeg = ar r 28 x.toNatClampNeg
    rw [hl 28 (by omega) (by omega), hcp, cpy_old hlt]
  · show va_cpy (ar r 29) (fun _ => 0) 0 0 (cp_n p0 (l 29)).toNatClampNeg x.toNatClampNeg = ar r 29 x.toNatClampNeg
    rw [hl 29 (by omega) (by omega), hcp, cpy_old hlt]
  · show va_cpy (ar r 30) (fun _ => 0) 0 0 (cp_n p0 (l 30)).toNatClampNeg x.toNatClampNeg = ar r 30 x.toNatClampNeg
    rw [hl 30 (by omega) (by omega), hcp, cpy_old hlt]
theorem gr_Fn {l : Nat → Nat} {r : S_} {p0 : Int32} : Fn r (gr l p0 r) := by
  unfold gr
  refine ⟨fun _ _ => rfl, fun k hk => ?_, fun _ => rfl⟩
  simp at hk
  simp [ar_sA, hk]
theorem GI_ext {l l1 : Nat → Nat} {r r1 : S_} {rh ta : Int32 → Int32} {N : Int32} (hI : GI (A0 l) r rh ta N) (hO : Ol r r1) (hc : fi r1 11 = fi r 11) (hL : GL (A0 l1)) (hl : (fi r 11).toInt ≤ l1 21) : GI (A0 l1) r1 rh ta N := by
  obtain ⟨-, hc0, hcl, hN, hR, hn⟩ := hI
  have e21 : ∀ x, 0 ≤ x → x < fi r 11 → ar r1 21 x.toNatClampNeg = ar r 21 x.toNatClampNeg := fun x x1 x2 => hO x x1 x2 21 (by omega) (by omega)
  have e22 : ∀ x, 0 ≤ x → x < fi r 11 → ar r1 22 x.toNatClampNeg = ar r 22 x.toNatClampNeg := fun x x1 x2 => hO x x1 x2 22 (by omega) (by omega)
  have e23 : ∀ x, 0 ≤ x → x < fi r 11 → ar r1 23 x.toNatClampNeg = ar r 23 x.toNatClampNeg := fun x x1 x2 => hO x x1 x2 23 (by omega) (by omega)
  unfold GI
  rw [hc]
  refine ⟨hL, hc0, hl, ?_, ⟨hR.1, ?_⟩, ?_⟩
  · intro x x1 x2
    rw [e21 x x1 x2, e22 x x1 x2, e23 x x1 x2]
    exact hN x x1 x2
  · intro x x1 x2
    have b := hR.2 x x1 x2
    have nb := hN x x1 x2
    rw [e21 x x1 x2, e22 x x1 x2, e21 _ b.1 b.2.1]
    refine ⟨b.1, b.2.1, b.2.2.1, b.2.2.2.1, fun z => ?_⟩
    have bz := b.2.2.2.2 z
    refine ⟨bz.1, bz.2.1, bz.2.2.1, fun q => bz.2.2.2 ?_⟩
    rw [e21 _ (nb.2.2.2.2.2.2 z) nb.2.2.2.1] at q
    exact q
  · rw [hn]
    unfold nmv
    have : cnt (fun i => ar r 21 i == -2) (fi r 11).toNatClampNeg = cnt (fun i => ar r1 21 i == -2) (fi r 11).toNatClampNeg := by
      refine cnt_congr (fun i hi => ?_)
      have hcn := i_nat hc0
      have hb := ir (fi r 11)
      have e1 := i_ofn (n := i) (by omega)
      have x1 : 0 ≤ Int32.ofNat i := by rw [il, e1]; simp
      have x3 := i_nat x1
      have x4 : (Int32.ofNat i).toNatClampNeg = i := by omega
      have := e21 (Int32.ofNat i) x1 (by rw [it, e1]; omega)
      rw [x4] at this
      rw [this]
    rw [this]
/-- what making a node comes to -/
def NP (l : Nat → Nat) (r : S_) (rh ta : Int32 → Int32) (N : Int32) (z : Int32) (l' : Nat → Nat) (r' : S_) : Prop := ∃ rh', GI (A0 l') r' rh' ta N ∧ (∀ x, 0 ≤ x → x < fi r 11 → rh' x = rh x) ∧ PL l' ∧ VB r' ∧ Fn r r' ∧ Ol r r' ∧ fi r 11 ≤ fi r' 11 ∧ 0 ≤ z ∧ z < fi r' 11 ∧ FL l l' ∧ l' 32 = l 32 ∧ l' 33 = l 33 ∧ l' 34 = l 34 ∧ l' 35 = l 35 ∧ l' 89 = l 89
theorem VB_nn {r : S_} {p0 p1 p2 : Int32} (h : VB r) : VB (nn r p0 p1 p2) := h
theorem gl21 {l : Nat → Nat} {m m2 : Nat} : gl l m m2 21 = m ∧ gl l m m2 32 = l 32 := ⟨rfl, rfl⟩
theorem gl_PL {l : Nat → Nat} {m2 : Nat} (hp : PL l) (h : l 21 < 4096) : PL (gl l (2 * l 21) m2) := by
  unfold PL at hp ⊢
  rw [gl21.1]
  omega
theorem gl_pC {l : Nat → Nat} {m2 : Nat} (h0 : 64 ≤ l 21) (h : 2 * l 21 ≤ 4096) : 11 + pC (gl l (2 * l 21) m2) ≤ pC l := by
  unfold pC
  rw [gl21.1, gl21.2]
  omega
theorem gl_pS {l : Nat → Nat} {m2 : Nat} (h0 : 64 ≤ l 21) (h : 2 * l 21 ≤ 4096) : 24 * l 21 + 4 + pS (gl l (2 * l 21) m2) ≤ pS l := by
  unfold pS
  rw [gl21.1, gl21.2]
  omega
theorem gl_GL {l : Nat → Nat} (h0 : 64 ≤ l 21) (h : 2 * l 21 ≤ 4096) : GL (A0 (gl l (2 * l 21) (4 * l 21 + 4))) := by
  have e : gl l (2 * l 21) (4 * l 21 + 4) 31 = 4 * l 21 + 4 := rfl
  have e1 : ∀ k, ln (A0 (gl l (2 * l 21) (4 * l 21 + 4))) k = gl l (2 * l 21) (4 * l 21 + 4) k := fun _ => rfl
  unfold GL
  rw [e1, e1, e1, e1, e1, e1, e1, e1, e1, e1, e1, e, gl21.1]
  exact ⟨rfl, rfl, rfl, rfl, rfl, rfl, rfl, rfl, rfl, by omega, by omega, h⟩
theorem gl_FL {l : Nat → Nat} {m m2 : Nat} : FL l (gl l m m2) := by
  intro k hk
  unfold gl
  simp only [show ¬ k = 21 by omega, show ¬ k = 22 by omega, show ¬ k = 23 by omega, show ¬ k = 24 by omega, show ¬ k = 25 by omega, show ¬ k = 26 by omega, show ¬ k = 27 by omega, show ¬ k = 28 by omega, show ¬ k = 29 by omega, show ¬ k = 30 by omega, show ¬ k = 31 by omega, if_false]
theorem gl_rest {l : Nat → Nat} {m m2 : Nat} : gl l m m2 32 = l 32 ∧ gl l m m2 33 = l 33 ∧ gl l m m2 34 = l 34 ∧ gl l m m2 35 = l 35 ∧ gl l m m2 89 = l 89 := ⟨rfl, rfl, rfl, rfl, rfl⟩
theorem gr_VB {l : Nat → Nat} {r : S_} {p0 : Int32} (hv : VB r) : VB (gr l p0 r) := by
  refine ⟨hv.1, fun i => ?_⟩
  show va_cpy (ar r 28) (fun _ => 0) 0 0 (cp_n p0 (l 28)).toNatClampNeg i ≤ fi r 13
  by_cases e : i < (cp_n p0 (l 28)).toNatClampNeg
  · rw [cpy_old e]; exact hv.2 i
  · rw [cpy_new e]; exact hv.1
theorem gr_f {l : Nat → Nat} {r : S_} {p0 : Int32} {k : Nat} : fi (gr l p0 r) k = fi r k := by
  unfold gr
  simp only [fi_sA]
theorem grow_R {l : Nat → Nat} {r : S_} (hL : GL (A0 l)) (h5 : 2 * l 21 ≤ 4096) (h4 : l 21 < 4096) (hp : PL l) (hcl : (fi r 11).toInt ≤ l 21) (hv : VB r) : ∃ (r1 : S_) (l1 : Nat → Nat), Ol r r1 ∧ fi r1 11 = fi r 11 ∧ VB r1 ∧ Fn r r1 ∧ GL (A0 l1) ∧ l1 21 = 2 * l 21 ∧ PL l1 ∧ (FL l l1 ∧ l1 32 = l 32 ∧ l1 33 = l 33 ∧ l1 34 = l 34 ∧ l1 35 = l 35 ∧ l1 89 = l 89) ∧ 11 + pC l1 ≤ pC l ∧ 24 * l 21 + 4 + pS l1 ≤ pS l ∧ ∀ (ad : Nat → Nat) (K : L_ → S_ → Prop), (∀ ad', fx (ad, l) (ad', l1) → K (ad', l1) r1) → qG_grow K (ad, l) r 11 (24 * l 21 + 4) (2 * Int32.ofNat (l 21)) := by
  have l64 : 64 ≤ l 21 := hL.2.2.2.2.2.2.2.2.2.2.1
  have hL2 : l 22 = l 21 ∧ l 23 = l 21 ∧ l 24 = l 21 ∧ l 25 = l 21 ∧ l 26 = l 21 ∧ l 27 = l 21 ∧ l 28 = l 21 ∧ l 29 = l 21 ∧ l 30 = l 21 ∧ l 31 = 2 * l 21 + 4 ∧ 64 ≤ l 21 ∧ l 21 ≤ 4096 := hL
  have eo := i_ofn (n := l 21) (by omega)
  have g0 : (2 * Int32.ofNat (l 21)).toInt = 2 * (l 21 : Int) := by
    rw [i_dbl (by rw [eo]; omega) (by rw [eo]; omega), eo]
  have hLk : ∀ k, 21 ≤ k → k ≤ 30 → l k = l 21 := fun k k1 k2 => by
    have hk : k = 21 ∨ k = 22 ∨ k = 23 ∨ k = 24 ∨ k = 25 ∨ k = 26 ∨ k = 27 ∨ k = 28 ∨ k = 29 ∨ k = 30 := by omega
    rcases hk with e | e | e | e | e | e | e | e | e | e <;> subst e <;> omega
  refine ⟨gr l (2 * Int32.ofNat (l 21)) r, gl l (2 * l 21) (4 * l 21 + 4), gr_Ol hLk (by rw [g0]; omega) (by omega) hcl, gr_f, gr_VB hv, gr_Fn, gl_GL l64 h5, gl21.1, gl_PL hp h4, ⟨gl_FL, gl_rest⟩, gl_pC l64 h5, gl_pS l64 h5, fun ad K hK => ?_⟩
  exact grow_ok ⟨rfl, hL2.1, hL2.2.1, hL2.2.2.1, hL2.2.2.2.1, hL2.2.2.2.2.1, hL2.2.2.2.2.2.1, hL2.2.2.2.2.2.2.1, hL2.2.2.2.2.2.2.2.1, hL2.2.2.2.2.2.2.2.2.1⟩ hL2.2.2.2.2.2.2.2.2.2.1 (by omega) g0 (by omega) ad K hK
theorem newNode_C {l : Nat → Nat} {r : S_} {rh ta : Int32 → Int32} {N p0 p1 p2 : Int32} (hI : GI (A0 l) r rh ta N) (hp : PL l) (hv : VB r) (a1 : -1 ≤ p0) (a2 : p0 < 8) (b1 : -1 ≤ p1) (b2 : p1 < fi r 11 ∨ p1 = -1) (c1 : -1 ≤ p2) (c2 : p2 < fi r 11 ∨ p2 = -1) (h1 : fi r 11 < 4096) (h2 : ¬ fi r 11 < Int32.ofNat (l 21)) : D2 (fun K a r k s => qG_newNode K a r k s p0 p1 p2) l r (NP l r rh ta N) := by
  have hL := hI.1
  have hc0 := hI.2.1
  have hcl : (fi r 11).toInt ≤ l 21 := hI.2.2.1
  have l64 : 64 ≤ l 21 := hL.2.2.2.2.2.2.2.2.2.2.1
  have l4 : l 21 ≤ 4096 := hL.2.2.2.2.2.2.2.2.2.2.2
  have eo := i_ofn (n := l 21) (by omega)
  have b2' : p1 < fi r 11 := by
    rcases b2 with h | h
    · exact h
    · rw [h]; clear hI hv; grind
  have c2' : p2 < fi r 11 := by
    rcases c2 with h | h
    · exact h
    · rw [h]; clear hI hv; grind
  have h3 : (fi r 11).toInt = l 21 := by rw [it] at h2; omega
  have h4 : l 21 < 4096 := by rw [it, show (4096 : Int32).toInt = 4096 from rfl] at h1; omega
  have h5 : 2 * l 21 ≤ 4096 := by unfold PL at hp; omega
  obtain ⟨r1, l1, g1, g2, g3, g4, g5, g6, g7, g8, g9, g10, g11⟩ := grow_R (r := r) hL h5 h4 hp hcl hv
  have hI1 : GI (A0 l1) r1 rh ta N := GI_ext hI g1 g2 g5 (by rw [g6]; omega)
  have h6 : (fi r1 11).toInt < l1 21 := by rw [g2, g6]; omega
  have hO2 := nn_Ol (r := r1) (p0 := p0) (p1 := p1) (p2 := p2) (by rw [g2]; exact hc0)
  have e11 : fi (nn r1 p0 p1 p2) 11 = fi r1 11 + 1 := rfl
  refine ⟨fi r 11, l1, nn r1 p0 p1 p2, 11, 24 * l 21 + 4, ⟨_, nn_GI hI1 h6 a1 a2 b1 (by rw [g2]; exact b2') c1 (by rw [g2]; exact c2'), fun x x1 x2 => ?_, g7, VB_nn g3, Fr_trans g4 nn_Fn, fun x x1 x2 k k1 k2 => ?_, ?_, hc0, ?_, g8.1, g8.2⟩, g9, g10, fun ad K hK => ?_⟩
  · rw [g2, if_neg (fun e => by rw [e] at x2; exact irr x2)]
  · exact (hO2 x x1 (by rw [g2]; exact x2) k k1 k2).trans (g1 x x1 x2 k k1 k2)
  · rw [e11, g2]
    clear hI hv hI1 g1 g3 g4 hO2 g11
    grind
  · rw [e11, g2]
    clear hI hv hI1 g1 g3 g4 hO2 g11
    grind
  · unfold qG_newNode
    refine ⟨fun _ => ⟨fun z => absurd z h2, fun _ => ⟨11, 24 * l 21 + 4, 0, 0, rfl, rfl, g11 ad _ (fun ad' hfx _ => ?_)⟩⟩, fun z => absurd h1 z⟩
    have := hK ad' hfx
    rw [← g2] at this
    exact J40_ok g5 (by rw [g2]; exact hc0) h6 this
theorem newNode_D {l : Nat → Nat} {r : S_} {rh ta : Int32 → Int32} {N p0 p1 p2 : Int32} (hI : GI (A0 l) r rh ta N) (hp : PL l) (hv : VB r) (a1 : -1 ≤ p0) (a2 : p0 < 8) (b1 : -1 ≤ p1) (b2 : p1 < fi r 11 ∨ p1 = -1) (c1 : -1 ≤ p2) (c2 : p2 < fi r 11 ∨ p2 = -1) : D2 (fun K a r k s => qG_newNode K a r k s p0 p1 p2) l r (NP l r rh ta N) := by
  have hL := hI.1
  have hc0 := hI.2.1
  have hcl : (fi r 11).toInt ≤ l 21 := hI.2.2.1
  have l64 : 64 ≤ l 21 := hL.2.2.2.2.2.2.2.2.2.2.1
  have l4 : l 21 ≤ 4096 := hL.2.2.2.2.2.2.2.2.2.2.2
  have eo := i_ofn (n := l 21) (by omega)
  have b2' : p1 < fi r 11 := by
    rcases b2 with h | h
    · exact h
    · rw [h]; clear hI hv; grind
  have c2' : p2 < fi r 11 := by
    rcases c2 with h | h
    · exact h
    · rw [h]; clear hI hv; grind
  by_cases h1 : fi r 11 < 4096
  · by_cases h2 : fi r 11 < Int32.ofNat (l 21)
    · have h3 : (fi r 11).toInt < l 21 := by rw [it] at h2; omega
      refine ⟨fi r 11, l, nn r p0 p1 p2, 0, 0, ⟨_, nn_GI hI h3 a1 a2 b1 b2' c1 c2', fun x x1 x2 => ?_, hp, hv, nn_Fn, nn_Ol hc0, ?_, hc0, ?_, FL_refl l, rfl, rfl, rfl, rfl, rfl⟩, by omega, by omega, fun ad K hK => ?_⟩
      · rw [if_neg (fun e => by rw [e] at x2; exact irr x2)]
      · show fi r 11 ≤ fi r 11 + 1
        clear hI hv; grind
      · show fi r 11 < fi r 11 + 1
        clear hI hv; grind
      · unfold qG_newNode
        exact ⟨fun _ => ⟨fun _ => J40_ok hL hc0 h3 (hK ad (fx_refl _)), fun z => absurd h2 z⟩, fun z => absurd h1 z⟩
    · exact newNode_C hI hp hv a1 a2 b1 b2 c1 c2 h1 h2
  · refine ⟨0, l, sF r 15 1, 0, 0, ⟨rh, hI, fun _ _ _ => rfl, hp, hv, Fr_sF (by decide), fun _ _ _ _ _ _ => rfl, ?_, by decide, ?_, FL_refl l, rfl, rfl, rfl, rfl, rfl⟩, by omega, by omega, fun ad K hK => ?_⟩
    · exact Int32.le_refl _
    · show 0 < fi r 11
      clear hI hv; grind
    · unfold qG_newNode
      exact ⟨fun z => absurd z h1, fun _ => ⟨zb1, fun r26 e26 => by subst e26; exact hK ad (fx_refl _)⟩⟩
end NEWNODE
