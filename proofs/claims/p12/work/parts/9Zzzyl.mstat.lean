/-! The reference: what a written type means. -/
section ZMSTATF
variable {ad l : Nat → Nat} {rI r r' : S_} {rh ta : Int32 → Int32} {N : Int32}
theorem cev_m {r : S_} {θ : Nat → Ut} : cev r θ (-1) = [] := by
  unfold cev
  rw [evT, if_pos rfl]
theorem ws_mmark {t : Int32} (w : TT l r) (hM : ML (A0 l)) (e38 : ar r 38 = ar r 2) (e39 : ar r 39 = ar r 3) (t0 : 0 ≤ t) (t1 : t < fi r 1) {K : S_ → Prop} (hK : ∀ r', SP r r' t → K r') : wM_markStatic (ad, l) K r t :=
  wq_M_markStatic (K := fun r' => SP r r' t) (K2 := fun _ => True) (fun r' h _ => hK r' h) (markStatic_ok w hM e38 e39 t0 t1 (fun r' h => h)) (wa_M_markStatic (fun _ => trivial))
theorem ws_mstat {t : Int32} (si : SIm (ad, l) rI r rh ta N) (ty : TYM l r) (t0 : 0 ≤ t) (t1 : t < fi r 1) {K : Int32 → S_ → Prop} (hK : ∀ z r' rh', (SIm (ad, l) rI r' rh' ta N ∧ OS r r' ∧ Fr [28] [64, 65, 66, 67, 68, 70, 71, 74, 88] r r') → (∀ ρ, VM r' ρ → VM r ρ) → vt r' z → ((∀ k : Int32, 0 ≤ k → k ≤ t → ¬ ar r' 88 k.toNatClampNeg = 0 → vt r' (ar r' 74 k.toNatClampNeg)) ∧ ∃ r1, SP r r1 t ∧ ar r1 88 = ar r' 88) → (∀ (m : Prop) (wn : Int32), (m → ∃ k : Int32, 0 ≤ k ∧ k ≤ t ∧ ¬ ar r' 88 k.toNatClampNeg = 0 ∧ ar r 1 k.toNatClampNeg = -1 ∧ wn = ar r' 74 k.toNatClampNeg) → zStat (cev r) t m wn (fi r 28) (VM r) z (fi r' 28) (VM r')) → K z r') : wM_copyStatic (ad, l) K r t := by
  obtain ⟨qF, w, cg, f32, ⟨qm, qm0, qm1⟩, z0, ⟨q31, q75⟩, q27⟩ := si
  obtain ⟨tt, tz, ⟨e37, e38, e39⟩, th, e36, uv⟩ := ty
  have c0 := w.2.2.1.1
  unfold wM_copyStatic
  refine ws_mmark tt w.1 e38 e39 t0 t1 (fun r1 sp n => ?_)
  have sp' := sp
  obtain ⟨G1, G2, G3, G4, G5, _⟩ := sp
  have aE : ∀ k, ¬ k = 88 → ar r1 k = ar r k := fun k hk => G1.2.1 k (by simpa using hk)
  have fE : ∀ k, fi r1 k = fi r k := fun k => G1.1 k List.not_mem_nil
  have c60 : (fi r 1).toInt ≤ 60 := by have := tz.1.2; rw [il] at this; simpa using this
  have lt60 : ∀ k : Int32, k < fi r 1 → k < 60 := fun k hk => by rw [it] at hk ⊢; simp; omega
  have let' : ∀ k : Int32, k ≤ t → k < fi r 1 := fun k hk => by rw [il] at hk; rw [it] at t1 ⊢; omega
  have cl : ∀ k : Int32, 0 ≤ k → k ≤ t → ¬ ar r1 88 k.toNatClampNeg = 0 → (0 ≤ ar r1 2 k.toNatClampNeg → ¬ ar r1 88 (ar r1 2 k.toNatClampNeg).toNatClampNeg = 0) ∧ (0 ≤ ar r1 3 k.toNatClampNeg → ¬ ar r1 88 (ar r1 3 k.toNatClampNeg).toNatClampNeg = 0) := fun k k0 k1 mk => by
    rw [aE 2 (by decide), aE 3 (by decide)]
    exact G4 k k0 (lt60 k (let' k k1)) mk (by rw [il] at k0; simp at k0; omega)
  have tz1 : TYz r1 := TYz_eq tz (fE 1) (fun k hk => aE k (by omega))
  refine ws_cst7 (r0 := r1) (by rw [fE]; exact c0) w.1 tz1 (by rw [aE 37 (by decide), aE 1 (by decide)]; exact e37) (by rw [aE 38 (by decide), aE 2 (by decide)]; exact e38) (by rw [aE 39 (by decide), aE 3 (by decide)]; exact e39) (by rw [fE]; exact t1) cl (fun r2 v tv vt1 s _ => ?_) n r1 0 ⟨⟨Fr_refl _, fun _ _ _ _ => rfl⟩, ⟨Int32.le_refl _, by rw [fE]; exact w.2.2.1.2⟩, fun k k0 k1 => absurd k1 (Int32.not_lt.mpr k0), fun k k' k0 k1 => absurd k1 (Int32.not_lt.mpr k0), fun y y0 y1 => absurd y1 (Int32.not_lt.mpr y0)⟩ (Int32.le_refl _) (by rw [il] at t0; simp at t0 ⊢; omega)
  obtain ⟨⟨s1, s1'⟩, ⟨s2, s2'⟩, s3, s4, s5⟩ := s
  rw [fE] at s2 s5
  simp only [fE, aE 1 (by decide), aE 2 (by decide), aE 3 (by decide)] at s3
  have v1 : ∀ x, vt r1 x ↔ vt r x := fun x => vt_eq (fE 28)
  have FE : Fr [28] [64, 65, 66, 67, 68, 70, 71, 74, 88] r r2 := Fr_trans (Fr_mono G1 (by decide) (by decide)) (Fr_mono s1 (by decide) (by decide))
  have e88 : ar r2 88 = ar r1 88 := s1.2.1 88 (by decide)
  have old : ∀ x, vt r x → ar r2 64 x.toNatClampNeg = ar r 64 x.toNatClampNeg ∧ ar r2 65 x.toNatClampNeg = ar r 65 x.toNatClampNeg ∧ ar r2 66 x.toNatClampNeg = ar r 66 x.toNatClampNeg ∧ ar r2 67 x.toNatClampNeg = ar r 67 x.toNatClampNeg := fun x vx => by
    have k := s1' x ((v1 x).mpr vx)
    exact ⟨(k 64 (by decide)).trans (by rw [aE 64 (by decide)]), (k 65 (by decide)).trans (by rw [aE 65 (by decide)]), (k 66 (by decide)).trans (by rw [aE 66 (by decide)]), (k 67 (by decide)).trans (by rw [aE 67 (by decide)])⟩
  -- marked types up to t
  obtain ⟨M, hM⟩ : ∃ M : Int32 → Prop, ∀ k, M k ↔ 0 ≤ k ∧ k ≤ t ∧ ¬ ar r1 88 k.toNatClampNeg = 0 := ⟨_, fun _ => Iff.rfl⟩
  have kv : ∀ k : Int32, k ≤ t → k < v := fun k hk => by rw [il] at hk; rw [it] at tv ⊢; omega
  have ml1 : ∀ k : Int32, 0 ≤ k → ¬ ar r1 88 k.toNatClampNeg = 0 → k < 60 → k ≤ t := fun k k0 mk h6 => (G2 k k0 h6).2 mk
  have mM : ∀ k, M k → (fi r 28 ≤ ar r2 74 k.toNatClampNeg ∧ ar r2 74 k.toNatClampNeg < fi r2 28) ∧ ar r2 64 (ar r2 74 k.toNatClampNeg).toNatClampNeg = ar r2 74 k.toNatClampNeg ∧ ar r2 65 (ar r2 74 k.toNatClampNeg).toNatClampNeg = (if 0 ≤ ar r 1 k.toNatClampNeg then ar r 1 k.toNatClampNeg else -1) ∧ ar r2 66 (ar r2 74 k.toNatClampNeg).toNatClampNeg = ptS r2 (ar r 2 k.toNatClampNeg) ∧ ar r2 67 (ar r2 74 k.toNatClampNeg).toNatClampNeg = ptS r2 (ar r 3 k.toNatClampNeg) := fun k hk => by
    obtain ⟨a1, a2, a3⟩ := (hM k).mp hk
    exact s3 k a1 (kv k a2) a3
  have mP : ∀ k, M k → (ar r 2 k.toNatClampNeg = -1 ∨ M (ar r 2 k.toNatClampNeg)) ∧ (ar r 3 k.toNatClampNeg = -1 ∨ M (ar r 3 k.toNatClampNeg)) := fun k hk => by
    obtain ⟨a1, a2, a3⟩ := (hM k).mp hk
    have p := tz.2.1 k a1 (let' k a2)
    have c := cl k a1 a2 a3
    rw [aE 2 (by decide), aE 3 (by decide)] at c
    have tr : ∀ x : Int32, x < k → x ≤ t := fun x hx => by rw [it] at hx; rw [il] at a2 ⊢; omega
    refine ⟨?_, ?_⟩
    · rcases m1c p.1.1 with e | e
      · exact Or.inl e
      · exact Or.inr ((hM _).mpr ⟨e, tr _ p.1.2, c.1 e⟩)
    · rcases m1c p.2.1 with e | e
      · exact Or.inl e
      · exact Or.inr ((hM _).mpr ⟨e, tr _ p.2.2, c.2 e⟩)
  have Mt : M t := (hM t).mpr ⟨t0, Int32.le_refl _, G3⟩
  have newk : ∀ y : Int32, fi r 28 ≤ y → y < fi r2 28 → ∃ k, M k ∧ ar r2 74 k.toNatClampNeg = y := fun y y0 y1 => by
    obtain ⟨⟨k, k0, k1, k2, k3⟩, _⟩ := s5 y y0 y1
    refine ⟨k, (hM k).mpr ⟨k0, ?_, k2⟩, k3⟩
    rw [it] at k1
    rw [il]
    omega
  have ptp : ∀ x : Int32, M x → ptS r2 x = ar r2 74 x.toNatClampNeg := fun x hx => by
    unfold ptS
    rw [if_pos ((hM x).mp hx).1]
  have ptm : ptS r2 (-1) = -1 := rfl
  have vmE : ∀ ρ, VM r2 ρ ↔ VM r ρ ∧ ∀ k, M k → 0 ≤ ar r 1 k.toNatClampNeg → ρ (ar r2 74 k.toNatClampNeg) = Jn (ar r 1 k.toNatClampNeg) (ρ (ptS r2 (ar r 2 k.toNatClampNeg))) (ρ (ptS r2 (ar r 3 k.toNatClampNeg))) := fun ρ => by
    constructor
    · rintro ⟨v0, vv⟩
      refine ⟨⟨v0, fun x x0 x1 => ?_⟩, fun k hk h0 => ?_⟩
      · have k := old x ⟨x0, x1⟩
        have := vv x x0 (zo3 x1 s2)
        rw [k.1, k.2.1, k.2.2.1, k.2.2.2] at this
        exact this
      · have m := mM k hk
        have := (vv _ (zo2 c0 m.1.1) m.1.2).2
        rw [m.2.2.1, if_pos h0, m.2.2.2.1, m.2.2.2.2] at this
        exact this h0
    · rintro ⟨⟨v0, vv⟩, hh⟩
      refine ⟨v0, fun x x0 x1 => ?_⟩
      by_cases q : x < fi r 28
      · have k := old x ⟨x0, q⟩
        rw [k.1, k.2.1, k.2.2.1, k.2.2.2]
        exact vv x x0 q
      · obtain ⟨k, hk, ek⟩ := newk x (Int32.not_lt.mp q) x1
        have m := mM k hk
        rw [← ek, m.2.1, m.2.2.1, m.2.2.2.1, m.2.2.2.2]
        refine ⟨rfl, fun h0 => ?_⟩
        by_cases g : 0 ≤ ar r 1 k.toNatClampNeg
        · rw [if_pos g]
          exact hh k hk g
        · rw [if_neg g] at h0
          exact absurd h0 (by decide)
  have vr : ∀ k, M k → ar r 1 k.toNatClampNeg < 0 → ar r 1 k.toNatClampNeg = -1 - Int32.ofNat (-1 - ar r 1 k.toNatClampNeg).toNatClampNeg := fun k hk h => by
    have b := (tz.2.2 k ((hM k).mp hk).1 (let' k ((hM k).mp hk).2.1)).1.1
    generalize ar r 1 k.toNatClampNeg = x at h b
    have : x = -1 ∨ x = -2 ∨ x = -3 ∨ x = -4 ∨ x = -5 ∨ x = -6 ∨ x = -7 ∨ x = -8 := by clear old vmE mM mP newk ptp s3 s4 s5 hK z0 q75 G4 G5 cl; grind
    rcases this with e | e | e | e | e | e | e | e <;> subst e <;> decide
  have uq : ∀ k k', M k → M k' → ar r 1 k.toNatClampNeg < 0 → ar r 1 (k').toNatClampNeg < 0 → (-1 - ar r 1 k.toNatClampNeg).toNatClampNeg = (-1 - ar r 1 (k').toNatClampNeg).toNatClampNeg → k = k' := fun k k' hk hk' h h' e => by
    have a1 := vr k hk h
    have a2 := vr k' hk' h'
    rw [e, ← a2] at a1
    exact uv k k' ((hM k).mp hk).1 (let' k ((hM k).mp hk).2.1) ((hM k').mp hk').1 (let' k' ((hM k').mp hk').2.1) h a1.symm
  have mono : ∀ ρ, VM r2 ρ → VM r ρ := fun ρ h => ((vmE ρ).mp h).1
  have stat : ∀ (m : Prop) (wn : Int32), (m → ∃ k : Int32, 0 ≤ k ∧ k ≤ t ∧ ¬ ar r2 88 k.toNatClampNeg = 0 ∧ ar r 1 k.toNatClampNeg = -1 ∧ wn = ar r2 74 k.toNatClampNeg) → zStat (cev r) t m wn (fi r 28) (VM r) (ar r2 74 t.toNatClampNeg) (fi r2 28) (VM r2) := by
    intro m wn hm
    have hm' : m → ∃ k, M k ∧ ar r 1 k.toNatClampNeg = -1 ∧ wn = ar r2 74 k.toNatClampNeg := fun q => by
      obtain ⟨k, k0, k1, k2, k3, k4⟩ := hm q
      rw [e88] at k2
      exact ⟨k, (hM k).mpr ⟨k0, k1, k2⟩, k3, k4⟩
    have z1 : ∀ k : Int32, ar r 1 k.toNatClampNeg = -1 → (-1 - ar r 1 k.toNatClampNeg).toNatClampNeg = 0 := fun k e => by rw [e]; rfl
    refine ⟨fun q => ?_, fun ρ v' => ?_, fun ρ θ v => ?_⟩
    · obtain ⟨k, hk, _, ek⟩ := hm' q
      rw [ek]
      exact ⟨zo2 c0 (mM k hk).1.1, (mM k hk).1.2⟩
    · obtain ⟨v, hh⟩ := (vmE ρ).mp v'
      have ex : ∀ n : Nat, ∃ u : Ut, ∀ k, M k → ar r 1 k.toNatClampNeg < 0 → (-1 - ar r 1 k.toNatClampNeg).toNatClampNeg = n → u = ρ (ar r2 74 k.toNatClampNeg) := fun n => by
        by_cases q : ∃ k, M k ∧ ar r 1 k.toNatClampNeg < 0 ∧ (-1 - ar r 1 k.toNatClampNeg).toNatClampNeg = n
        · obtain ⟨k, k1, k2, k3⟩ := q
          exact ⟨ρ (ar r2 74 k.toNatClampNeg), fun k' h1 h2 h3 => by rw [uq k k' k1 h1 k2 h2 (by rw [k3, h3])]⟩
        · exact ⟨[], fun k h1 h2 h3 => absurd ⟨k, h1, h2, h3⟩ q⟩
      obtain ⟨θ, hθ⟩ := Classical.axiomOfChoice ex
      have main : ∀ (n : Nat) (k : Int32), M k → k.toInt < n → ρ (ar r2 74 k.toNatClampNeg) = cev r θ k := by
        intro n
        induction n with
        | zero => intro k hk hl; have := ((hM k).mp hk).1; rw [il] at this; simp at this; omega
        | succ n ih =>
          intro k hk hl
          obtain ⟨a1, a2, a3⟩ := (hM k).mp hk
          by_cases g : 0 ≤ ar r 1 k.toNatClampNeg
          · have p := tz.2.1 k a1 (let' k a2)
            have part : ∀ x : Int32, x < k → (x = -1 ∨ M x) → ρ (ptS r2 x) = cev r θ x := fun x hx h => by
              rcases h with e | e
              · rw [e, ptm, v.1, cev_m]
              · rw [ptp x e]
                exact ih x e (by rw [it] at hx; omega)
            rw [hh k hk g, cev_c tz a1 (let' k a2) g, part _ p.1.2 (mP k hk).1, part _ p.2.2 (mP k hk).2]
          · rw [cev_v a1 (Int32.not_le.mp g)]
            exact (hθ _ k hk (Int32.not_le.mp g) rfl).symm
      refine ⟨θ, main (t.toInt.toNat + 1) t Mt (show t.toInt < ((t.toInt.toNat + 1 : Nat) : Int) by omega), fun q => ?_⟩
      obtain ⟨k, hk, h1, ek⟩ := hm' q
      rw [ek]
      exact (hθ 0 k hk (by rw [h1]; decide) (z1 k h1)).symm
    · have ck : ∀ y : Int32, ∃ k : Int32, fi r 28 ≤ y → y < fi r2 28 → M k ∧ ar r2 74 k.toNatClampNeg = y := fun y => by
        by_cases q : fi r 28 ≤ y ∧ y < fi r2 28
        · obtain ⟨k, hk⟩ := newk y q.1 q.2
          exact ⟨k, fun _ _ => hk⟩
        · exact ⟨0, fun h1 h2 => absurd ⟨h1, h2⟩ q⟩
      obtain ⟨Kf, hKf⟩ := Classical.axiomOfChoice ck
      obtain ⟨ρ', hρ⟩ : ∃ ρ' : Int32 → Ut, (∀ x, x < fi r 28 → ρ' x = ρ x) ∧ ∀ k, M k → ρ' (ar r2 74 k.toNatClampNeg) = cev r θ k := by
        refine ⟨fun y => if y < fi r 28 then ρ y else cev r θ (Kf y), fun x hx => if_pos hx, fun k hk => ?_⟩
        have mk := (mM k hk).1
        have f := hKf _ mk.1 mk.2
        show (if ar r2 74 k.toNatClampNeg < fi r 28 then ρ (ar r2 74 k.toNatClampNeg) else cev r θ (Kf (ar r2 74 k.toNatClampNeg))) = _
        rw [if_neg (Int32.not_lt.mpr mk.1)]
        obtain ⟨a1, a2, a3⟩ := (hM k).mp hk
        obtain ⟨b1, b2, b3⟩ := (hM _).mp f.1
        rw [s4 _ k b1 (kv _ b2) a1 (kv k a2) b3 a3 f.2]
      have m1l : (-1 : Int32) < fi r 28 := by clear old vmE mM mP newk ptp s3 s4 s5 hK z0 q75 G4 G5 cl hρ hKf vr uq; grind
      refine ⟨ρ', (vmE ρ').mpr ⟨VM_loc w (fun x hx => (hρ.1 x hx).symm) v, fun k hk h0 => ?_⟩, hρ.1, hρ.2 t Mt, fun q => ?_⟩
      · obtain ⟨a1, a2, a3⟩ := (hM k).mp hk
        have part : ∀ x : Int32, (x = -1 ∨ M x) → ρ' (ptS r2 x) = cev r θ x := fun x h => by
          rcases h with e | e
          · rw [e, ptm, hρ.1 _ m1l, v.1, cev_m]
          · rw [ptp x e]
            exact hρ.2 x e
        rw [hρ.2 k hk, cev_c tz a1 (let' k a2) h0, part _ (mP k hk).1, part _ (mP k hk).2]
      · obtain ⟨k, hk, h1, ek⟩ := hm' q
        rw [ek, hρ.2 k hk, cev_v ((hM k).mp hk).1 (by rw [h1]; decide), z1 k h1]
  obtain ⟨w2, cg2⟩ := MI_more w s2 s2' (FE.1 21 (by decide)) (FE.2.1 36 (by decide)) old (fun x h1 h2 => by
    obtain ⟨k, hk, ek⟩ := newk x h1 h2
    have m := mM k hk
    obtain ⟨a1, a2, a3⟩ := (hM k).mp hk
    have th' := th k a1 (let' k a2)
    have q := tz.2.2 k a1 (let' k a2)
    have mp := mP k hk
    rw [← ek, m.2.1, m.2.2.1, m.2.2.2.1, m.2.2.2.2]
    have pr : ∀ u : Int32, (u = -1 ∨ M u) → (-1 ≤ ptS r2 u ∧ ptS r2 u < fi r2 28) ∧ (0 ≤ ptS r2 u ↔ ¬ u = -1) := fun u hu => by
      rcases hu with e | e
      · rw [e, ptm]
        refine ⟨⟨by decide, ?_⟩, fun z => absurd z (by decide), fun z => absurd rfl z⟩
        have := zo2 c0 s2
        clear old vmE mM mP newk ptp s3 s4 s5 hK z0 q75 G4 G5 cl vr uq stat
        grind
      · have m := (mM u e).1
        rw [ptp u e]
        have p0 := zo2 c0 m.1
        refine ⟨⟨?_, m.2⟩, fun _ z => ?_, fun _ => p0⟩
        · clear old vmE mM mP newk ptp s3 s4 s5 hK z0 q75 G4 G5 cl vr uq stat
          grind
        · have := ((hM u).mp e).1
          rw [z] at this
          exact absurd this (by decide)
    have p1 := pr _ mp.1
    have p2 := pr _ mp.2
    have m1 : (-1 : Int32) < fi r 21 := by
      have := w.2.1.1
      clear old vmE mM mP newk ptp s3 s4 s5 hK z0 q75 G4 G5 cl vr uq stat
      grind
    by_cases g : 0 ≤ ar r 1 k.toNatClampNeg
    · rw [if_pos g, p1.2, p2.2, e36]
      refine ⟨rfl, ⟨?_, th'⟩, p1.1, p2.1, fun z => absurd g (Int32.not_le.mpr z), fun _ => q.2.2.1 g⟩
      clear old vmE mM mP newk ptp s3 s4 s5 hK z0 q75 G4 G5 cl vr uq stat
      grind
    · rw [if_neg g]
      have z := q.2.1 (Int32.not_le.mp g)
      refine ⟨rfl, ⟨by decide, m1⟩, p1.1, p2.1, fun _ => ⟨by rw [z.1]; rfl, by rw [z.2]; rfl⟩, fun h => absurd h (by decide)⟩)
  have os : OS r r2 := ⟨s2, fun x vx => ⟨Or.inl (old x vx).1, (old x vx).2⟩⟩
  have vn : ∀ k, M k → vt r2 (ar r2 74 k.toNatClampNeg) := fun k hk => ⟨zo2 c0 (mM k hk).1.1, (mM k hk).1.2⟩
  have e29 : fi r2 29 = fi r 29 := FE.1 29 (by decide)
  have cs : ∀ x, vt r2 x → (vt r x ∧ ar r2 68 x.toNatClampNeg = ar r 68 x.toNatClampNeg ∧ ar r2 70 x.toNatClampNeg = ar r 70 x.toNatClampNeg ∧ ar r2 71 x.toNatClampNeg = ar r 71 x.toNatClampNeg) ∨ (ar r2 68 x.toNatClampNeg = 0 ∧ ar r2 70 x.toNatClampNeg = 0 ∧ ar r2 71 x.toNatClampNeg = 0) := fun x vx => by
    by_cases q : x < fi r 28
    · have vx' : vt r x := ⟨vx.1, q⟩
      have k := s1' x ((v1 x).mpr vx')
      exact Or.inl ⟨vx', (k 68 (by decide)).trans (by rw [aE 68 (by decide)]), (k 70 (by decide)).trans (by rw [aE 70 (by decide)]), (k 71 (by decide)).trans (by rw [aE 71 (by decide)])⟩
    · exact Or.inr (s5 x (Int32.not_lt.mp q) vx.2).2
  refine hK _ r2 _ ⟨⟨Fr_trans qF (Fr_mono FE (by decide) (by decide)), w2, cg2 cg, by rw [FE.1 32 (by decide)]; exact f32, ⟨fun x vx => ?_, by rw [e29]; exact qm0, by rw [e29]; exact qm1⟩, fun x vx => ?_, ⟨by rw [FE.1 31 (by decide)]; exact q31, fun i hi => ?_⟩, by rw [FE.1 27 (by decide)]; exact q27⟩, os, FE⟩ mono (vn t Mt) ⟨fun k k0 k1 k2 => vn k ((hM k).mpr ⟨k0, k1, by rw [← e88]; exact k2⟩), r1, sp', e88.symm⟩ stat
  · rw [e29]
    rcases cs x vx with ⟨vx', h, _⟩ | ⟨h, _⟩
    · rw [h]; exact qm x vx'
    · rw [h]; exact qm0
  · rcases cs x vx with ⟨vx', _, h1, h2⟩ | ⟨_, h1, h2⟩
    · rw [h1, h2]; exact z0 x vx'
    · exact ⟨h1, h2⟩
  · rw [FE.1 31 (by decide)] at hi
    rw [FE.2.1 75 (by decide), FE.2.1 76 (by decide)]
    have k := q75 i hi
    exact ⟨OS_vt os k.1, k.2⟩
end ZMSTATF
