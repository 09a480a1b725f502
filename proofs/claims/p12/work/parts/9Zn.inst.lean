/-! Calls on both sides: instance. -/
section INST
theorem covers_ok {a : L_} {r0 r : S_} (hM : ML a) (kq : KQ r0) (k0 : 0 ≤ fi r0 2) (k8 : fi r0 2 ≤ 8) (e41 : ar r 41 = ar r0 6) (e23 : fi r 23 = fi r0 2) {g s : Int32} (hs : only s (fi r0 2)) {K : Int32 → Prop} (h1 : (∀ i, i < 32 → gb s i = true → rch r0 g i) → K 1) (h0 : ¬ (∀ i, i < 32 → gb s i = true → rch r0 g i) → K 0) : qM_covers a r (fun z => zb z → K z) g s := by
  have c0n := i_nat k0
  have lts : ∀ (v j : Int32), v < fi r0 2 → (j < v + 1 ↔ (j < v ∨ j = v)) := fun v j hv => by
    have hi := i_inc hv
    rw [it, it, ie, hi]
    omega
  have inner : ∀ (d v3 : Int32), 0 ≤ d → d < 8 → ∀ (KX : Int32 → Int32 → Int32 → Int32 → Int32 → Prop), (rch r0 g d.toNatClampNeg → KX g s v3 d 1) → (¬ rch r0 g d.toNatClampNeg → KX g s v3 d 0) → ∀ (n : Nat) (v5 v : Int32), zb v5 → 0 ≤ v → v ≤ fi r0 2 → (¬ v5 = 0 ↔ ∃ c : Int32, 0 ≤ c ∧ c < v ∧ gb g c.toNatClampNeg = true ∧ und r0 c d.toNatClampNeg = true) → (fi r0 2).toInt - v.toInt < n → qM_covers_L30 a r KX n g s v3 d v5 v := by
    intro d v3 d0 d1 KX kx1 kx0 n
    induction n with
    | zero => intro v5 v z k1 k2 k3 k4; rw [il] at k2; omega
    | succ n ih =>
      intro v5 v z k1 k2 k3 k4
      rw [qM_covers_L30, e23]
      refine ⟨fun q => ?_, fun q => ?_⟩
      · have ev : v = fi r0 2 := by clear k3 ih h1 h0 kx1 kx0 hs kq; grind
        rw [ev] at k3
        rcases z with z | z
        · rw [z]
          refine kx0 (fun hr => ?_)
          exact (k3.mpr hr) z
        · rw [z]
          exact kx1 (k3.mp (by rw [z]; decide))
      · have hlt : v < fi r0 2 := Int32.not_le.mp q
        have hi := i_inc hlt
        have v8' : v < 8 := by clear k3 ih h1 h0 kx1 kx0 hs kq; grind
        have c0 : 0 ≤ v + 1 := by clear k3 ih h1 h0 kx1 kx0 hs kq; grind
        have c1 : v + 1 ≤ fi r0 2 := by clear k3 ih h1 h0 kx1 kx0 hs kq; grind
        have nx : ∀ u0 : Int32, zb u0 → (¬ u0 = 0 ↔ (¬ v5 = 0 ∨ (gb g v.toNatClampNeg = true ∧ und r0 v d.toNatClampNeg = true))) → qM_covers_J70 a r (qM_covers_L30 a r KX n) KX g s v3 d v u0 := by
          intro u0 zu hu
          unfold qM_covers_J70
          refine ih u0 _ zu c0 c1 ?_ (by omega)
          rw [hu, k3]
          constructor
          · rintro (⟨c, a0, a1, a2, a3⟩ | ⟨a2, a3⟩)
            · exact ⟨c, a0, (lts v c hlt).mpr (Or.inl a1), a2, a3⟩
            · exact ⟨v, k1, (lts v v hlt).mpr (Or.inr rfl), a2, a3⟩
          · rintro ⟨c, a0, a1, a2, a3⟩
            rcases (lts v c hlt).mp a1 with e | e
            · exact Or.inl ⟨c, a0, e, a2, a3⟩
            · rw [e] at a2 a3
              exact Or.inr ⟨a2, a3⟩
        unfold qM_covers_J65 qM_covers_J69
        refine ⟨fun q1 => nx 1 zb1 ⟨fun _ => Or.inl q1, fun _ => by decide⟩, fun q1 => ⟨fun q2 => nx 0 zb0 ⟨fun z => absurd rfl z, fun z => ?_⟩, fun q2 => isUnder_ok hM kq k8 e41 k1 hlt d0 d1 (fun hu => ⟨fun z => absurd z (by decide), fun _ => nx 1 zb1 ⟨fun _ => Or.inr ⟨(bt_m k1 v8').mp q2, hu⟩, fun _ => by decide⟩⟩) (fun hu => ⟨fun _ => nx 0 zb0 ⟨fun z => absurd rfl z, fun z => ?_⟩, fun z => absurd rfl z⟩)⟩⟩
        · rcases z with z | z
          · exact absurd q1 z
          · exact absurd ((bt_m k1 v8').mpr z.1) q2
        · rcases z with z | z
          · exact absurd q1 z
          · rw [hu] at z
            exact absurd z.2 (by decide)
  have outer : ∀ (n : Nat) (v3 v : Int32), zb v3 → 0 ≤ v → v ≤ fi r0 2 → (¬ v3 = 0 ↔ ∀ d : Int32, 0 ≤ d → d < v → gb s d.toNatClampNeg = true → rch r0 g d.toNatClampNeg) → (fi r0 2).toInt - v.toInt < n → qM_covers_L5 a r (fun v3 => zb v3 ∧ (zb v3 → K v3)) n g s v3 v := by
    intro n
    induction n with
    | zero => intro v3 v z k1 k2 k3 k4; rw [il] at k2; omega
    | succ n ih =>
      intro v3 v z k1 k2 k3 k4
      rw [qM_covers_L5, e23]
      refine ⟨fun q => ⟨z, fun _ => ?_⟩, fun q => ?_⟩
      · have ev : v = fi r0 2 := by clear k3 ih h1 h0 inner hs kq; grind
        rw [ev] at k3
        have hq : (∀ d : Int32, 0 ≤ d → d < fi r0 2 → gb s d.toNatClampNeg = true → rch r0 g d.toNatClampNeg) ↔ ∀ i, i < 32 → gb s i = true → rch r0 g i := by
          constructor
          · intro hh i i1 i2
            have il2 := hs i i1 i2
            have ei := i_ofn (n := i) (by omega)
            have y1 : 0 ≤ Int32.ofNat i := by rw [Int32.le_iff_toInt_le, ei]; simp
            have y3 := i_nat y1
            have y4 : (Int32.ofNat i).toNatClampNeg = i := by omega
            have := hh (Int32.ofNat i) y1 (by rw [it, ei]; exact il2)
            rw [y4] at this
            exact this i2
          · intro hh d d0 d1 d2
            have dl := d_lt d0 (by clear hh k3 ih h1 h0 inner hs kq; grind)
            exact hh _ (by omega) d2
        rcases z with z | z
        · rw [z]
          refine h0 (fun hh => ?_)
          exact (k3.mpr (hq.mpr hh)) z
        · rw [z]
          exact h1 (hq.mp (k3.mp (by rw [z]; decide)))
      · have hlt : v < fi r0 2 := Int32.not_le.mp q
        have hi := i_inc hlt
        have v8' : v < 8 := by clear k3 ih h1 h0 inner hs kq; grind
        have c0 : 0 ≤ v + 1 := by clear k3 ih h1 h0 inner hs kq; grind
        have c1 : v + 1 ≤ fi r0 2 := by clear k3 ih h1 h0 inner hs kq; grind
        have nx : ∀ u0 : Int32, zb u0 → (¬ u0 = 0 ↔ (¬ v3 = 0 ∧ (gb s v.toNatClampNeg = true → rch r0 g v.toNatClampNeg))) → qM_covers_L5 a r (fun v3 => zb v3 ∧ (zb v3 → K v3)) n g s u0 (v + 1) := by
          intro u0 zu hu
          refine ih u0 _ zu c0 c1 ?_ (by omega)
          rw [hu, k3]
          constructor
          · rintro ⟨hh, hv⟩ d d0 d1 d2
            rcases (lts v d hlt).mp d1 with e | e
            · exact hh d d0 e d2
            · rw [e] at d2 ⊢
              exact hv d2
          · intro hh
            exact ⟨fun d d0 d1 d2 => hh d d0 ((lts v d hlt).mpr (Or.inl d1)) d2, fun d2 => hh v k1 ((lts v v hlt).mpr (Or.inr rfl)) d2⟩
        have j91 : ¬ (¬ v3 = 0 ∧ (gb s v.toNatClampNeg = true → rch r0 g v.toNatClampNeg)) → qM_covers_J91 a r (qM_covers_L5 a r (fun v3 => zb v3 ∧ (zb v3 → K v3)) n) (fun v3 => zb v3 ∧ (zb v3 → K v3)) g s v := by
          intro hn
          unfold qM_covers_J91 qM_covers_J92 qM_covers_J93
          exact nx 0 zb0 ⟨fun z => absurd rfl z, fun z => absurd z hn⟩
        refine ⟨fun q2 => ?_, fun q2 => ?_⟩
        · unfold qM_covers_J93
          have gs : ¬ gb s v.toNatClampNeg = true := fun z => q2 ((bt_m k1 v8').mpr z)
          exact nx v3 z ⟨fun hz => ⟨hz, fun z => absurd z gs⟩, fun hz => hz.1⟩
        · have gs := (bt_m k1 v8').mp q2
          refine ⟨(fi r0 2).toNatClampNeg + 1, inner v v3 k1 v8' _ (fun hr => ⟨fun z3 => j91 (fun hz => hz.1 z3), fun z3 => ⟨fun z => absurd z (by decide), fun _ => ?_⟩⟩) (fun hr => ⟨fun z3 => j91 (fun hz => hz.1 z3), fun z3 => ⟨fun _ => j91 (fun hz => hr (hz.2 gs)), fun z => absurd rfl z⟩⟩) _ 0 0 zb0 (by decide) k0 ⟨fun z => absurd rfl z, fun ⟨c, a0, a1, _⟩ => (nl0 a0 a1).elim⟩ (by simp; omega)⟩
          unfold qM_covers_J92 qM_covers_J93
          exact nx 1 zb1 ⟨fun _ => ⟨z3, fun _ => hr⟩, fun _ => by decide⟩
  unfold qM_covers
  exact ⟨(fi r0 2).toNatClampNeg + 1, outer _ 1 0 zb1 (by decide) k0 ⟨fun _ d d0 d1 => (nl0 d0 d1).elim, fun _ => by decide⟩ (by simp; omega)⟩
end INST
