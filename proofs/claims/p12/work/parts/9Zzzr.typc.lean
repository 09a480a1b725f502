/-! Typing in the class: every tree. -/
section ZTYPC
theorem TYPc : ∀ d : Nat, HTc d := by
  intro d
  induction d with
  | zero => intro ad l r rh ta N e Γ A E m K _ _ _ _ _ _ h; omega
  | succ d ih =>
    intro ad l r rh ta N e Γ A E m K hm w hI tx e1 e2 e3 e4 pr hK
    have e3' : (ar r 16 e.toNatClampNeg).toInt < (d + 1 : Nat) := by rw [hm]; omega
    have e4' : ar r 16 e.toNatClampNeg ≤ 24 := by rw [il, hm]; simp; omega
    have hb : (fi r 13).toInt + 4 * (ar r 16 e.toNatClampNeg).toInt ≤ 1999990000 := by rw [hm]; have := w.2.2.2.2.1; omega
    obtain ⟨z0, l0, r0, kk, s, P, _, _, h⟩ := typeOf_D (d + 1) l r e w.1 e1 e2 e3' e4' hb
    have q := h ad (fun z a r' => z = z0 ∧ a.2 = l0 ∧ r' = r0) (fun _ _ => ⟨rfl, rfl, rfl⟩)
    have q2 : qY_typeOf (d + 1) (fun z a r' => MO r a.2 r' ∧ AR r m r' ∧ YR l r (4 * m) a.2 r' ∧ 0 ≤ z ∧ z < fi r' 11) (ad, l) r kk s e := by
      refine qw_Y_typeOf (d + 1) (K2 := fun z a r' => MO r a.2 r' ∧ AR r m r' ∧ YR l r (4 * m) a.2 r' ∧ 0 ≤ z ∧ z < fi r' 11) (fun z a r' _ h2 => h2) _ _ _ _ _ q ?_
      refine TYPm (d + 1) ad l r e _ (by rw [hm]; exact w) e1 e2 e3' e4' (fun z ad' l' r' g1 g2 g3 g4 g5 => ?_)
      rw [hm] at g2 g3
      exact ⟨g1, g2, g3, g4, g5⟩
    refine wq_Y_typeOf (d + 1) (K2 := fun z a r' => PSc r rh Γ A E m (d + 1) e z a.2 r') (fun z a r' h1 h2 => hK z a.1 a.2 r' h1.1 h1.2.1 h1.2.2.1 h1.2.2.2.1 h1.2.2.2.2 h2) _ _ _ _ _ q2 ?_
    obtain ⟨⟨n1, n2⟩, k1, k2, k3, k4, k5⟩ := w.1.2.2.2.2.2.2 e e1 e2
    have nd : ∀ x, 0 ≤ x → x < e → 1 ≤ (ar r 16 x.toNatClampNeg).toInt := fun x x1 x2 => by
      have := (w.1.2.2.2.2.2.2 x x1 (ltt x2 e2)).1.1
      rw [il] at this
      simpa using this
    have n1' : 1 ≤ m := by rw [il, hm] at n1; simp at n1; omega
    have kd := tx.2 e e1 e2
    have c2 := w.1.2.2.2.1
    rw [wY_typeOf]
    unfold wY_typeOf_B
    refine fun _ _ _ => ⟨fun g => ?_, fun g => ?_, fun g _ => ?_, fun g => ?_, fun g => ?_, fun g => ?_⟩
    · obtain ⟨⟨b1, b2⟩, b3⟩ := k1 g
      have b3' := b3 e4'
      have m1 := nd _ b1 b2
      obtain ⟨mb, hmb⟩ : ∃ mb : Nat, (ar r 16 (ar r 14 e.toNatClampNeg).toNatClampNeg).toInt = mb := ⟨(ar r 16 (ar r 14 e.toNatClampNeg).toNatClampNeg).toInt.toNat, by omega⟩
      have em : m = mb + 1 := by omega
      subst em
      exact TYc_lam ih (by have : (1 + (mb : Int)) = ((mb + 1 : Nat) : Int) := by omega
                           rw [this]; exact w) hI tx (by omega) e4 pr g hmb b1 (ltt b2 e2) (by omega) (fun z ad' l' r' ps _ => ps)
    · obtain ⟨⟨a1, a2⟩, ⟨b1, b2⟩, b3⟩ := k2 g
      have b3' := b3 e4'
      have m1 := nd _ a1 a2
      have m2 := nd _ b1 b2
      obtain ⟨ma, hma⟩ : ∃ ma : Nat, (ar r 16 (ar r 13 e.toNatClampNeg).toNatClampNeg).toInt = ma := ⟨(ar r 16 (ar r 13 e.toNatClampNeg).toNatClampNeg).toInt.toNat, by omega⟩
      obtain ⟨mb, hmb⟩ : ∃ mb : Nat, (ar r 16 (ar r 14 e.toNatClampNeg).toNatClampNeg).toInt = mb := ⟨(ar r 16 (ar r 14 e.toNatClampNeg).toNatClampNeg).toInt.toNat, by omega⟩
      have em : m = ma + mb + 1 := by omega
      subst em
      exact TYc_app ih (by have : (1 + (ma : Int) + mb) = ((ma + mb + 1 : Nat) : Int) := by omega
                           rw [this]; exact w) hI tx (by omega) (by omega) e4 pr g hma hmb a1 (ltt a2 e2) b1 (ltt b2 e2) (by omega) (by omega) (fun z ad' l' r' ps _ => ps)
    · obtain ⟨⟨a1, a2⟩, ⟨b1, b2⟩, b3⟩ := k3 g
      have b3' := b3 e4'
      have m1 := nd _ a1 a2
      have m2 := nd _ b1 b2
      obtain ⟨ma, hma⟩ : ∃ ma : Nat, (ar r 16 (ar r 14 e.toNatClampNeg).toNatClampNeg).toInt = ma := ⟨(ar r 16 (ar r 14 e.toNatClampNeg).toNatClampNeg).toInt.toNat, by omega⟩
      obtain ⟨mb, hmb⟩ : ∃ mb : Nat, (ar r 16 (ar r 15 e.toNatClampNeg).toNatClampNeg).toInt = mb := ⟨(ar r 16 (ar r 15 e.toNatClampNeg).toNatClampNeg).toInt.toNat, by omega⟩
      have em : m = ma + mb + 1 := by omega
      subst em
      exact TYc_let ih (by have : (1 + (ma : Int) + mb) = ((ma + mb + 1 : Nat) : Int) := by omega
                           rw [this]; exact w) hI tx (by omega) (by omega) e4 pr g hma hmb a1 (ltt a2 e2) b1 (ltt b2 e2) (by omega) (by omega) (fun z ad' l' r' ps _ => ps)
    · obtain ⟨⟨a1, a2⟩, ⟨b1, b2⟩, b3⟩ := k4 g
      have c8 : ar r 13 e.toNatClampNeg < 8 := zo3 a2 c2.2.1
      exact TYc_meth w hI n1' e4 pr g a1 c8 b1 b2 b3 (fun z ad' l' r' ps _ => ps)
    · obtain ⟨a1, a2⟩ := k5 g
      exact TYc_con w hI n1' e4 pr g a1 a2 (fun z ad' l' r' ps _ => ps)
    · have k0 : ar r 12 e.toNatClampNeg = 0 := by
        have u1 := kd.1
        have u2 := kd.2
        rw [il] at u1 u2
        simp at u1 u2
        apply Int32.toInt_inj.mp
        show (ar r 12 e.toNatClampNeg).toInt = 0
        omega
      exact TYc_name w hI n1' e4 pr k0 (fun z ad' l' r' ps _ => ps)
end ZTYPC
