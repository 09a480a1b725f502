/-! Class and reference agree: what was passed. -/
section ZAGP
variable {r rI r' : S_} {l l' : Nat → Nat} {a : L_} {e z z2 : Int32}
theorem clr_l1 : 0 ≤ fi (clr r) 11 ∧ zLoc (fi (clr r) 11) (cV (clr r)) ∧ ∃ ρ, cV (clr r) ρ := by
  have no : ∀ x : Int32, 0 ≤ x → x < fi (clr r) 11 → False := fun x x0 x1 => nl0 x0 x1
  exact ⟨Int32.le_refl _, fun ρ ρ' h v => ⟨v.1, (h (-1) (show (-1 : Int32) < 0 by decide)).symm.trans v.2.1, fun x x0 x1 => (no x x0 x1).elim⟩, fun _ => [], rfl, rfl, fun x x0 x1 => (no x x0 x1).elim⟩
theorem tab_f (tbI : TBI rI) : (∀ c k c1, t1 (ctb rI) c k c1 → ta1 (ctb rI) k) ∧ ∀ c k c1, t2 (ctb rI) c k c1 → ta2 (ctb rI) k := ⟨fun c k c1 h => (tbI.1.2.1.2.1 c k c1 h).2, fun c k c1 h => (tbI.1.2.1.2.2.1 c k c1 h).2⟩
theorem ag_ff {m : Nat} {rk rk2 : S_} (tbI : TBI rI) (ct : ctb (clr r) = ctb rI) (f : FIN (clr r) m e z l' rk) (f2 : FINr a rI e z2 rk2) : z = z2 ∧ fi rk 8 = fi rk2 35 := by
  obtain ⟨rh, ta, N, t, W, k, am, p, p0, W', k', am', ty, ne, zl, hz, g, sg, tb, e7, e8, op, bk, w0, _⟩ := f
  obtain ⟨d, c, V, rh2, ta2, N2, t', W2, k2, am2, p2, l2, ty2, ne2, ⟨qF, mi, cg⟩, vt2, wv, fd, hz2, e35, n8⟩ := f2
  obtain ⟨f1, f2⟩ := tab_f tbI
  rw [ct] at ty zl
  obtain ⟨ρ2, v2⟩ := ne2
  obtain ⟨q2, zl2⟩ := fin_let (t := t') tbI qF mi cg v2 n8 k2 am2
  rcases ag_res f1 f2 ty ty2 clr_l1 l2 with h | ⟨_, L', _, lb, ht, sm, wr, ha, pe⟩
  · obtain ⟨ρ, v⟩ := ne
    exact absurd v (h.1 ρ)
  · obtain ⟨s1, s2, _⟩ := ag_set f1 f2 ⟨L', lb, ht, sm, wr, ha⟩ ne zl zl2 w0 (fun _ _ h => h)
    refine ⟨?_, by rw [e8, e35, pe]⟩
    rw [← s1, ← s2] at hz2
    rcases hz with ⟨h1, h2⟩ | ⟨h1, h2, h3⟩ | ⟨h1, h2, h3⟩ <;> rcases hz2 with ⟨q1, q2⟩ | ⟨q1, q2, q3⟩ | ⟨q1, q2, q3⟩ <;> first | exact h1.trans q1.symm | exact absurd h2 q2 | exact absurd q2 h2 | exact absurd h3 q3 | exact absurd q3 h3
theorem ag_fn {m : Nat} {rk : S_} (tbI : TBI rI) (ct : ctb (clr r) = ctb rI) (f : FIN (clr r) m e z l' rk) (f2 : NOTr rI e) : False := by
  obtain ⟨rh, ta, N, t, W, k, am, p, p0, W', k', am', ty, ⟨ρ, v⟩, _⟩ := f
  obtain ⟨d, c, V, t', c', V', W2, k2, am2, p2, l2, ty2, no⟩ := f2
  obtain ⟨f1, f2⟩ := tab_f tbI
  rw [ct] at ty
  rcases ag_res f1 f2 ty ty2 clr_l1 l2 with h | ⟨_, L', _, _, _, sm, _⟩
  · exact h.1 ρ v
  · obtain ⟨σ, v2, _⟩ := sm.1 ρ v
    exact no σ v2
theorem ag_nf {rk2 : S_} (tbI : TBI rI) (ct : ctb (clr r) = ctb rI) (f : NOT (clr r) e) (f2 : FINr a rI e z2 rk2) : False := by
  obtain ⟨t, c', V', W, k, am, p, ty, no⟩ := f
  obtain ⟨d, c, V, rh2, ta2, N2, t', W2, k2, am2, p2, l2, ty2, ⟨σ, v⟩, _⟩ := f2
  obtain ⟨f1, f2⟩ := tab_f tbI
  rw [ct] at ty
  rcases ag_res f1 f2 ty ty2 clr_l1 l2 with h | ⟨⟨ρ, h⟩, _⟩
  · exact h.2 σ v
  · exact no ρ h
/-- what the class's infer comes to -/
def COU (r : S_) (e z : Int32) (r' : S_) : Prop := (fi r' 19 = fi r 19 ∧ ((z = -2 ∧ NOT (clr r) e) ∨ ∃ m l' rk, (z = -4 ∨ z = -5) ∧ FIN (clr r) m e z l' rk)) ∨ ∃ m l' rk, FIN (clr r) m e 0 l' rk ∧ fi r' 19 = fi rk 8
theorem ag_pass (cou : COU r e z rI) (ct : ctb (clr r) = ctb rI) (tbI : TBI rI) (e19 : fi r 19 = fi rI 39) (an : ANr a rI e z2 r') : fi r' 19 = fi r' 39 ∧ ((z2 = -2 → z = -2) ∧ (z2 = -4 → z = -4) ∧ (z2 = -5 → z = -5) ∨ ∃ m l' rk, FIN (clr r) m e 0 l' rk) := by
  obtain ⟨k20, an⟩ := an
  rw [k20 19 (by decide)]
  rcases cou with ⟨c19, cou⟩ | ⟨m, l', rk, f, c19⟩
  · rcases cou with ⟨hz, n⟩ | ⟨m, l', rk, hz, f⟩
    · rcases an with ⟨h1, h2, h3⟩ | ⟨rk2, _, h2, _⟩ | ⟨rk2, h2, _⟩
      · refine ⟨by rw [c19, h3.1, e19], Or.inl ⟨fun _ => hz, fun q => ?_, fun q => ?_⟩⟩ <;> rw [h1] at q <;> exact absurd q (by decide)
      · exact (ag_nf tbI ct n h2).elim
      · exact (ag_nf tbI ct n h2).elim
    · rcases an with ⟨h1, h2, h3⟩ | ⟨rk2, h1, h2, h3⟩ | ⟨rk2, h2, _⟩
      · exact (ag_fn tbI ct f h2).elim
      · have q := ag_ff tbI ct f h2
        refine ⟨by rw [c19, h3.1, e19], Or.inl ⟨fun z => ?_, fun z => ?_, fun z => ?_⟩⟩ <;> rw [q.1] <;> exact z
      · have q := ag_ff tbI ct f h2
        rw [q.1] at hz
        exact absurd hz (by decide)
  · refine ⟨?_, Or.inr ⟨m, l', rk, f⟩⟩
    rcases an with ⟨h1, h2, h3⟩ | ⟨rk2, h1, h2, h3⟩ | ⟨rk2, h2, h3, _⟩
    · exact (ag_fn tbI ct f h2).elim
    · have q := ag_ff tbI ct f h2
      rw [← q.1] at h1
      exact absurd h1 (by decide)
    · rw [c19, h3.1]
      exact (ag_ff tbI ct f h2).2
end ZAGP
