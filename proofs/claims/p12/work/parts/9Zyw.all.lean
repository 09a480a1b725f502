/-! The reference: an expression is typed. -/
section TYALL
variable {r : S_} {l ad : Nat → Nat} {rI : S_}
theorem MI_zero {a : L_} (hM : ML a) (h21 : 1 ≤ fi r 21 ∧ fi r 21 ≤ 8) (h28 : fi r 28 = 0) : MI a r (fun x => x) (fun x => x) 0 ∧ CGr r (fun x => x) := by
  have no : ∀ x : Int32, 0 ≤ x → x < fi r 28 → False := fun x x0 x1 => by
    rw [h28, it] at x1
    rw [il] at x0
    simp at x0 x1
    omega
  refine ⟨⟨hM, h21, ⟨by rw [h28]; decide, by rw [h28]; decide⟩, fun x x0 x1 => (no x x0 x1).elim, ⟨by rw [h28]; decide, fun x x0 x1 => (no x x0 x1).elim⟩, ?_⟩, fun x x0 x1 => (no x x0 x1).elim⟩
  unfold nms
  rw [h28]
  rfl
/-- an expression is typed -/
def TD2 (ad l : Nat → Nat) (rI r : S_) : Prop := (∃ rh ta N, QI (ad, l) rI r rh ta N ∧ CGr r rh) ∧ fi r 32 = 0 ∧ ∃ R : List Int32, R.length ≤ 1510 ∧ Cld r (fun x => x ∈ R) ∧ ar r 55 ((0 : Int32)).toNatClampNeg ∈ R ∧ vt r (ar r 55 ((0 : Int32)).toNatClampNeg) ∧ (fi r 29).toInt ≤ 200
theorem typeAll_ok {r0 : S_} (hI : INV l rI) (F0 : Fr FFl AAl rI r0) (f28 : fi r0 28 = 0) (f29 : fi r0 29 = 0) (f31 : fi r0 31 = 0) (f27 : fi r0 27 = 0) (f32 : fi r0 32 = 0) (sp : SPD r0 r) {K : S_ → Prop} (hK : ∀ r', TD2 ad l rI r' → K r') (hB : ∀ r', Bad (ad, l) rI r' → K r') : qM_typeAll (ad, l) K r := by
  obtain ⟨F1, d, m, S, tr, nd, m24, st, pz⟩ := sp
  have hM : ML (ad, l) := hI.2.2.1
  have tt := hI.1.2.2.2.1.1.1
  unfold qM_typeAll
  refine ⟨vi (by decide) (by rw [ml (n := 64) hM (by decide) (by decide) rfl]; decide), fun r2 e2 => ?_⟩
  have F2 : Fr FFl AAl rI r2 := by
    rw [e2]
    exact Fr_trans F0 (Fr_trans (Fr_mono F1 (by decide) (by decide)) (Fr_sA (by decide)))
  have f2 : ∀ k, ¬ k = 26 → fi r2 k = fi r0 k := fun k hk => by
    rw [e2]
    exact F1.1 k (by simpa using hk)
  have a2 : ∀ k, ¬ k = 60 → ar r2 k = ar r k := fun k hk => by rw [e2, ar_sA, if_neg hk]
  have h28 : fi r2 28 = 0 := (f2 28 (by decide)).trans f28
  have h29 : fi r2 29 = 0 := (f2 29 (by decide)).trans f29
  have h31 : fi r2 31 = 0 := (f2 31 (by decide)).trans f31
  have h27 : fi r2 27 = 0 := (f2 27 (by decide)).trans f27
  have h32 : fi r2 32 = 0 := (f2 32 (by decide)).trans f32
  have h21 : 1 ≤ fi r2 21 ∧ fi r2 21 ≤ 8 := by
    rw [F2.1 21 (by decide), hI.2.1.1.1]
    exact ⟨tt.1, tt.2.1⟩
  obtain ⟨mi, cg⟩ := MI_zero (r := r2) hM h21 h28
  have no : ∀ x, ¬ vt r2 x := fun x hx => by
    have x1 := hx.2
    have x0 := hx.1
    rw [h28, it] at x1
    rw [il] at x0
    simp at x0 x1
    omega
  have n0 : ((0 : Int32)).toNatClampNeg = 0 := by decide
  have q : QI (ad, l) rI r2 (fun x => x) (fun x => x) 0 := ⟨F2, mi, by rw [h28]; decide, ⟨⟨by rw [h31]; decide, by rw [h31]; decide⟩, fun i hi => by rw [h31, n0] at hi; exact absurd hi (Nat.not_lt_zero _)⟩, ⟨⟨by rw [h27]; decide, by rw [h27]; decide⟩, fun i hi => by rw [h27, n0] at hi; exact absurd hi (Nat.not_lt_zero _)⟩, ⟨fun x hx => absurd hx (no x), by rw [h29]; decide, by rw [h29]; decide⟩, fun x hx => absurd hx (no x)⟩
  have tr2 : TrR r2 d 0 m S := TrR_eq (by rw [e2]; rfl) (fun k hk => a2 k (by omega)) d _ _ _ tr
  obtain ⟨m1, zS, nz⟩ := TrR_pos d _ _ _ tr2
  have qr := qt_rng m1 m24
  have p : PR (ad, l) rI r2 [] 0 16 m [] := by
    refine ⟨⟨_, _, _, q, cg⟩, h32, by rw [CH, a2 51 (by decide)]; exact pz, trivial, fun x _ _ hx => absurd hx List.not_mem_nil, fun x hx => absurd hx List.not_mem_nil, fun x ⟨y, y1, _⟩ => absurd y1 List.not_mem_nil, ?_, Nat.le_refl _, m1, m24, ?_, ?_, ?_, ?_⟩
    · simp only [List.length_nil]
      omega
    · rw [h28]; simp; omega
    · rw [h31]; simp; omega
    · rw [h27]; simp; omega
    · rw [h29]; simp; omega
  have z29 : (fi r2 29).toInt = 0 := by rw [h29]; rfl
  refine ⟨0 + 3 * m + 1, typ (KX := fun r => K r) hI hB d r2 0 m S [] 16 [] 1 0 tr2 nd p (fun x hx => by rw [a2 59 (by decide)]; exact st x hx) (fun x ⟨y, u, y1, _⟩ => absurd y1 List.not_mem_nil) ⟨by decide, ?_⟩ ?_ (fun r' po _ F hF => ?_) _ (Nat.le_refl _)⟩
  · show (1 : Int) + m ≤ 40
    omega
  · rw [e2, ar_sA, if_pos rfl]
    exact pk_us
  · obtain ⟨F, rfl⟩ : ∃ m, F = m + 1 := ⟨F - 1, by omega⟩
    rw [qM_typeAll_L9]
    refine ⟨fun _ => hK r' ?_, fun z => absurd (by decide) z⟩
    obtain ⟨R, rn, ts, ty⟩ := po.ts
    have k := ts.2.2.2 (fun _ => False) (fun x hx => hx.elim) (fun x _ _ hx => hx.elim) (fun x ⟨y, y1, _⟩ => absurd y1 List.not_mem_nil)
    have t := ty (fun _ => False) (fun x hx => hx.elim) (fun x _ _ hx => hx.elim) (fun x ⟨y, y1, _⟩ => absurd y1 List.not_mem_nil)
    have b29 := po.b29
    refine ⟨po.qi, po.f32, R, by omega, Cld_congr (fun x => ⟨fun z => z.elim False.elim id, Or.inr⟩) k.1, t.elim False.elim id, po.tv, by omega⟩
end TYALL
