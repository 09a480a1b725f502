/-! A written type, in the class: what it means. -/
section ZZSTAT
theorem EXT_20 {cs : Int32} {r r' : S_} {g : Nat → Int32} {rh rh' : Int32 → Int32} {l' : Nat → Nat} (h : EXT cs (sA r 20 g) rh l' r' rh') : EXT cs r rh l' r' rh' := by
  obtain ⟨a1, a2, a3, a4, a5, a6, a7⟩ := h
  refine ⟨a1, a2, a3, a4, fun x x0 x1 k k0 k1 => ?_, a6, Fr_trans (Fr_sA (by decide)) a7⟩
  have q := a5 x x0 x1 k k0 k1
  rw [ar_sA, if_neg (by omega)] at q
  exact q
theorem ofN8 {v : Nat} (h : v < 8) : 0 ≤ Int32.ofNat v ∧ Int32.ofNat v < 8 ∧ (Int32.ofNat v).toNatClampNeg = v := by
  have : v = 0 ∨ v = 1 ∨ v = 2 ∨ v = 3 ∨ v = 4 ∨ v = 5 ∨ v = 6 ∨ v = 7 := by omega
  rcases this with e | e | e | e | e | e | e | e <;> subst e <;> decide
theorem ws_freshCopy {ad l : Nat → Nat} {r : S_} {rh ta : Int32 → Int32} {N t : Int32} {K : Int32 → L_ → S_ → Prop} (l20 : l 20 = 8) (hI : GI (A0 l) r rh ta N) (hp : PL l) (hv : VB r) (ay : AYc r) (w : TYz r) (t0 : 0 ≤ t) (t1 : t < fi r 1) (rm : (fi r 11).toInt + (ar r 4 t.toNatClampNeg).toInt ≤ 4096) (hK : ∀ z ad' l' r' rh', EXT (fi r 11) r rh l' r' rh' → (fi r' 11).toInt ≤ (fi r 11).toInt + (ar r 4 t.toNatClampNeg).toInt → (fi r 11 ≤ z ∧ z < fi r' 11 ∧ rh' z = z) → (cin r 0 t → fi r 11 ≤ ar r' 20 0 ∧ ar r' 20 0 < fi r' 11 ∧ ar r' 21 (ar r' 20 0).toNatClampNeg = -1) → (∀ ρ, cV r' ρ → cV r ρ) → (∀ m : Prop, (m → cin r 0 t) → zStat (cev r) t m (ar r' 20 0) (fi r 11) (cV r) z (fi r' 11) (cV r')) → K z (ad', l') r') : wY_freshCopy K (ad, l) r t := by
  unfold wY_freshCopy
  have c0 := hI.2.1
  have tn : ¬ t = -1 := fun e => by rw [e] at t0; exact absurd t0 (by decide)
  refine ws_fill l20 (fun g hg => ?_)
  have g8 : ∀ v, v < 8 → g v = -1 := fun v hv => by
    have q := ofN8 hv
    have := hg _ q.1 q.2.1
    rw [q.2.2] at this
    exact this
  refine ws_writeOut (cs := fi r 11) c0 18 ad l (sA r 20 g) rh ta N t _ hI hp hv ay (TYz_eq w rfl (fun k hk => by rw [ar_sA, if_neg (by omega)])) (fun v hv => Or.inl (g8 v hv)) (Int32.le_refl _) t0 t1 rm (fun z ad' l' r' rh' h => ?_)
  intro _
  obtain ⟨x, n, p, q, s, u, v1, v2⟩ := h
  have sz : szP (sA r 20 g) t = ar r 4 t.toNatClampNeg := by
    unfold szP
    rw [if_neg tn, ar_sA, if_neg (by decide)]
  have n' : (fi r' 11).toInt ≤ (fi r 11).toInt + (szP (sA r 20 g) t).toInt := n
  rw [sz] at n'
  have x15 : fi r' 15 = fi r 15 := x.2.2.2.1.2
  have pz : fi r 11 ≤ z ∧ z < fi r' 11 ∧ rh' z = z := p.elim (fun k => absurd k.1 tn) (fun k => k.2)
  have f0 : cin r 0 t → fi r 11 ≤ ar r' 20 0 ∧ ar r' 20 0 < fi r' 11 ∧ ar r' 21 (ar r' 20 0).toNatClampNeg = -1 := fun hc => by
    have k := u 0 hc
    exact (s 0 (by decide)).resolve_left k.2
  refine hK z ad' l' r' rh' (EXT_20 x) n' pz f0 (fun ρ h => ⟨by rw [← x15]; exact h.1, (v1 ρ h.2).1⟩) (fun m hm => ⟨fun h => ?_, fun ρ h => ?_, fun ρ θ h => ?_⟩)
  · have k := f0 (hm h)
    exact ⟨zo2 c0 k.1, k.2.1⟩
  · exact ⟨fun v => ρ (ar r' 20 v), (v1 ρ h.2).2, fun _ => rfl⟩
  · obtain ⟨ρ', k1, k2, k3, k4⟩ := v2 ρ θ h.2 (fun v hv hn => absurd (g8 v hv) hn)
    exact ⟨ρ', ⟨by rw [x15]; exact h.1, k1⟩, k2, k3, fun hh => k4 0 (by decide) (u 0 (hm hh)).2⟩
end ZZSTAT
