/-! The class tells: all of it. -/
section ZTELLW
variable {ad l : Nat → Nat} {r : S_} {rh ta : Int32 → Int32} {N : Int32} {ρ : Int32 → Ut}
theorem VC_even {a : L_} (hI : GI a r rh ta N) (v : VC r ρ) (two : ∀ x : Int32, 0 ≤ x → x < fi r 11 → ar r 21 x.toNatClampNeg = -1 → (ρ x).length = 2) : ∀ (n : Nat) (x : Int32), 0 ≤ x → x < fi r 11 → (ρ x).length < n → (ρ x).length % 2 = 0 := by
  intro n
  induction n with
  | zero => intro x _ _ h; omega
  | succ n ih =>
    intro x x0 x1 h
    have b := hI.2.2.2.2.1.2 x x0 x1
    rw [VC_rh hI v x0 x1] at h ⊢
    obtain ⟨y, ey⟩ : ∃ y, y = rh x := ⟨_, rfl⟩
    rw [← ey] at h b ⊢
    by_cases q : ar r 21 y.toNatClampNeg = -1
    · rw [two y b.1 b.2.1 q]
    · have nk := hI.2.2.2.1 y b.1 b.2.1
      have hd : 0 ≤ ar r 21 y.toNatClampNeg := by have h1 := nk.1; have h2 := b.2.2.1; clear hI v two ih b nk; grind
      have j := (v.2 y b.1 b.2.1).2 hd
      rw [j, Jn_len] at h ⊢
      have ev : ∀ u : Int32, -1 ≤ u → u < fi r 11 → (ρ u).length < n → (ρ u).length % 2 = 0 := fun u u1 u2 u3 => by
        by_cases e : u = -1
        · rw [e, v.1]; rfl
        · exact ih u ((ge1 u1).mpr e) u2 u3
      have a1 := ev _ nk.2.2.1 nk.2.2.2.1 (by omega)
      have a2 := ev _ nk.2.2.2.2.1 nk.2.2.2.2.2.1 (by omega)
      omega
/-- what was told of the type fi r 7: r0 is behind the walk -/
def TOUT (r : S_) (rh ta : Int32 → Int32) (N : Int32) (ρ : Int32 → Ut) (a' : L_) (r' : S_) : Prop := ∃ r0, ORD r0 rh ∧ (fi r0 11 = fi r 11 ∧ ar r0 21 = ar r 21 ∧ ar r0 25 = ar r 25 ∧ FS (fi r 11) (ar r 21) (ar r 22) (ar r0 22) ∧ ar r0 23 = ar r 23) ∧ ((∀ x, Rq r rh (fi r 7) x ↔ ∃ k : Int32, 0 ≤ k ∧ k < fi r0 12 ∧ ar r0 30 k.toNatClampNeg = x) ∧ DLo r0 = dd [] (LVS (cG r) ρ (rh (fi r 7)))) ∧ (0 < fi r0 12 ∧ ar r0 30 (fi r0 12 - 1).toNatClampNeg = rh (fi r 7)) ∧ TLI r0 a' r' rh ta N (fun x => (ρ x).length / 2) (fi r0 12)
theorem ws_tellZ (hI : GI (A0 l) r rh ta N) (ay : AYc r) (hv : VB r) (hb : fi r 13 < 2000000000) (tl : TL l) (t0 : 0 ≤ fi r 7) (t1 : fi r 7 < fi r 11) (bk : BK r) (vρ : VC r ρ) (two : ∀ x : Int32, 0 ≤ x → x < fi r 11 → ar r 21 x.toNatClampNeg = -1 → (ρ x).length = 2) {K : L_ → S_ → Prop} (hK : ∀ a' r', TOUT r rh ta N ρ a' r' → K a' r') : wY_tell K (ad, l) r := by
  obtain ⟨rk, ac⟩ := VC_acy hI ay vρ
  unfold wY_tell
  refine ws_start ?_
  have w0 := PW_start (acy := True) (rk := rk) hI hv hb (fun _ => ac)
  have none0 : ∀ x : Int32, ¬ ar r 28 x.toNatClampNeg = fi r 13 + 1 := by
    intro x h2
    have h3 := hv.2 x.toNatClampNeg
    have h4 := hv.1
    rw [h2] at h3
    clear w0 hI ac hv ay bk vρ two tl hK
    grind
  refine ws_walkD (a := (ad, l)) (r := sF (sF r 13 (fi r 13 + 1)) 12 0) (S := Rq (sF (sF r 13 (fi r 13 + 1)) 12 0) rh (fi r 7)) (g := cG r) (ρ := ρ) w0 t0 t1 Rq_cl Rq_0 DO0_start (cG_GW hI ay) ((VC_val hI).mpr vρ) ⟨rfl, fun _ => rfl, fun _ => rfl, fun _ _ _ _ => rfl, fun x x0 x1 => rtc_eq hI x0 x1⟩ rfl (fun x h => none0 x h.2.2) (fun r0 w F q3 q4 qv d dx => ?_)
  have f11 : fi r0 11 = fi r 11 := F.1 11 (by decide) (by decide)
  have f13 : fi r0 13 = fi r 13 + 1 := F.1 13 (by decide) (by decide)
  have ae : ∀ k, ¬ k = 22 → ¬ k = 28 → ¬ k = 29 → ¬ k = 30 → ¬ k = 31 → ar r0 k = ar r k := fun k k1 k2 k3 k4 k5 => F.2.1 k k1 k2 k3 k4 k5
  have e21 : ar r0 21 = ar r 21 := ae 21 (by decide) (by decide) (by decide) (by decide) (by decide)
  have e23 : ar r0 23 = ar r 23 := ae 23 (by decide) (by decide) (by decide) (by decide) (by decide)
  have e25 : ar r0 25 = ar r 25 := ae 25 (by decide) (by decide) (by decide) (by decide) (by decide)
  have hfs : FS (fi r 11) (ar r 21) (ar r 22) (ar r0 22) := F.2.2.2.1
  have rq : ∀ {x y}, Rq r0 rh x y ↔ Rq r rh x y := fun {x y} => Rq_fs f11 e21 e23 hfs
  have od := PW_ORD w d
  have b := hI.2.2.2.2.1.2 (fi r 7) t0 t1
  have hin : ∀ x, vs r0 x ↔ Rq r rh (fi r 7) x := by
    intro x
    constructor
    · rintro ⟨h1, h2, h3⟩
      rw [f11] at h2
      rcases q4 x h1 h2 (by rw [f13] at h3; exact h3) with k | k
      · exact absurd (show ar r 28 x.toNatClampNeg = fi r 13 + 1 from k) (none0 x)
      · exact k
    · intro h2
      exact rq.mpr h2 (vs r0) (PW_cl w) ⟨b.1, by rw [f11]; exact b.2.1, q3⟩
  have ordx : ∀ x, Rq r rh (fi r 7) x ↔ ∃ k : Int32, 0 ≤ k ∧ k < fi r0 12 ∧ ar r0 30 k.toNatClampNeg = x := fun x => (hin x).symm.trans (PW_vs w)
  have dlo : DLo r0 = dd [] (LVS (cG r) ρ (rh (fi r 7))) := by
    obtain ⟨A, hA, sA'⟩ := dx
    have sub : ∀ u, u ∈ A.flatMap (LVS (cG r) ρ) → u ∈ DLo r0 := fun u hu => by
      obtain ⟨s, s1, s2⟩ := List.mem_flatMap.mp hu
      have rs : Rq r rh (fi r 7) s := sA' s s1
      have bs := Rq_in hI t0 t1 rs
      have ns : zRn (cG r) s := ⟨⟨bs.1.1, bs.1.2⟩, (rtc_eq hI bs.1.1 bs.1.2).trans bs.2.2⟩
      have k := (LVS_in (cG_GW hI ay) ((VC_val hI).mpr vρ) _ s ns (Nat.lt_succ_self _) u).mp s2
      have ru : Rq r rh (fi r 7) u := (cG_rc hI t0 t1).mp (fun S g1 g2 => k.2 S (by rw [ns.2]; exact ((cG_rc hI t0 t1).mpr rs) S g1 g2) g2)
      obtain ⟨kk, k0, k1, ke⟩ := (ordx u).mp ru
      have hv := ((cG_vr hI).mp k.1).2.2
      have n1 := i_nat k0
      have n2 := i_nat (le0 k0 k1)
      rw [it] at k1
      exact (VLo_mem _).mpr ⟨kk.toNatClampNeg, by omega, ke, by rw [e21]; exact hv⟩
    unfold FFd at hA
    rw [dd_sub _ _ sub, List.flatMap_cons, List.flatMap_nil, List.append_nil] at hA
    exact hA
  have hI0 : GI (ad, l) r0 rh ta N := w.1
  have oL := ordL w
  have c4 := hI.2.2.1
  have c5 := hI.1.2.2.2.2.2.2.2.2.2.2.2
  have o40 : (fi r0 12).toInt ≤ 4096 := by
    have := oL.2
    rw [f11] at this
    omega
  have ob : fi r0 12 < 20000 := by
    rw [it, show (20000 : Int32).toInt = 20000 from rfl]
    omega
  -- the whole stands last
  obtain ⟨kr, kr0, kr1, kre⟩ := (ordx (rh (fi r 7))).mp Rq_0
  have up : ∀ x, Rq r rh (fi r 7) x → ∃ j : Int32, 0 ≤ j ∧ j ≤ kr ∧ ar r0 30 j.toNatClampNeg = x := fun x hx => by
    refine rq.mpr hx (fun x => ∃ j : Int32, 0 ≤ j ∧ j ≤ kr ∧ ar r0 30 j.toNatClampNeg = x) ?_ ⟨kr, kr0, Int32.le_refl _, kre⟩
    rintro z z0 z1 nm ⟨j, j0, j1, je⟩
    have jl : j < fi r0 12 := by rw [il] at j1; rw [it] at kr1 ⊢; omega
    have s := od.2.2 j j0 jl
    rw [je] at s
    refine ⟨fun e => ?_, fun e => ?_⟩
    · obtain ⟨j', p1, p2, p3⟩ := s.2.1 e
      exact ⟨j', p1, by rw [il] at j1 ⊢; rw [it] at p2; omega, p3⟩
    · obtain ⟨j', p1, p2, p3⟩ := s.2.2 e
      exact ⟨j', p1, by rw [il] at j1 ⊢; rw [it] at p2; omega, p3⟩
  have o0 : 0 < fi r0 12 := by rw [il] at kr0; rw [it] at kr1 ⊢; simp at kr0 ⊢; omega
  have p1i : (fi r0 12 - 1).toInt = (fi r0 12).toInt - 1 := i_sub (by rw [it] at o0; simp at o0 ⊢; omega) (by simp; omega)
  have o0i : 0 < (fi r0 12).toInt := by rw [it] at o0; simpa using o0
  have p10 : 0 ≤ fi r0 12 - 1 := by rw [il, p1i]; simp; omega
  have p1l : fi r0 12 - 1 < fi r0 12 := by rw [it, p1i]; omega
  have lst : ar r0 30 (fi r0 12 - 1).toNatClampNeg = rh (fi r 7) := by
    obtain ⟨j, j0, j1, je⟩ := up _ ((ordx _).mpr ⟨fi r0 12 - 1, p10, p1l, rfl⟩)
    have e : kr = fi r0 12 - 1 := by
      apply Classical.byContradiction
      intro ne
      have l1 : kr < fi r0 12 - 1 := by rw [ie, p1i] at ne; rw [it] at kr1 ⊢; rw [p1i]; omega
      have l2 : j < fi r0 12 - 1 := by rw [il] at j1; rw [it] at l1 ⊢; omega
      exact od.2.1 j (fi r0 12 - 1) j0 l2 p1l je
    rw [← e]
    exact kre
  have hNd : ∀ k : Int32, 0 ≤ k → k < fi r0 12 → (ar r0 21 (ar r0 30 k.toNatClampNeg).toNatClampNeg = -1 → (ρ (ar r0 30 k.toNatClampNeg)).length / 2 = 1) ∧ (¬ ar r0 21 (ar r0 30 k.toNatClampNeg).toNatClampNeg = -1 → (ρ (ar r0 30 k.toNatClampNeg)).length / 2 = 1 + (if ar r0 22 (ar r0 30 k.toNatClampNeg).toNatClampNeg = -1 then 0 else (ρ (rh (ar r0 22 (ar r0 30 k.toNatClampNeg).toNatClampNeg))).length / 2) + (if ar r0 23 (ar r0 30 k.toNatClampNeg).toNatClampNeg = -1 then 0 else (ρ (rh (ar r0 23 (ar r0 30 k.toNatClampNeg).toNatClampNeg))).length / 2)) := fun k k0 k1 => by
    have s := od.2.2 k k0 k1
    rw [f11, e21] at s
    obtain ⟨x, ex⟩ : ∃ x, x = ar r0 30 k.toNatClampNeg := ⟨_, rfl⟩
    rw [← ex] at s ⊢
    have rx : Rq r rh (fi r 7) x := (ordx x).mpr ⟨k, k0, k1, ex.symm⟩
    have e22 : ar r0 22 x.toNatClampNeg = ar r 22 x.toNatClampNeg := hfs x s.1.1 s.1.2.1 s.1.2.2
    rw [e21, e22, e23]
    refine ⟨fun q => by rw [two x s.1.1 s.1.2.1 q], fun q => ?_⟩
    have nk := hI.2.2.2.1 x s.1.1 s.1.2.1
    have hd : 0 ≤ ar r 21 x.toNatClampNeg := by have := nk.1; have := s.1.2.2; clear w0 hI ac hv ay bk vρ two tl hK w od up s nk; grind
    have j := (vρ.2 x s.1.1 s.1.2.1).2 hd
    have ev : ∀ u : Int32, -1 ≤ u → u < fi r 11 → (ρ u).length % 2 = 0 ∧ (ρ u).length / 2 = if u = -1 then 0 else (ρ (rh u)).length / 2 := fun u u1 u2 => by
      by_cases e : u = -1
      · rw [if_pos e, e, vρ.1]
        exact ⟨rfl, rfl⟩
      · have u0 : 0 ≤ u := (ge1 u1).mpr e
        have e2 : ρ u = ρ (rh u) := VC_rh hI vρ u0 u2
        rw [if_neg e, e2]
        have bb := hI.2.2.2.2.1.2 u u0 u2
        exact ⟨VC_even hI vρ two _ _ bb.1 bb.2.1 (Nat.lt_succ_self _), rfl⟩
    have a1 := ev _ nk.2.2.1 nk.2.2.2.1
    have a2 := ev _ nk.2.2.2.2.1 nk.2.2.2.2.2.1
    rw [j, Jn_len, ← a1.2, ← a2.2]
    omega
  have hbk : ∀ k : Int32, 0 ≤ k → k < fi r0 12 → ∀ c, gb (ar r0 25 (ar r0 30 k.toNatClampNeg).toNatClampNeg) c = true → c < 8 := fun k k0 k1 c h => by
    have s := od.2.2 k k0 k1
    rw [f11] at s
    rw [e25] at h
    exact (bk _ s.1.1 s.1.2.1).2 c h
  have loop : ∀ (a : L_) (r3 : S_), GI a r3 rh ta N → (fi r3 12 = fi r0 12 ∧ fi r3 11 = fi r0 11) → (∀ k, 21 ≤ k → k ≤ 30 → ar r3 k = ar r0 k) → (fi r0 12).toInt ≤ ln a 32 → ln a 35 = ln a 32 → ln a 32 ≤ 8192 → GI a r0 rh ta N → wD_restart_J54 (fun a4 r3 => fx (ad, l) a4 → ∀ n25 : Nat, wY_tell_L35 (fun a r => K a r) n25 a4 r3 0) a r3 (fi r0 8) := fun a r3 g gf ga l1 l2 l3 g0 => by
    unfold wD_restart_J54
    intro ra ea rb eb rc ec rd ed _ n
    refine ws_tellL (Nd := fun x => (ρ x).length / 2) g0 od ob l1 l2 l3 hbk hNd (fun r' t => hK a r' ⟨r0, od, ⟨f11, e21, e25, hfs, e23⟩, ⟨ordx, dlo⟩, ⟨o0, lst⟩, t⟩) n rd 0 ?_ (Int32.le_refl _) od.1
    have er : rd = sF (sF (sF (sF r3 16 0) 17 0) 18 0) 19 (fi r0 8) := by rw [ed, ec, eb, ea]
    have z0 : ((0 : Int32)).toNatClampNeg = 0 := by decide
    rw [er]
    refine ⟨g, ⟨gf.1, gf.2, rfl⟩, ⟨ga 30 (by decide) (by decide), ga 21 (by decide) (by decide), ga 23 (by decide) (by decide), ga 25 (by decide) (by decide)⟩, fun x x0 x1 _ => ?_, fun j hj => by rw [z0] at hj; omega, ?_, fun j hj => by rw [z0] at hj; omega, ?_⟩
    · show ar r3 22 x.toNatClampNeg = _
      rw [ga 22 (by decide) (by decide)]
    · rw [z0]; rfl
    · rw [z0]; rfl
  unfold wD_restart
  refine ⟨fun q => loop _ r0 hI0 ⟨rfl, rfl⟩ (fun _ _ _ => rfl) ?_ tl.2.2.1 tl.2.2.2.2 hI0, fun q _ _ q12 a13 r14 e13 e14 _ _ q21 a22 r23 e22 e23' _ _ q30 a31 r32 e31 e32 _ _ q39 a40 r41 e40 e41 _ _ q48 a49 r50 e49 e50 => ?_⟩
  · rw [il] at q
    have q2 : (fi r0 12).toInt ≤ (Int32.ofNat (l 32)).toInt := q
    rw [(ofNs (n := l 32) (by have := tl.2.2.2.2; omega)).1] at q2
    exact q2
  · have tw : (2 * fi r0 12).toInt = 2 * (fi r0 12).toInt := i_dbl (by omega) (by omega)
    have tn : ((2 * fi r0 12).toNatClampNeg : Int) = 2 * (fi r0 12).toInt := by rw [i_nat (by rw [il, tw]; simp; omega), tw]
    have e49' : a49 = sAd (sAd (sAd (sAd (sAd (ad, l) 32 q12 (2 * fi r0 12).toNatClampNeg) 33 q21 (2 * fi r0 12).toNatClampNeg) 34 q30 (2 * fi r0 12).toNatClampNeg) 89 q39 (2 * fi r0 12).toNatClampNeg) 35 q48 (2 * fi r0 12).toNatClampNeg := by rw [e49, e40, e31, e22, e13]
    have l32 : ln a49 32 = (2 * fi r0 12).toNatClampNeg := by rw [e49']; rfl
    have l35 : ln a49 35 = (2 * fi r0 12).toNatClampNeg := by rw [e49']; rfl
    have er : r50 = sA (sL (sA (sA (sA r0 32 (fun _ => 0)) 33 (fun _ => 0)) 34 (fun _ => 0)) 0 (fun _ => 0)) 35 (fun _ => 0) := by rw [e50, e41, e32, e23', e14]
    have ga : GI a49 r0 rh ta N := by rw [e49']; exact hI0
    refine loop a49 r50 (by rw [er]; exact ga) (by rw [er]; exact ⟨rfl, rfl⟩) (fun k k1 k2 => ?_) (by rw [l32]; omega) (by rw [l35, l32]) (by rw [l32]; omega) ga
    rw [er, ar_sA, if_neg (by omega), ar_sL, ar_sA, if_neg (by omega), ar_sA, if_neg (by omega), ar_sA, if_neg (by omega)]
end ZTELLW
