/-! Class and reference agree: what infer answers. -/
section ZSIZE
variable {ad l l' : Nat → Nat} {r rI rk r' : S_} {a : L_} {e z z2 : Int32}
def SZc (rk : S_) (z : Int32) (r' : S_) : Prop := ∃ (a a' : L_) (rh ta : Int32 → Int32) (N : Int32) (ρ : Int32 → Ut), GI a rk rh ta N ∧ AYc rk ∧ VC rk ρ ∧ (∀ x : Int32, 0 ≤ x → x < fi rk 11 → ar rk 21 x.toNatClampNeg = -1 → (ρ x).length = 2) ∧ z.toInt = capM ((ρ (fi rk 7)).length / 2) ∧ TOUT rk rh ta N ρ a' r'
theorem cap_nodes {v : Int64} {n : Nat} (h : v.toInt = cap40 n) : ((if 1000000000 < v then 1000000000 else v : Int64).toInt32).toInt = capM n := by
  have b := cap40_b (n := n)
  have big : (1000000000 : Int64).toInt = 1000000000 := rfl
  have e : (if 1000000000 < v then 1000000000 else v : Int64).toInt = capM n := by
    rw [apply_ite Int64.toInt]
    simp only [l_lt, big, h]
    unfold cap40 capM
    split <;> split <;> (try split) <;> omega
  have c := capM_b (n := n)
  rw [Int64.toInt_toInt32, e, Int.bmod_eq_of_le (by omega) (by omega)]
/-- what a failing infer leaves told -/
def KTo (r r' : S_) : Prop := fi r' 17 = fi r 17 ∧ fi r' 18 = fi r 18 ∧ ar r' 35 = ar r 35
theorem KTo_of {m : Nat} (h : RNF r m r') : KTo r r' := ⟨h.1 17 (by decide) (by decide), h.1 18 (by decide) (by decide), h.2.2.2⟩
/-- what the class's infer comes to, sizes too -/
def COZ (r : S_) (e z : Int32) (r' : S_) : Prop := (z = -2 ∧ NOT (clr r) e ∧ KTo r r') ∨ (∃ m l' rk, (z = -4 ∨ z = -5) ∧ FIN (clr r) m e z l' rk ∧ KTo r r') ∨ ∃ m l' rk, FIN (clr r) m e 0 l' rk ∧ SZc rk z r'
theorem ws_cinferZ (w : CR l r) (tz : TYz r) (tx : TBX r) (a0 : ar r 0 ((0 : Int32)).toNatClampNeg = 2) (h13 : (fi r 13).toInt ≤ 1800000000) (h6 : 0 ≤ (fi r 6).toInt ∧ (fi r 6).toInt ≤ 1800000000) {K : Int32 → L_ → S_ → Prop} (h1 : ¬ (0 ≤ e ∧ e < fi r 4) → K (-1) (ad, l) r) (h3 : 0 ≤ e → e < fi r 4 → ¬ ar r 16 e.toNatClampNeg ≤ 24 → K (-3) (ad, l) r) (hK : 0 ≤ e → e < fi r 4 → ar r 16 e.toNatClampNeg ≤ 24 → ∀ z a' r', COZ r e z r' → K z a' r') : wI_infer K (ad, l) r e := by
  unfold wI_infer wE_has wE_nodesOf
  have bad : ¬ (0 ≤ e ∧ e < fi r 4) → ∀ z1 : Int32, z1 = 0 → zb z1 → (¬ z1 = 0 → vp_in e (ln (ad, l) 16) → ((ar r 16 e.toNatClampNeg ≤ 24) → wY_run (fun z5 a7 r6 => fx (ad, l) a7 → ((z5 = 0) → wY_tell (fun a14 r13 => fx a7 a14 → wD_nodes a14 r13 (fun z19 => K z19 a14 r13)) a7 r6) ∧ ((¬ z5 = 0) → K z5 a7 r6)) (ad, l) r e) ∧ ((¬ ar r 16 e.toNatClampNeg ≤ 24) → K (-3) (ad, l) r)) ∧ ((z1 = 0) → K (-1) (ad, l) r) := fun q z1 e1 _ => ⟨fun z => absurd e1 z, fun _ => h1 q⟩
  refine ⟨fun z _ => bad (fun q => absurd z (Int32.not_lt.mpr q.1)) 0 rfl, fun z => ⟨fun z2 _ => bad (fun q => absurd z2 (Int32.not_le.mpr q.2)) 0 rfl, fun z2 _ _ => ⟨fun _ _ => ⟨fun sz => ?_, fun sz => h3 (Int32.not_lt.mp z) (Int32.not_le.mp z2) sz⟩, fun q => absurd q (by decide)⟩⟩⟩
  have e1 := Int32.not_lt.mp z
  have e2 := Int32.not_le.mp z2
  have s1 := (w.2.2.2.1.2.2.2.2 e e1 e2).1.1
  have sz' := sz
  rw [il] at s1 sz
  simp at s1 sz
  have hm : (ar r 16 e.toNatClampNeg).toInt = (((ar r 16 e.toNatClampNeg).toInt.toNat : Nat) : Int) := by omega
  refine ws_crun w tz tx a0 h13 h6 hm (by omega) e1 e2 (fun n a' r' rn _ => ⟨fun q => absurd q (by decide), fun _ => hK e1 e2 sz' (-2) a' r' (Or.inl ⟨rfl, n, KTo_of rn⟩)⟩) (fun z ad' l' r' r2 rn f _ => ⟨fun q => ?_, fun q => hK e1 e2 sz' z (ad', l') r' (Or.inr (Or.inl ⟨_, l', r', ?_, f, KTo_of rn⟩))⟩)
  · subst q
    have f' := f
    obtain ⟨rh, ta, N, t, W, k, am, p, p0, W', k', am', ty, ⟨ρ1, v1⟩, zl, hz, g, ⟨sg, ay⟩, tb, e7, e8, op, bk, w0, _⟩ := f
    obtain ⟨ρ, zρ, aρ⟩ := VC_free g ay v1.2 (fun _ => Atm 0)
    have vρ := (VC_val g).mp zρ
    have two : ∀ x : Int32, 0 ≤ x → x < fi r' 11 → ar r' 21 x.toNatClampNeg = -1 → (ρ x).length = 2 := fun x x0 x1 q => by
      rw [aρ x ((cG_vr g).mpr ⟨x0, x1, q⟩)]
      rfl
    have tl : TL l' := by
      have t0 := w.2.2.2.2.1.1.1
      have f := r2.1.2
      unfold TL at t0 ⊢
      rw [f.1, f.2.1, f.2.2.1, f.2.2.2.1, f.2.2.2.2]
      exact t0
    subst e7
    refine ws_tellZ (ad := ad') g ay sg.2.2 r2.2 tl tb.1 tb.2 bk vρ two (fun a2 r3 to _ => ?_)
    have to' := to
    obtain ⟨r0, od, _, _, ⟨o0, ls⟩, ti⟩ := to
    have f16 : fi r3 16 = fi r0 12 := ti.2.1.2.2
    have o0i : 0 < (fi r0 12).toInt := by rw [it] at o0; simpa using o0
    have p1i : (fi r0 12 - 1).toInt = (fi r0 12).toInt - 1 := i_sub (by simp; omega) (by have mx : (fi r0 12).toInt ≤ 2147483647 := Int32.toInt_le _; simp; omega)
    have n1 : ((fi r0 12 - 1).toNatClampNeg : Int) = (fi r0 12).toInt - 1 := by rw [i_nat (by rw [il, p1i]; simp; omega), p1i]
    have n2 := i_nat od.1
    have sz1 := (ti.2.2.2.2.1 (fi r0 12 - 1).toNatClampNeg (by omega)).2
    rw [ls] at sz1
    have er : ρ (rh (fi r' 7)) = ρ (fi r' 7) := (VC_rh g vρ tb.1 tb.2).symm
    unfold wD_nodes
    rw [f16]
    refine ⟨fun _ _ => hK e1 e2 sz' _ a2 r3 (Or.inr (Or.inr ⟨_, l', r', f', _, a2, rh, ta, N, ρ, g, ay, vρ, two, ?_, to'⟩)), fun q => absurd q (fun q => by rw [q] at o0; exact absurd o0 (by decide))⟩
    rw [cap_nodes sz1]
    show capM ((ρ (rh (fi r' 7))).length / 2) = _
    rw [er]
  · obtain ⟨_, _, _, _, _, _, _, _, _, _, _, _, _, _, _, hz, _⟩ := f
    rcases hz with hz | hz | hz
    · exact Or.inl hz.1
    · exact Or.inr hz.1
    · exact absurd hz.1 q
theorem ag_size {m : Nat} {rk2 : S_} (tbI : TBI rI) (ct : ctb (clr r) = ctb rI) (f : FIN (clr r) m e 0 l' rk) (sz : SZc rk z r') (f2 : FINr a rI e 0 rk2) (hr : ∀ ρ, VM rk2 ρ → (∀ x, zRc (mG rk2) (ar rk2 55 ((0 : Int32)).toNatClampNeg) x → ¬ 0 ≤ ar rk2 65 x.toNatClampNeg → (ρ x).length = 2) → z2.toInt = capM ((ρ (ar rk2 55 ((0 : Int32)).toNatClampNeg)).length / 2)) : z = z2 := by
  obtain ⟨rh, ta, N, t, W, k, am, p, p0, W', k', am', ty, ⟨ρ1, v1⟩, zl, hz, g, ⟨sg, ay⟩, tb, e7, e8, op, bk, w0, e0⟩ := f
  obtain ⟨d, c, V, rh2, tx2, N2, t', W2, k2, am2, p2, l2, ty2, ne2, ⟨qF, mi, cg⟩, ⟨vt2, e55⟩, wv, fd, hz2, e35, n8⟩ := f2
  obtain ⟨b1, b1', rh', tx', N', ρ, g', _, vρ, two, ez, _⟩ := sz
  obtain ⟨f1, f2⟩ := tab_f tbI
  rw [ct] at ty
  rw [e7] at ez
  rw [e55] at hr
  rcases ag_res f1 f2 ty ty2 clr_l1 l2 with h | ⟨_, L', _, lb, ht, sm, wr, ha, pe⟩
  · exact absurd v1 (h.1 ρ1)
  · have cv : cV rk = zVal (cG rk) := funext (fun ρ => propext ⟨fun h => (VC_val g).mpr h.2, fun h => ⟨v1.1, (VC_val g).mp h⟩⟩)
    have vm : VM rk2 = zVal (mG rk2) := funext (fun ρ => propext (VM_val mi cg).symm)
    obtain ⟨σ, vσ, ag⟩ := sm.1 ρ ⟨v1.1, vρ⟩
    have q1 : ca1 rk = ma1 rk2 := by
      have h1 : ca1 rk = ca1 (clr r) := funext (fun k => by unfold ca1; rw [e0])
      have h2 : ca1 (clr r) = ca1 rI := congrArg ta1 ct
      rw [h1, h2]
      exact funext (fun k => by unfold ca1 ma1; rw [qF.2.1 36 (by decide), tbI.1.2.2.2.2.2.1])
    have q2 : ca2 rk = ma2 rk2 := by
      have h1 : ca2 rk = ca2 (clr r) := funext (fun k => by unfold ca2; rw [e0])
      have h2 : ca2 (clr r) = ca2 rI := congrArg ta2 ct
      rw [h1, h2]
      exact funext (fun k => by unfold ca2 ma2; rw [qF.2.1 36 (by decide), tbI.1.2.2.2.2.2.1])
    have gwc : zGW (ma1 rk2) (ma2 rk2) (cG rk) := by rw [← q1, ← q2]; exact cG_GW g ay
    rw [cv, vm] at sm
    have vσ' : zVal (mG rk2) σ := (VM_val mi cg).mpr vσ
    have vρ' : zVal (cG rk) ρ := (VC_val g).mpr vρ
    have fin : z2.toInt = capM ((σ t').length / 2) := by
      refine hr σ vσ (fun u hu nh => ?_)
      have rn := zRc_r (mG_GW mi) vt2 hu
      obtain ⟨v, hv, hv2, hv3⟩ := zRc_V (mG_GW mi) gwc (zSM_fl sm) (zfree (mG_GW mi) mi.2.2.1.1 vσ') (VC_free g ay vρ) (x := t') (y := t) vt2 tb (zRel_fl (zRel_L ht)) (v := u) ⟨rn, nh⟩ hu
      have k := (cG_vr g).mp hv
      rw [hv3 σ ρ vσ' vρ' (fun y x hl => (ag x y hl).symm)]
      exact two v k.1 k.2.1 k.2.2
    rw [ie, ez, fin, ag t t' ht]
theorem ag_inf {r'' : S_} (coz : COZ r e z rI) (ct : ctb (clr r) = ctb rI) (tbI : TBI rI) (an : ANr a rI e z2 r'') : z = z2 := by
  obtain ⟨_, an⟩ := an
  rcases coz with ⟨hz, n, _⟩ | ⟨m, l', rk, hz, f, _⟩ | ⟨m, l', rk, f, sz⟩
  · rcases an with ⟨h1, _⟩ | ⟨rk2, _, h2, _⟩ | ⟨rk2, h2, _⟩
    · rw [hz, h1]
    · exact (ag_nf tbI ct n h2).elim
    · exact (ag_nf tbI ct n h2).elim
  · rcases an with ⟨_, h2, _⟩ | ⟨rk2, _, h2, _⟩ | ⟨rk2, h2, _⟩
    · exact (ag_fn tbI ct f h2).elim
    · exact (ag_ff tbI ct f h2).1
    · have q := ag_ff tbI ct f h2
      rw [q.1] at hz
      exact absurd hz (by decide)
  · rcases an with ⟨_, h2, _⟩ | ⟨rk2, h1, h2, _⟩ | ⟨rk2, h2, _, h3⟩
    · exact (ag_fn tbI ct f h2).elim
    · have q := ag_ff tbI ct f h2
      rw [← q.1] at h1
      exact absurd h1 (by decide)
    · exact ag_size tbI ct f sz h2 h3
end ZSIZE
