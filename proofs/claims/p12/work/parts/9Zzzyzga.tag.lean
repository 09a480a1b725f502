/-! Class and reference agree: what is wanted, one after another. -/
section ZTAG
variable {ad l l' : Nat → Nat} {r rI r1 r3 rk r' r'' : S_} {a : L_} {e z z2 : Int32}
/-- what is told of wants agrees -/
def TAG (r : S_) : Prop := TL2 r (WF (fun i c => gb (ar r 35 i) c) 0 (fi r 17).toNatClampNeg) ∧ fi r 18 = fi r 38
theorem TAG_keep (h : TAG r) (fm : Fm r r1) (kt : KTo r r1) (f : ∀ k, k < 20 → fi r3 k = fi r1 k) (km : KMk r1 r3) : TAG r3 := by
  have e17 : fi r3 17 = fi r 17 := (f 17 (by decide)).trans kt.1
  have e18 : fi r3 18 = fi r 18 := (f 18 (by decide)).trans kt.2.1
  have e35 : ar r3 35 = ar r 35 := km.2.2.2.2.trans kt.2.2
  have e38 : fi r3 38 = fi r 38 := km.2.1.trans (fm.1 38 (by decide))
  have e81 : ar r3 81 = ar r 81 := km.2.2.1.trans (fm.2 81 (by decide))
  have e82 : ar r3 82 = ar r 82 := km.2.2.2.1.trans (fm.2 82 (by decide))
  unfold TAG TL2 at h ⊢
  rw [e17, e18, e35, e38, e81, e82]
  exact h
theorem sbv_len {r0 : S_} {f : Nat → Int32} : ∀ n, (∀ j, j < n → isv r0 j = true → f (cnt (isv r0) j) = ar r0 25 (ar r0 30 j).toNatClampNeg) → (WF (fun i c => gb (f i) c) 0 (cnt (isv r0) n)).length = sbv r0 n := by
  intro n
  induction n with
  | zero => intro _; rfl
  | succ n ih =>
    intro h
    rw [cnt, sbv]
    by_cases q : isv r0 n = true
    · rw [if_pos q, if_pos q, WF_snoc, List.length_append, ih (fun j hj => h j (by omega)), Nat.zero_add, blk_8, h n (by omega) q]
    · rw [if_neg q, if_neg q]
      exact ih (fun j hj => h j (by omega))
theorem ag_lists {m : Nat} {rk2 : S_} (tbI : TBI rI) (ct : ctb (clr r) = ctb rI) (f : FIN (clr r) m e 0 l' rk) (sz : SZc rk z rI) (f2 : FINr a rI e 0 rk2) (mw : MWn rI rk2 r'' (ar rk2 55 ((0 : Int32)).toNatClampNeg)) (e35 : ar rk2 35 = ar rI 35) (k20 : ∀ k, k < 20 → fi r'' k = fi rI k) : TAG r'' := by
  obtain ⟨rh, ta, N, t, W, k, am, p, p0, W', k', am', ty, ⟨ρ1, v1⟩, zl, hz, g, ⟨sg, ay⟩, tb, e7, e8, op, bk, w0, e0⟩ := f
  obtain ⟨d, c, V, rh2, tx2, N2, t', W2, k2, am2, p2, l2, ty2, ne2, ⟨qF, mi, cg⟩, ⟨vt2, e55⟩, wv, ⟨⟨f40, X, dj⟩, cv2⟩, hz2, e35', n8⟩ := f2
  obtain ⟨b1, b1', rh', tx', N', ρ', g', _, vρ', two, ez, r0, od, ⟨f11, e21, e25, hfs, e23⟩, ⟨ordx, dlo⟩, _, ti⟩ := sz
  obtain ⟨_, _, _, _, _, h17, h35, h18⟩ := ti
  obtain ⟨f1, f2⟩ := tab_f tbI
  rw [ct] at ty zl
  rw [e7] at dlo ordx
  rw [e55] at mw
  obtain ⟨ρ2, v2⟩ := ne2
  obtain ⟨q2, zl2⟩ := fin_let (t := t') tbI qF mi cg v2 n8 k2 am2
  rcases ag_res f1 f2 ty ty2 clr_l1 l2 with h | ⟨_, L', _, lb, ht, sm, wr, ha, pe⟩
  · exact absurd v1 (h.1 ρ1)
  have KK := ag_setK f1 f2 lb ht sm wr ha zl zl2
  have cv : cV rk = zVal (cG rk) := funext (fun ρ => propext ⟨fun h => (VC_val g).mpr h.2, fun h => ⟨v1.1, (VC_val g).mp h⟩⟩)
  have vm : VM rk2 = zVal (mG rk2) := funext (fun ρ => propext (VM_val mi cg).symm)
  rw [cv, vm] at KK sm
  have q1 : ca1 rk = ma1 rk2 := by
    have h1 : ca1 rk = ca1 (clr r) := funext (fun k => by unfold ca1; rw [e0])
    have h2 : ca1 (clr r) = ca1 rI := congrArg ta1 ct
    rw [h1, h2]
    exact funext (fun k => by unfold ca1 ma1; rw [qF.2.1 36 (by decide), tbI.1.2.2.2.2.2.1])
  have q2' : ca2 rk = ma2 rk2 := by
    have h1 : ca2 rk = ca2 (clr r) := funext (fun k => by unfold ca2; rw [e0])
    have h2 : ca2 (clr r) = ca2 rI := congrArg ta2 ct
    rw [h1, h2]
    exact funext (fun k => by unfold ca2 ma2; rw [qF.2.1 36 (by decide), tbI.1.2.2.2.2.2.1])
  have gwc : zGW (ma1 rk2) (ma2 rk2) (cG rk) := by rw [← q1, ← q2']; exact cG_GW g ay
  have gwm := mG_GW mi
  obtain ⟨ρ, zρ, aρ⟩ := VC_free g ay v1.2 (fun v => Atm v)
  obtain ⟨σ, zσ, ag⟩ := sm.1 ρ zρ
  have frc := VC_free g ay v1.2
  have frm := zfree gwm mi.2.2.1.1 zσ
  -- roots
  have xc : gR (cG rk) t = rh' t := rtc_eq g' tb.1 tb.2
  have nxc : zRn (cG rk) (gR (cG rk) t) := gwc.1 t tb
  have nxm : zRn (mG rk2) (gR (mG rk2) t') := gwm.1 t' vt2
  have rcc : ∀ x, zRc (cG rk) (gR (cG rk) t) x ↔ zRc (cG rk) t x := fun x => by unfold zRc; rw [nxc.2]
  have rcm : ∀ x, zRc (mG rk2) (gR (mG rk2) t') x ↔ zRc (mG rk2) t' x := fun x => by unfold zRc; rw [nxm.2]
  have eqt : ρ (gR (cG rk) t) = σ (gR (mG rk2) t') := by
    rw [← (zρ.2 t tb).1, ← (zσ.2 t' vt2).1]
    exact ag t t' ht
  have back : ∀ u, zVR (mG rk2) u → zRc (mG rk2) t' u → ∃ v, zVR (cG rk) v ∧ zRel (zVal (cG rk)) (zVal (mG rk2)) L' v u ∧ σ u = Atm v := fun u hu hc => by
    obtain ⟨v, hv, hv2, hv3⟩ := zRc_V gwm gwc (zSM_fl sm) frm frc (x := t') (y := t) vt2 tb (zRel_fl (zRel_L ht)) (v := u) hu hc
    have rel : zRel (zVal (cG rk)) (zVal (mG rk2)) L' v u := fun ρ σ h1 h2 h3 => (hv3 σ ρ h2 h1 (fun y x hl => (h3 x y hl).symm)).symm
    exact ⟨v, hv, rel, by rw [← rel ρ σ zρ zσ ag, aρ v hv]⟩
  have inj2 : ∀ u u', zVR (mG rk2) u → zRc (mG rk2) t' u → zVR (mG rk2) u' → zRc (mG rk2) t' u' → σ u = σ u' → u = u' := fun u u' h1 h2 h3 h4 he => by
    obtain ⟨v, _, v2, v3⟩ := back u h1 h2
    obtain ⟨v', _, w2, w3⟩ := back u' h3 h4
    rw [v3, w3] at he
    have := Atm_inj he
    subst this
    exact zE2 sm frm h1 h3 v2 w2
  -- the two orders
  obtain ⟨D, eD⟩ : ∃ D, D = dd [] (LVS (cG rk) ρ (gR (cG rk) t)) := ⟨_, rfl⟩
  obtain ⟨D2, eD2⟩ : ∃ D, D = dd [] (LVS (mG rk2) σ (gR (mG rk2) t')) := ⟨_, rfl⟩
  have mD : ∀ x, x ∈ D ↔ zVR (cG rk) x ∧ zRc (cG rk) t x := fun x => by
    rw [eD, dd_mem, LVS_in gwc zρ _ _ nxc (Nat.lt_succ_self _), rcc]
    exact ⟨fun h => h.resolve_left List.not_mem_nil, Or.inr⟩
  have mD2 : ∀ x, x ∈ D2 ↔ zVR (mG rk2) x ∧ zRc (mG rk2) t' x := fun x => by
    rw [eD2, dd_mem, LVS_in gwm zσ _ _ nxm (Nat.lt_succ_self _), rcm]
    exact ⟨fun h => h.resolve_left List.not_mem_nil, Or.inr⟩
  have maps : D.map ρ = D2.map σ := by
    rw [eD, eD2, dd_map ρ _ _ (fun x y hx hy he => ?_), dd_map σ _ _ (fun x y hx hy he => ?_)]
    · rw [LVS_ag gwc gwm zρ zσ _ _ _ nxc nxm (Nat.lt_succ_self _) eqt (fun u hu _ => ⟨u, aρ u hu⟩) (fun u hu hc => by
        obtain ⟨v, _, _, v3⟩ := back u hu ((rcm u).mp hc)
        exact ⟨v, v3⟩)]
      rfl
    · have hx' := (LVS_in gwm zσ _ _ nxm (Nat.lt_succ_self _) x).mp (hx.resolve_left List.not_mem_nil)
      have hy' := (LVS_in gwm zσ _ _ nxm (Nat.lt_succ_self _) y).mp (hy.resolve_left List.not_mem_nil)
      exact inj2 x y hx'.1 ((rcm x).mp hx'.2) hy'.1 ((rcm y).mp hy'.2) he
    · have hx' := (LVS_in gwc zρ _ _ nxc (Nat.lt_succ_self _) x).mp (hx.resolve_left List.not_mem_nil)
      have hy' := (LVS_in gwc zρ _ _ nxc (Nat.lt_succ_self _) y).mp (hy.resolve_left List.not_mem_nil)
      rw [aρ x hx'.1, aρ y hy'.1] at he
      exact Atm_inj he
  have len : D.length = D2.length := by
    have := congrArg List.length maps
    rw [List.length_map, List.length_map] at this
    exact this
  have dl : DLo r0 = D := by
    rw [dlo, eD, ← xc, LVS_irr gwc ((VC_val g').mpr vρ') zρ nxc]
  have va := VLo_at (h := ar r0 21) (ord := ar r0 30) (f := ar rI 35) (F := fun x => ar r0 25 x.toNatClampNeg) (fi r0 12).toNatClampNeg (fun j hj hv => h35 j hj (decide_eq_true hv))
  have dn : D.length = cnt (isv r0) (fi r0 12).toNatClampNeg := by
    rw [← dl]
    exact va.1
  have o12 := i_nat od.1
  have cl := cnt_le (isv r0) (fi r0 12).toNatClampNeg
  have mx : (fi r0 12).toInt ≤ 2147483647 := Int32.toInt_le _
  have oD := ofNs (n := D.length) (by omega)
  have e17 : (fi rI 17).toNatClampNeg = D.length := by rw [h17, ← dn]; exact oD.2.2
  have f35 : ∀ (i : Nat) (x : Int32), D[i]? = some x → ar rI 35 i = ar rk 25 x.toNatClampNeg := fun i x hx => by
    rw [← dl] at hx
    have := va.2 i x hx
    rw [e25] at this
    exact this
  -- one variable's classes
  have bits : ∀ j y cl, D2[j]? = some y → ((fun i c => gb (ar rI 35 i) c) j cl = true ↔ zLow (kU rI) (FB rk2 y) cl) := fun j y cl hy => by
    show gb (ar rI 35 j) cl = true ↔ _
    have hm := congrArg (fun l => l[j]?) maps
    simp only [List.getElem?_map, hy] at hm
    obtain ⟨x, hx, exy⟩ : ∃ x, D[j]? = some x ∧ ρ x = σ y := by
      cases hd : D[j]? with
      | none => rw [hd] at hm; simp at hm
      | some x => rw [hd] at hm; exact ⟨x, rfl, by simpa using hm⟩
    rw [f35 j x hx]
    have ix := (mD x).mp (List.mem_of_getElem? hx)
    have iy := (mD2 y).mp (List.mem_of_getElem? hy)
    have kx : LEK rk rh t x cl ↔ gb (ar rk 25 x.toNatClampNeg) cl = true := by
      unfold LEK
      have rq := (cG_rc g tb.1 tb.2).mp ix.2
      have vx := (cG_vr g).mp ix.1
      exact ⟨fun h => h.2, fun h => ⟨⟨rq, vx.2.2, op x rq vx.2.2⟩, h⟩⟩
    have nb : ¬ zBd (mG rk2) (zLams []) y := fun ⟨_, ⟨_, h, _⟩, _⟩ => absurd h List.not_mem_nil
    have nd : mNd rk2 W2 y = FB rk2 y := funext (fun cc => propext ⟨fun h => by
      obtain ⟨i, i1, i2⟩ := cv2 y cc iy.1 h
      exact ⟨i, i1, i2, ((X i i1).2.2 cc).mpr (by rw [i2]; exact h)⟩, fun ⟨i, i1, i2, i3⟩ => by
      rw [← i2]
      exact ((X i i1).2.2 cc).mp i3⟩)
    rw [← kx, ← nd]
    constructor
    · intro h
      obtain ⟨u, u1, u2⟩ := KK.1 x cl h
      have su : ρ x = σ u := u1 ρ σ zρ zσ ag
      have : u = y := inj2 u y u2.1.1 u2.1.2.2 iy.1 iy.2 (su.symm.trans exy)
      rw [this] at u2
      exact u2.2
    · intro h
      obtain ⟨v, u1, u2⟩ := KK.2 y cl ⟨⟨iy.1, nb, iy.2⟩, h⟩
      have sv : ρ v = σ y := u1 ρ σ zρ zσ ag
      have hv : zVR (cG rk) v := by
        have bv := Rq_in g tb.1 tb.2 u2.1.1
        exact (cG_vr g).mpr ⟨bv.1.1, bv.1.2, u2.1.2.1⟩
      have : v = x := by
        have e := sv.trans exy.symm
        rw [aρ v hv, aρ x ix.1] at e
        exact Atm_inj e
      rw [this] at u2
      exact u2
  have tl := mw.2 σ D2 _ zσ eD2 bits
  have x35 : ar r'' 35 = ar rI 35 := mw.1.trans e35
  have x17 : fi r'' 17 = fi rI 17 := k20 17 (by decide)
  have x18 : fi r'' 18 = fi rI 18 := k20 18 (by decide)
  unfold TAG
  rw [x35, x17, x18, e17, len]
  refine ⟨tl, ?_⟩
  rw [tl.1, ← len, dn, sbv_len (fi r0 12).toNatClampNeg (fun j hj hv => h35 j hj hv)]
  exact h18
theorem ag_tag (coz : COZ r e z rI) (ct : ctb (clr r) = ctb rI) (tbI : TBI rI) (an : ANr a rI e z2 r'') (hT : TAG r) (fm : Fm r rI) : TAG r'' := by
  obtain ⟨k20, an⟩ := an
  rcases coz with ⟨hz, n, kt⟩ | ⟨m, l', rk, hz, f, kt⟩ | ⟨m, l', rk, f, sz⟩
  · rcases an with ⟨h1, _, km⟩ | ⟨rk2, _, h2, _⟩ | ⟨rk2, h2, _⟩
    · exact TAG_keep hT fm kt k20 km
    · exact (ag_nf tbI ct n h2).elim
    · exact (ag_nf tbI ct n h2).elim
  · rcases an with ⟨_, h2, _⟩ | ⟨rk2, _, h2, km⟩ | ⟨rk2, h2, _⟩
    · exact (ag_fn tbI ct f h2).elim
    · exact TAG_keep hT fm kt k20 km
    · have q := ag_ff tbI ct f h2
      rw [q.1] at hz
      exact absurd hz (by decide)
  · rcases an with ⟨_, h2, _⟩ | ⟨rk2, h1, h2, _⟩ | ⟨rk2, h2, ⟨_, mw, e35⟩, _⟩
    · exact (ag_fn tbI ct f h2).elim
    · have q := ag_ff tbI ct f h2
      rw [← q.1] at h1
      exact absurd h1 (by decide)
    · exact ag_lists tbI ct f sz h2 mw e35 k20
end ZTAG
