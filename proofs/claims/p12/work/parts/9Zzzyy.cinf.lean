/-! The class's infer: what it answers. -/
section ZCINF
variable {ad l : Nat → Nat} {r r' : S_}
def clr (r : S_) : S_ := sF (sF (sF (sF (sF (sF r 11 0) 15 0) 5 0) 8 0) 9 0) 10 0
theorem clr_Fr : Fr [5, 8, 9, 10, 11, 15] [] r (clr r) := Fr_trans (Fr_sF (by decide)) (Fr_trans (Fr_sF (by decide)) (Fr_trans (Fr_sF (by decide)) (Fr_trans (Fr_sF (by decide)) (Fr_trans (Fr_sF (by decide)) (Fr_sF (by decide))))))
theorem ws_tell19 {K : L_ → S_ → Prop} (hK : ∀ a' r', fi r' 19 = fi r 8 → K a' r') {a0 : L_} : wY_tell K a0 r := by
  unfold wY_tell
  refine ws_start ?_
  refine wf8_G_walk (cf := fi r 8) rfl (fun r2 h2 => ?_)
  have fin : ∀ (a : L_) (r3 : S_), wD_restart_J54 (fun a4 r3 => fx a0 a4 → ∀ n25 : Nat, wY_tell_L35 (fun a r => K a r) n25 a4 r3 0) a r3 (fi r2 8) := fun a r3 => by
    unfold wD_restart_J54
    intro ra ea rb eb rc ec rd ed _ n
    refine wf19_Y_tell_L35 (cf := fi r 8) (fun a' r' h => hK a' r' h) n a rd 0 ?_
    rw [ed, fi_sF, if_pos rfl, h2]
  unfold wD_restart
  exact ⟨fun _ => fin _ _, fun _ _ _ q12 a13 r14 _ e14 _ _ q21 a22 r23 _ e23 _ _ q30 a31 r32 _ e32 _ _ q39 a40 r41 _ e41 _ _ q48 a49 r50 _ e50 => fin _ _⟩
theorem ws_tell6 {K : L_ → S_ → Prop} (hK : ∀ a' r', fi r' 6 = fi r 6 → K a' r') {a0 : L_} : wY_tell K a0 r := by
  unfold wY_tell
  refine ws_start ?_
  refine wf6_G_walk (cf := fi r 6) rfl (fun r2 h2 => ?_)
  have fin : ∀ (a : L_) (r3 : S_), fi r3 6 = fi r 6 → wD_restart_J54 (fun a4 r3 => fx a0 a4 → ∀ n25 : Nat, wY_tell_L35 (fun a r => K a r) n25 a4 r3 0) a r3 (fi r2 8) := fun a r3 h3 => by
    unfold wD_restart_J54
    intro ra ea rb eb rc ec rd ed _ n
    refine wf6_Y_tell_L35 (cf := fi r 6) (fun a' r' h => hK a' r' h) n a rd 0 ?_
    rw [ed, ec, eb, ea]
    exact h3
  unfold wD_restart
  refine ⟨fun _ => fin _ _ h2, fun _ _ _ q12 a13 r14 _ e14 _ _ q21 a22 r23 _ e23 _ _ q30 a31 r32 _ e32 _ _ q39 a40 r41 _ e41 _ _ q48 a49 r50 _ e50 => fin _ _ ?_⟩
  rw [e50, e41, e32, e23, e14]
  exact h2
/-- the class's infer: what it answers -/
def CAN (r : S_) (m : Nat) (e z : Int32) (r' : S_) : Prop := (z = -2 ∧ NOT (clr r) e ∧ fi r' 19 = fi r 19) ∨ (∃ l' rk, (z = -4 ∨ z = -5) ∧ FIN (clr r) m e z l' rk ∧ fi r' 19 = fi r 19) ∨ ∃ l' rk, FIN (clr r) m e 0 l' rk ∧ fi r' 19 = fi rk 8
theorem clr_TP {e : Int32} {m : Nat} (w : CR l r) (tz : TYz r) (a0 : ar r 0 ((0 : Int32)).toNatClampNeg = 2) (m24 : m ≤ 24) (h13 : (fi r 13).toInt ≤ 1800000000) (h6 : 0 ≤ (fi r 6).toInt ∧ (fi r 6).toInt ≤ 1800000000) : TP0 l (clr r) m ∧ GI (A0 l) (clr r) id id 0 := by
  obtain ⟨hL, hp, hv, hS, hTD, h17, h18, h19⟩ := w
  have F : Fr [5, 8, 9, 10, 11, 15] [] r (clr r) := clr_Fr
  have g := GI_0 (l := l) (r := clr r) hL rfl
  have tb : Tb r (clr r) := Tb_Fr F (by decide) (by decide)
  have z13 : fi (clr r) 13 = fi r 13 := F.1 13 (by decide)
  have z6 : fi (clr r) 6 = fi r 6 := F.1 6 (by decide)
  refine ⟨⟨⟨⟨⟨id, id, 0, g⟩, hp, ?_⟩, ?_, ST_Tb hS tb (FL_refl l)⟩, fun x x0 x1 => (nl0 x0 (show x < 0 from x1)).elim, TYz_eq tz (F.1 1 (by decide)) (fun k _ => F.2.1 k List.not_mem_nil), by rw [F.2.1 0 List.not_mem_nil]; exact a0, by rw [z13]; omega, by show ((0 : Int32)).toInt + (m : Int) ≤ 24; simp; omega, by rw [z6]; exact h6.1, by rw [z6]; omega⟩, g⟩
  · unfold VB
    rw [z13, F.2.1 28 List.not_mem_nil]
    exact hv
  · show 0 ≤ (0 : Int32) ∧ (0 : Int32) ≤ 24 ∧ l 17 = 24 ∧ l 18 = 24 ∧ l 19 = 24 ∧ ∀ i, 0 ≤ i → i < (0 : Int32) → _
    exact ⟨by decide, by decide, h17, h18, h19, fun i i1 i2 => (nl0 i1 i2).elim⟩
theorem ws_crun {e : Int32} {m : Nat} (w : CR l r) (tz : TYz r) (tx : TBX r) (a0 : ar r 0 ((0 : Int32)).toNatClampNeg = 2) (h13 : (fi r 13).toInt ≤ 1800000000) (h6 : 0 ≤ (fi r 6).toInt ∧ (fi r 6).toInt ≤ 1800000000) (hm : (ar r 16 e.toNatClampNeg).toInt = m) (m24 : m ≤ 24) (e1 : 0 ≤ e) (e2 : e < fi r 4) {K : Int32 → L_ → S_ → Prop} (hK2 : NOT (clr r) e → ∀ a' r', RNF r m r' → K (-2) a' r') (hK : ∀ z ad' l' r', RN2 l l' r' → RNF r m r' → FIN (clr r) m e z l' r' → K z (ad', l') r') : wY_run K (ad, l) r e := by
  obtain ⟨tp, g⟩ := clr_TP (e := e) (m := m) w tz a0 m24 h13 h6
  have F : Fr [5, 8, 9, 10, 11, 15] [] r (clr r) := clr_Fr
  have tb : Tb r (clr r) := Tb_Fr F (by decide) (by decide)
  unfold wY_run wG_clear
  intro ra ea _ rb eb rc ec rd ed _ re ee _ rf ef
  have e6 : rf = clr r := by rw [ef, ee, ed, ec, eb, ea]; rfl
  subst e6
  have rn : ∀ r', RNF (clr r) m r' → RNF r m r' := fun r' h => ⟨fun k k1 k2 => (h.1 k k1 k2).trans (F.1 k (k1619 k1 k2 (by decide))), h.2.1, by have := h.2.2.1; rw [F.1 6 (by decide)] at this; exact this, h.2.2.2.trans (F.2.1 35 (by decide))⟩
  exact ws_runT (ad := ad) (l := l) (m := m) (by rw [F.2.1 16 List.not_mem_nil]; exact hm) tp g (TBX_Tb tx tb) e1 (by rw [F.1 4 (by decide)]; exact e2) m24 rfl rfl rfl rfl rfl rfl (fun n ad' l' r' h => hK2 n (ad', l') r' (rn r' h)) (fun z ad' l' r' h2 h f => hK z ad' l' r' h2 (rn r' h) f)
theorem ws_cinfer {e : Int32} (w : CR l r) (tz : TYz r) (tx : TBX r) (a0 : ar r 0 ((0 : Int32)).toNatClampNeg = 2) (h13 : (fi r 13).toInt ≤ 1800000000) (h6 : 0 ≤ (fi r 6).toInt ∧ (fi r 6).toInt ≤ 1800000000) {K : Int32 → L_ → S_ → Prop} (h1 : ¬ (0 ≤ e ∧ e < fi r 4) → K (-1) (ad, l) r) (h3 : 0 ≤ e → e < fi r 4 → ¬ ar r 16 e.toNatClampNeg ≤ 24 → K (-3) (ad, l) r) (hK : 0 ≤ e → e < fi r 4 → ar r 16 e.toNatClampNeg ≤ 24 → ∀ (m : Nat) z z' a' r', (ar r 16 e.toNatClampNeg).toInt = m → ¬ z' = 0 → CAN r m e z' r' → z = z' → K z a' r') (hT : 0 ≤ e → e < fi r 4 → ar r 16 e.toNatClampNeg ≤ 24 → ∀ (m : Nat) z a' r' l' rk, (ar r 16 e.toNatClampNeg).toInt = m → FIN (clr r) m e 0 l' rk → fi r' 19 = fi rk 8 → K z a' r') : wI_infer K (ad, l) r e := by
  unfold wI_infer wE_has wE_nodesOf
  have bad : ¬ (0 ≤ e ∧ e < fi r 4) → ∀ z1 : Int32, z1 = 0 → zb z1 → (¬ z1 = 0 → vp_in e (ln (ad, l) 16) → ((ar r 16 e.toNatClampNeg ≤ 24) → wY_run (fun z5 a7 r6 => fx (ad, l) a7 → ((z5 = 0) → wY_tell (fun a14 r13 => fx a7 a14 → wD_nodes a14 r13 (fun z19 => K z19 a14 r13)) a7 r6) ∧ ((¬ z5 = 0) → K z5 a7 r6)) (ad, l) r e) ∧ ((¬ ar r 16 e.toNatClampNeg ≤ 24) → K (-3) (ad, l) r)) ∧ ((z1 = 0) → K (-1) (ad, l) r) := fun q z1 e1 _ => ⟨fun z => absurd e1 z, fun _ => h1 q⟩
  refine ⟨fun z _ => bad (fun q => absurd z (Int32.not_lt.mpr q.1)) 0 rfl, fun z => ⟨fun z2 _ => bad (fun q => absurd z2 (Int32.not_le.mpr q.2)) 0 rfl, fun z2 _ _ => ⟨fun _ _ => ⟨fun sz => ?_, fun sz => h3 (Int32.not_lt.mp z) (Int32.not_le.mp z2) sz⟩, fun q => absurd q (by decide)⟩⟩⟩
  have e1 := Int32.not_lt.mp z
  have e2 := Int32.not_le.mp z2
  have s1 := (w.2.2.2.1.2.2.2.2 e e1 e2).1.1
  rw [il] at s1 sz
  simp at s1 sz
  have hm : (ar r 16 e.toNatClampNeg).toInt = (((ar r 16 e.toNatClampNeg).toInt.toNat : Nat) : Int) := by omega
  have sz' : ar r 16 e.toNatClampNeg ≤ 24 := by rw [il]; simpa using sz
  refine ws_crun w tz tx a0 h13 h6 hm (by omega) e1 e2 (fun n a' r' rn _ => ⟨fun q => absurd q (by decide), fun _ => hK e1 e2 sz' _ (-2) (-2) a' r' hm (by decide) (Or.inl ⟨rfl, n, rn.1 19 (by decide) (by decide)⟩) rfl⟩) (fun z ad' l' r' _ rn f _ => ⟨fun q => ?_, fun q => hK e1 e2 sz' _ z z (ad', l') r' hm q (Or.inr (Or.inl ⟨l', r', ?_, f, rn.1 19 (by decide) (by decide)⟩)) rfl⟩)
  · subst q
    refine ws_tell19 (fun a2 r2 h2 _ => ?_)
    unfold wD_nodes
    exact ⟨fun _ _ => hT e1 e2 sz' _ _ a2 r2 l' r' hm f h2, fun _ => hT e1 e2 sz' _ _ a2 r2 l' r' hm f h2⟩
  · obtain ⟨_, _, _, _, _, _, _, _, _, _, _, _, _, _, _, hz, _⟩ := f
    rcases hz with hz | hz | hz
    · exact Or.inl hz.1
    · exact Or.inr hz.1
    · exact absurd hz.1 q
theorem ws_cinfer6 {e : Int32} (w : CR l r) (tz : TYz r) (tx : TBX r) (a0 : ar r 0 ((0 : Int32)).toNatClampNeg = 2) (h13 : (fi r 13).toInt ≤ 1800000000) (h6 : 0 ≤ (fi r 6).toInt ∧ (fi r 6).toInt ≤ 1800000000) {K : Int32 → L_ → S_ → Prop} (hK : ∀ z a' r', 0 ≤ (fi r' 6).toInt → (fi r' 6).toInt ≤ (fi r 6).toInt + 25 → K z a' r') : wI_infer K (ad, l) r e := by
  unfold wI_infer wE_has wE_nodesOf
  have st := hK (-1) (ad, l) r h6.1 (by omega)
  refine ⟨fun z _ _ => ⟨fun q => absurd rfl q, fun _ => st⟩, fun z => ⟨fun z2 _ _ => ⟨fun q => absurd rfl q, fun _ => st⟩, fun z2 _ _ => ⟨fun _ _ => ⟨fun sz => ?_, fun sz => hK (-3) (ad, l) r h6.1 (by omega)⟩, fun q => absurd q (by decide)⟩⟩⟩
  have e1 := Int32.not_lt.mp z
  have e2 := Int32.not_le.mp z2
  have s1 := (w.2.2.2.1.2.2.2.2 e e1 e2).1.1
  rw [il] at s1 sz
  simp at s1 sz
  have hm : (ar r 16 e.toNatClampNeg).toInt = (((ar r 16 e.toNatClampNeg).toInt.toNat : Nat) : Int) := by omega
  have fin : ∀ z a' r', RNF r (ar r 16 e.toNatClampNeg).toInt.toNat r' → K z a' r' := fun z a' r' rn => hK z a' r' rn.2.1 (by have := rn.2.2.1; omega)
  refine ws_crun w tz tx a0 h13 h6 hm (by omega) e1 e2 (fun n a' r' rn _ => ⟨fun q => absurd q (by decide), fun _ => fin _ a' r' rn⟩) (fun z ad' l' r' _ rn f _ => ⟨fun q => ?_, fun q => fin z (ad', l') r' rn⟩)
  refine ws_tell6 (fun a2 r2 h2 _ => ?_)
  have rn2 := rn.2
  have k : ∀ z, K z a2 r2 := fun z => hK z a2 r2 (by rw [h2]; exact rn2.1) (by rw [h2]; omega)
  unfold wD_nodes
  exact ⟨fun _ _ => k _, fun _ => k _⟩
end ZCINF
