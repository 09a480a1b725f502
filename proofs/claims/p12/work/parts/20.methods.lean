section MTH
variable {p : Program} {l : Launch} {e : Env} {s : State} {m : MethodId} {args : Array Value} {below : List Frame} {meth : Method} {c : Code} {Q : State → Prop} {A : Nat → Prop} {D : va_G} {G : G_} {ws0 : va_W}
def qM_markStatic_J23 (a : L_) (KB2 : S_ → Int32 → Int32 → Prop) (KX30 : S_ → Int32 → Prop) (r : S_) (v1 : Int32) (v2 : Int32) (u0 : Int32) (u1 : Int32) : Prop :=
  vp_in u1 (ln a 88) ∧ ∀ r4 : S_, r4 = sA r 88 (upd (ar r 88) u1.toNatClampNeg (vp_nar .boolean u0)) → KB2 r4 v1 (v2 + 1)
set_option maxRecDepth 100000 in
set_option maxHeartbeats 4000000 in
theorem tM_markStatic_J23 (C : vx_C p s m args c prog_9_method_10_code 3 (Cond.code yM_markStatic prog_9_method_10_code 3 none :: wAll) "ClassInferenceModel" D vwCl (tysG G) nwAll A) {a : L_} {KB2 : S_ → Int32 → Int32 → Prop} {KX30 : S_ → Int32 → Prop} (kB2 : ∀ (r : S_) (v1 : Int32) (v2 : Int32), KB2 r v1 v2 → vx_V p l e { frames := 0, cells := 0, slots := 0, locals := 0 } s m args below meth c A D vwCl 3 0 0 Q (wo G a r) 2 [(0, .ref (ob G 7)), (1, .int v1), (2, .int v2)] []) (kX30 : ∀ (r : S_) (v1 : Int32), KX30 r v1 → vx_V p l e { frames := 0, cells := 0, slots := 0, locals := 0 } s m args below meth c A D vwCl 3 0 0 Q (wo G a r) 30 [(0, .ref (ob G 7)), (1, .int v1)] []) (r : S_) (v1 : Int32) (v2 : Int32) (u0 : Int32) (u1 : Int32) (h : qM_markStatic_J23 a KB2 KX30 r v1 v2 u0 u1) : vx_V p l e { frames := 0, cells := 0, slots := 0, locals := 0 } s m args below meth c A D vwCl 3 0 0 Q (wo G a r) 23 [(0, .ref (ob G 7)), (1, .int v1), (2, .int v2)] [.int u0, .int u1, .ref (ad a 88)] := by
  unfold qM_markStatic_J23 at h
  obtain ⟨g3, h⟩ := h
  refine y_zs C 88 (by decide) g3 dM_markStatic_23 (fun r4 er4 => ?_)
  have h := h r4 er4
  refine x_iinc (j := 2) (v := v2 + 1) C [(2, .int (v2 + 1)), (0, .ref (ob G 7)), (1, .int v1)] dM_markStatic_24 rfl rfl (by decide) rfl ?_
  refine x_goto (tgt := 2) C dM_markStatic_27 (by decide) ?_
  refine x_sub [1, 2, 0] rfl ?_
  exact kB2 r4 v1 (v2 + 1) h
def qM_markStatic_L2 (a : L_) (KX30 : S_ → Int32 → Prop) : Nat → S_ → Int32 → Int32 → Prop
  | 0, _, _, _ => False
  | n + 1, r, v1, v2 => ((60 ≤ v2) → KX30 r v1) ∧ ((¬ 60 ≤ v2) → ((¬ v2 = v1) → qM_markStatic_J23 a (qM_markStatic_L2 a KX30 n) KX30 r v1 v2 0 v2) ∧ ((v2 = v1) → qM_markStatic_J23 a (qM_markStatic_L2 a KX30 n) KX30 r v1 v2 1 v2))
set_option maxRecDepth 100000 in
set_option maxHeartbeats 4000000 in
theorem tM_markStatic_L2 (C : vx_C p s m args c prog_9_method_10_code 3 (Cond.code yM_markStatic prog_9_method_10_code 3 none :: wAll) "ClassInferenceModel" D vwCl (tysG G) nwAll A) {a : L_} {KX30 : S_ → Int32 → Prop} (kX30 : ∀ (r : S_) (v1 : Int32), KX30 r v1 → vx_V p l e { frames := 0, cells := 0, slots := 0, locals := 0 } s m args below meth c A D vwCl 3 0 0 Q (wo G a r) 30 [(0, .ref (ob G 7)), (1, .int v1)] []) : ∀ (n : Nat) (r : S_) (v1 : Int32) (v2 : Int32), qM_markStatic_L2 a KX30 n r v1 v2 → vx_V p l e { frames := 0, cells := 0, slots := 0, locals := 0 } s m args below meth c A D vwCl 3 0 0 Q (wo G a r) 2 [(0, .ref (ob G 7)), (1, .int v1), (2, .int v2)] [] := by
  intro n
  induction n with
  | zero =>
    intro r v1 v2 h
    exact (by rw [qM_markStatic_L2] at h; exact h : False).elim
  | succ n kB2 =>
    intro r v1 v2 h
    rw [qM_markStatic_L2] at h
    refine x_iload_n C dM_markStatic_2 rfl 2 rfl ?_
    refine x_bipush (v := 60) C dM_markStatic_3 (by decide) ?_
    refine x_icmp_ge (tgt := 30) C dM_markStatic_5 (by decide) (fun g1 => ?_) (fun g1 => ?_)
    · have h := h.1 g1
      refine x_sub [0, 1] rfl ?_
      exact kX30 r v1 h
    · have h := h.2 g1
      refine x_aload_n C dM_markStatic_8 rfl 0 rfl ?_
      refine gf_7_52 C (List.mem_cons_of_mem _ wm768) dM_markStatic_9 ?_
      refine x_iload_n C dM_markStatic_12 rfl 2 rfl ?_
      refine x_iload_n C dM_markStatic_13 rfl 2 rfl ?_
      refine x_iload_n C dM_markStatic_14 rfl 1 rfl ?_
      refine x_icmp_ne (tgt := 22) C dM_markStatic_15 (by decide) (fun g2 => ?_) (fun g2 => ?_)
      · have h := h.1 g2
        refine x_iconst (v := 0) C dM_markStatic_22 (by decide) ?_
        refine x_sub [0, 1, 2] rfl ?_
        exact tM_markStatic_J23 C kB2 kX30 r v1 v2 0 v2 h
      · have h := h.2 g2
        refine x_iconst (v := 1) C dM_markStatic_18 (by decide) ?_
        refine x_goto (tgt := 23) C dM_markStatic_19 (by decide) ?_
        refine x_sub [0, 1, 2] rfl ?_
        exact tM_markStatic_J23 C kB2 kX30 r v1 v2 1 v2 h
def qM_markStatic_J96 (a : L_) (KB32 : S_ → Int32 → Prop) (KX102 : S_ → Prop) (r : S_) (v2 : Int32) : Prop :=
  KB32 r (v2 + (-1))
set_option maxRecDepth 100000 in
set_option maxHeartbeats 4000000 in
theorem tM_markStatic_J96 (C : vx_C p s m args c prog_9_method_10_code 3 (Cond.code yM_markStatic prog_9_method_10_code 3 none :: wAll) "ClassInferenceModel" D vwCl (tysG G) nwAll A) {a : L_} {KB32 : S_ → Int32 → Prop} {KX102 : S_ → Prop} (kB32 : ∀ (r : S_) (v2 : Int32), KB32 r v2 → vx_V p l e { frames := 0, cells := 0, slots := 0, locals := 0 } s m args below meth c A D vwCl 3 0 0 Q (wo G a r) 32 [(0, .ref (ob G 7)), (2, .int v2)] []) (kX102 : ∀ (r : S_), KX102 r → vx_V p l e { frames := 0, cells := 0, slots := 0, locals := 0 } s m args below meth c A D vwCl 3 0 0 Q (wo G a r) 102 [] []) (r : S_) (v2 : Int32) (h : qM_markStatic_J96 a KB32 KX102 r v2) : vx_V p l e { frames := 0, cells := 0, slots := 0, locals := 0 } s m args below meth c A D vwCl 3 0 0 Q (wo G a r) 96 [(0, .ref (ob G 7)), (2, .int v2)] [] := by
  unfold qM_markStatic_J96 at h
  refine x_iinc (j := 1) (v := v2 + (-1)) C [(2, .int (v2 + (-1))), (0, .ref (ob G 7))] dM_markStatic_96 rfl rfl (by decide) rfl ?_
  refine x_goto (tgt := 32) C dM_markStatic_99 (by decide) ?_
  refine x_sub [1, 0] rfl ?_
  exact kB32 r (v2 + (-1)) h
def qM_markStatic_J66 (a : L_) (KB32 : S_ → Int32 → Prop) (KX102 : S_ → Prop) (r : S_) (v2 : Int32) : Prop :=
  vp_in v2 (ln a 88) ∧ (((ar r 88 v2.toNatClampNeg) = 0) → qM_markStatic_J96 a KB32 KX102 r v2) ∧ ((¬ (ar r 88 v2.toNatClampNeg) = 0) → vp_in v2 (ln a 39) ∧ (((ar r 39 v2.toNatClampNeg) < 0) → qM_markStatic_J96 a KB32 KX102 r v2) ∧ ((¬ (ar r 39 v2.toNatClampNeg) < 0) → vp_in v2 (ln a 39) ∧ vp_in (ar r 39 v2.toNatClampNeg) (ln a 88) ∧ ∀ r14 : S_, r14 = sA r 88 (upd (ar r 88) (ar r 39 v2.toNatClampNeg).toNatClampNeg (vp_nar .boolean 1)) → qM_markStatic_J96 a KB32 KX102 r14 v2))
set_option maxRecDepth 100000 in
set_option maxHeartbeats 4000000 in
theorem tM_markStatic_J66 (C : vx_C p s m args c prog_9_method_10_code 3 (Cond.code yM_markStatic prog_9_method_10_code 3 none :: wAll) "ClassInferenceModel" D vwCl (tysG G) nwAll A) {a : L_} {KB32 : S_ → Int32 → Prop} {KX102 : S_ → Prop} (kB32 : ∀ (r : S_) (v2 : Int32), KB32 r v2 → vx_V p l e { frames := 0, cells := 0, slots := 0, locals := 0 } s m args below meth c A D vwCl 3 0 0 Q (wo G a r) 32 [(0, .ref (ob G 7)), (2, .int v2)] []) (kX102 : ∀ (r : S_), KX102 r → vx_V p l e { frames := 0, cells := 0, slots := 0, locals := 0 } s m args below meth c A D vwCl 3 0 0 Q (wo G a r) 102 [] []) (r : S_) (v2 : Int32) (h : qM_markStatic_J66 a KB32 KX102 r v2) : vx_V p l e { frames := 0, cells := 0, slots := 0, locals := 0 } s m args below meth c A D vwCl 3 0 0 Q (wo G a r) 66 [(0, .ref (ob G 7)), (2, .int v2)] [] := by
  unfold qM_markStatic_J66 at h
  refine x_aload_n C dM_markStatic_66 rfl 0 rfl ?_
  refine gf_7_52 C (List.mem_cons_of_mem _ wm768) dM_markStatic_67 ?_
  refine x_iload_n C dM_markStatic_70 rfl 1 rfl ?_
  obtain ⟨g8, h⟩ := h
  refine y_za C 88 (by decide) g8 dM_markStatic_71 ?_
  refine x_if_eq (tgt := 96) C dM_markStatic_72 (by decide) (fun g9 => ?_) (fun g9 => ?_)
  · have h := h.1 g9
    refine x_sub [0, 1] rfl ?_
    exact tM_markStatic_J96 C kB32 kX102 r v2 h
  · have h := h.2 g9
    refine x_aload_n C dM_markStatic_75 rfl 0 rfl ?_
    refine gf_7_6 C (List.mem_cons_of_mem _ wm722) dM_markStatic_76 ?_
    refine x_iload_n C dM_markStatic_79 rfl 1 rfl ?_
    obtain ⟨g10, h⟩ := h
    refine y_ia C 39 (by decide) g10 dM_markStatic_80 ?_
    refine x_if_lt (tgt := 96) C dM_markStatic_81 (by decide) (fun g11 => ?_) (fun g11 => ?_)
    · have h := h.1 g11
      refine x_sub [0, 1] rfl ?_
      exact tM_markStatic_J96 C kB32 kX102 r v2 h
    · have h := h.2 g11
      refine x_aload_n C dM_markStatic_84 rfl 0 rfl ?_
      refine gf_7_52 C (List.mem_cons_of_mem _ wm768) dM_markStatic_85 ?_
      refine x_aload_n C dM_markStatic_88 rfl 0 rfl ?_
      refine gf_7_6 C (List.mem_cons_of_mem _ wm722) dM_markStatic_89 ?_
      refine x_iload_n C dM_markStatic_92 rfl 1 rfl ?_
      obtain ⟨g12, h⟩ := h
      refine y_ia C 39 (by decide) g12 dM_markStatic_93 ?_
      refine x_iconst (v := 1) C dM_markStatic_94 (by decide) ?_
      obtain ⟨g13, h⟩ := h
      refine y_zs C 88 (by decide) g13 dM_markStatic_95 (fun r14 er14 => ?_)
      have h := h r14 er14
      refine x_sub [0, 1] rfl ?_
      exact tM_markStatic_J96 C kB32 kX102 r14 v2 h
def qM_markStatic_L32 (a : L_) (KX102 : S_ → Prop) : Nat → S_ → Int32 → Prop
  | 0, _, _ => False
  | n + 1, r, v2 => ((v2 < 0) → KX102 r) ∧ ((¬ v2 < 0) → vp_in v2 (ln a 88) ∧ (((ar r 88 v2.toNatClampNeg) = 0) → qM_markStatic_J66 a (qM_markStatic_L32 a KX102 n) KX102 r v2) ∧ ((¬ (ar r 88 v2.toNatClampNeg) = 0) → vp_in v2 (ln a 38) ∧ (((ar r 38 v2.toNatClampNeg) < 0) → qM_markStatic_J66 a (qM_markStatic_L32 a KX102 n) KX102 r v2) ∧ ((¬ (ar r 38 v2.toNatClampNeg) < 0) → vp_in v2 (ln a 38) ∧ vp_in (ar r 38 v2.toNatClampNeg) (ln a 88) ∧ ∀ r19 : S_, r19 = sA r 88 (upd (ar r 88) (ar r 38 v2.toNatClampNeg).toNatClampNeg (vp_nar .boolean 1)) → qM_markStatic_J66 a (qM_markStatic_L32 a KX102 n) KX102 r19 v2)))
set_option maxRecDepth 100000 in
set_option maxHeartbeats 4000000 in
theorem tM_markStatic_L32 (C : vx_C p s m args c prog_9_method_10_code 3 (Cond.code yM_markStatic prog_9_method_10_code 3 none :: wAll) "ClassInferenceModel" D vwCl (tysG G) nwAll A) {a : L_} {KX102 : S_ → Prop} (kX102 : ∀ (r : S_), KX102 r → vx_V p l e { frames := 0, cells := 0, slots := 0, locals := 0 } s m args below meth c A D vwCl 3 0 0 Q (wo G a r) 102 [] []) : ∀ (n : Nat) (r : S_) (v2 : Int32), qM_markStatic_L32 a KX102 n r v2 → vx_V p l e { frames := 0, cells := 0, slots := 0, locals := 0 } s m args below meth c A D vwCl 3 0 0 Q (wo G a r) 32 [(0, .ref (ob G 7)), (2, .int v2)] [] := by
  intro n
  induction n with
  | zero =>
    intro r v2 h
    exact (by rw [qM_markStatic_L32] at h; exact h : False).elim
  | succ n kB32 =>
    intro r v2 h
    rw [qM_markStatic_L32] at h
    refine x_iload_n C dM_markStatic_32 rfl 1 rfl ?_
    refine x_if_lt (tgt := 102) C dM_markStatic_33 (by decide) (fun g5 => ?_) (fun g5 => ?_)
    · have h := h.1 g5
      refine x_sub [] rfl ?_
      exact kX102 r h
    · have h := h.2 g5
      refine x_aload_n C dM_markStatic_36 rfl 0 rfl ?_
      refine gf_7_52 C (List.mem_cons_of_mem _ wm768) dM_markStatic_37 ?_
      refine x_iload_n C dM_markStatic_40 rfl 1 rfl ?_
      obtain ⟨g6, h⟩ := h
      refine y_za C 88 (by decide) g6 dM_markStatic_41 ?_
      refine x_if_eq (tgt := 66) C dM_markStatic_42 (by decide) (fun g7 => ?_) (fun g7 => ?_)
      · have h := h.1 g7
        refine x_sub [0, 1] rfl ?_
        exact tM_markStatic_J66 C kB32 kX102 r v2 h
      · have h := h.2 g7
        refine x_aload_n C dM_markStatic_45 rfl 0 rfl ?_
        refine gf_7_5 C (List.mem_cons_of_mem _ wm721) dM_markStatic_46 ?_
        refine x_iload_n C dM_markStatic_49 rfl 1 rfl ?_
        obtain ⟨g15, h⟩ := h
        refine y_ia C 38 (by decide) g15 dM_markStatic_50 ?_
        refine x_if_lt (tgt := 66) C dM_markStatic_51 (by decide) (fun g16 => ?_) (fun g16 => ?_)
        · have h := h.1 g16
          refine x_sub [0, 1] rfl ?_
          exact tM_markStatic_J66 C kB32 kX102 r v2 h
        · have h := h.2 g16
          refine x_aload_n C dM_markStatic_54 rfl 0 rfl ?_
          refine gf_7_52 C (List.mem_cons_of_mem _ wm768) dM_markStatic_55 ?_
          refine x_aload_n C dM_markStatic_58 rfl 0 rfl ?_
          refine gf_7_5 C (List.mem_cons_of_mem _ wm721) dM_markStatic_59 ?_
          refine x_iload_n C dM_markStatic_62 rfl 1 rfl ?_
          obtain ⟨g17, h⟩ := h
          refine y_ia C 38 (by decide) g17 dM_markStatic_63 ?_
          refine x_iconst (v := 1) C dM_markStatic_64 (by decide) ?_
          obtain ⟨g18, h⟩ := h
          refine y_zs C 88 (by decide) g18 dM_markStatic_65 (fun r19 er19 => ?_)
          have h := h r19 er19
          refine x_sub [0, 1] rfl ?_
          exact tM_markStatic_J66 C kB32 kX102 r19 v2 h
def qM_markStatic (a : L_) (K : S_ → Prop) (r : S_) (p0 : Int32) : Prop :=
  ∃ n21 : Nat, qM_markStatic_L2 a (fun r v1 => ∃ n20 : Nat, qM_markStatic_L32 a (fun r => K r) n20 r v1) n21 r p0 0
set_option maxRecDepth 100000 in
set_option maxHeartbeats 4000000 in
theorem cM_markStatic {a : L_} {r : S_} {K : S_ → Prop} (p0 : Int32) (h : qM_markStatic a K r p0) : vx_Mv l yM_markStatic (Cond.code yM_markStatic prog_9_method_10_code 3 none :: wAll) { frames := 0, cells := 0, slots := 0, locals := 0 } D vwCl (tysG G) nwAll (wo G a r) [.ref (ob G 7), .int p0] 0 0 (fun w => ∃ r1, w = wo G a r1 ∧ K r1) := by
  unfold qM_markStatic at h
  refine x_metv (cc := prog_9_method_10_code) (maxL := 3) (ret := none) (lv0 := [(0, .ref (ob G 7)), (1, .int p0)]) (by decide) rfl (Nat.le_of_ble_eq_true rfl) rfl ?_
  intro p e s m args below meth c A C hA hlocks hr
  refine x_iconst (v := 0) C dM_markStatic_0 (by decide) ?_
  refine x_istore_n C [(2, .int 0), (0, .ref (ob G 7)), (1, .int p0)] dM_markStatic_1 rfl (by decide) rfl ?_
  obtain ⟨n21, h⟩ := h
  refine x_sub [1, 2, 0] rfl ?_
  refine tM_markStatic_L2 C (fun r v1 h => ?_) n21 r p0 0 h
  · refine x_iload_n C dM_markStatic_30 rfl 1 rfl ?_
    refine x_istore_n C [(2, .int v1), (0, .ref (ob G 7)), (1, .int v1)] dM_markStatic_31 rfl (by decide) rfl ?_
    obtain ⟨n20, h⟩ := h
    refine x_sub [1, 0] rfl ?_
    refine tM_markStatic_L32 C (fun r h => ?_) n20 r v1 h
    · exact x_vret C hA hlocks hr ⟨r, rfl, h⟩ dM_markStatic_102
set_option maxRecDepth 100000 in
set_option maxHeartbeats 4000000 in
theorem kM_markStatic {p : Program} {l : Launch} {e : Env} {R : Room} {s : State} {m : MethodId} {args : Array Value} {below : List Frame} {meth : Method} {c : Code} {cells slots : Nat} {Q : State → Prop} {A : Nat → Prop} {D : va_G} {nL pc : Nat} {cc : ByteArray} {cw : Cond} {own : String} {lv : List (Nat × Value)} {st : List Value} {G : G_} {a : L_} {r : S_} {K : S_ → Prop} {p0 : Int32} (C : vx_C p s m args c cc nL (cw :: wAll) own D vwCl (tysG G) nwAll A) {i : Nat} (hl : Cond.methodLink own i yM_markStatic ∈ wAll) (hR : 0 + 1 ≤ R.frames ∧ 8 + (3 + 11) + 0 ≤ R.locals) (hst : (st.map fun v => v.category).sum ≤ 8) (hd : decode cc pc = .ok (.invokevirtual i, 3)) (hcs : cells ≤ R.cells ∧ slots ≤ R.slots) (h : qM_markStatic a K r p0) (k : ∀ (r1 : S_), K r1 → vx_V p l e R s m args below meth c A D vwCl nL cells slots Q (wo G a r1) (pc + 3) lv st) : vx_V p l e R s m args below meth c A D vwCl nL cells slots Q (wo G a r) pc lv (.int p0 :: .ref (ob G 7) :: st) := by
  refine x_callVv C (CC := "ClassInferenceModel") (ci := 7) (q0 := 7) (fs := fl7 G a r) (As := [.int p0]) rfl rfl (cM_markStatic p0 h) (cwV (C := "ClassInferenceModel") 1 C.1.2.2.2.2 (goodV hl wm977 wp33 wm9 wm978) rfl rfl rfl (by decide +kernel) hR) rfl hst hd hcs (fun w hw => ?_)
  obtain ⟨r1, rfl, h⟩ := hw
  exact k r1 h
def qM_hasVariable_J48 (a : L_) (KB10 : S_ → Int32 → Int32 → Int32 → Int32 → Prop) (KX55 : S_ → Int32 → Prop) (r : S_) (v1 : Int32) (v2 : Int32) (v4 : Int32) (u0 : Int32) : Prop :=
  KB10 r v1 v2 u0 (v4 + 1)
set_option maxRecDepth 100000 in
set_option maxHeartbeats 4000000 in
theorem tM_hasVariable_J48 (C : vx_C p s m args c prog_9_method_11_code 5 (Cond.code yM_hasVariable prog_9_method_11_code 5 (some .boolean) :: wAll) "ClassInferenceModel" D vwCl (tysG G) nwAll A) {a : L_} {KB10 : S_ → Int32 → Int32 → Int32 → Int32 → Prop} {KX55 : S_ → Int32 → Prop} (kB10 : ∀ (r : S_) (v1 : Int32) (v2 : Int32) (v3 : Int32) (v4 : Int32), KB10 r v1 v2 v3 v4 → vx_V p l e { frames := 1, cells := 0, slots := 0, locals := 22 } s m args below meth c A D vwCl 5 0 0 Q (wo G a r) 10 [(0, .ref (ob G 7)), (1, .int v1), (2, .int v2), (3, .int v3), (4, .int v4)] []) (kX55 : ∀ (r : S_) (v3 : Int32), KX55 r v3 → vx_V p l e { frames := 1, cells := 0, slots := 0, locals := 22 } s m args below meth c A D vwCl 5 0 0 Q (wo G a r) 55 [(3, .int v3)] []) (r : S_) (v1 : Int32) (v2 : Int32) (v4 : Int32) (u0 : Int32) (h : qM_hasVariable_J48 a KB10 KX55 r v1 v2 v4 u0) : vx_V p l e { frames := 1, cells := 0, slots := 0, locals := 22 } s m args below meth c A D vwCl 5 0 0 Q (wo G a r) 48 [(0, .ref (ob G 7)), (1, .int v1), (2, .int v2), (4, .int v4)] [.int u0] := by
  unfold qM_hasVariable_J48 at h
  refine x_istore_n C [(3, .int u0), (0, .ref (ob G 7)), (1, .int v1), (2, .int v2), (4, .int v4)] dM_hasVariable_48 rfl (by decide) rfl ?_
  refine x_iinc (j := 4) (v := v4 + 1) C [(4, .int (v4 + 1)), (3, .int u0), (0, .ref (ob G 7)), (1, .int v1), (2, .int v2)] dM_hasVariable_49 rfl rfl (by decide) rfl ?_
  refine x_goto (tgt := 10) C dM_hasVariable_52 (by decide) ?_
  refine x_sub [2, 3, 4, 1, 0] rfl ?_
  exact kB10 r v1 v2 u0 (v4 + 1) h
def qM_hasVariable_J43 (a : L_) (KB10 : S_ → Int32 → Int32 → Int32 → Int32 → Prop) (KX55 : S_ → Int32 → Prop) (r : S_) (v1 : Int32) (v2 : Int32) (v4 : Int32) : Prop :=
  qM_hasVariable_J48 a KB10 KX55 r v1 v2 v4 1
set_option maxRecDepth 100000 in
set_option maxHeartbeats 4000000 in
theorem tM_hasVariable_J43 (C : vx_C p s m args c prog_9_method_11_code 5 (Cond.code yM_hasVariable prog_9_method_11_code 5 (some .boolean) :: wAll) "ClassInferenceModel" D vwCl (tysG G) nwAll A) {a : L_} {KB10 : S_ → Int32 → Int32 → Int32 → Int32 → Prop} {KX55 : S_ → Int32 → Prop} (kB10 : ∀ (r : S_) (v1 : Int32) (v2 : Int32) (v3 : Int32) (v4 : Int32), KB10 r v1 v2 v3 v4 → vx_V p l e { frames := 1, cells := 0, slots := 0, locals := 22 } s m args below meth c A D vwCl 5 0 0 Q (wo G a r) 10 [(0, .ref (ob G 7)), (1, .int v1), (2, .int v2), (3, .int v3), (4, .int v4)] []) (kX55 : ∀ (r : S_) (v3 : Int32), KX55 r v3 → vx_V p l e { frames := 1, cells := 0, slots := 0, locals := 22 } s m args below meth c A D vwCl 5 0 0 Q (wo G a r) 55 [(3, .int v3)] []) (r : S_) (v1 : Int32) (v2 : Int32) (v4 : Int32) (h : qM_hasVariable_J43 a KB10 KX55 r v1 v2 v4) : vx_V p l e { frames := 1, cells := 0, slots := 0, locals := 22 } s m args below meth c A D vwCl 5 0 0 Q (wo G a r) 43 [(0, .ref (ob G 7)), (1, .int v1), (2, .int v2), (4, .int v4)] [] := by
  unfold qM_hasVariable_J43 at h
  refine x_iconst (v := 1) C dM_hasVariable_43 (by decide) ?_
  refine x_goto (tgt := 48) C dM_hasVariable_44 (by decide) ?_
  refine x_sub [0, 1, 2, 3] rfl ?_
  exact tM_hasVariable_J48 C kB10 kX55 r v1 v2 v4 1 h
def qM_hasVariable_J47 (a : L_) (KB10 : S_ → Int32 → Int32 → Int32 → Int32 → Prop) (KX55 : S_ → Int32 → Prop) (r : S_) (v1 : Int32) (v2 : Int32) (v4 : Int32) : Prop :=
  qM_hasVariable_J48 a KB10 KX55 r v1 v2 v4 0
set_option maxRecDepth 100000 in
set_option maxHeartbeats 4000000 in
theorem tM_hasVariable_J47 (C : vx_C p s m args c prog_9_method_11_code 5 (Cond.code yM_hasVariable prog_9_method_11_code 5 (some .boolean) :: wAll) "ClassInferenceModel" D vwCl (tysG G) nwAll A) {a : L_} {KB10 : S_ → Int32 → Int32 → Int32 → Int32 → Prop} {KX55 : S_ → Int32 → Prop} (kB10 : ∀ (r : S_) (v1 : Int32) (v2 : Int32) (v3 : Int32) (v4 : Int32), KB10 r v1 v2 v3 v4 → vx_V p l e { frames := 1, cells := 0, slots := 0, locals := 22 } s m args below meth c A D vwCl 5 0 0 Q (wo G a r) 10 [(0, .ref (ob G 7)), (1, .int v1), (2, .int v2), (3, .int v3), (4, .int v4)] []) (kX55 : ∀ (r : S_) (v3 : Int32), KX55 r v3 → vx_V p l e { frames := 1, cells := 0, slots := 0, locals := 22 } s m args below meth c A D vwCl 5 0 0 Q (wo G a r) 55 [(3, .int v3)] []) (r : S_) (v1 : Int32) (v2 : Int32) (v4 : Int32) (h : qM_hasVariable_J47 a KB10 KX55 r v1 v2 v4) : vx_V p l e { frames := 1, cells := 0, slots := 0, locals := 22 } s m args below meth c A D vwCl 5 0 0 Q (wo G a r) 47 [(0, .ref (ob G 7)), (1, .int v1), (2, .int v2), (4, .int v4)] [] := by
  unfold qM_hasVariable_J47 at h
  refine x_iconst (v := 0) C dM_hasVariable_47 (by decide) ?_
  refine x_sub [0, 1, 2, 3] rfl ?_
  exact tM_hasVariable_J48 C kB10 kX55 r v1 v2 v4 0 h
def qM_hasVariable_L10 (a : L_) (KX55 : S_ → Int32 → Prop) : Nat → S_ → Int32 → Int32 → Int32 → Int32 → Prop
  | 0, _, _, _, _, _ => False
  | n + 1, r, v1, v2, v3, v4 => ((v1 < v4) → KX55 r v3) ∧ ((¬ v1 < v4) → ((¬ v3 = 0) → qM_hasVariable_J43 a (qM_hasVariable_L10 a KX55 n) KX55 r v1 v2 v4) ∧ ((v3 = 0) → vp_in v4 (ln a 88) ∧ (((ar r 88 v4.toNatClampNeg) = 0) → qM_hasVariable_J47 a (qM_hasVariable_L10 a KX55 n) KX55 r v1 v2 v4) ∧ ((¬ (ar r 88 v4.toNatClampNeg) = 0) → vp_in v4 (ln a 37) ∧ ((¬ (ar r 37 v4.toNatClampNeg) = ((-1) - v2)) → qM_hasVariable_J47 a (qM_hasVariable_L10 a KX55 n) KX55 r v1 v2 v4) ∧ (((ar r 37 v4.toNatClampNeg) = ((-1) - v2)) → qM_hasVariable_J43 a (qM_hasVariable_L10 a KX55 n) KX55 r v1 v2 v4))))
set_option maxRecDepth 100000 in
set_option maxHeartbeats 4000000 in
theorem tM_hasVariable_L10 (C : vx_C p s m args c prog_9_method_11_code 5 (Cond.code yM_hasVariable prog_9_method_11_code 5 (some .boolean) :: wAll) "ClassInferenceModel" D vwCl (tysG G) nwAll A) {a : L_} {KX55 : S_ → Int32 → Prop} (kX55 : ∀ (r : S_) (v3 : Int32), KX55 r v3 → vx_V p l e { frames := 1, cells := 0, slots := 0, locals := 22 } s m args below meth c A D vwCl 5 0 0 Q (wo G a r) 55 [(3, .int v3)] []) : ∀ (n : Nat) (r : S_) (v1 : Int32) (v2 : Int32) (v3 : Int32) (v4 : Int32), qM_hasVariable_L10 a KX55 n r v1 v2 v3 v4 → vx_V p l e { frames := 1, cells := 0, slots := 0, locals := 22 } s m args below meth c A D vwCl 5 0 0 Q (wo G a r) 10 [(0, .ref (ob G 7)), (1, .int v1), (2, .int v2), (3, .int v3), (4, .int v4)] [] := by
  intro n
  induction n with
  | zero =>
    intro r v1 v2 v3 v4 h
    exact (by rw [qM_hasVariable_L10] at h; exact h : False).elim
  | succ n kB10 =>
    intro r v1 v2 v3 v4 h
    rw [qM_hasVariable_L10] at h
    refine x_iload C dM_hasVariable_10 4 rfl ?_
    refine x_iload_n C dM_hasVariable_12 rfl 1 rfl ?_
    refine x_icmp_gt (tgt := 55) C dM_hasVariable_13 (by decide) (fun g2 => ?_) (fun g2 => ?_)
    · have h := h.1 g2
      refine x_sub [3] rfl ?_
      exact kX55 r v3 h
    · have h := h.2 g2
      refine x_iload_n C dM_hasVariable_16 rfl 3 rfl ?_
      refine x_if_ne (tgt := 43) C dM_hasVariable_17 (by decide) (fun g3 => ?_) (fun g3 => ?_)
      · have h := h.1 g3
        refine x_sub [0, 1, 2, 4] rfl ?_
        exact tM_hasVariable_J43 C kB10 kX55 r v1 v2 v4 h
      · have h := h.2 g3
        refine x_aload_n C dM_hasVariable_20 rfl 0 rfl ?_
        refine gf_7_52 C (List.mem_cons_of_mem _ wm768) dM_hasVariable_21 ?_
        refine x_iload C dM_hasVariable_24 4 rfl ?_
        obtain ⟨g4, h⟩ := h
        refine y_za C 88 (by decide) g4 dM_hasVariable_26 ?_
        refine x_if_eq (tgt := 47) C dM_hasVariable_27 (by decide) (fun g5 => ?_) (fun g5 => ?_)
        · have h := h.1 g5
          refine x_sub [0, 1, 2, 4] rfl ?_
          exact tM_hasVariable_J47 C kB10 kX55 r v1 v2 v4 h
        · have h := h.2 g5
          refine x_aload_n C dM_hasVariable_30 rfl 0 rfl ?_
          refine gf_7_4 C (List.mem_cons_of_mem _ wm720) dM_hasVariable_31 ?_
          refine x_iload C dM_hasVariable_34 4 rfl ?_
          obtain ⟨g6, h⟩ := h
          refine y_ia C 37 (by decide) g6 dM_hasVariable_36 ?_
          refine x_iconst (v := (-1)) C dM_hasVariable_37 (by decide) ?_
          refine x_iload_n C dM_hasVariable_38 rfl 2 rfl ?_
          refine x_isub C dM_hasVariable_39 ?_
          refine x_icmp_ne (tgt := 47) C dM_hasVariable_40 (by decide) (fun g7 => ?_) (fun g7 => ?_)
          · have h := h.1 g7
            refine x_sub [0, 1, 2, 4] rfl ?_
            exact tM_hasVariable_J47 C kB10 kX55 r v1 v2 v4 h
          · have h := h.2 g7
            refine x_sub [0, 1, 2, 4] rfl ?_
            exact tM_hasVariable_J43 C kB10 kX55 r v1 v2 v4 h
def qM_hasVariable (a : L_) (K : Int32 → S_ → Prop) (r : S_) (p0 : Int32) (p1 : Int32) : Prop :=
  qM_markStatic a (fun r1 => ∃ n9 : Nat, qM_hasVariable_L10 a (fun r v3 => zb v3 ∧ K v3 r) n9 r1 p0 p1 0 0) r p0
set_option maxRecDepth 100000 in
set_option maxHeartbeats 4000000 in
theorem cM_hasVariable {a : L_} {r : S_} {K : Int32 → S_ → Prop} (p0 : Int32) (p1 : Int32) (h : qM_hasVariable a K r p0 p1) : vx_Mi l yM_hasVariable (Cond.code yM_hasVariable prog_9_method_11_code 5 (some .boolean) :: wAll) { frames := 1, cells := 0, slots := 0, locals := 22 } D vwCl (tysG G) nwAll (wo G a r) [.ref (ob G 7), .int p0, .int p1] 0 0 (fun v w => ∃ r1, w = wo G a r1 ∧ zb v ∧ K v r1) := by
  unfold qM_hasVariable at h
  refine x_meti (cc := prog_9_method_11_code) (maxL := 5) (ret := (some .boolean)) (lv0 := [(0, .ref (ob G 7)), (1, .int p0), (2, .int p1)]) (by decide) rfl (Nat.le_of_ble_eq_true rfl) rfl ?_
  intro p e s m args below meth c A C hA hlocks hr
  refine x_aload_n C dM_hasVariable_0 rfl 0 rfl ?_
  refine x_iload_n C dM_hasVariable_1 rfl 1 rfl ?_
  refine kM_markStatic C wm975 ⟨Nat.le_of_ble_eq_true rfl, Nat.le_of_ble_eq_true rfl⟩ (Nat.le_of_ble_eq_true rfl) dM_hasVariable_2 ⟨Nat.zero_le _, Nat.zero_le _⟩ h (fun r1 h => ?_)
  refine x_iconst (v := 0) C dM_hasVariable_5 (by decide) ?_
  refine x_istore_n C [(3, .int 0), (0, .ref (ob G 7)), (1, .int p0), (2, .int p1)] dM_hasVariable_6 rfl (by decide) rfl ?_
  refine x_iconst (v := 0) C dM_hasVariable_7 (by decide) ?_
  refine x_istore C [(4, .int 0), (3, .int 0), (0, .ref (ob G 7)), (1, .int p0), (2, .int p1)] dM_hasVariable_8 (by decide) rfl ?_
  obtain ⟨n9, h⟩ := h
  refine x_sub [2, 3, 4, 1, 0] rfl ?_
  refine tM_hasVariable_L10 C (fun r v3 h => ?_) n9 r1 p0 p1 0 0 h
  · refine x_iload_n C dM_hasVariable_55 rfl 0 rfl ?_
    obtain ⟨g8, h⟩ := h
    exact x_zret C hA hlocks hr (zb_n g8) ⟨r, rfl, g8, h⟩ dM_hasVariable_56
set_option maxRecDepth 100000 in
set_option maxHeartbeats 4000000 in
theorem kM_hasVariable {p : Program} {l : Launch} {e : Env} {R : Room} {s : State} {m : MethodId} {args : Array Value} {below : List Frame} {meth : Method} {c : Code} {cells slots : Nat} {Q : State → Prop} {A : Nat → Prop} {D : va_G} {nL pc : Nat} {cc : ByteArray} {cw : Cond} {own : String} {lv : List (Nat × Value)} {st : List Value} {G : G_} {a : L_} {r : S_} {K : Int32 → S_ → Prop} {p0 : Int32} {p1 : Int32} (C : vx_C p s m args c cc nL (cw :: wAll) own D vwCl (tysG G) nwAll A) {i : Nat} (hl : Cond.methodLink own i yM_hasVariable ∈ wAll) (hR : 1 + 1 ≤ R.frames ∧ 8 + (5 + 11) + 22 ≤ R.locals) (hst : (st.map fun v => v.category).sum ≤ 8) (hd : decode cc pc = .ok (.invokevirtual i, 3)) (hcs : cells ≤ R.cells ∧ slots ≤ R.slots) (h : qM_hasVariable a K r p0 p1) (k : ∀ (v : Int32) (r1 : S_), zb v → K v r1 → vx_V p l e R s m args below meth c A D vwCl nL cells slots Q (wo G a r1) (pc + 3) lv (.int v :: st)) : vx_V p l e R s m args below meth c A D vwCl nL cells slots Q (wo G a r) pc lv (.int p1 :: .int p0 :: .ref (ob G 7) :: st) := by
  refine x_callVi C (CC := "ClassInferenceModel") (ci := 7) (q0 := 7) (fs := fl7 G a r) (As := [.int p0, .int p1]) rfl rfl (cM_hasVariable p0 p1 h) (cwV (C := "ClassInferenceModel") 2 C.1.2.2.2.2 (goodV hl wm973 wp32 wm9 wm974) rfl rfl rfl (by decide +kernel) hR) rfl hst hd hcs (fun v w hw => ?_)
  obtain ⟨r1, rfl, h⟩ := hw
  exact k v r1 h.1 h.2
def qM_method (a : L_) (K : Int32 → S_ → Prop) (r : S_) (p0 : Int32) (p1 : Int32) : Prop :=
  ∀ r1 : S_, r1 = sF r 20 0 → qM_isClass a r1 (fun z2 => zb z2 → ((z2 = 0) → K (-1) r1) ∧ ((¬ z2 = 0) → qM_in a r1 (fun z4 => zb z4 → ((z4 = 0) → K (-1) r1) ∧ ((¬ z4 = 0) → vp_in p0 (ln a 42) ∧ ((0 ≤ (ar r1 42 p0.toNatClampNeg)) → K (-1) r1) ∧ ((¬ 0 ≤ (ar r1 42 p0.toNatClampNeg)) → qM_hasVariable a (fun z8 r9 => zb z8 → ((¬ z8 = 0) → vp_in p0 (ln a 42) ∧ ∀ r12 : S_, r12 = sA r9 42 (upd (ar r9 42) p0.toNatClampNeg p1) → K 1 r12) ∧ ((z8 = 0) → K (-1) r9)) r1 p1 0))) p1 0 ((fi r1 22) - 1))) p0
set_option maxRecDepth 100000 in
set_option maxHeartbeats 4000000 in
theorem cM_method {a : L_} {r : S_} {K : Int32 → S_ → Prop} (p0 : Int32) (p1 : Int32) (h : qM_method a K r p0 p1) : vx_Mi l yM_method (Cond.code yM_method prog_9_method_12_code 3 (some .int) :: wAll) { frames := 2, cells := 0, slots := 0, locals := 46 } D vwCl (tysG G) nwAll (wo G a r) [.ref (ob G 7), .int p0, .int p1] 0 0 (fun v w => ∃ r1, w = wo G a r1 ∧ K v r1) := by
  unfold qM_method at h
  refine x_meti (cc := prog_9_method_12_code) (maxL := 3) (ret := (some .int)) (lv0 := [(0, .ref (ob G 7)), (1, .int p0), (2, .int p1)]) (by decide) rfl (Nat.le_of_ble_eq_true rfl) rfl ?_
  intro p e s m args below meth c A C hA hlocks hr
  refine x_aload_n C dM_method_0 rfl 0 rfl ?_
  refine x_iconst (v := 0) C dM_method_1 (by decide) ?_
  refine pf_7_0 C (List.mem_cons_of_mem _ wm716) dM_method_2 (fun r1 er1 => ?_)
  have h := h r1 er1
  refine x_aload_n C dM_method_5 rfl 0 rfl ?_
  refine x_iload_n C dM_method_6 rfl 1 rfl ?_
  refine kM_isClass C wm963 ⟨Nat.le_of_ble_eq_true rfl, Nat.le_of_ble_eq_true rfl⟩ (Nat.le_of_ble_eq_true rfl) dM_method_7 ⟨Nat.zero_le _, Nat.zero_le _⟩ h (fun z2 hzz2 h => ?_)
  have h := h hzz2
  refine x_if_eq (tgt := 45) C dM_method_10 (by decide) (fun g3 => ?_) (fun g3 => ?_)
  · have h := h.1 g3
    refine x_iconst (v := (-1)) C dM_method_45 (by decide) ?_
    exact x_iret C hA hlocks hr ⟨r1, rfl, h⟩ dM_method_46
  · have h := h.2 g3
    refine x_iload_n C dM_method_13 rfl 2 rfl ?_
    refine x_iconst (v := 0) C dM_method_14 (by decide) ?_
    refine x_aload_n C dM_method_15 rfl 0 rfl ?_
    refine gf_7_3 C (List.mem_cons_of_mem _ wm719) dM_method_16 ?_
    refine x_iconst (v := 1) C dM_method_19 (by decide) ?_
    refine x_isub C dM_method_20 ?_
    refine kM_in C wm944 ⟨Nat.le_of_ble_eq_true rfl, Nat.le_of_ble_eq_true rfl⟩ (Nat.le_of_ble_eq_true rfl) dM_method_21 ⟨Nat.zero_le _, Nat.zero_le _⟩ h (fun z4 hzz4 h => ?_)
    have h := h hzz4
    refine x_if_eq (tgt := 45) C dM_method_24 (by decide) (fun g5 => ?_) (fun g5 => ?_)
    · have h := h.1 g5
      refine x_iconst (v := (-1)) C dM_method_45 (by decide) ?_
      exact x_iret C hA hlocks hr ⟨r1, rfl, h⟩ dM_method_46
    · have h := h.2 g5
      refine x_aload_n C dM_method_27 rfl 0 rfl ?_
      refine gf_7_10 C (List.mem_cons_of_mem _ wm726) dM_method_28 ?_
      refine x_iload_n C dM_method_31 rfl 1 rfl ?_
      obtain ⟨g6, h⟩ := h
      refine y_ia C 42 (by decide) g6 dM_method_32 ?_
      refine x_if_ge (tgt := 45) C dM_method_33 (by decide) (fun g7 => ?_) (fun g7 => ?_)
      · have h := h.1 g7
        refine x_iconst (v := (-1)) C dM_method_45 (by decide) ?_
        exact x_iret C hA hlocks hr ⟨r1, rfl, h⟩ dM_method_46
      · have h := h.2 g7
        refine x_aload_n C dM_method_36 rfl 0 rfl ?_
        refine x_iload_n C dM_method_37 rfl 2 rfl ?_
        refine x_iconst (v := 0) C dM_method_38 (by decide) ?_
        refine kM_hasVariable C wm971 ⟨Nat.le_of_ble_eq_true rfl, Nat.le_of_ble_eq_true rfl⟩ (Nat.le_of_ble_eq_true rfl) dM_method_39 ⟨Nat.zero_le _, Nat.zero_le _⟩ h (fun z8 r9 hzz8 h => ?_)
        have h := h hzz8
        refine x_if_ne (tgt := 47) C dM_method_42 (by decide) (fun g10 => ?_) (fun g10 => ?_)
        · have h := h.1 g10
          refine x_aload_n C dM_method_47 rfl 0 rfl ?_
          refine gf_7_10 C (List.mem_cons_of_mem _ wm726) dM_method_48 ?_
          refine x_iload_n C dM_method_51 rfl 1 rfl ?_
          refine x_iload_n C dM_method_52 rfl 2 rfl ?_
          obtain ⟨g11, h⟩ := h
          refine y_is C 42 (by decide) g11 dM_method_53 (fun r12 er12 => ?_)
          have h := h r12 er12
          refine x_iconst (v := 1) C dM_method_54 (by decide) ?_
          exact x_iret C hA hlocks hr ⟨r12, rfl, h⟩ dM_method_55
        · have h := h.2 g10
          refine x_iconst (v := (-1)) C dM_method_45 (by decide) ?_
          exact x_iret C hA hlocks hr ⟨r9, rfl, h⟩ dM_method_46
set_option maxRecDepth 100000 in
set_option maxHeartbeats 4000000 in
theorem kM_method {p : Program} {l : Launch} {e : Env} {R : Room} {s : State} {m : MethodId} {args : Array Value} {below : List Frame} {meth : Method} {c : Code} {cells slots : Nat} {Q : State → Prop} {A : Nat → Prop} {D : va_G} {nL pc : Nat} {cc : ByteArray} {cw : Cond} {own : String} {lv : List (Nat × Value)} {st : List Value} {G : G_} {a : L_} {r : S_} {K : Int32 → S_ → Prop} {p0 : Int32} {p1 : Int32} (C : vx_C p s m args c cc nL (cw :: wAll) own D vwCl (tysG G) nwAll A) {i : Nat} (hl : Cond.methodLink own i yM_method ∈ wAll) (hR : 2 + 1 ≤ R.frames ∧ 8 + (3 + 11) + 46 ≤ R.locals) (hst : (st.map fun v => v.category).sum ≤ 8) (hd : decode cc pc = .ok (.invokevirtual i, 3)) (hcs : cells ≤ R.cells ∧ slots ≤ R.slots) (h : qM_method a K r p0 p1) (k : ∀ (v : Int32) (r1 : S_), K v r1 → vx_V p l e R s m args below meth c A D vwCl nL cells slots Q (wo G a r1) (pc + 3) lv (.int v :: st)) : vx_V p l e R s m args below meth c A D vwCl nL cells slots Q (wo G a r) pc lv (.int p1 :: .int p0 :: .ref (ob G 7) :: st) := by
  refine x_callVi C (CC := "ClassInferenceModel") (ci := 7) (q0 := 7) (fs := fl7 G a r) (As := [.int p0, .int p1]) rfl rfl (cM_method p0 p1 h) (cwV (C := "ClassInferenceModel") 2 C.1.2.2.2.2 (goodV hl wm968 wm969 wm9 wm970) rfl rfl rfl (by decide +kernel) hR) rfl hst hd hcs (fun v w hw => ?_)
  obtain ⟨r1, rfl, h⟩ := hw
  exact k v r1 h
def qM_isUnder_L2 (a : L_) (r : S_) (KX21 : Int32 → Int32 → Prop) : Nat → Int32 → Int32 → Prop
  | 0, _, _ => False
  | n + 1, v2, v3 => ((v3 < 0) → KX21 v2 v3) ∧ ((¬ v3 < 0) → ((v3 = v2) → KX21 v2 v3) ∧ ((¬ v3 = v2) → vp_in v3 (ln a 41) ∧ (qM_isUnder_L2 a r KX21 n) v2 (ar r 41 v3.toNatClampNeg)))
set_option maxRecDepth 100000 in
set_option maxHeartbeats 4000000 in
theorem tM_isUnder_L2 (C : vx_C p s m args c prog_9_method_13_code 4 (Cond.code yM_isUnder prog_9_method_13_code 4 (some .boolean) :: wAll) "ClassInferenceModel" D vwCl (tysG G) nwAll A) {a : L_} {r : S_} {KX21 : Int32 → Int32 → Prop} (kX21 : ∀ (v2 : Int32) (v3 : Int32), KX21 v2 v3 → vx_V p l e { frames := 0, cells := 0, slots := 0, locals := 0 } s m args below meth c A D vwCl 4 0 0 Q (wo G a r) 21 [(2, .int v2), (3, .int v3)] []) : ∀ (n : Nat) (v2 : Int32) (v3 : Int32), qM_isUnder_L2 a r KX21 n v2 v3 → vx_V p l e { frames := 0, cells := 0, slots := 0, locals := 0 } s m args below meth c A D vwCl 4 0 0 Q (wo G a r) 2 [(0, .ref (ob G 7)), (2, .int v2), (3, .int v3)] [] := by
  intro n
  induction n with
  | zero =>
    intro v2 v3 h
    exact (by rw [qM_isUnder_L2] at h; exact h : False).elim
  | succ n kB2 =>
    intro v2 v3 h
    rw [qM_isUnder_L2] at h
    refine x_iload_n C dM_isUnder_2 rfl 2 rfl ?_
    refine x_if_lt (tgt := 21) C dM_isUnder_3 (by decide) (fun g1 => ?_) (fun g1 => ?_)
    · have h := h.1 g1
      refine x_sub [1, 2] rfl ?_
      exact kX21 v2 v3 h
    · have h := h.2 g1
      refine x_iload_n C dM_isUnder_6 rfl 2 rfl ?_
      refine x_iload_n C dM_isUnder_7 rfl 1 rfl ?_
      refine x_icmp_eq (tgt := 21) C dM_isUnder_8 (by decide) (fun g2 => ?_) (fun g2 => ?_)
      · have h := h.1 g2
        refine x_sub [1, 2] rfl ?_
        exact kX21 v2 v3 h
      · have h := h.2 g2
        refine x_aload_n C dM_isUnder_11 rfl 0 rfl ?_
        refine gf_7_9 C (List.mem_cons_of_mem _ wm725) dM_isUnder_12 ?_
        refine x_iload_n C dM_isUnder_15 rfl 2 rfl ?_
        obtain ⟨g3, h⟩ := h
        refine y_ia C 41 (by decide) g3 dM_isUnder_16 ?_
        refine x_istore_n C [(3, .int (ar r 41 v3.toNatClampNeg)), (0, .ref (ob G 7)), (2, .int v2)] dM_isUnder_17 rfl (by decide) rfl ?_
        refine x_goto (tgt := 2) C dM_isUnder_18 (by decide) ?_
        refine x_sub [1, 2, 0] rfl ?_
        exact kB2 v2 (ar r 41 v3.toNatClampNeg) h
def qM_isUnder_J21 (a : L_) (r : S_) (K : Int32 → Prop) (v2 : Int32) (v3 : Int32) : Prop :=
  ((¬ v3 = v2) → zb 0 ∧ K 0) ∧ ((v3 = v2) → zb 1 ∧ K 1)
set_option maxRecDepth 100000 in
set_option maxHeartbeats 4000000 in
theorem tM_isUnder_J21 (C : vx_C p s m args c prog_9_method_13_code 4 (Cond.code yM_isUnder prog_9_method_13_code 4 (some .boolean) :: wAll) "ClassInferenceModel" D vwCl (tysG G) nwAll A) (hA : A = va_A ws0 s.heap.size) (hlocks : meth.locks = false) (hr : meth.sig.returnType = (some .boolean)) {a : L_} {r : S_} {K : Int32 → Prop} (v2 : Int32) (v3 : Int32) (h : qM_isUnder_J21 a r K v2 v3) : vx_V p l e { frames := 0, cells := 0, slots := 0, locals := 0 } s m args below meth c A D vwCl 4 0 0 (MQ below (va_Qi (fun v w => w = wo G a r ∧ zb v ∧ K v) (vx_B D vwCl (tysG G) A) A) args s 0 0 A) (wo G a r) 21 [(2, .int v2), (3, .int v3)] [] := by
  unfold qM_isUnder_J21 at h
  refine x_iload_n C dM_isUnder_21 rfl 1 rfl ?_
  refine x_iload_n C dM_isUnder_22 rfl 0 rfl ?_
  refine x_icmp_ne (tgt := 30) C dM_isUnder_23 (by decide) (fun g4 => ?_) (fun g4 => ?_)
  · have h := h.1 g4
    refine x_iconst (v := 0) C dM_isUnder_30 (by decide) ?_
    obtain ⟨g5, h⟩ := h
    exact x_zret C hA hlocks hr (zb_n g5) ⟨rfl, g5, h⟩ dM_isUnder_31
  · have h := h.2 g4
    refine x_iconst (v := 1) C dM_isUnder_26 (by decide) ?_
    refine x_goto (tgt := 31) C dM_isUnder_27 (by decide) ?_
    obtain ⟨g6, h⟩ := h
    exact x_zret C hA hlocks hr (zb_n g6) ⟨rfl, g6, h⟩ dM_isUnder_31
def qM_isUnder (a : L_) (r : S_) (K : Int32 → Prop) (p0 : Int32) (p1 : Int32) : Prop :=
  ∃ n7 : Nat, qM_isUnder_L2 a r (fun v2 v3 => qM_isUnder_J21 a r K v2 v3) n7 p1 p0
set_option maxRecDepth 100000 in
set_option maxHeartbeats 4000000 in
theorem cM_isUnder {a : L_} {r : S_} {K : Int32 → Prop} (p0 : Int32) (p1 : Int32) (h : qM_isUnder a r K p0 p1) : vx_Mi l yM_isUnder (Cond.code yM_isUnder prog_9_method_13_code 4 (some .boolean) :: wAll) { frames := 0, cells := 0, slots := 0, locals := 0 } D vwCl (tysG G) nwAll (wo G a r) [.ref (ob G 7), .int p0, .int p1] 0 0 (fun v w => w = wo G a r ∧ zb v ∧ K v) := by
  unfold qM_isUnder at h
  refine x_meti (cc := prog_9_method_13_code) (maxL := 4) (ret := (some .boolean)) (lv0 := [(0, .ref (ob G 7)), (1, .int p0), (2, .int p1)]) (by decide) rfl (Nat.le_of_ble_eq_true rfl) rfl ?_
  intro p e s m args below meth c A C hA hlocks hr
  refine x_iload_n C dM_isUnder_0 rfl 1 rfl ?_
  refine x_istore_n C [(3, .int p0), (0, .ref (ob G 7)), (1, .int p0), (2, .int p1)] dM_isUnder_1 rfl (by decide) rfl ?_
  obtain ⟨n7, h⟩ := h
  refine x_sub [1, 3, 0] rfl ?_
  refine tM_isUnder_L2 C (fun v2 v3 h => ?_) n7 p1 p0 h
  · refine x_sub [0, 1] rfl ?_
    exact tM_isUnder_J21 C hA hlocks hr v2 v3 h
set_option maxRecDepth 100000 in
set_option maxHeartbeats 4000000 in
theorem kM_isUnder {p : Program} {l : Launch} {e : Env} {R : Room} {s : State} {m : MethodId} {args : Array Value} {below : List Frame} {meth : Method} {c : Code} {cells slots : Nat} {Q : State → Prop} {A : Nat → Prop} {D : va_G} {nL pc : Nat} {cc : ByteArray} {cw : Cond} {own : String} {lv : List (Nat × Value)} {st : List Value} {G : G_} {a : L_} {r : S_} {K : Int32 → Prop} {p0 : Int32} {p1 : Int32} (C : vx_C p s m args c cc nL (cw :: wAll) own D vwCl (tysG G) nwAll A) {i : Nat} (hl : Cond.methodLink own i yM_isUnder ∈ wAll) (hR : 0 + 1 ≤ R.frames ∧ 8 + (4 + 11) + 0 ≤ R.locals) (hst : (st.map fun v => v.category).sum ≤ 8) (hd : decode cc pc = .ok (.invokevirtual i, 3)) (hcs : cells ≤ R.cells ∧ slots ≤ R.slots) (h : qM_isUnder a r K p0 p1) (k : ∀ (v : Int32), zb v → K v → vx_V p l e R s m args below meth c A D vwCl nL cells slots Q (wo G a r) (pc + 3) lv (.int v :: st)) : vx_V p l e R s m args below meth c A D vwCl nL cells slots Q (wo G a r) pc lv (.int p1 :: .int p0 :: .ref (ob G 7) :: st) := by
  refine x_callVi C (CC := "ClassInferenceModel") (ci := 7) (q0 := 7) (fs := fl7 G a r) (As := [.int p0, .int p1]) rfl rfl (cM_isUnder p0 p1 h) (cwV (C := "ClassInferenceModel") 2 C.1.2.2.2.2 (goodV hl wm989 wp35 wm9 wm990) rfl rfl rfl (by decide +kernel) hR) rfl hst hd hcs (fun v w hw => ?_)
  obtain ⟨rfl, h⟩ := hw
  exact k v h.1 h.2
def qM_covers_J93 (a : L_) (r : S_) (KB5 : Int32 → Int32 → Int32 → Int32 → Prop) (KX99 : Int32 → Prop) (v1 : Int32) (v2 : Int32) (v3 : Int32) (v4 : Int32) : Prop :=
  KB5 v1 v2 v3 (v4 + 1)
set_option maxRecDepth 100000 in
set_option maxHeartbeats 4000000 in
theorem tM_covers_J93 (C : vx_C p s m args c prog_9_method_14_code 7 (Cond.code yM_covers prog_9_method_14_code 7 (some .boolean) :: wAll) "ClassInferenceModel" D vwCl (tysG G) nwAll A) {a : L_} {r : S_} {KB5 : Int32 → Int32 → Int32 → Int32 → Prop} {KX99 : Int32 → Prop} (kB5 : ∀ (v1 : Int32) (v2 : Int32) (v3 : Int32) (v4 : Int32), KB5 v1 v2 v3 v4 → vx_V p l e { frames := 1, cells := 0, slots := 0, locals := 23 } s m args below meth c A D vwCl 7 0 0 Q (wo G a r) 5 [(0, .ref (ob G 7)), (1, .int v1), (2, .int v2), (3, .int v3), (4, .int v4)] []) (kX99 : ∀ (v3 : Int32), KX99 v3 → vx_V p l e { frames := 1, cells := 0, slots := 0, locals := 23 } s m args below meth c A D vwCl 7 0 0 Q (wo G a r) 99 [(3, .int v3)] []) (v1 : Int32) (v2 : Int32) (v3 : Int32) (v4 : Int32) (h : qM_covers_J93 a r KB5 KX99 v1 v2 v3 v4) : vx_V p l e { frames := 1, cells := 0, slots := 0, locals := 23 } s m args below meth c A D vwCl 7 0 0 Q (wo G a r) 93 [(0, .ref (ob G 7)), (1, .int v1), (2, .int v2), (3, .int v3), (4, .int v4)] [] := by
  unfold qM_covers_J93 at h
  refine x_iinc (j := 4) (v := v4 + 1) C [(4, .int (v4 + 1)), (0, .ref (ob G 7)), (1, .int v1), (2, .int v2), (3, .int v3)] dM_covers_93 rfl rfl (by decide) rfl ?_
  refine x_goto (tgt := 5) C dM_covers_96 (by decide) ?_
  refine x_sub [1, 2, 3, 4, 0] rfl ?_
  exact kB5 v1 v2 v3 (v4 + 1) h
def qM_covers_J70 (a : L_) (r : S_) (KB30 : Int32 → Int32 → Int32 → Int32 → Int32 → Int32 → Prop) (KX78 : Int32 → Int32 → Int32 → Int32 → Int32 → Prop) (v1 : Int32) (v2 : Int32) (v3 : Int32) (v4 : Int32) (v6 : Int32) (u0 : Int32) : Prop :=
  KB30 v1 v2 v3 v4 u0 (v6 + 1)
set_option maxRecDepth 100000 in
set_option maxHeartbeats 4000000 in
theorem tM_covers_J70 (C : vx_C p s m args c prog_9_method_14_code 7 (Cond.code yM_covers prog_9_method_14_code 7 (some .boolean) :: wAll) "ClassInferenceModel" D vwCl (tysG G) nwAll A) {a : L_} {r : S_} {KB30 : Int32 → Int32 → Int32 → Int32 → Int32 → Int32 → Prop} {KX78 : Int32 → Int32 → Int32 → Int32 → Int32 → Prop} (kB30 : ∀ (v1 : Int32) (v2 : Int32) (v3 : Int32) (v4 : Int32) (v5 : Int32) (v6 : Int32), KB30 v1 v2 v3 v4 v5 v6 → vx_V p l e { frames := 1, cells := 0, slots := 0, locals := 23 } s m args below meth c A D vwCl 7 0 0 Q (wo G a r) 30 [(0, .ref (ob G 7)), (1, .int v1), (2, .int v2), (3, .int v3), (4, .int v4), (5, .int v5), (6, .int v6)] []) (kX78 : ∀ (v1 : Int32) (v2 : Int32) (v3 : Int32) (v4 : Int32) (v5 : Int32), KX78 v1 v2 v3 v4 v5 → vx_V p l e { frames := 1, cells := 0, slots := 0, locals := 23 } s m args below meth c A D vwCl 7 0 0 Q (wo G a r) 78 [(0, .ref (ob G 7)), (1, .int v1), (2, .int v2), (3, .int v3), (4, .int v4), (5, .int v5)] []) (v1 : Int32) (v2 : Int32) (v3 : Int32) (v4 : Int32) (v6 : Int32) (u0 : Int32) (h : qM_covers_J70 a r KB30 KX78 v1 v2 v3 v4 v6 u0) : vx_V p l e { frames := 1, cells := 0, slots := 0, locals := 23 } s m args below meth c A D vwCl 7 0 0 Q (wo G a r) 70 [(0, .ref (ob G 7)), (1, .int v1), (2, .int v2), (3, .int v3), (4, .int v4), (6, .int v6)] [.int u0] := by
  unfold qM_covers_J70 at h
  refine x_istore C [(5, .int u0), (0, .ref (ob G 7)), (1, .int v1), (2, .int v2), (3, .int v3), (4, .int v4), (6, .int v6)] dM_covers_70 (by decide) rfl ?_
  refine x_iinc (j := 6) (v := v6 + 1) C [(6, .int (v6 + 1)), (5, .int u0), (0, .ref (ob G 7)), (1, .int v1), (2, .int v2), (3, .int v3), (4, .int v4)] dM_covers_72 rfl rfl (by decide) rfl ?_
  refine x_goto (tgt := 30) C dM_covers_75 (by decide) ?_
  refine x_sub [2, 3, 4, 5, 6, 1, 0] rfl ?_
  exact kB30 v1 v2 v3 v4 u0 (v6 + 1) h
def qM_covers_J65 (a : L_) (r : S_) (KB30 : Int32 → Int32 → Int32 → Int32 → Int32 → Int32 → Prop) (KX78 : Int32 → Int32 → Int32 → Int32 → Int32 → Prop) (v1 : Int32) (v2 : Int32) (v3 : Int32) (v4 : Int32) (v6 : Int32) : Prop :=
  qM_covers_J70 a r KB30 KX78 v1 v2 v3 v4 v6 1
set_option maxRecDepth 100000 in
set_option maxHeartbeats 4000000 in
theorem tM_covers_J65 (C : vx_C p s m args c prog_9_method_14_code 7 (Cond.code yM_covers prog_9_method_14_code 7 (some .boolean) :: wAll) "ClassInferenceModel" D vwCl (tysG G) nwAll A) {a : L_} {r : S_} {KB30 : Int32 → Int32 → Int32 → Int32 → Int32 → Int32 → Prop} {KX78 : Int32 → Int32 → Int32 → Int32 → Int32 → Prop} (kB30 : ∀ (v1 : Int32) (v2 : Int32) (v3 : Int32) (v4 : Int32) (v5 : Int32) (v6 : Int32), KB30 v1 v2 v3 v4 v5 v6 → vx_V p l e { frames := 1, cells := 0, slots := 0, locals := 23 } s m args below meth c A D vwCl 7 0 0 Q (wo G a r) 30 [(0, .ref (ob G 7)), (1, .int v1), (2, .int v2), (3, .int v3), (4, .int v4), (5, .int v5), (6, .int v6)] []) (kX78 : ∀ (v1 : Int32) (v2 : Int32) (v3 : Int32) (v4 : Int32) (v5 : Int32), KX78 v1 v2 v3 v4 v5 → vx_V p l e { frames := 1, cells := 0, slots := 0, locals := 23 } s m args below meth c A D vwCl 7 0 0 Q (wo G a r) 78 [(0, .ref (ob G 7)), (1, .int v1), (2, .int v2), (3, .int v3), (4, .int v4), (5, .int v5)] []) (v1 : Int32) (v2 : Int32) (v3 : Int32) (v4 : Int32) (v6 : Int32) (h : qM_covers_J65 a r KB30 KX78 v1 v2 v3 v4 v6) : vx_V p l e { frames := 1, cells := 0, slots := 0, locals := 23 } s m args below meth c A D vwCl 7 0 0 Q (wo G a r) 65 [(0, .ref (ob G 7)), (1, .int v1), (2, .int v2), (3, .int v3), (4, .int v4), (6, .int v6)] [] := by
  unfold qM_covers_J65 at h
  refine x_iconst (v := 1) C dM_covers_65 (by decide) ?_
  refine x_goto (tgt := 70) C dM_covers_66 (by decide) ?_
  refine x_sub [0, 1, 2, 3, 4, 5] rfl ?_
  exact tM_covers_J70 C kB30 kX78 v1 v2 v3 v4 v6 1 h
def qM_covers_J69 (a : L_) (r : S_) (KB30 : Int32 → Int32 → Int32 → Int32 → Int32 → Int32 → Prop) (KX78 : Int32 → Int32 → Int32 → Int32 → Int32 → Prop) (v1 : Int32) (v2 : Int32) (v3 : Int32) (v4 : Int32) (v6 : Int32) : Prop :=
  qM_covers_J70 a r KB30 KX78 v1 v2 v3 v4 v6 0
set_option maxRecDepth 100000 in
set_option maxHeartbeats 4000000 in
theorem tM_covers_J69 (C : vx_C p s m args c prog_9_method_14_code 7 (Cond.code yM_covers prog_9_method_14_code 7 (some .boolean) :: wAll) "ClassInferenceModel" D vwCl (tysG G) nwAll A) {a : L_} {r : S_} {KB30 : Int32 → Int32 → Int32 → Int32 → Int32 → Int32 → Prop} {KX78 : Int32 → Int32 → Int32 → Int32 → Int32 → Prop} (kB30 : ∀ (v1 : Int32) (v2 : Int32) (v3 : Int32) (v4 : Int32) (v5 : Int32) (v6 : Int32), KB30 v1 v2 v3 v4 v5 v6 → vx_V p l e { frames := 1, cells := 0, slots := 0, locals := 23 } s m args below meth c A D vwCl 7 0 0 Q (wo G a r) 30 [(0, .ref (ob G 7)), (1, .int v1), (2, .int v2), (3, .int v3), (4, .int v4), (5, .int v5), (6, .int v6)] []) (kX78 : ∀ (v1 : Int32) (v2 : Int32) (v3 : Int32) (v4 : Int32) (v5 : Int32), KX78 v1 v2 v3 v4 v5 → vx_V p l e { frames := 1, cells := 0, slots := 0, locals := 23 } s m args below meth c A D vwCl 7 0 0 Q (wo G a r) 78 [(0, .ref (ob G 7)), (1, .int v1), (2, .int v2), (3, .int v3), (4, .int v4), (5, .int v5)] []) (v1 : Int32) (v2 : Int32) (v3 : Int32) (v4 : Int32) (v6 : Int32) (h : qM_covers_J69 a r KB30 KX78 v1 v2 v3 v4 v6) : vx_V p l e { frames := 1, cells := 0, slots := 0, locals := 23 } s m args below meth c A D vwCl 7 0 0 Q (wo G a r) 69 [(0, .ref (ob G 7)), (1, .int v1), (2, .int v2), (3, .int v3), (4, .int v4), (6, .int v6)] [] := by
  unfold qM_covers_J69 at h
  refine x_iconst (v := 0) C dM_covers_69 (by decide) ?_
  refine x_sub [0, 1, 2, 3, 4, 5] rfl ?_
  exact tM_covers_J70 C kB30 kX78 v1 v2 v3 v4 v6 0 h
def qM_covers_L30 (a : L_) (r : S_) (KX78 : Int32 → Int32 → Int32 → Int32 → Int32 → Prop) : Nat → Int32 → Int32 → Int32 → Int32 → Int32 → Int32 → Prop
  | 0, _, _, _, _, _, _ => False
  | n + 1, v1, v2, v3, v4, v5, v6 => (((fi r 23) ≤ v6) → KX78 v1 v2 v3 v4 v5) ∧ ((¬ (fi r 23) ≤ v6) → ((¬ v5 = 0) → qM_covers_J65 a r (qM_covers_L30 a r KX78 n) KX78 v1 v2 v3 v4 v6) ∧ ((v5 = 0) → ((¬ ((v1 >>> (v6 &&& 31)) &&& 1) = 1) → qM_covers_J69 a r (qM_covers_L30 a r KX78 n) KX78 v1 v2 v3 v4 v6) ∧ ((((v1 >>> (v6 &&& 31)) &&& 1) = 1) → qM_isUnder a r (fun z6 => zb z6 → ((z6 = 0) → qM_covers_J69 a r (qM_covers_L30 a r KX78 n) KX78 v1 v2 v3 v4 v6) ∧ ((¬ z6 = 0) → qM_covers_J65 a r (qM_covers_L30 a r KX78 n) KX78 v1 v2 v3 v4 v6)) v6 v4)))
set_option maxRecDepth 100000 in
set_option maxHeartbeats 4000000 in
theorem tM_covers_L30 (C : vx_C p s m args c prog_9_method_14_code 7 (Cond.code yM_covers prog_9_method_14_code 7 (some .boolean) :: wAll) "ClassInferenceModel" D vwCl (tysG G) nwAll A) {a : L_} {r : S_} {KX78 : Int32 → Int32 → Int32 → Int32 → Int32 → Prop} (kX78 : ∀ (v1 : Int32) (v2 : Int32) (v3 : Int32) (v4 : Int32) (v5 : Int32), KX78 v1 v2 v3 v4 v5 → vx_V p l e { frames := 1, cells := 0, slots := 0, locals := 23 } s m args below meth c A D vwCl 7 0 0 Q (wo G a r) 78 [(0, .ref (ob G 7)), (1, .int v1), (2, .int v2), (3, .int v3), (4, .int v4), (5, .int v5)] []) : ∀ (n : Nat) (v1 : Int32) (v2 : Int32) (v3 : Int32) (v4 : Int32) (v5 : Int32) (v6 : Int32), qM_covers_L30 a r KX78 n v1 v2 v3 v4 v5 v6 → vx_V p l e { frames := 1, cells := 0, slots := 0, locals := 23 } s m args below meth c A D vwCl 7 0 0 Q (wo G a r) 30 [(0, .ref (ob G 7)), (1, .int v1), (2, .int v2), (3, .int v3), (4, .int v4), (5, .int v5), (6, .int v6)] [] := by
  intro n
  induction n with
  | zero =>
    intro v1 v2 v3 v4 v5 v6 h
    exact (by rw [qM_covers_L30] at h; exact h : False).elim
  | succ n kB30 =>
    intro v1 v2 v3 v4 v5 v6 h
    rw [qM_covers_L30] at h
    refine x_iload C dM_covers_30 6 rfl ?_
    refine x_aload_n C dM_covers_32 rfl 0 rfl ?_
    refine gf_7_8 C (List.mem_cons_of_mem _ wm724) dM_covers_33 ?_
    refine x_icmp_ge (tgt := 78) C dM_covers_36 (by decide) (fun g3 => ?_) (fun g3 => ?_)
    · have h := h.1 g3
      refine x_sub [0, 1, 2, 3, 4, 5] rfl ?_
      exact kX78 v1 v2 v3 v4 v5 h
    · have h := h.2 g3
      refine x_iload C dM_covers_39 5 rfl ?_
      refine x_if_ne (tgt := 65) C dM_covers_41 (by decide) (fun g4 => ?_) (fun g4 => ?_)
      · have h := h.1 g4
        refine x_sub [0, 1, 2, 3, 4, 6] rfl ?_
        exact tM_covers_J65 C kB30 kX78 v1 v2 v3 v4 v6 h
      · have h := h.2 g4
        refine x_iload_n C dM_covers_44 rfl 1 rfl ?_
        refine x_iload C dM_covers_45 6 rfl ?_
        refine x_ishr C dM_covers_47 ?_
        refine x_iconst (v := 1) C dM_covers_48 (by decide) ?_
        refine x_iand C dM_covers_49 ?_
        refine x_iconst (v := 1) C dM_covers_50 (by decide) ?_
        refine x_icmp_ne (tgt := 69) C dM_covers_51 (by decide) (fun g5 => ?_) (fun g5 => ?_)
        · have h := h.1 g5
          refine x_sub [0, 1, 2, 3, 4, 6] rfl ?_
          exact tM_covers_J69 C kB30 kX78 v1 v2 v3 v4 v6 h
        · have h := h.2 g5
          refine x_aload_n C dM_covers_54 rfl 0 rfl ?_
          refine x_iload C dM_covers_55 6 rfl ?_
          refine x_iload C dM_covers_57 4 rfl ?_
          refine kM_isUnder C wm987 ⟨Nat.le_of_ble_eq_true rfl, Nat.le_of_ble_eq_true rfl⟩ (Nat.le_of_ble_eq_true rfl) dM_covers_59 ⟨Nat.zero_le _, Nat.zero_le _⟩ h (fun z6 hzz6 h => ?_)
          have h := h hzz6
          refine x_if_eq (tgt := 69) C dM_covers_62 (by decide) (fun g7 => ?_) (fun g7 => ?_)
          · have h := h.1 g7
            refine x_sub [0, 1, 2, 3, 4, 6] rfl ?_
            exact tM_covers_J69 C kB30 kX78 v1 v2 v3 v4 v6 h
          · have h := h.2 g7
            refine x_sub [0, 1, 2, 3, 4, 6] rfl ?_
            exact tM_covers_J65 C kB30 kX78 v1 v2 v3 v4 v6 h
def qM_covers_J92 (a : L_) (r : S_) (KB5 : Int32 → Int32 → Int32 → Int32 → Prop) (KX99 : Int32 → Prop) (v1 : Int32) (v2 : Int32) (v4 : Int32) (u0 : Int32) : Prop :=
  qM_covers_J93 a r KB5 KX99 v1 v2 u0 v4
set_option maxRecDepth 100000 in
set_option maxHeartbeats 4000000 in
theorem tM_covers_J92 (C : vx_C p s m args c prog_9_method_14_code 7 (Cond.code yM_covers prog_9_method_14_code 7 (some .boolean) :: wAll) "ClassInferenceModel" D vwCl (tysG G) nwAll A) {a : L_} {r : S_} {KB5 : Int32 → Int32 → Int32 → Int32 → Prop} {KX99 : Int32 → Prop} (kB5 : ∀ (v1 : Int32) (v2 : Int32) (v3 : Int32) (v4 : Int32), KB5 v1 v2 v3 v4 → vx_V p l e { frames := 1, cells := 0, slots := 0, locals := 23 } s m args below meth c A D vwCl 7 0 0 Q (wo G a r) 5 [(0, .ref (ob G 7)), (1, .int v1), (2, .int v2), (3, .int v3), (4, .int v4)] []) (kX99 : ∀ (v3 : Int32), KX99 v3 → vx_V p l e { frames := 1, cells := 0, slots := 0, locals := 23 } s m args below meth c A D vwCl 7 0 0 Q (wo G a r) 99 [(3, .int v3)] []) (v1 : Int32) (v2 : Int32) (v4 : Int32) (u0 : Int32) (h : qM_covers_J92 a r KB5 KX99 v1 v2 v4 u0) : vx_V p l e { frames := 1, cells := 0, slots := 0, locals := 23 } s m args below meth c A D vwCl 7 0 0 Q (wo G a r) 92 [(0, .ref (ob G 7)), (1, .int v1), (2, .int v2), (4, .int v4)] [.int u0] := by
  unfold qM_covers_J92 at h
  refine x_istore_n C [(3, .int u0), (0, .ref (ob G 7)), (1, .int v1), (2, .int v2), (4, .int v4)] dM_covers_92 rfl (by decide) rfl ?_
  refine x_sub [1, 2, 3, 0, 4] rfl ?_
  exact tM_covers_J93 C kB5 kX99 v1 v2 u0 v4 h
def qM_covers_J91 (a : L_) (r : S_) (KB5 : Int32 → Int32 → Int32 → Int32 → Prop) (KX99 : Int32 → Prop) (v1 : Int32) (v2 : Int32) (v4 : Int32) : Prop :=
  qM_covers_J92 a r KB5 KX99 v1 v2 v4 0
set_option maxRecDepth 100000 in
set_option maxHeartbeats 4000000 in
theorem tM_covers_J91 (C : vx_C p s m args c prog_9_method_14_code 7 (Cond.code yM_covers prog_9_method_14_code 7 (some .boolean) :: wAll) "ClassInferenceModel" D vwCl (tysG G) nwAll A) {a : L_} {r : S_} {KB5 : Int32 → Int32 → Int32 → Int32 → Prop} {KX99 : Int32 → Prop} (kB5 : ∀ (v1 : Int32) (v2 : Int32) (v3 : Int32) (v4 : Int32), KB5 v1 v2 v3 v4 → vx_V p l e { frames := 1, cells := 0, slots := 0, locals := 23 } s m args below meth c A D vwCl 7 0 0 Q (wo G a r) 5 [(0, .ref (ob G 7)), (1, .int v1), (2, .int v2), (3, .int v3), (4, .int v4)] []) (kX99 : ∀ (v3 : Int32), KX99 v3 → vx_V p l e { frames := 1, cells := 0, slots := 0, locals := 23 } s m args below meth c A D vwCl 7 0 0 Q (wo G a r) 99 [(3, .int v3)] []) (v1 : Int32) (v2 : Int32) (v4 : Int32) (h : qM_covers_J91 a r KB5 KX99 v1 v2 v4) : vx_V p l e { frames := 1, cells := 0, slots := 0, locals := 23 } s m args below meth c A D vwCl 7 0 0 Q (wo G a r) 91 [(0, .ref (ob G 7)), (1, .int v1), (2, .int v2), (4, .int v4)] [] := by
  unfold qM_covers_J91 at h
  refine x_iconst (v := 0) C dM_covers_91 (by decide) ?_
  refine x_sub [0, 1, 2, 3] rfl ?_
  exact tM_covers_J92 C kB5 kX99 v1 v2 v4 0 h
def qM_covers_L5 (a : L_) (r : S_) (KX99 : Int32 → Prop) : Nat → Int32 → Int32 → Int32 → Int32 → Prop
  | 0, _, _, _, _ => False
  | n + 1, v1, v2, v3, v4 => (((fi r 23) ≤ v4) → KX99 v3) ∧ ((¬ (fi r 23) ≤ v4) → ((¬ ((v2 >>> (v4 &&& 31)) &&& 1) = 1) → qM_covers_J93 a r (qM_covers_L5 a r KX99 n) KX99 v1 v2 v3 v4) ∧ ((((v2 >>> (v4 &&& 31)) &&& 1) = 1) → ∃ n10 : Nat, qM_covers_L30 a r (fun v1 v2 v3 v4 v5 => ((v3 = 0) → qM_covers_J91 a r (qM_covers_L5 a r KX99 n) KX99 v1 v2 v4) ∧ ((¬ v3 = 0) → ((v5 = 0) → qM_covers_J91 a r (qM_covers_L5 a r KX99 n) KX99 v1 v2 v4) ∧ ((¬ v5 = 0) → qM_covers_J92 a r (qM_covers_L5 a r KX99 n) KX99 v1 v2 v4 1))) n10 v1 v2 v3 v4 0 0))
set_option maxRecDepth 100000 in
set_option maxHeartbeats 4000000 in
theorem tM_covers_L5 (C : vx_C p s m args c prog_9_method_14_code 7 (Cond.code yM_covers prog_9_method_14_code 7 (some .boolean) :: wAll) "ClassInferenceModel" D vwCl (tysG G) nwAll A) {a : L_} {r : S_} {KX99 : Int32 → Prop} (kX99 : ∀ (v3 : Int32), KX99 v3 → vx_V p l e { frames := 1, cells := 0, slots := 0, locals := 23 } s m args below meth c A D vwCl 7 0 0 Q (wo G a r) 99 [(3, .int v3)] []) : ∀ (n : Nat) (v1 : Int32) (v2 : Int32) (v3 : Int32) (v4 : Int32), qM_covers_L5 a r KX99 n v1 v2 v3 v4 → vx_V p l e { frames := 1, cells := 0, slots := 0, locals := 23 } s m args below meth c A D vwCl 7 0 0 Q (wo G a r) 5 [(0, .ref (ob G 7)), (1, .int v1), (2, .int v2), (3, .int v3), (4, .int v4)] [] := by
  intro n
  induction n with
  | zero =>
    intro v1 v2 v3 v4 h
    exact (by rw [qM_covers_L5] at h; exact h : False).elim
  | succ n kB5 =>
    intro v1 v2 v3 v4 h
    rw [qM_covers_L5] at h
    refine x_iload C dM_covers_5 4 rfl ?_
    refine x_aload_n C dM_covers_7 rfl 0 rfl ?_
    refine gf_7_8 C (List.mem_cons_of_mem _ wm724) dM_covers_8 ?_
    refine x_icmp_ge (tgt := 99) C dM_covers_11 (by decide) (fun g1 => ?_) (fun g1 => ?_)
    · have h := h.1 g1
      refine x_sub [3] rfl ?_
      exact kX99 v3 h
    · have h := h.2 g1
      refine x_iload_n C dM_covers_14 rfl 2 rfl ?_
      refine x_iload C dM_covers_15 4 rfl ?_
      refine x_ishr C dM_covers_17 ?_
      refine x_iconst (v := 1) C dM_covers_18 (by decide) ?_
      refine x_iand C dM_covers_19 ?_
      refine x_iconst (v := 1) C dM_covers_20 (by decide) ?_
      refine x_icmp_ne (tgt := 93) C dM_covers_21 (by decide) (fun g2 => ?_) (fun g2 => ?_)
      · have h := h.1 g2
        refine x_sub [0, 1, 2, 3, 4] rfl ?_
        exact tM_covers_J93 C kB5 kX99 v1 v2 v3 v4 h
      · have h := h.2 g2
        refine x_iconst (v := 0) C dM_covers_24 (by decide) ?_
        refine x_istore C [(5, .int 0), (0, .ref (ob G 7)), (1, .int v1), (2, .int v2), (3, .int v3), (4, .int v4)] dM_covers_25 (by decide) rfl ?_
        refine x_iconst (v := 0) C dM_covers_27 (by decide) ?_
        refine x_istore C [(6, .int 0), (5, .int 0), (0, .ref (ob G 7)), (1, .int v1), (2, .int v2), (3, .int v3), (4, .int v4)] dM_covers_28 (by decide) rfl ?_
        obtain ⟨n10, h⟩ := h
        refine x_sub [2, 3, 4, 5, 6, 1, 0] rfl ?_
        refine tM_covers_L30 C (fun v1 v2 v3 v4 v5 h => ?_) n10 v1 v2 v3 v4 0 0 h
        · refine x_iload_n C dM_covers_78 rfl 3 rfl ?_
          refine x_if_eq (tgt := 91) C dM_covers_79 (by decide) (fun g8 => ?_) (fun g8 => ?_)
          · have h := h.1 g8
            refine x_sub [0, 1, 2, 4] rfl ?_
            exact tM_covers_J91 C kB5 kX99 v1 v2 v4 h
          · have h := h.2 g8
            refine x_iload C dM_covers_82 5 rfl ?_
            refine x_if_eq (tgt := 91) C dM_covers_84 (by decide) (fun g9 => ?_) (fun g9 => ?_)
            · have h := h.1 g9
              refine x_sub [0, 1, 2, 4] rfl ?_
              exact tM_covers_J91 C kB5 kX99 v1 v2 v4 h
            · have h := h.2 g9
              refine x_iconst (v := 1) C dM_covers_87 (by decide) ?_
              refine x_goto (tgt := 92) C dM_covers_88 (by decide) ?_
              refine x_sub [0, 1, 2, 4] rfl ?_
              exact tM_covers_J92 C kB5 kX99 v1 v2 v4 1 h
def qM_covers (a : L_) (r : S_) (K : Int32 → Prop) (p0 : Int32) (p1 : Int32) : Prop :=
  ∃ n12 : Nat, qM_covers_L5 a r (fun v3 => zb v3 ∧ K v3) n12 p0 p1 1 0
set_option maxRecDepth 100000 in
set_option maxHeartbeats 4000000 in
theorem cM_covers {a : L_} {r : S_} {K : Int32 → Prop} (p0 : Int32) (p1 : Int32) (h : qM_covers a r K p0 p1) : vx_Mi l yM_covers (Cond.code yM_covers prog_9_method_14_code 7 (some .boolean) :: wAll) { frames := 1, cells := 0, slots := 0, locals := 23 } D vwCl (tysG G) nwAll (wo G a r) [.ref (ob G 7), .int p0, .int p1] 0 0 (fun v w => w = wo G a r ∧ zb v ∧ K v) := by
  unfold qM_covers at h
  refine x_meti (cc := prog_9_method_14_code) (maxL := 7) (ret := (some .boolean)) (lv0 := [(0, .ref (ob G 7)), (1, .int p0), (2, .int p1)]) (by decide) rfl (Nat.le_of_ble_eq_true rfl) rfl ?_
  intro p e s m args below meth c A C hA hlocks hr
  refine x_iconst (v := 1) C dM_covers_0 (by decide) ?_
  refine x_istore_n C [(3, .int 1), (0, .ref (ob G 7)), (1, .int p0), (2, .int p1)] dM_covers_1 rfl (by decide) rfl ?_
  refine x_iconst (v := 0) C dM_covers_2 (by decide) ?_
  refine x_istore C [(4, .int 0), (3, .int 1), (0, .ref (ob G 7)), (1, .int p0), (2, .int p1)] dM_covers_3 (by decide) rfl ?_
  obtain ⟨n12, h⟩ := h
  refine x_sub [2, 3, 4, 1, 0] rfl ?_
  refine tM_covers_L5 C (fun v3 h => ?_) n12 p0 p1 1 0 h
  · refine x_iload_n C dM_covers_99 rfl 0 rfl ?_
    obtain ⟨g11, h⟩ := h
    exact x_zret C hA hlocks hr (zb_n g11) ⟨rfl, g11, h⟩ dM_covers_100
set_option maxRecDepth 100000 in
set_option maxHeartbeats 4000000 in
theorem kM_covers {p : Program} {l : Launch} {e : Env} {R : Room} {s : State} {m : MethodId} {args : Array Value} {below : List Frame} {meth : Method} {c : Code} {cells slots : Nat} {Q : State → Prop} {A : Nat → Prop} {D : va_G} {nL pc : Nat} {cc : ByteArray} {cw : Cond} {own : String} {lv : List (Nat × Value)} {st : List Value} {G : G_} {a : L_} {r : S_} {K : Int32 → Prop} {p0 : Int32} {p1 : Int32} (C : vx_C p s m args c cc nL (cw :: wAll) own D vwCl (tysG G) nwAll A) {i : Nat} (hl : Cond.methodLink own i yM_covers ∈ wAll) (hR : 1 + 1 ≤ R.frames ∧ 8 + (7 + 11) + 23 ≤ R.locals) (hst : (st.map fun v => v.category).sum ≤ 8) (hd : decode cc pc = .ok (.invokevirtual i, 3)) (hcs : cells ≤ R.cells ∧ slots ≤ R.slots) (h : qM_covers a r K p0 p1) (k : ∀ (v : Int32), zb v → K v → vx_V p l e R s m args below meth c A D vwCl nL cells slots Q (wo G a r) (pc + 3) lv (.int v :: st)) : vx_V p l e R s m args below meth c A D vwCl nL cells slots Q (wo G a r) pc lv (.int p1 :: .int p0 :: .ref (ob G 7) :: st) := by
  refine x_callVi C (CC := "ClassInferenceModel") (ci := 7) (q0 := 7) (fs := fl7 G a r) (As := [.int p0, .int p1]) rfl rfl (cM_covers p0 p1 h) (cwV (C := "ClassInferenceModel") 2 C.1.2.2.2.2 (goodV hl wm985 wp34 wm9 wm986) rfl rfl rfl (by decide +kernel) hR) rfl hst hd hcs (fun v w hw => ?_)
  obtain ⟨rfl, h⟩ := hw
  exact k v h.1 h.2
end MTH
