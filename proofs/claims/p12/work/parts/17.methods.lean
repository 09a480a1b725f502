section MTH
variable {p : Program} {l : Launch} {e : Env} {s : State} {m : MethodId} {args : Array Value} {below : List Frame} {meth : Method} {c : Code} {Q : State → Prop} {A : Nat → Prop} {D : va_G} {G : G_} {ws0 : va_W}
def qY_handDown_J82 (a : L_) (K : S_ → Prop) (r : S_) (v2 : Int32) (v3 : Int32) (v5 : Int32) : Prop :=
  ((v5 = (-1)) → K r) ∧ ((¬ v5 = (-1)) → vp_in v5 (ln a 29) ∧ qK_joined a r 11 (fun z11 => vp_in v5 (ln a 29) ∧ ∀ r13 : S_, r13 = sA r 29 (upd (ar r 29) v5.toNatClampNeg ((ar r 29 v5.toNatClampNeg) ||| z11)) → K r13) v2 v3)
set_option maxRecDepth 100000 in
set_option maxHeartbeats 4000000 in
theorem tY_handDown_J82 (C : vx_C p s m args c prog_7_method_19_code 6 (Cond.code yY_handDown prog_7_method_19_code 6 none :: wAll) "ClassInference$Typer" D vwCl (tysG G) nwAll A) (hA : A = va_A ws0 s.heap.size) (hlocks : meth.locks = false) (hr : meth.sig.returnType = none) {a : L_} {K : S_ → Prop} (r : S_) (v2 : Int32) (v3 : Int32) (v5 : Int32) (h : qY_handDown_J82 a K r v2 v3 v5) : vx_V p l e { frames := 2, cells := 0, slots := 0, locals := 46 } s m args below meth c A D vwCl 6 0 0 (MQ below (va_Qv (fun w => ∃ r1, w = wo G a r1 ∧ K r1) (vx_B D vwCl (tysG G) A) A) args s 0 0 A) (wo G a r) 82 [(0, .ref (ob G 4)), (2, .int v2), (3, .int v3), (5, .int v5)] [] := by
  unfold qY_handDown_J82 at h
  refine x_iload C dY_handDown_82 3 rfl ?_
  refine x_iconst (v := (-1)) C dY_handDown_84 (by decide) ?_
  refine x_icmp_eq (tgt := 117) C dY_handDown_85 (by decide) (fun g9 => ?_) (fun g9 => ?_)
  · have h := h.1 g9
    exact x_vret C hA hlocks hr ⟨r, rfl, h⟩ dY_handDown_117
  · have h := h.2 g9
    refine x_aload_n C dY_handDown_88 rfl 0 rfl ?_
    refine gf_4_3 C (List.mem_cons_of_mem _ wm203) dY_handDown_89 ?_
    refine gn_5_9 C wn157 dY_handDown_92 ?_
    refine x_iload C dY_handDown_95 3 rfl ?_
    refine x_dup2 C dY_handDown_97 rfl rfl ?_
    obtain ⟨g10, h⟩ := h
    refine y_ia C 29 (by decide) g10 dY_handDown_98 ?_
    refine x_aload_n C dY_handDown_99 rfl 0 rfl ?_
    refine gf_4_1 C (List.mem_cons_of_mem _ wm201) dY_handDown_100 ?_
    refine x_aload_n C dY_handDown_103 rfl 0 rfl ?_
    refine gf_4_1 C (List.mem_cons_of_mem _ wm201) dY_handDown_104 ?_
    refine gn_2_6 C wn78 dY_handDown_107 ?_
    refine x_iload_n C dY_handDown_110 rfl 1 rfl ?_
    refine x_iload_n C dY_handDown_111 rfl 2 rfl ?_
    refine kK_joined C (by decide) wm566 ⟨Nat.le_of_ble_eq_true rfl, Nat.le_of_ble_eq_true rfl⟩ (Nat.le_of_ble_eq_true rfl) dY_handDown_112 ⟨Nat.zero_le _, Nat.zero_le _⟩ h (fun z11 h => ?_)
    refine x_ior C dY_handDown_115 ?_
    obtain ⟨g12, h⟩ := h
    refine y_is C 29 (by decide) g12 dY_handDown_116 (fun r13 er13 => ?_)
    have h := h r13 er13
    exact x_vret C hA hlocks hr ⟨r13, rfl, h⟩ dY_handDown_117
def qY_handDown_J27 (a : L_) (K : S_ → Prop) (r : S_) (v1 : Int32) (v2 : Int32) (v3 : Int32) : Prop :=
  qG_firstOf a (fun z4 r5 => qG_secondOf a (fun z6 r7 => ((z4 = (-1)) → qY_handDown_J82 a K r7 v2 v3 z6) ∧ ((¬ z4 = (-1)) → vp_in z4 (ln a 29) ∧ qK_joined a r7 10 (fun z15 => vp_in z4 (ln a 29) ∧ ∀ r17 : S_, r17 = sA r7 29 (upd (ar r7 29) z4.toNatClampNeg ((ar r7 29 z4.toNatClampNeg) ||| z15)) → qY_handDown_J82 a K r17 v2 v3 z6) v2 v3)) r5 v1) r v1
set_option maxRecDepth 100000 in
set_option maxHeartbeats 4000000 in
theorem tY_handDown_J27 (C : vx_C p s m args c prog_7_method_19_code 6 (Cond.code yY_handDown prog_7_method_19_code 6 none :: wAll) "ClassInference$Typer" D vwCl (tysG G) nwAll A) (hA : A = va_A ws0 s.heap.size) (hlocks : meth.locks = false) (hr : meth.sig.returnType = none) {a : L_} {K : S_ → Prop} (r : S_) (v1 : Int32) (v2 : Int32) (v3 : Int32) (h : qY_handDown_J27 a K r v1 v2 v3) : vx_V p l e { frames := 2, cells := 0, slots := 0, locals := 46 } s m args below meth c A D vwCl 6 0 0 (MQ below (va_Qv (fun w => ∃ r1, w = wo G a r1 ∧ K r1) (vx_B D vwCl (tysG G) A) A) args s 0 0 A) (wo G a r) 27 [(0, .ref (ob G 4)), (1, .int v1), (2, .int v2), (3, .int v3)] [] := by
  unfold qY_handDown_J27 at h
  refine x_aload_n C dY_handDown_27 rfl 0 rfl ?_
  refine gf_4_3 C (List.mem_cons_of_mem _ wm203) dY_handDown_28 ?_
  refine x_iload_n C dY_handDown_31 rfl 1 rfl ?_
  refine kG_firstOf C wm527 ⟨Nat.le_of_ble_eq_true rfl, Nat.le_of_ble_eq_true rfl⟩ (Nat.le_of_ble_eq_true rfl) dY_handDown_32 ⟨Nat.zero_le _, Nat.zero_le _⟩ h (fun z4 r5 h => ?_)
  refine x_istore C [(4, .int z4), (0, .ref (ob G 4)), (1, .int v1), (2, .int v2), (3, .int v3)] dY_handDown_35 (by decide) rfl ?_
  refine x_aload_n C dY_handDown_37 rfl 1 rfl ?_
  refine gf_4_3 C (List.mem_cons_of_mem _ wm203) dY_handDown_38 ?_
  refine x_iload_n C dY_handDown_41 rfl 2 rfl ?_
  refine kG_secondOf C wm535 ⟨Nat.le_of_ble_eq_true rfl, Nat.le_of_ble_eq_true rfl⟩ (Nat.le_of_ble_eq_true rfl) dY_handDown_42 ⟨Nat.zero_le _, Nat.zero_le _⟩ h (fun z6 r7 h => ?_)
  refine x_istore C [(5, .int z6), (4, .int z4), (0, .ref (ob G 4)), (1, .int v1), (2, .int v2), (3, .int v3)] dY_handDown_45 (by decide) rfl ?_
  refine x_iload C dY_handDown_47 1 rfl ?_
  refine x_iconst (v := (-1)) C dY_handDown_49 (by decide) ?_
  refine x_icmp_eq (tgt := 82) C dY_handDown_50 (by decide) (fun g8 => ?_) (fun g8 => ?_)
  · have h := h.1 g8
    refine x_sub [2, 4, 5, 0] rfl ?_
    exact tY_handDown_J82 C hA hlocks hr r7 v2 v3 z6 h
  · have h := h.2 g8
    refine x_aload_n C dY_handDown_53 rfl 2 rfl ?_
    refine gf_4_3 C (List.mem_cons_of_mem _ wm203) dY_handDown_54 ?_
    refine gn_5_9 C wn157 dY_handDown_57 ?_
    refine x_iload C dY_handDown_60 1 rfl ?_
    refine x_dup2 C dY_handDown_62 rfl rfl ?_
    obtain ⟨g14, h⟩ := h
    refine y_ia C 29 (by decide) g14 dY_handDown_63 ?_
    refine x_aload_n C dY_handDown_64 rfl 2 rfl ?_
    refine gf_4_1 C (List.mem_cons_of_mem _ wm201) dY_handDown_65 ?_
    refine x_aload_n C dY_handDown_68 rfl 2 rfl ?_
    refine gf_4_1 C (List.mem_cons_of_mem _ wm201) dY_handDown_69 ?_
    refine gn_2_5 C wn76 dY_handDown_72 ?_
    refine x_iload_n C dY_handDown_75 rfl 4 rfl ?_
    refine x_iload_n C dY_handDown_76 rfl 5 rfl ?_
    refine kK_joined C (by decide) wm566 ⟨Nat.le_of_ble_eq_true rfl, Nat.le_of_ble_eq_true rfl⟩ (Nat.le_of_ble_eq_true rfl) dY_handDown_77 ⟨Nat.zero_le _, Nat.zero_le _⟩ h (fun z15 h => ?_)
    refine x_ior C dY_handDown_80 ?_
    obtain ⟨g16, h⟩ := h
    refine y_is C 29 (by decide) g16 dY_handDown_81 (fun r17 er17 => ?_)
    have h := h r17 er17
    refine x_sub [2, 4, 5, 0] rfl ?_
    exact tY_handDown_J82 C hA hlocks hr r17 v2 v3 z6 h
def qY_handDown (a : L_) (K : S_ → Prop) (r : S_) (p0 : Int32) (p1 : Int32) : Prop :=
  vp_in p0 (ln a 21) ∧ qK_haveInstances a r (fun z2 => zb z2 → ((¬ z2 = 0) → qY_handDown_J27 a K r p0 p1 (ar r 21 p0.toNatClampNeg)) ∧ ((z2 = 0) → zb 1 ∧ ∀ r18 : S_, r18 = sF r 9 1 → qY_handDown_J27 a K r18 p0 p1 (ar r 21 p0.toNatClampNeg))) p1 (ar r 21 p0.toNatClampNeg)
set_option maxRecDepth 100000 in
set_option maxHeartbeats 4000000 in
theorem cY_handDown {a : L_} {r : S_} {K : S_ → Prop} (p0 : Int32) (p1 : Int32) (h : qY_handDown a K r p0 p1) : vx_Mv l yY_handDown (Cond.code yY_handDown prog_7_method_19_code 6 none :: wAll) { frames := 2, cells := 0, slots := 0, locals := 46 } D vwCl (tysG G) nwAll (wo G a r) [.ref (ob G 4), .int p0, .int p1] 0 0 (fun w => ∃ r1, w = wo G a r1 ∧ K r1) := by
  unfold qY_handDown at h
  refine x_metv (cc := prog_7_method_19_code) (maxL := 6) (ret := none) (lv0 := [(0, .ref (ob G 4)), (1, .int p0), (2, .int p1)]) (by decide) rfl (Nat.le_of_ble_eq_true rfl) rfl ?_
  intro p e s m args below meth c A C hA hlocks hr
  refine x_aload_n C dY_handDown_0 rfl 0 rfl ?_
  refine gf_4_3 C (List.mem_cons_of_mem _ wm203) dY_handDown_1 ?_
  refine gn_5_0 C wn140 dY_handDown_4 ?_
  refine x_iload_n C dY_handDown_7 rfl 1 rfl ?_
  obtain ⟨g1, h⟩ := h
  refine y_ia C 21 (by decide) g1 dY_handDown_8 ?_
  refine x_istore_n C [(3, .int (ar r 21 p0.toNatClampNeg)), (0, .ref (ob G 4)), (1, .int p0), (2, .int p1)] dY_handDown_9 rfl (by decide) rfl ?_
  refine x_aload_n C dY_handDown_10 rfl 1 rfl ?_
  refine gf_4_1 C (List.mem_cons_of_mem _ wm201) dY_handDown_11 ?_
  refine x_iload_n C dY_handDown_14 rfl 3 rfl ?_
  refine x_iload_n C dY_handDown_15 rfl 0 rfl ?_
  refine kK_haveInstances C wm562 ⟨Nat.le_of_ble_eq_true rfl, Nat.le_of_ble_eq_true rfl⟩ (Nat.le_of_ble_eq_true rfl) dY_handDown_16 ⟨Nat.zero_le _, Nat.zero_le _⟩ h (fun z2 hzz2 h => ?_)
  have h := h hzz2
  refine x_if_ne (tgt := 27) C dY_handDown_19 (by decide) (fun g3 => ?_) (fun g3 => ?_)
  · have h := h.1 g3
    refine x_sub [1, 2, 3, 0] rfl ?_
    exact tY_handDown_J27 C hA hlocks hr r p0 p1 (ar r 21 p0.toNatClampNeg) h
  · have h := h.2 g3
    refine x_aload_n C dY_handDown_22 rfl 1 rfl ?_
    refine x_iconst (v := 1) C dY_handDown_23 (by decide) ?_
    obtain ⟨g19, h⟩ := h
    refine pf_4_12 C (List.mem_cons_of_mem _ wm212) g19 dY_handDown_24 (fun r18 er18 => ?_)
    have h := h r18 er18
    refine x_sub [1, 2, 3, 0] rfl ?_
    exact tY_handDown_J27 C hA hlocks hr r18 p0 p1 (ar r 21 p0.toNatClampNeg) h
set_option maxRecDepth 100000 in
set_option maxHeartbeats 4000000 in
theorem kY_handDown {p : Program} {l : Launch} {e : Env} {R : Room} {s : State} {m : MethodId} {args : Array Value} {below : List Frame} {meth : Method} {c : Code} {cells slots : Nat} {Q : State → Prop} {A : Nat → Prop} {D : va_G} {nL pc : Nat} {cc : ByteArray} {cw : Cond} {own : String} {lv : List (Nat × Value)} {st : List Value} {G : G_} {a : L_} {r : S_} {K : S_ → Prop} {p0 : Int32} {p1 : Int32} (C : vx_C p s m args c cc nL (cw :: wAll) own D vwCl (tysG G) nwAll A) {i : Nat} (hl : Cond.methodLink own i yY_handDown ∈ wAll) (hR : 2 + 1 ≤ R.frames ∧ 8 + (6 + 11) + 46 ≤ R.locals) (hst : (st.map fun v => v.category).sum ≤ 8) (hd : decode cc pc = .ok (.invokevirtual i, 3)) (hcs : cells ≤ R.cells ∧ slots ≤ R.slots) (h : qY_handDown a K r p0 p1) (k : ∀ (r1 : S_), K r1 → vx_V p l e R s m args below meth c A D vwCl nL cells slots Q (wo G a r1) (pc + 3) lv st) : vx_V p l e R s m args below meth c A D vwCl nL cells slots Q (wo G a r) pc lv (.int p1 :: .int p0 :: .ref (ob G 4) :: st) := by
  refine x_callVv C (CC := "ClassInference$Typer") (ci := 4) (q0 := 4) (fs := fl4 G a r) (As := [.int p0, .int p1]) rfl rfl (cY_handDown p0 p1 h) (cwV (C := "ClassInference$Typer") 2 C.1.2.2.2.2 (goodV hl wm560 wp22 wm6 wm561) rfl rfl rfl (by decide +kernel) hR) rfl hst hd hcs (fun w hw => ?_)
  obtain ⟨r1, rfl, h⟩ := hw
  exact k r1 h
def qY_settle_J120 (a : L_) (KB37 : S_ → Int32 → Int32 → Prop) (KX126 : S_ → Int32 → Prop) (r : S_) (v3 : Int32) (v4 : Int32) : Prop :=
  KB37 r v3 (v4 + (-1))
set_option maxRecDepth 100000 in
set_option maxHeartbeats 4000000 in
theorem tY_settle_J120 (C : vx_C p s m args c prog_7_method_13_code 6 (Cond.code yY_settle prog_7_method_13_code 6 (some .int) :: wAll) "ClassInference$Typer" D vwCl (tysG G) nwAll A) {a : L_} {KB37 : S_ → Int32 → Int32 → Prop} {KX126 : S_ → Int32 → Prop} (kB37 : ∀ (r : S_) (v3 : Int32) (v4 : Int32), KB37 r v3 v4 → vx_V p l e { frames := 3, cells := 0, slots := 0, locals := 71 } s m args below meth c A D vwCl 6 0 0 Q (wo G a r) 37 [(0, .ref (ob G 4)), (3, .int v3), (4, .int v4)] []) (kX126 : ∀ (r : S_) (v3 : Int32), KX126 r v3 → vx_V p l e { frames := 3, cells := 0, slots := 0, locals := 71 } s m args below meth c A D vwCl 6 0 0 Q (wo G a r) 126 [(3, .int v3)] []) (r : S_) (v3 : Int32) (v4 : Int32) (h : qY_settle_J120 a KB37 KX126 r v3 v4) : vx_V p l e { frames := 3, cells := 0, slots := 0, locals := 71 } s m args below meth c A D vwCl 6 0 0 Q (wo G a r) 120 [(0, .ref (ob G 4)), (3, .int v3), (4, .int v4)] [] := by
  unfold qY_settle_J120 at h
  refine x_iinc (j := 2) (v := v4 + (-1)) C [(4, .int (v4 + (-1))), (0, .ref (ob G 4)), (3, .int v3)] dY_settle_120 rfl rfl (by decide) rfl ?_
  refine x_goto (tgt := 37) C dY_settle_123 (by decide) ?_
  refine x_sub [1, 2, 0] rfl ?_
  exact kB37 r v3 (v4 + (-1)) h
def qY_settle_L37 (a : L_) (KX126 : S_ → Int32 → Prop) : Nat → S_ → Int32 → Int32 → Prop
  | 0, _, _, _ => False
  | n + 1, r, v3, v4 => ((v4 < 0) → KX126 r v3) ∧ ((¬ v4 < 0) → vp_in v4 (ln a 30) ∧ vp_in (ar r 30 v4.toNatClampNeg) (ln a 29) ∧ ((¬ (ar r 29 (ar r 30 v4.toNatClampNeg).toNatClampNeg) = 0) → qG_isVariable a r (fun z9 => zb z9 → ((z9 = 0) → vp_in (ar r 30 v4.toNatClampNeg) (ln a 29) ∧ qY_handDown a (fun r12 => qY_settle_J120 a (qY_settle_L37 a KX126 n) KX126 r12 v3 v4) r (ar r 30 v4.toNatClampNeg) (ar r 29 (ar r 30 v4.toNatClampNeg).toNatClampNeg)) ∧ ((¬ z9 = 0) → vp_in (ar r 30 v4.toNatClampNeg) (ln a 29) ∧ qY_settleVariable a (fun z14 r15 => qY_settle_J120 a (qY_settle_L37 a KX126 n) KX126 r15 (v3 + z14) v4) r (ar r 30 v4.toNatClampNeg) (ar r 29 (ar r 30 v4.toNatClampNeg).toNatClampNeg))) (ar r 30 v4.toNatClampNeg)) ∧ (((ar r 29 (ar r 30 v4.toNatClampNeg).toNatClampNeg) = 0) → qY_settle_J120 a (qY_settle_L37 a KX126 n) KX126 r v3 v4))
set_option maxRecDepth 100000 in
set_option maxHeartbeats 4000000 in
theorem tY_settle_L37 (C : vx_C p s m args c prog_7_method_13_code 6 (Cond.code yY_settle prog_7_method_13_code 6 (some .int) :: wAll) "ClassInference$Typer" D vwCl (tysG G) nwAll A) {a : L_} {KX126 : S_ → Int32 → Prop} (kX126 : ∀ (r : S_) (v3 : Int32), KX126 r v3 → vx_V p l e { frames := 3, cells := 0, slots := 0, locals := 71 } s m args below meth c A D vwCl 6 0 0 Q (wo G a r) 126 [(3, .int v3)] []) : ∀ (n : Nat) (r : S_) (v3 : Int32) (v4 : Int32), qY_settle_L37 a KX126 n r v3 v4 → vx_V p l e { frames := 3, cells := 0, slots := 0, locals := 71 } s m args below meth c A D vwCl 6 0 0 Q (wo G a r) 37 [(0, .ref (ob G 4)), (3, .int v3), (4, .int v4)] [] := by
  intro n
  induction n with
  | zero =>
    intro r v3 v4 h
    exact (by rw [qY_settle_L37] at h; exact h : False).elim
  | succ n kB37 =>
    intro r v3 v4 h
    rw [qY_settle_L37] at h
    refine x_iload C dY_settle_37 2 rfl ?_
    refine x_if_lt (tgt := 126) C dY_settle_39 (by decide) (fun g5 => ?_) (fun g5 => ?_)
    · have h := h.1 g5
      refine x_sub [1] rfl ?_
      exact kX126 r v3 h
    · have h := h.2 g5
      refine x_aload_n C dY_settle_42 rfl 0 rfl ?_
      refine gf_4_3 C (List.mem_cons_of_mem _ wm203) dY_settle_43 ?_
      refine gn_5_10 C wn159 dY_settle_46 ?_
      refine x_iload C dY_settle_49 2 rfl ?_
      obtain ⟨g6, h⟩ := h
      refine y_ia C 30 (by decide) g6 dY_settle_51 ?_
      refine x_istore C [(5, .int (ar r 30 v4.toNatClampNeg)), (0, .ref (ob G 4)), (3, .int v3), (4, .int v4)] dY_settle_52 (by decide) rfl ?_
      refine x_aload_n C dY_settle_54 rfl 1 rfl ?_
      refine gf_4_3 C (List.mem_cons_of_mem _ wm203) dY_settle_55 ?_
      refine gn_5_9 C wn157 dY_settle_58 ?_
      refine x_iload C dY_settle_61 0 rfl ?_
      obtain ⟨g7, h⟩ := h
      refine y_ia C 29 (by decide) g7 dY_settle_63 ?_
      refine x_if_ne (tgt := 70) C dY_settle_64 (by decide) (fun g8 => ?_) (fun g8 => ?_)
      · have h := h.1 g8
        refine x_aload_n C dY_settle_70 rfl 1 rfl ?_
        refine gf_4_3 C (List.mem_cons_of_mem _ wm203) dY_settle_71 ?_
        refine x_iload C dY_settle_74 0 rfl ?_
        refine kG_isVariable C wm526 ⟨Nat.le_of_ble_eq_true rfl, Nat.le_of_ble_eq_true rfl⟩ (Nat.le_of_ble_eq_true rfl) dY_settle_76 ⟨Nat.zero_le _, Nat.zero_le _⟩ h (fun z9 hzz9 h => ?_)
        have h := h hzz9
        refine x_if_eq (tgt := 104) C dY_settle_79 (by decide) (fun g10 => ?_) (fun g10 => ?_)
        · have h := h.1 g10
          refine x_aload_n C dY_settle_104 rfl 1 rfl ?_
          refine x_iload C dY_settle_105 0 rfl ?_
          refine x_aload_n C dY_settle_107 rfl 1 rfl ?_
          refine gf_4_3 C (List.mem_cons_of_mem _ wm203) dY_settle_108 ?_
          refine gn_5_9 C wn157 dY_settle_111 ?_
          refine x_iload C dY_settle_114 0 rfl ?_
          obtain ⟨g11, h⟩ := h
          refine y_ia C 29 (by decide) g11 dY_settle_116 ?_
          refine kY_handDown C wm558 ⟨Nat.le_of_ble_eq_true rfl, Nat.le_of_ble_eq_true rfl⟩ (Nat.le_of_ble_eq_true rfl) dY_settle_117 ⟨Nat.zero_le _, Nat.zero_le _⟩ h (fun r12 h => ?_)
          refine x_sub [1, 2, 3] rfl ?_
          exact tY_settle_J120 C kB37 kX126 r12 v3 v4 h
        · have h := h.2 g10
          refine x_iload_n C dY_settle_82 rfl 2 rfl ?_
          refine x_aload_n C dY_settle_83 rfl 1 rfl ?_
          refine x_iload C dY_settle_84 0 rfl ?_
          refine x_aload_n C dY_settle_86 rfl 1 rfl ?_
          refine gf_4_3 C (List.mem_cons_of_mem _ wm203) dY_settle_87 ?_
          refine gn_5_9 C wn157 dY_settle_90 ?_
          refine x_iload C dY_settle_93 0 rfl ?_
          obtain ⟨g13, h⟩ := h
          refine y_ia C 29 (by decide) g13 dY_settle_95 ?_
          refine kY_settleVariable C wm544 ⟨Nat.le_of_ble_eq_true rfl, Nat.le_of_ble_eq_true rfl⟩ (Nat.le_of_ble_eq_true rfl) dY_settle_96 ⟨Nat.zero_le _, Nat.zero_le _⟩ h (fun z14 r15 h => ?_)
          refine x_iadd C dY_settle_99 ?_
          refine x_istore_n C [(3, .int (v3 + z14)), (5, .int (ar r 30 v4.toNatClampNeg)), (0, .ref (ob G 4)), (4, .int v4)] dY_settle_100 rfl (by decide) rfl ?_
          refine x_goto (tgt := 120) C dY_settle_101 (by decide) ?_
          refine x_sub [2, 0, 3] rfl ?_
          exact tY_settle_J120 C kB37 kX126 r15 (v3 + z14) v4 h
      · have h := h.2 g8
        refine x_goto (tgt := 120) C dY_settle_67 (by decide) ?_
        refine x_sub [1, 2, 3] rfl ?_
        exact tY_settle_J120 C kB37 kX126 r v3 v4 h
def qY_settle (a : L_) (K : Int32 → S_ → Prop) (r : S_) (p0 : Int32) (p1 : Int32) : Prop :=
  ∀ r1 : S_, r1 = sF r 6 ((fi r 6) + 1) → qY_markBound a (fun r2 => qY_markOpen a (fun r3 => qY_gatherAsked a (fun r4 => ∃ n16 : Nat, qY_settle_L37 a (fun r v3 => K v3 r) n16 r4 0 ((fi r4 12) - 1)) r3 p0) r2 p1) r1
set_option maxRecDepth 100000 in
set_option maxHeartbeats 4000000 in
theorem cY_settle {a : L_} {r : S_} {K : Int32 → S_ → Prop} (p0 : Int32) (p1 : Int32) (h : qY_settle a K r p0 p1) : vx_Mi l yY_settle (Cond.code yY_settle prog_7_method_13_code 6 (some .int) :: wAll) { frames := 3, cells := 0, slots := 0, locals := 71 } D vwCl (tysG G) nwAll (wo G a r) [.ref (ob G 4), .int p0, .int p1] 0 0 (fun v w => ∃ r1, w = wo G a r1 ∧ K v r1) := by
  unfold qY_settle at h
  refine x_meti (cc := prog_7_method_13_code) (maxL := 6) (ret := (some .int)) (lv0 := [(0, .ref (ob G 4)), (1, .int p0), (2, .int p1)]) (by decide) rfl (Nat.le_of_ble_eq_true rfl) rfl ?_
  intro p e s m args below meth c A C hA hlocks hr
  refine x_aload_n C dY_settle_0 rfl 0 rfl ?_
  refine x_dup C dY_settle_1 rfl ?_
  refine gf_4_9 C (List.mem_cons_of_mem _ wm209) dY_settle_2 ?_
  refine x_iconst (v := 1) C dY_settle_5 (by decide) ?_
  refine x_iadd C dY_settle_6 ?_
  refine pf_4_9 C (List.mem_cons_of_mem _ wm209) dY_settle_7 (fun r1 er1 => ?_)
  have h := h r1 er1
  refine x_aload_n C dY_settle_10 rfl 0 rfl ?_
  refine kY_markBound C wm510 ⟨Nat.le_of_ble_eq_true rfl, Nat.le_of_ble_eq_true rfl⟩ (Nat.le_of_ble_eq_true rfl) dY_settle_11 ⟨Nat.zero_le _, Nat.zero_le _⟩ h (fun r2 h => ?_)
  refine x_aload_n C dY_settle_14 rfl 0 rfl ?_
  refine x_iload_n C dY_settle_15 rfl 2 rfl ?_
  refine kY_markOpen C wm522 ⟨Nat.le_of_ble_eq_true rfl, Nat.le_of_ble_eq_true rfl⟩ (Nat.le_of_ble_eq_true rfl) dY_settle_16 ⟨Nat.zero_le _, Nat.zero_le _⟩ h (fun r3 h => ?_)
  refine x_aload_n C dY_settle_19 rfl 0 rfl ?_
  refine x_iload_n C dY_settle_20 rfl 1 rfl ?_
  refine kY_gatherAsked C wm539 ⟨Nat.le_of_ble_eq_true rfl, Nat.le_of_ble_eq_true rfl⟩ (Nat.le_of_ble_eq_true rfl) dY_settle_21 ⟨Nat.zero_le _, Nat.zero_le _⟩ h (fun r4 h => ?_)
  refine x_iconst (v := 0) C dY_settle_24 (by decide) ?_
  refine x_istore_n C [(3, .int 0), (0, .ref (ob G 4)), (1, .int p0), (2, .int p1)] dY_settle_25 rfl (by decide) rfl ?_
  refine x_aload_n C dY_settle_26 rfl 1 rfl ?_
  refine gf_4_3 C (List.mem_cons_of_mem _ wm203) dY_settle_27 ?_
  refine gn_5_11 C wn160 dY_settle_30 ?_
  refine x_iconst (v := 1) C dY_settle_33 (by decide) ?_
  refine x_isub C dY_settle_34 ?_
  refine x_istore C [(4, .int ((fi r4 12) - 1)), (3, .int 0), (0, .ref (ob G 4)), (1, .int p0), (2, .int p1)] dY_settle_35 (by decide) rfl ?_
  obtain ⟨n16, h⟩ := h
  refine x_sub [2, 1, 0] rfl ?_
  refine tY_settle_L37 C (fun r v3 h => ?_) n16 r4 0 ((fi r4 12) - 1) h
  · refine x_iload_n C dY_settle_126 rfl 0 rfl ?_
    exact x_iret C hA hlocks hr ⟨r, rfl, h⟩ dY_settle_127
set_option maxRecDepth 100000 in
set_option maxHeartbeats 4000000 in
theorem kY_settle {p : Program} {l : Launch} {e : Env} {R : Room} {s : State} {m : MethodId} {args : Array Value} {below : List Frame} {meth : Method} {c : Code} {cells slots : Nat} {Q : State → Prop} {A : Nat → Prop} {D : va_G} {nL pc : Nat} {cc : ByteArray} {cw : Cond} {own : String} {lv : List (Nat × Value)} {st : List Value} {G : G_} {a : L_} {r : S_} {K : Int32 → S_ → Prop} {p0 : Int32} {p1 : Int32} (C : vx_C p s m args c cc nL (cw :: wAll) own D vwCl (tysG G) nwAll A) {i : Nat} (hl : Cond.methodLink own i yY_settle ∈ wAll) (hR : 3 + 1 ≤ R.frames ∧ 8 + (6 + 11) + 71 ≤ R.locals) (hst : (st.map fun v => v.category).sum ≤ 8) (hd : decode cc pc = .ok (.invokevirtual i, 3)) (hcs : cells ≤ R.cells ∧ slots ≤ R.slots) (h : qY_settle a K r p0 p1) (k : ∀ (v : Int32) (r1 : S_), K v r1 → vx_V p l e R s m args below meth c A D vwCl nL cells slots Q (wo G a r1) (pc + 3) lv (.int v :: st)) : vx_V p l e R s m args below meth c A D vwCl nL cells slots Q (wo G a r) pc lv (.int p1 :: .int p0 :: .ref (ob G 4) :: st) := by
  refine x_callVi C (CC := "ClassInference$Typer") (ci := 4) (q0 := 4) (fs := fl4 G a r) (As := [.int p0, .int p1]) rfl rfl (cY_settle p0 p1 h) (cwV (C := "ClassInference$Typer") 2 C.1.2.2.2.2 (goodV hl wm508 wp16 wm6 wm509) rfl rfl rfl (by decide +kernel) hR) rfl hst hd hcs (fun v w hw => ?_)
  obtain ⟨r1, rfl, h⟩ := hw
  exact k v r1 h
def qG_clear (a : L_) (K : S_ → Prop) (r : S_) : Prop :=
  ∀ r1 : S_, r1 = sF r 11 0 → zb 0 ∧ ∀ r2 : S_, r2 = sF r1 15 0 → K r2
set_option maxRecDepth 100000 in
set_option maxHeartbeats 4000000 in
theorem cG_clear {a : L_} {r : S_} {K : S_ → Prop} (h : qG_clear a K r ) : vx_Mv l yG_clear (Cond.code yG_clear prog_4_method_2_code 1 none :: wAll) { frames := 0, cells := 0, slots := 0, locals := 0 } D vwCl (tysG G) nwAll (wo G a r) [.ref (ob G 5)] 0 0 (fun w => ∃ r1, w = wo G a r1 ∧ K r1) := by
  unfold qG_clear at h
  refine x_metv (cc := prog_4_method_2_code) (maxL := 1) (ret := none) (lv0 := [(0, .ref (ob G 5))]) (by decide) rfl (Nat.le_of_ble_eq_true rfl) rfl ?_
  intro p e s m args below meth c A C hA hlocks hr
  refine x_aload_n C dG_clear_0 rfl 0 rfl ?_
  refine x_iconst (v := 0) C dG_clear_1 (by decide) ?_
  refine pf_5_7 C (List.mem_cons_of_mem _ wm153) dG_clear_2 (fun r1 er1 => ?_)
  have h := h r1 er1
  refine x_aload_n C dG_clear_5 rfl 0 rfl ?_
  refine x_iconst (v := 0) C dG_clear_6 (by decide) ?_
  obtain ⟨g3, h⟩ := h
  refine pf_5_15 C (List.mem_cons_of_mem _ wm165) g3 dG_clear_7 (fun r2 er2 => ?_)
  have h := h r2 er2
  exact x_vret C hA hlocks hr ⟨r2, rfl, h⟩ dG_clear_10
set_option maxRecDepth 100000 in
set_option maxHeartbeats 4000000 in
theorem kG_clear {p : Program} {l : Launch} {e : Env} {R : Room} {s : State} {m : MethodId} {args : Array Value} {below : List Frame} {meth : Method} {c : Code} {cells slots : Nat} {Q : State → Prop} {A : Nat → Prop} {D : va_G} {nL pc : Nat} {cc : ByteArray} {cw : Cond} {own : String} {lv : List (Nat × Value)} {st : List Value} {G : G_} {a : L_} {r : S_} {K : S_ → Prop} (C : vx_C p s m args c cc nL (cw :: wAll) own D vwCl (tysG G) nwAll A) {i : Nat} (hl : Cond.methodLink own i yG_clear ∈ wAll) (hR : 0 + 1 ≤ R.frames ∧ 8 + (1 + 11) + 0 ≤ R.locals) (hst : (st.map fun v => v.category).sum ≤ 8) (hd : decode cc pc = .ok (.invokevirtual i, 3)) (hcs : cells ≤ R.cells ∧ slots ≤ R.slots) (h : qG_clear a K r ) (k : ∀ (r1 : S_), K r1 → vx_V p l e R s m args below meth c A D vwCl nL cells slots Q (wo G a r1) (pc + 3) lv st) : vx_V p l e R s m args below meth c A D vwCl nL cells slots Q (wo G a r) pc lv (.ref (ob G 5) :: st) := by
  refine x_callVv C (CC := "ClassInference$Graph") (ci := 5) (q0 := 5) (fs := fl5 G a r) (As := []) rfl rfl (cG_clear  h) (cwV (C := "ClassInference$Graph") 0 C.1.2.2.2.2 (goodV hl wm428 wm429 wm7 wm430) rfl rfl rfl (by decide +kernel) hR) rfl hst hd hcs (fun w hw => ?_)
  obtain ⟨r1, rfl, h⟩ := hw
  exact k r1 h
def qG_pushPair (a : L_) (K : S_ → Prop) (r : S_) (p0 : Int32) (p1 : Int32) : Prop :=
  ((p0 = (-1)) → K r) ∧ ((¬ p0 = (-1)) → ((p1 = (-1)) → K r) ∧ ((¬ p1 = (-1)) → qG_push a (fun r3 => qG_push a (fun r4 => K r4) r3 p1) r p0))
set_option maxRecDepth 100000 in
set_option maxHeartbeats 4000000 in
theorem cG_pushPair {a : L_} {r : S_} {K : S_ → Prop} (p0 : Int32) (p1 : Int32) (h : qG_pushPair a K r p0 p1) : vx_Mv l yG_pushPair (Cond.code yG_pushPair prog_4_method_12_code 3 none :: wAll) { frames := 1, cells := 0, slots := 0, locals := 21 } D vwCl (tysG G) nwAll (wo G a r) [.ref (ob G 5), .int p0, .int p1] 0 0 (fun w => ∃ r1, w = wo G a r1 ∧ K r1) := by
  unfold qG_pushPair at h
  refine x_metv (cc := prog_4_method_12_code) (maxL := 3) (ret := none) (lv0 := [(0, .ref (ob G 5)), (1, .int p0), (2, .int p1)]) (by decide) rfl (Nat.le_of_ble_eq_true rfl) rfl ?_
  intro p e s m args below meth c A C hA hlocks hr
  refine x_iload_n C dG_pushPair_0 rfl 1 rfl ?_
  refine x_iconst (v := (-1)) C dG_pushPair_1 (by decide) ?_
  refine x_icmp_eq (tgt := 20) C dG_pushPair_2 (by decide) (fun g1 => ?_) (fun g1 => ?_)
  · have h := h.1 g1
    exact x_vret C hA hlocks hr ⟨r, rfl, h⟩ dG_pushPair_20
  · have h := h.2 g1
    refine x_iload_n C dG_pushPair_5 rfl 2 rfl ?_
    refine x_iconst (v := (-1)) C dG_pushPair_6 (by decide) ?_
    refine x_icmp_eq (tgt := 20) C dG_pushPair_7 (by decide) (fun g2 => ?_) (fun g2 => ?_)
    · have h := h.1 g2
      exact x_vret C hA hlocks hr ⟨r, rfl, h⟩ dG_pushPair_20
    · have h := h.2 g2
      refine x_aload_n C dG_pushPair_10 rfl 0 rfl ?_
      refine x_iload_n C dG_pushPair_11 rfl 1 rfl ?_
      refine kG_push C wm481 ⟨Nat.le_of_ble_eq_true rfl, Nat.le_of_ble_eq_true rfl⟩ (Nat.le_of_ble_eq_true rfl) dG_pushPair_12 ⟨Nat.zero_le _, Nat.zero_le _⟩ h (fun r3 h => ?_)
      refine x_aload_n C dG_pushPair_15 rfl 0 rfl ?_
      refine x_iload_n C dG_pushPair_16 rfl 2 rfl ?_
      refine kG_push C wm481 ⟨Nat.le_of_ble_eq_true rfl, Nat.le_of_ble_eq_true rfl⟩ (Nat.le_of_ble_eq_true rfl) dG_pushPair_17 ⟨Nat.zero_le _, Nat.zero_le _⟩ h (fun r4 h => ?_)
      exact x_vret C hA hlocks hr ⟨r4, rfl, h⟩ dG_pushPair_20
set_option maxRecDepth 100000 in
set_option maxHeartbeats 4000000 in
theorem kG_pushPair {p : Program} {l : Launch} {e : Env} {R : Room} {s : State} {m : MethodId} {args : Array Value} {below : List Frame} {meth : Method} {c : Code} {cells slots : Nat} {Q : State → Prop} {A : Nat → Prop} {D : va_G} {nL pc : Nat} {cc : ByteArray} {cw : Cond} {own : String} {lv : List (Nat × Value)} {st : List Value} {G : G_} {a : L_} {r : S_} {K : S_ → Prop} {p0 : Int32} {p1 : Int32} (C : vx_C p s m args c cc nL (cw :: wAll) own D vwCl (tysG G) nwAll A) {i : Nat} (hl : Cond.methodLink own i yG_pushPair ∈ wAll) (hR : 1 + 1 ≤ R.frames ∧ 8 + (3 + 11) + 21 ≤ R.locals) (hst : (st.map fun v => v.category).sum ≤ 8) (hd : decode cc pc = .ok (.invokevirtual i, 3)) (hcs : cells ≤ R.cells ∧ slots ≤ R.slots) (h : qG_pushPair a K r p0 p1) (k : ∀ (r1 : S_), K r1 → vx_V p l e R s m args below meth c A D vwCl nL cells slots Q (wo G a r1) (pc + 3) lv st) : vx_V p l e R s m args below meth c A D vwCl nL cells slots Q (wo G a r) pc lv (.int p1 :: .int p0 :: .ref (ob G 5) :: st) := by
  refine x_callVv C (CC := "ClassInference$Graph") (ci := 5) (q0 := 5) (fs := fl5 G a r) (As := [.int p0, .int p1]) rfl rfl (cG_pushPair p0 p1 h) (cwV (C := "ClassInference$Graph") 2 C.1.2.2.2.2 (goodV hl wm479 wp11 wm7 wm480) rfl rfl rfl (by decide +kernel) hR) rfl hst hd hcs (fun w hw => ?_)
  obtain ⟨r1, rfl, h⟩ := hw
  exact k r1 h
def qG_move (a : L_) (K : S_ → Prop) (r : S_) (p0 : Int32) (p1 : Int32) : Prop :=
  vp_in p0 (ln a 21) ∧ ∀ r2 : S_, r2 = sA r 21 (upd (ar r 21) p0.toNatClampNeg (-2)) → vp_in p0 (ln a 22) ∧ ∀ r4 : S_, r4 = sA r2 22 (upd (ar r2 22) p0.toNatClampNeg p1) → K r4
set_option maxRecDepth 100000 in
set_option maxHeartbeats 4000000 in
theorem cG_move {a : L_} {r : S_} {K : S_ → Prop} (p0 : Int32) (p1 : Int32) (h : qG_move a K r p0 p1) : vx_Mv l yG_move (Cond.code yG_move prog_4_method_11_code 3 none :: wAll) { frames := 0, cells := 0, slots := 0, locals := 0 } D vwCl (tysG G) nwAll (wo G a r) [.ref (ob G 5), .int p0, .int p1] 0 0 (fun w => ∃ r1, w = wo G a r1 ∧ K r1) := by
  unfold qG_move at h
  refine x_metv (cc := prog_4_method_11_code) (maxL := 3) (ret := none) (lv0 := [(0, .ref (ob G 5)), (1, .int p0), (2, .int p1)]) (by decide) rfl (Nat.le_of_ble_eq_true rfl) rfl ?_
  intro p e s m args below meth c A C hA hlocks hr
  refine x_aload_n C dG_move_0 rfl 0 rfl ?_
  refine gf_5_0 C (List.mem_cons_of_mem _ wm139) dG_move_1 ?_
  refine x_iload_n C dG_move_4 rfl 1 rfl ?_
  refine x_bipush (v := (-2)) C dG_move_5 (by decide) ?_
  obtain ⟨g1, h⟩ := h
  refine y_is C 21 (by decide) g1 dG_move_7 (fun r2 er2 => ?_)
  have h := h r2 er2
  refine x_aload_n C dG_move_8 rfl 0 rfl ?_
  refine gf_5_1 C (List.mem_cons_of_mem _ wm141) dG_move_9 ?_
  refine x_iload_n C dG_move_12 rfl 1 rfl ?_
  refine x_iload_n C dG_move_13 rfl 2 rfl ?_
  obtain ⟨g3, h⟩ := h
  refine y_is C 22 (by decide) g3 dG_move_14 (fun r4 er4 => ?_)
  have h := h r4 er4
  exact x_vret C hA hlocks hr ⟨r4, rfl, h⟩ dG_move_15
set_option maxRecDepth 100000 in
set_option maxHeartbeats 4000000 in
theorem kG_move {p : Program} {l : Launch} {e : Env} {R : Room} {s : State} {m : MethodId} {args : Array Value} {below : List Frame} {meth : Method} {c : Code} {cells slots : Nat} {Q : State → Prop} {A : Nat → Prop} {D : va_G} {nL pc : Nat} {cc : ByteArray} {cw : Cond} {own : String} {lv : List (Nat × Value)} {st : List Value} {G : G_} {a : L_} {r : S_} {K : S_ → Prop} {p0 : Int32} {p1 : Int32} (C : vx_C p s m args c cc nL (cw :: wAll) own D vwCl (tysG G) nwAll A) {i : Nat} (hl : Cond.methodLink own i yG_move ∈ wAll) (hR : 0 + 1 ≤ R.frames ∧ 8 + (3 + 11) + 0 ≤ R.locals) (hst : (st.map fun v => v.category).sum ≤ 8) (hd : decode cc pc = .ok (.invokevirtual i, 3)) (hcs : cells ≤ R.cells ∧ slots ≤ R.slots) (h : qG_move a K r p0 p1) (k : ∀ (r1 : S_), K r1 → vx_V p l e R s m args below meth c A D vwCl nL cells slots Q (wo G a r1) (pc + 3) lv st) : vx_V p l e R s m args below meth c A D vwCl nL cells slots Q (wo G a r) pc lv (.int p1 :: .int p0 :: .ref (ob G 5) :: st) := by
  refine x_callVv C (CC := "ClassInference$Graph") (ci := 5) (q0 := 5) (fs := fl5 G a r) (As := [.int p0, .int p1]) rfl rfl (cG_move p0 p1 h) (cwV (C := "ClassInference$Graph") 2 C.1.2.2.2.2 (goodV hl wm500 wp14 wm7 wm501) rfl rfl rfl (by decide +kernel) hR) rfl hst hd hcs (fun w hw => ?_)
  obtain ⟨r1, rfl, h⟩ := hw
  exact k r1 h
def qG_unifyTops (a : L_) (K : S_ → Prop) (r : S_) (p0 : Int32) (p1 : Int32) : Prop :=
  ((¬ p0 = p1) → qG_isVariable a r (fun z2 => zb z2 → ((z2 = 0) → qG_isVariable a r (fun z4 => zb z4 → ((z4 = 0) → vp_in p0 (ln a 21) ∧ vp_in p1 (ln a 21) ∧ (((ar r 21 p0.toNatClampNeg) = (ar r 21 p1.toNatClampNeg)) → vp_in p0 (ln a 23) ∧ vp_in p1 (ln a 23) ∧ qG_pushPair a (fun r11 => vp_in p0 (ln a 22) ∧ vp_in p1 (ln a 22) ∧ qG_pushPair a (fun r14 => qG_move a (fun r15 => K r15) r14 p0 p1) r11 (ar r11 22 p0.toNatClampNeg) (ar r11 22 p1.toNatClampNeg)) r (ar r 23 p0.toNatClampNeg) (ar r 23 p1.toNatClampNeg)) ∧ ((¬ (ar r 21 p0.toNatClampNeg) = (ar r 21 p1.toNatClampNeg)) → zb 1 ∧ ∀ r16 : S_, r16 = sF r 15 1 → K r16)) ∧ ((¬ z4 = 0) → qG_move a (fun r18 => K r18) r p1 p0)) p1) ∧ ((¬ z2 = 0) → qG_move a (fun r19 => K r19) r p0 p1)) p0) ∧ ((p0 = p1) → K r)
set_option maxRecDepth 100000 in
set_option maxHeartbeats 4000000 in
theorem cG_unifyTops {a : L_} {r : S_} {K : S_ → Prop} (p0 : Int32) (p1 : Int32) (h : qG_unifyTops a K r p0 p1) : vx_Mv l yG_unifyTops (Cond.code yG_unifyTops prog_4_method_10_code 3 none :: wAll) { frames := 2, cells := 0, slots := 0, locals := 43 } D vwCl (tysG G) nwAll (wo G a r) [.ref (ob G 5), .int p0, .int p1] 0 0 (fun w => ∃ r1, w = wo G a r1 ∧ K r1) := by
  unfold qG_unifyTops at h
  refine x_metv (cc := prog_4_method_10_code) (maxL := 3) (ret := none) (lv0 := [(0, .ref (ob G 5)), (1, .int p0), (2, .int p1)]) (by decide) rfl (Nat.le_of_ble_eq_true rfl) rfl ?_
  intro p e s m args below meth c A C hA hlocks hr
  refine x_iload_n C dG_unifyTops_0 rfl 1 rfl ?_
  refine x_iload_n C dG_unifyTops_1 rfl 2 rfl ?_
  refine x_icmp_ne (tgt := 6) C dG_unifyTops_2 (by decide) (fun g1 => ?_) (fun g1 => ?_)
  · have h := h.1 g1
    refine x_aload_n C dG_unifyTops_6 rfl 0 rfl ?_
    refine x_iload_n C dG_unifyTops_7 rfl 1 rfl ?_
    refine kG_isVariable C wm494 ⟨Nat.le_of_ble_eq_true rfl, Nat.le_of_ble_eq_true rfl⟩ (Nat.le_of_ble_eq_true rfl) dG_unifyTops_8 ⟨Nat.zero_le _, Nat.zero_le _⟩ h (fun z2 hzz2 h => ?_)
    have h := h hzz2
    refine x_if_eq (tgt := 23) C dG_unifyTops_11 (by decide) (fun g3 => ?_) (fun g3 => ?_)
    · have h := h.1 g3
      refine x_aload_n C dG_unifyTops_23 rfl 0 rfl ?_
      refine x_iload_n C dG_unifyTops_24 rfl 2 rfl ?_
      refine kG_isVariable C wm494 ⟨Nat.le_of_ble_eq_true rfl, Nat.le_of_ble_eq_true rfl⟩ (Nat.le_of_ble_eq_true rfl) dG_unifyTops_25 ⟨Nat.zero_le _, Nat.zero_le _⟩ h (fun z4 hzz4 h => ?_)
      have h := h hzz4
      refine x_if_eq (tgt := 40) C dG_unifyTops_28 (by decide) (fun g5 => ?_) (fun g5 => ?_)
      · have h := h.1 g5
        refine x_aload_n C dG_unifyTops_40 rfl 0 rfl ?_
        refine gf_5_0 C (List.mem_cons_of_mem _ wm139) dG_unifyTops_41 ?_
        refine x_iload_n C dG_unifyTops_44 rfl 1 rfl ?_
        obtain ⟨g6, h⟩ := h
        refine y_ia C 21 (by decide) g6 dG_unifyTops_45 ?_
        refine x_aload_n C dG_unifyTops_46 rfl 0 rfl ?_
        refine gf_5_0 C (List.mem_cons_of_mem _ wm139) dG_unifyTops_47 ?_
        refine x_iload_n C dG_unifyTops_50 rfl 2 rfl ?_
        obtain ⟨g7, h⟩ := h
        refine y_ia C 21 (by decide) g7 dG_unifyTops_51 ?_
        refine x_icmp_eq (tgt := 63) C dG_unifyTops_52 (by decide) (fun g8 => ?_) (fun g8 => ?_)
        · have h := h.1 g8
          refine x_aload_n C dG_unifyTops_63 rfl 0 rfl ?_
          refine x_aload_n C dG_unifyTops_64 rfl 0 rfl ?_
          refine gf_5_2 C (List.mem_cons_of_mem _ wm143) dG_unifyTops_65 ?_
          refine x_iload_n C dG_unifyTops_68 rfl 1 rfl ?_
          obtain ⟨g9, h⟩ := h
          refine y_ia C 23 (by decide) g9 dG_unifyTops_69 ?_
          refine x_aload_n C dG_unifyTops_70 rfl 0 rfl ?_
          refine gf_5_2 C (List.mem_cons_of_mem _ wm143) dG_unifyTops_71 ?_
          refine x_iload_n C dG_unifyTops_74 rfl 2 rfl ?_
          obtain ⟨g10, h⟩ := h
          refine y_ia C 23 (by decide) g10 dG_unifyTops_75 ?_
          refine kG_pushPair C wm477 ⟨Nat.le_of_ble_eq_true rfl, Nat.le_of_ble_eq_true rfl⟩ (Nat.le_of_ble_eq_true rfl) dG_unifyTops_76 ⟨Nat.zero_le _, Nat.zero_le _⟩ h (fun r11 h => ?_)
          refine x_aload_n C dG_unifyTops_79 rfl 0 rfl ?_
          refine x_aload_n C dG_unifyTops_80 rfl 0 rfl ?_
          refine gf_5_1 C (List.mem_cons_of_mem _ wm141) dG_unifyTops_81 ?_
          refine x_iload_n C dG_unifyTops_84 rfl 1 rfl ?_
          obtain ⟨g12, h⟩ := h
          refine y_ia C 22 (by decide) g12 dG_unifyTops_85 ?_
          refine x_aload_n C dG_unifyTops_86 rfl 0 rfl ?_
          refine gf_5_1 C (List.mem_cons_of_mem _ wm141) dG_unifyTops_87 ?_
          refine x_iload_n C dG_unifyTops_90 rfl 2 rfl ?_
          obtain ⟨g13, h⟩ := h
          refine y_ia C 22 (by decide) g13 dG_unifyTops_91 ?_
          refine kG_pushPair C wm477 ⟨Nat.le_of_ble_eq_true rfl, Nat.le_of_ble_eq_true rfl⟩ (Nat.le_of_ble_eq_true rfl) dG_unifyTops_92 ⟨Nat.zero_le _, Nat.zero_le _⟩ h (fun r14 h => ?_)
          refine x_aload_n C dG_unifyTops_95 rfl 0 rfl ?_
          refine x_iload_n C dG_unifyTops_96 rfl 1 rfl ?_
          refine x_iload_n C dG_unifyTops_97 rfl 2 rfl ?_
          refine kG_move C wm498 ⟨Nat.le_of_ble_eq_true rfl, Nat.le_of_ble_eq_true rfl⟩ (Nat.le_of_ble_eq_true rfl) dG_unifyTops_98 ⟨Nat.zero_le _, Nat.zero_le _⟩ h (fun r15 h => ?_)
          exact x_vret C hA hlocks hr ⟨r15, rfl, h⟩ dG_unifyTops_101
        · have h := h.2 g8
          refine x_aload_n C dG_unifyTops_55 rfl 0 rfl ?_
          refine x_iconst (v := 1) C dG_unifyTops_56 (by decide) ?_
          obtain ⟨g17, h⟩ := h
          refine pf_5_15 C (List.mem_cons_of_mem _ wm165) g17 dG_unifyTops_57 (fun r16 er16 => ?_)
          have h := h r16 er16
          refine x_goto (tgt := 101) C dG_unifyTops_60 (by decide) ?_
          exact x_vret C hA hlocks hr ⟨r16, rfl, h⟩ dG_unifyTops_101
      · have h := h.2 g5
        refine x_aload_n C dG_unifyTops_31 rfl 0 rfl ?_
        refine x_iload_n C dG_unifyTops_32 rfl 2 rfl ?_
        refine x_iload_n C dG_unifyTops_33 rfl 1 rfl ?_
        refine kG_move C wm498 ⟨Nat.le_of_ble_eq_true rfl, Nat.le_of_ble_eq_true rfl⟩ (Nat.le_of_ble_eq_true rfl) dG_unifyTops_34 ⟨Nat.zero_le _, Nat.zero_le _⟩ h (fun r18 h => ?_)
        refine x_goto (tgt := 101) C dG_unifyTops_37 (by decide) ?_
        exact x_vret C hA hlocks hr ⟨r18, rfl, h⟩ dG_unifyTops_101
    · have h := h.2 g3
      refine x_aload_n C dG_unifyTops_14 rfl 0 rfl ?_
      refine x_iload_n C dG_unifyTops_15 rfl 1 rfl ?_
      refine x_iload_n C dG_unifyTops_16 rfl 2 rfl ?_
      refine kG_move C wm498 ⟨Nat.le_of_ble_eq_true rfl, Nat.le_of_ble_eq_true rfl⟩ (Nat.le_of_ble_eq_true rfl) dG_unifyTops_17 ⟨Nat.zero_le _, Nat.zero_le _⟩ h (fun r19 h => ?_)
      refine x_goto (tgt := 101) C dG_unifyTops_20 (by decide) ?_
      exact x_vret C hA hlocks hr ⟨r19, rfl, h⟩ dG_unifyTops_101
  · have h := h.2 g1
    exact x_vret C hA hlocks hr ⟨r, rfl, h⟩ dG_unifyTops_5
set_option maxRecDepth 100000 in
set_option maxHeartbeats 4000000 in
theorem kG_unifyTops {p : Program} {l : Launch} {e : Env} {R : Room} {s : State} {m : MethodId} {args : Array Value} {below : List Frame} {meth : Method} {c : Code} {cells slots : Nat} {Q : State → Prop} {A : Nat → Prop} {D : va_G} {nL pc : Nat} {cc : ByteArray} {cw : Cond} {own : String} {lv : List (Nat × Value)} {st : List Value} {G : G_} {a : L_} {r : S_} {K : S_ → Prop} {p0 : Int32} {p1 : Int32} (C : vx_C p s m args c cc nL (cw :: wAll) own D vwCl (tysG G) nwAll A) {i : Nat} (hl : Cond.methodLink own i yG_unifyTops ∈ wAll) (hR : 2 + 1 ≤ R.frames ∧ 8 + (3 + 11) + 43 ≤ R.locals) (hst : (st.map fun v => v.category).sum ≤ 8) (hd : decode cc pc = .ok (.invokevirtual i, 3)) (hcs : cells ≤ R.cells ∧ slots ≤ R.slots) (h : qG_unifyTops a K r p0 p1) (k : ∀ (r1 : S_), K r1 → vx_V p l e R s m args below meth c A D vwCl nL cells slots Q (wo G a r1) (pc + 3) lv st) : vx_V p l e R s m args below meth c A D vwCl nL cells slots Q (wo G a r) pc lv (.int p1 :: .int p0 :: .ref (ob G 5) :: st) := by
  refine x_callVv C (CC := "ClassInference$Graph") (ci := 5) (q0 := 5) (fs := fl5 G a r) (As := [.int p0, .int p1]) rfl rfl (cG_unifyTops p0 p1 h) (cwV (C := "ClassInference$Graph") 2 C.1.2.2.2.2 (goodV hl wm492 wp13 wm7 wm493) rfl rfl rfl (by decide +kernel) hR) rfl hst hd hcs (fun w hw => ?_)
  obtain ⟨r1, rfl, h⟩ := hw
  exact k r1 h
end MTH
