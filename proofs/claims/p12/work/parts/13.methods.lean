section MTH
variable {p : Program} {l : Launch} {e : Env} {s : State} {m : MethodId} {args : Array Value} {below : List Frame} {meth : Method} {c : Code} {Q : State → Prop} {A : Nat → Prop} {D : va_G} {G : G_} {ws0 : va_W}
def qE_nodesOfParts (a : L_) (r : S_) (K : Int32 → Prop) (p0 : Int32) : Prop :=
  vp_in p0 (ln a 12) ∧ ((ar r 12 p0.toNatClampNeg) = 1 → vp_in p0 (ln a 14) ∧ vp_in (ar r 14 p0.toNatClampNeg) (ln a 16) ∧ K (ar r 16 (ar r 14 p0.toNatClampNeg).toNatClampNeg)) ∧ ((ar r 12 p0.toNatClampNeg) = 2 → vp_in p0 (ln a 13) ∧ vp_in (ar r 13 p0.toNatClampNeg) (ln a 16) ∧ vp_in p0 (ln a 14) ∧ vp_in (ar r 14 p0.toNatClampNeg) (ln a 16) ∧ K ((ar r 16 (ar r 13 p0.toNatClampNeg).toNatClampNeg) + (ar r 16 (ar r 14 p0.toNatClampNeg).toNatClampNeg))) ∧ ((ar r 12 p0.toNatClampNeg) = 3 → vp_in p0 (ln a 14) ∧ vp_in (ar r 14 p0.toNatClampNeg) (ln a 16) ∧ vp_in p0 (ln a 15) ∧ vp_in (ar r 15 p0.toNatClampNeg) (ln a 16) ∧ K ((ar r 16 (ar r 14 p0.toNatClampNeg).toNatClampNeg) + (ar r 16 (ar r 15 p0.toNatClampNeg).toNatClampNeg))) ∧ (((ar r 12 p0.toNatClampNeg).toInt < 1 ∨ 3 < (ar r 12 p0.toNatClampNeg).toInt) → K 0)
set_option maxRecDepth 100000 in
set_option maxHeartbeats 4000000 in
theorem cE_nodesOfParts {a : L_} {r : S_} {K : Int32 → Prop} (p0 : Int32) (h : qE_nodesOfParts a r K p0) : vx_Mi l yE_nodesOfParts (Cond.code yE_nodesOfParts prog_3_method_5_code 2 (some .int) :: wAll) { frames := 0, cells := 0, slots := 0, locals := 0 } D vwCl (tysG G) nwAll (wo G a r) [.ref (ob G 3), .int p0] 0 0 (fun v w => w = wo G a r ∧ K v) := by
  unfold qE_nodesOfParts at h
  refine x_meti (cc := prog_3_method_5_code) (maxL := 2) (ret := (some .int)) (lv0 := [(0, .ref (ob G 3)), (1, .int p0)]) (by decide) rfl (Nat.le_of_ble_eq_true rfl) rfl ?_
  intro p e s m args below meth c A C hA hlocks hr
  refine x_aload_n C dE_nodesOfParts_0 rfl 0 rfl ?_
  refine gf_3_0 C (List.mem_cons_of_mem _ wm103) dE_nodesOfParts_1 ?_
  refine x_iload_n C dE_nodesOfParts_4 rfl 1 rfl ?_
  obtain ⟨g1, h⟩ := h
  refine y_ia C 12 (by decide) g1 dE_nodesOfParts_5 ?_
  by_cases hn0 : (ar r 12 p0.toNatClampNeg) = 1
  · have h := h.1 hn0
    refine x_tableIn (off := 26) (tgt := 32) C dE_nodesOfParts_6 (by rw [hn0]; decide) (by rw [hn0]; decide) (by rw [hn0]; decide) (by decide) ?_
    refine x_aload_n C dE_nodesOfParts_32 rfl 0 rfl ?_
    refine gf_3_4 C (List.mem_cons_of_mem _ wm111) dE_nodesOfParts_33 ?_
    refine x_aload_n C dE_nodesOfParts_36 rfl 0 rfl ?_
    refine gf_3_2 C (List.mem_cons_of_mem _ wm107) dE_nodesOfParts_37 ?_
    refine x_iload_n C dE_nodesOfParts_40 rfl 1 rfl ?_
    obtain ⟨g2, h⟩ := h
    refine y_ia C 14 (by decide) g2 dE_nodesOfParts_41 ?_
    obtain ⟨g3, h⟩ := h
    refine y_ia C 16 (by decide) g3 dE_nodesOfParts_42 ?_
    exact x_iret C hA hlocks hr ⟨rfl, h⟩ dE_nodesOfParts_43
  · by_cases hn1 : (ar r 12 p0.toNatClampNeg) = 2
    · have h := h.2.1 hn1
      refine x_tableIn (off := 38) (tgt := 44) C dE_nodesOfParts_6 (by rw [hn1]; decide) (by rw [hn1]; decide) (by rw [hn1]; decide) (by decide) ?_
      refine x_aload_n C dE_nodesOfParts_44 rfl 0 rfl ?_
      refine gf_3_4 C (List.mem_cons_of_mem _ wm111) dE_nodesOfParts_45 ?_
      refine x_aload_n C dE_nodesOfParts_48 rfl 0 rfl ?_
      refine gf_3_1 C (List.mem_cons_of_mem _ wm105) dE_nodesOfParts_49 ?_
      refine x_iload_n C dE_nodesOfParts_52 rfl 1 rfl ?_
      obtain ⟨g4, h⟩ := h
      refine y_ia C 13 (by decide) g4 dE_nodesOfParts_53 ?_
      obtain ⟨g5, h⟩ := h
      refine y_ia C 16 (by decide) g5 dE_nodesOfParts_54 ?_
      refine x_aload_n C dE_nodesOfParts_55 rfl 0 rfl ?_
      refine gf_3_4 C (List.mem_cons_of_mem _ wm111) dE_nodesOfParts_56 ?_
      refine x_aload_n C dE_nodesOfParts_59 rfl 0 rfl ?_
      refine gf_3_2 C (List.mem_cons_of_mem _ wm107) dE_nodesOfParts_60 ?_
      refine x_iload_n C dE_nodesOfParts_63 rfl 1 rfl ?_
      obtain ⟨g6, h⟩ := h
      refine y_ia C 14 (by decide) g6 dE_nodesOfParts_64 ?_
      obtain ⟨g7, h⟩ := h
      refine y_ia C 16 (by decide) g7 dE_nodesOfParts_65 ?_
      refine x_iadd C dE_nodesOfParts_66 ?_
      exact x_iret C hA hlocks hr ⟨rfl, h⟩ dE_nodesOfParts_67
    · by_cases hn2 : (ar r 12 p0.toNatClampNeg) = 3
      · have h := h.2.2.1 hn2
        refine x_tableIn (off := 62) (tgt := 68) C dE_nodesOfParts_6 (by rw [hn2]; decide) (by rw [hn2]; decide) (by rw [hn2]; decide) (by decide) ?_
        refine x_aload_n C dE_nodesOfParts_68 rfl 0 rfl ?_
        refine gf_3_4 C (List.mem_cons_of_mem _ wm111) dE_nodesOfParts_69 ?_
        refine x_aload_n C dE_nodesOfParts_72 rfl 0 rfl ?_
        refine gf_3_2 C (List.mem_cons_of_mem _ wm107) dE_nodesOfParts_73 ?_
        refine x_iload_n C dE_nodesOfParts_76 rfl 1 rfl ?_
        obtain ⟨g8, h⟩ := h
        refine y_ia C 14 (by decide) g8 dE_nodesOfParts_77 ?_
        obtain ⟨g9, h⟩ := h
        refine y_ia C 16 (by decide) g9 dE_nodesOfParts_78 ?_
        refine x_aload_n C dE_nodesOfParts_79 rfl 0 rfl ?_
        refine gf_3_4 C (List.mem_cons_of_mem _ wm111) dE_nodesOfParts_80 ?_
        refine x_aload_n C dE_nodesOfParts_83 rfl 0 rfl ?_
        refine gf_3_3 C (List.mem_cons_of_mem _ wm109) dE_nodesOfParts_84 ?_
        refine x_iload_n C dE_nodesOfParts_87 rfl 1 rfl ?_
        obtain ⟨g10, h⟩ := h
        refine y_ia C 15 (by decide) g10 dE_nodesOfParts_88 ?_
        obtain ⟨g11, h⟩ := h
        refine y_ia C 16 (by decide) g11 dE_nodesOfParts_89 ?_
        refine x_iadd C dE_nodesOfParts_90 ?_
        exact x_iret C hA hlocks hr ⟨rfl, h⟩ dE_nodesOfParts_91
      · have ho : (ar r 12 p0.toNatClampNeg).toInt < 1 ∨ 3 < (ar r 12 p0.toNatClampNeg).toInt := by
          have hq : ∀ k : Int32, ¬ (ar r 12 p0.toNatClampNeg) = k → ¬ (ar r 12 p0.toNatClampNeg).toInt = k.toInt := fun k h9 h8 => h9 (Int32.toInt_inj.mp h8)
          have hm0 := hq 1 hn0
          have hm1 := hq 2 hn1
          have hm2 := hq 3 hn2
          simp only [show (1 : Int32).toInt = 1 from by decide, show (2 : Int32).toInt = 2 from by decide, show (3 : Int32).toInt = 3 from by decide] at hm0 hm1 hm2
          omega
        have h := h.2.2.2 ho
        refine x_tableOut (tgt := 92) C dE_nodesOfParts_6 ho (by decide) ?_
        refine x_iconst (v := 0) C dE_nodesOfParts_92 (by decide) ?_
        exact x_iret C hA hlocks hr ⟨rfl, h⟩ dE_nodesOfParts_93
set_option maxRecDepth 100000 in
set_option maxHeartbeats 4000000 in
theorem kE_nodesOfParts {p : Program} {l : Launch} {e : Env} {R : Room} {s : State} {m : MethodId} {args : Array Value} {below : List Frame} {meth : Method} {c : Code} {cells slots : Nat} {Q : State → Prop} {A : Nat → Prop} {D : va_G} {nL pc : Nat} {cc : ByteArray} {cw : Cond} {own : String} {lv : List (Nat × Value)} {st : List Value} {G : G_} {a : L_} {r : S_} {K : Int32 → Prop} {p0 : Int32} (C : vx_C p s m args c cc nL (cw :: wAll) own D vwCl (tysG G) nwAll A) {i : Nat} (hl : Cond.methodLink own i yE_nodesOfParts ∈ wAll) (hR : 0 + 1 ≤ R.frames ∧ 8 + (2 + 11) + 0 ≤ R.locals) (hst : (st.map fun v => v.category).sum ≤ 8) (hd : decode cc pc = .ok (.invokevirtual i, 3)) (hcs : cells ≤ R.cells ∧ slots ≤ R.slots) (h : qE_nodesOfParts a r K p0) (k : ∀ (v : Int32), K v → vx_V p l e R s m args below meth c A D vwCl nL cells slots Q (wo G a r) (pc + 3) lv (.int v :: st)) : vx_V p l e R s m args below meth c A D vwCl nL cells slots Q (wo G a r) pc lv (.int p0 :: .ref (ob G 3) :: st) := by
  refine x_callVi C (CC := "ClassInference$ExpressionTable") (ci := 3) (q0 := 3) (fs := fl3 G a r) (As := [.int p0]) rfl rfl (cE_nodesOfParts p0 h) (cwV (C := "ClassInference$ExpressionTable") 1 C.1.2.2.2.2 (goodV hl wm410 wp4 wm5 wm411) rfl rfl rfl (by decide +kernel) hR) rfl hst hd hcs (fun v w hw => ?_)
  obtain ⟨rfl, h⟩ := hw
  exact k v h
def qE_add (a : L_) (K : Int32 → S_ → Prop) (r : S_) (p0 : Int32) (p1 : Int32) (p2 : Int32) (p3 : Int32) : Prop :=
  (((fi r 4) < 120) → vp_in (fi r 4) (ln a 12) ∧ ∀ r3 : S_, r3 = sA r 12 (upd (ar r 12) (fi r 4).toNatClampNeg p0) → vp_in (fi r3 4) (ln a 13) ∧ ∀ r5 : S_, r5 = sA r3 13 (upd (ar r3 13) (fi r3 4).toNatClampNeg p1) → vp_in (fi r5 4) (ln a 14) ∧ ∀ r7 : S_, r7 = sA r5 14 (upd (ar r5 14) (fi r5 4).toNatClampNeg p2) → vp_in (fi r7 4) (ln a 15) ∧ ∀ r9 : S_, r9 = sA r7 15 (upd (ar r7 15) (fi r7 4).toNatClampNeg p3) → qE_nodesOfParts a r9 (fun z10 => vp_in (fi r9 4) (ln a 16) ∧ ∀ r12 : S_, r12 = sA r9 16 (upd (ar r9 16) (fi r9 4).toNatClampNeg (if 25 < (1 + z10) then 25 else (1 + z10))) → ∀ r13 : S_, r13 = sF r12 4 ((fi r12 4) + 1) → K ((fi r13 4) - 1) r13) (fi r9 4)) ∧ ((¬ (fi r 4) < 120) → K (-3) r)
set_option maxRecDepth 100000 in
set_option maxHeartbeats 4000000 in
theorem cE_add {a : L_} {r : S_} {K : Int32 → S_ → Prop} (p0 : Int32) (p1 : Int32) (p2 : Int32) (p3 : Int32) (h : qE_add a K r p0 p1 p2 p3) : vx_Mi l yE_add (Cond.code yE_add prog_3_method_4_code 5 (some .int) :: wAll) { frames := 1, cells := 0, slots := 0, locals := 27 } D vwCl (tysG G) nwAll (wo G a r) [.ref (ob G 3), .int p0, .int p1, .int p2, .int p3] 0 0 (fun v w => ∃ r1, w = wo G a r1 ∧ K v r1) := by
  unfold qE_add at h
  refine x_meti (cc := prog_3_method_4_code) (maxL := 5) (ret := (some .int)) (lv0 := [(0, .ref (ob G 3)), (1, .int p0), (2, .int p1), (3, .int p2), (4, .int p3)]) (by decide) rfl (Nat.le_of_ble_eq_true rfl) rfl ?_
  intro p e s m args below meth c A C hA hlocks hr
  refine x_aload_n C dE_add_0 rfl 0 rfl ?_
  refine gf_3_5 C (List.mem_cons_of_mem _ wm112) dE_add_1 ?_
  refine x_bipush (v := 120) C dE_add_4 (by decide) ?_
  refine x_icmp_lt (tgt := 12) C dE_add_6 (by decide) (fun g1 => ?_) (fun g1 => ?_)
  · have h := h.1 g1
    refine x_aload_n C dE_add_12 rfl 0 rfl ?_
    refine gf_3_0 C (List.mem_cons_of_mem _ wm103) dE_add_13 ?_
    refine x_aload_n C dE_add_16 rfl 0 rfl ?_
    refine gf_3_5 C (List.mem_cons_of_mem _ wm112) dE_add_17 ?_
    refine x_iload_n C dE_add_20 rfl 1 rfl ?_
    obtain ⟨g2, h⟩ := h
    refine y_is C 12 (by decide) g2 dE_add_21 (fun r3 er3 => ?_)
    have h := h r3 er3
    refine x_aload_n C dE_add_22 rfl 0 rfl ?_
    refine gf_3_1 C (List.mem_cons_of_mem _ wm105) dE_add_23 ?_
    refine x_aload_n C dE_add_26 rfl 0 rfl ?_
    refine gf_3_5 C (List.mem_cons_of_mem _ wm112) dE_add_27 ?_
    refine x_iload_n C dE_add_30 rfl 2 rfl ?_
    obtain ⟨g4, h⟩ := h
    refine y_is C 13 (by decide) g4 dE_add_31 (fun r5 er5 => ?_)
    have h := h r5 er5
    refine x_aload_n C dE_add_32 rfl 0 rfl ?_
    refine gf_3_2 C (List.mem_cons_of_mem _ wm107) dE_add_33 ?_
    refine x_aload_n C dE_add_36 rfl 0 rfl ?_
    refine gf_3_5 C (List.mem_cons_of_mem _ wm112) dE_add_37 ?_
    refine x_iload_n C dE_add_40 rfl 3 rfl ?_
    obtain ⟨g6, h⟩ := h
    refine y_is C 14 (by decide) g6 dE_add_41 (fun r7 er7 => ?_)
    have h := h r7 er7
    refine x_aload_n C dE_add_42 rfl 0 rfl ?_
    refine gf_3_3 C (List.mem_cons_of_mem _ wm109) dE_add_43 ?_
    refine x_aload_n C dE_add_46 rfl 0 rfl ?_
    refine gf_3_5 C (List.mem_cons_of_mem _ wm112) dE_add_47 ?_
    refine x_iload C dE_add_50 4 rfl ?_
    obtain ⟨g8, h⟩ := h
    refine y_is C 15 (by decide) g8 dE_add_52 (fun r9 er9 => ?_)
    have h := h r9 er9
    refine x_aload_n C dE_add_53 rfl 0 rfl ?_
    refine gf_3_4 C (List.mem_cons_of_mem _ wm111) dE_add_54 ?_
    refine x_aload_n C dE_add_57 rfl 0 rfl ?_
    refine gf_3_5 C (List.mem_cons_of_mem _ wm112) dE_add_58 ?_
    refine x_iconst (v := 1) C dE_add_61 (by decide) ?_
    refine x_aload_n C dE_add_62 rfl 0 rfl ?_
    refine x_aload_n C dE_add_63 rfl 0 rfl ?_
    refine gf_3_5 C (List.mem_cons_of_mem _ wm112) dE_add_64 ?_
    refine kE_nodesOfParts C wm408 ⟨Nat.le_of_ble_eq_true rfl, Nat.le_of_ble_eq_true rfl⟩ (Nat.le_of_ble_eq_true rfl) dE_add_67 ⟨Nat.zero_le _, Nat.zero_le _⟩ h (fun z10 h => ?_)
    refine x_iadd C dE_add_70 ?_
    refine x_bipush (v := 25) C dE_add_71 (by decide) ?_
    refine x_mmin C wm412 (Nat.le_of_ble_eq_true rfl) (Nat.le_of_ble_eq_true rfl) ⟨Nat.zero_le _, Nat.zero_le _⟩ dE_add_73 ?_
    obtain ⟨g11, h⟩ := h
    refine y_is C 16 (by decide) g11 dE_add_76 (fun r12 er12 => ?_)
    have h := h r12 er12
    refine x_aload_n C dE_add_77 rfl 0 rfl ?_
    refine x_dup C dE_add_78 rfl ?_
    refine gf_3_5 C (List.mem_cons_of_mem _ wm112) dE_add_79 ?_
    refine x_iconst (v := 1) C dE_add_82 (by decide) ?_
    refine x_iadd C dE_add_83 ?_
    refine pf_3_5 C (List.mem_cons_of_mem _ wm112) dE_add_84 (fun r13 er13 => ?_)
    have h := h r13 er13
    refine x_aload_n C dE_add_87 rfl 0 rfl ?_
    refine gf_3_5 C (List.mem_cons_of_mem _ wm112) dE_add_88 ?_
    refine x_iconst (v := 1) C dE_add_91 (by decide) ?_
    refine x_isub C dE_add_92 ?_
    exact x_iret C hA hlocks hr ⟨r13, rfl, h⟩ dE_add_93
  · have h := h.2 g1
    refine x_bipush (v := (-3)) C dE_add_9 (by decide) ?_
    exact x_iret C hA hlocks hr ⟨r, rfl, h⟩ dE_add_11
set_option maxRecDepth 100000 in
set_option maxHeartbeats 4000000 in
theorem kE_add {p : Program} {l : Launch} {e : Env} {R : Room} {s : State} {m : MethodId} {args : Array Value} {below : List Frame} {meth : Method} {c : Code} {cells slots : Nat} {Q : State → Prop} {A : Nat → Prop} {D : va_G} {nL pc : Nat} {cc : ByteArray} {cw : Cond} {own : String} {lv : List (Nat × Value)} {st : List Value} {G : G_} {a : L_} {r : S_} {K : Int32 → S_ → Prop} {p0 : Int32} {p1 : Int32} {p2 : Int32} {p3 : Int32} (C : vx_C p s m args c cc nL (cw :: wAll) own D vwCl (tysG G) nwAll A) {i : Nat} (hl : Cond.methodLink own i yE_add ∈ wAll) (hR : 1 + 1 ≤ R.frames ∧ 8 + (5 + 11) + 27 ≤ R.locals) (hst : (st.map fun v => v.category).sum ≤ 8) (hd : decode cc pc = .ok (.invokevirtual i, 3)) (hcs : cells ≤ R.cells ∧ slots ≤ R.slots) (h : qE_add a K r p0 p1 p2 p3) (k : ∀ (v : Int32) (r1 : S_), K v r1 → vx_V p l e R s m args below meth c A D vwCl nL cells slots Q (wo G a r1) (pc + 3) lv (.int v :: st)) : vx_V p l e R s m args below meth c A D vwCl nL cells slots Q (wo G a r) pc lv (.int p3 :: .int p2 :: .int p1 :: .int p0 :: .ref (ob G 3) :: st) := by
  refine x_callVi C (CC := "ClassInference$ExpressionTable") (ci := 3) (q0 := 3) (fs := fl3 G a r) (As := [.int p0, .int p1, .int p2, .int p3]) rfl rfl (cE_add p0 p1 p2 p3 h) (cwV (C := "ClassInference$ExpressionTable") 4 C.1.2.2.2.2 (goodV hl wm405 wm406 wm5 wm407) rfl rfl rfl (by decide +kernel) hR) rfl hst hd hcs (fun v w hw => ?_)
  obtain ⟨r1, rfl, h⟩ := hw
  exact k v r1 h
def qI_expression (a : L_) (K : Int32 → S_ → Prop) (r : S_) (p0 : Int32) (p1 : Int32) (p2 : Int32) (p3 : Int32) : Prop :=
  qI_mayStand a r (fun z1 => zb z1 → ((¬ z1 = 0) → qE_add a (fun z3 r4 => K z3 r4) r p0 p1 p2 p3) ∧ ((z1 = 0) → K (-1) r)) p0 p1 p2 p3
set_option maxRecDepth 100000 in
set_option maxHeartbeats 4000000 in
theorem cI_expression {a : L_} {r : S_} {K : Int32 → S_ → Prop} (p0 : Int32) (p1 : Int32) (p2 : Int32) (p3 : Int32) (h : qI_expression a K r p0 p1 p2 p3) : vx_Mi l yI_expression (Cond.code yI_expression prog_1_method_8_code 5 (some .int) :: wAll) { frames := 2, cells := 0, slots := 0, locals := 51 } D vwCl (tysG G) nwAll (wo G a r) [.ref (ob G 0), .int p0, .int p1, .int p2, .int p3] 0 0 (fun v w => ∃ r1, w = wo G a r1 ∧ K v r1) := by
  unfold qI_expression at h
  refine x_meti (cc := prog_1_method_8_code) (maxL := 5) (ret := (some .int)) (lv0 := [(0, .ref (ob G 0)), (1, .int p0), (2, .int p1), (3, .int p2), (4, .int p3)]) (by decide) rfl (Nat.le_of_ble_eq_true rfl) rfl ?_
  intro p e s m args below meth c A C hA hlocks hr
  refine x_aload_n C dI_expression_0 rfl 0 rfl ?_
  refine x_iload_n C dI_expression_1 rfl 1 rfl ?_
  refine x_iload_n C dI_expression_2 rfl 2 rfl ?_
  refine x_iload_n C dI_expression_3 rfl 3 rfl ?_
  refine x_iload C dI_expression_4 4 rfl ?_
  refine kI_mayStand C wm393 ⟨Nat.le_of_ble_eq_true rfl, Nat.le_of_ble_eq_true rfl⟩ (Nat.le_of_ble_eq_true rfl) dI_expression_6 ⟨Nat.zero_le _, Nat.zero_le _⟩ h (fun z1 hzz1 h => ?_)
  have h := h hzz1
  refine x_if_ne (tgt := 14) C dI_expression_9 (by decide) (fun g2 => ?_) (fun g2 => ?_)
  · have h := h.1 g2
    refine x_aload_n C dI_expression_14 rfl 0 rfl ?_
    refine gf_0_2 C (List.mem_cons_of_mem _ wm280) dI_expression_15 ?_
    refine x_iload_n C dI_expression_18 rfl 1 rfl ?_
    refine x_iload_n C dI_expression_19 rfl 2 rfl ?_
    refine x_iload_n C dI_expression_20 rfl 3 rfl ?_
    refine x_iload C dI_expression_21 4 rfl ?_
    refine kE_add C wm404 ⟨Nat.le_of_ble_eq_true rfl, Nat.le_of_ble_eq_true rfl⟩ (Nat.le_of_ble_eq_true rfl) dI_expression_23 ⟨Nat.zero_le _, Nat.zero_le _⟩ h (fun z3 r4 h => ?_)
    exact x_iret C hA hlocks hr ⟨r4, rfl, h⟩ dI_expression_26
  · have h := h.2 g2
    refine x_iconst (v := (-1)) C dI_expression_12 (by decide) ?_
    exact x_iret C hA hlocks hr ⟨r, rfl, h⟩ dI_expression_13
set_option maxRecDepth 100000 in
set_option maxHeartbeats 4000000 in
theorem kI_expression {p : Program} {l : Launch} {e : Env} {R : Room} {s : State} {m : MethodId} {args : Array Value} {below : List Frame} {meth : Method} {c : Code} {cells slots : Nat} {Q : State → Prop} {A : Nat → Prop} {D : va_G} {nL pc : Nat} {cc : ByteArray} {cw : Cond} {own : String} {lv : List (Nat × Value)} {st : List Value} {G : G_} {a : L_} {r : S_} {K : Int32 → S_ → Prop} {p0 : Int32} {p1 : Int32} {p2 : Int32} {p3 : Int32} (C : vx_C p s m args c cc nL (cw :: wAll) own D vwCl (tysG G) nwAll A) {i : Nat} (hl : Cond.methodLink own i yI_expression ∈ wAll) (hR : 2 + 1 ≤ R.frames ∧ 8 + (5 + 11) + 51 ≤ R.locals) (hst : (st.map fun v => v.category).sum ≤ 8) (hd : decode cc pc = .ok (.invokevirtual i, 3)) (hcs : cells ≤ R.cells ∧ slots ≤ R.slots) (h : qI_expression a K r p0 p1 p2 p3) (k : ∀ (v : Int32) (r1 : S_), K v r1 → vx_V p l e R s m args below meth c A D vwCl nL cells slots Q (wo G a r1) (pc + 3) lv (.int v :: st)) : vx_V p l e R s m args below meth c A D vwCl nL cells slots Q (wo G a r) pc lv (.int p3 :: .int p2 :: .int p1 :: .int p0 :: .ref (ob G 0) :: st) := by
  refine x_callVi C (CC := "ClassInference") (ci := 0) (q0 := 0) (fs := fl0 G a r) (As := [.int p0, .int p1, .int p2, .int p3]) rfl rfl (cI_expression p0 p1 p2 p3 h) (cwV (C := "ClassInference") 4 C.1.2.2.2.2 (goodV hl wm390 wm391 wm1 wm392) rfl rfl rfl (by decide +kernel) hR) rfl hst hd hcs (fun v w hw => ?_)
  obtain ⟨r1, rfl, h⟩ := hw
  exact k v r1 h
def qD_sizeOf (a : L_) (r : S_) (K : Int64 → Prop) (p0 : Int32) : Prop :=
  ((¬ p0 = (-1)) → vp_in p0 (ln a 89) ∧ K (la r 0 p0.toNatClampNeg)) ∧ ((p0 = (-1)) → K 0)
set_option maxRecDepth 100000 in
set_option maxHeartbeats 4000000 in
theorem cD_sizeOf {a : L_} {r : S_} {K : Int64 → Prop} (p0 : Int32) (h : qD_sizeOf a r K p0) : vx_Ml l yD_sizeOf (Cond.code yD_sizeOf prog_5_method_5_code 2 (some .long) :: wAll) { frames := 0, cells := 0, slots := 0, locals := 0 } D vwCl (tysG G) nwAll (wo G a r) [.ref (ob G 6), .int p0] 0 0 (fun v w => w = wo G a r ∧ K v) := by
  unfold qD_sizeOf at h
  refine x_metl (cc := prog_5_method_5_code) (maxL := 2) (ret := (some .long)) (lv0 := [(0, .ref (ob G 6)), (1, .int p0)]) (by decide) rfl (Nat.le_of_ble_eq_true rfl) rfl ?_
  intro p e s m args below meth c A C hA hlocks hr
  refine x_iload_n C dD_sizeOf_0 rfl 1 rfl ?_
  refine x_iconst (v := (-1)) C dD_sizeOf_1 (by decide) ?_
  refine x_icmp_ne (tgt := 9) C dD_sizeOf_2 (by decide) (fun g1 => ?_) (fun g1 => ?_)
  · have h := h.1 g1
    refine x_aload_n C dD_sizeOf_9 rfl 0 rfl ?_
    refine gf_6_3 C (List.mem_cons_of_mem _ wm252) dD_sizeOf_10 ?_
    refine x_iload_n C dD_sizeOf_13 rfl 1 rfl ?_
    obtain ⟨g2, h⟩ := h
    refine y_la C g2 dD_sizeOf_14 ?_
    exact x_lret C hA hlocks hr ⟨rfl, h⟩ dD_sizeOf_15
  · have h := h.2 g1
    refine x_lconst (v := 0) C dD_sizeOf_5 (by decide) ?_
    refine x_goto (tgt := 15) C dD_sizeOf_6 (by decide) ?_
    exact x_lret C hA hlocks hr ⟨rfl, h⟩ dD_sizeOf_15
set_option maxRecDepth 100000 in
set_option maxHeartbeats 4000000 in
theorem kD_sizeOf {p : Program} {l : Launch} {e : Env} {R : Room} {s : State} {m : MethodId} {args : Array Value} {below : List Frame} {meth : Method} {c : Code} {cells slots : Nat} {Q : State → Prop} {A : Nat → Prop} {D : va_G} {nL pc : Nat} {cc : ByteArray} {cw : Cond} {own : String} {lv : List (Nat × Value)} {st : List Value} {G : G_} {a : L_} {r : S_} {K : Int64 → Prop} {p0 : Int32} (C : vx_C p s m args c cc nL (cw :: wAll) own D vwCl (tysG G) nwAll A) {i : Nat} (hl : Cond.methodLink own i yD_sizeOf ∈ wAll) (hR : 0 + 1 ≤ R.frames ∧ 8 + (2 + 11) + 0 ≤ R.locals) (hst : (st.map fun v => v.category).sum ≤ 8) (hd : decode cc pc = .ok (.invokevirtual i, 3)) (hcs : cells ≤ R.cells ∧ slots ≤ R.slots) (h : qD_sizeOf a r K p0) (k : ∀ (v : Int64), K v → vx_V p l e R s m args below meth c A D vwCl nL cells slots Q (wo G a r) (pc + 3) lv (.long v :: st)) : vx_V p l e R s m args below meth c A D vwCl nL cells slots Q (wo G a r) pc lv (.int p0 :: .ref (ob G 6) :: st) := by
  refine x_callVl C (CC := "ClassInference$Told") (ci := 6) (q0 := 6) (fs := fl6 G a r) (As := [.int p0]) rfl rfl (cD_sizeOf p0 h) (cwV (C := "ClassInference$Told") 1 C.1.2.2.2.2 (goodV hl wm628 wp28 wm8 wm629) rfl rfl rfl (by decide +kernel) hR) rfl hst hd hcs (fun v w hw => ?_)
  obtain ⟨rfl, h⟩ := hw
  exact k v h
def qD_headAt_J102 (a : L_) (r : S_) (KB43 : Int32 → Int32 → Int32 → Prop) (KX108 : Int32 → Prop) (v2 : Int32) (v3 : Int32) (v4 : Int32) : Prop :=
  KB43 v2 v3 (v4 + 1)
set_option maxRecDepth 100000 in
set_option maxHeartbeats 4000000 in
theorem tD_headAt_J102 (C : vx_C p s m args c prog_5_method_7_code 7 (Cond.code yD_headAt prog_5_method_7_code 7 (some .int) :: wAll) "ClassInference$Told" D vwCl (tysG G) nwAll A) {a : L_} {r : S_} {KB43 : Int32 → Int32 → Int32 → Prop} {KX108 : Int32 → Prop} (kB43 : ∀ (v2 : Int32) (v3 : Int32) (v4 : Int32), KB43 v2 v3 v4 → vx_V p l e { frames := 1, cells := 0, slots := 0, locals := 21 } s m args below meth c A D vwCl 7 0 0 Q (wo G a r) 43 [(0, .ref (ob G 6)), (2, .int v2), (3, .int v3), (4, .int v4)] []) (kX108 : ∀ (v2 : Int32), KX108 v2 → vx_V p l e { frames := 1, cells := 0, slots := 0, locals := 21 } s m args below meth c A D vwCl 7 0 0 Q (wo G a r) 108 [(0, .ref (ob G 6)), (2, .int v2)] []) (v2 : Int32) (v3 : Int32) (v4 : Int32) (h : qD_headAt_J102 a r KB43 KX108 v2 v3 v4) : vx_V p l e { frames := 1, cells := 0, slots := 0, locals := 21 } s m args below meth c A D vwCl 7 0 0 Q (wo G a r) 102 [(0, .ref (ob G 6)), (2, .int v2), (3, .int v3), (4, .int v4)] [] := by
  unfold qD_headAt_J102 at h
  refine x_iinc (j := 3) (v := v4 + 1) C [(4, .int (v4 + 1)), (0, .ref (ob G 6)), (2, .int v2), (3, .int v3)] dD_headAt_102 rfl rfl (by decide) rfl ?_
  refine x_goto (tgt := 43) C dD_headAt_105 (by decide) ?_
  refine x_sub [1, 2, 3, 0] rfl ?_
  exact kB43 v2 v3 (v4 + 1) h
def qD_headAt_L43 (a : L_) (r : S_) (KX108 : Int32 → Prop) : Nat → Int32 → Int32 → Int32 → Prop
  | 0, _, _, _ => False
  | n + 1, v2, v3, v4 => ((v3 ≤ 0) → KX108 v2) ∧ ((¬ v3 ≤ 0) → (((fi r 16) ≤ v4) → KX108 v2) ∧ ((¬ (fi r 16) ≤ v4) → vp_in v2 (ln a 33) ∧ qD_sizeOf a r (fun z8 => ((0 ≤ (lg_cmp ((v3 + (-1)).toInt64) z8)) → vp_in v2 (ln a 34) ∧ qD_headAt_J102 a r (qD_headAt_L43 a r KX108 n) KX108 (ar r 34 v2.toNatClampNeg) ((v3 + (-1)) - z8.toInt32) v4) ∧ ((¬ 0 ≤ (lg_cmp ((v3 + (-1)).toInt64) z8)) → vp_in v2 (ln a 33) ∧ qD_headAt_J102 a r (qD_headAt_L43 a r KX108 n) KX108 (ar r 33 v2.toNatClampNeg) (v3 + (-1)) v4)) (ar r 33 v2.toNatClampNeg)))
set_option maxRecDepth 100000 in
set_option maxHeartbeats 4000000 in
theorem tD_headAt_L43 (C : vx_C p s m args c prog_5_method_7_code 7 (Cond.code yD_headAt prog_5_method_7_code 7 (some .int) :: wAll) "ClassInference$Told" D vwCl (tysG G) nwAll A) {a : L_} {r : S_} {KX108 : Int32 → Prop} (kX108 : ∀ (v2 : Int32), KX108 v2 → vx_V p l e { frames := 1, cells := 0, slots := 0, locals := 21 } s m args below meth c A D vwCl 7 0 0 Q (wo G a r) 108 [(0, .ref (ob G 6)), (2, .int v2)] []) : ∀ (n : Nat) (v2 : Int32) (v3 : Int32) (v4 : Int32), qD_headAt_L43 a r KX108 n v2 v3 v4 → vx_V p l e { frames := 1, cells := 0, slots := 0, locals := 21 } s m args below meth c A D vwCl 7 0 0 Q (wo G a r) 43 [(0, .ref (ob G 6)), (2, .int v2), (3, .int v3), (4, .int v4)] [] := by
  intro n
  induction n with
  | zero =>
    intro v2 v3 v4 h
    exact (by rw [qD_headAt_L43] at h; exact h : False).elim
  | succ n kB43 =>
    intro v2 v3 v4 h
    rw [qD_headAt_L43] at h
    refine x_iload_n C dD_headAt_43 rfl 2 rfl ?_
    refine x_if_le (tgt := 108) C dD_headAt_44 (by decide) (fun g5 => ?_) (fun g5 => ?_)
    · have h := h.1 g5
      refine x_sub [0, 1] rfl ?_
      exact kX108 v2 h
    · have h := h.2 g5
      refine x_iload C dD_headAt_47 3 rfl ?_
      refine x_aload_n C dD_headAt_49 rfl 0 rfl ?_
      refine gf_6_4 C (List.mem_cons_of_mem _ wm253) dD_headAt_50 ?_
      refine x_icmp_ge (tgt := 108) C dD_headAt_53 (by decide) (fun g6 => ?_) (fun g6 => ?_)
      · have h := h.1 g6
        refine x_sub [0, 1] rfl ?_
        exact kX108 v2 h
      · have h := h.2 g6
        refine x_iinc (j := 2) (v := v3 + (-1)) C [(3, .int (v3 + (-1))), (0, .ref (ob G 6)), (2, .int v2), (4, .int v4)] dD_headAt_56 rfl rfl (by decide) rfl ?_
        refine x_aload_n C dD_headAt_59 rfl 1 rfl ?_
        refine x_aload_n C dD_headAt_60 rfl 1 rfl ?_
        refine gf_6_1 C (List.mem_cons_of_mem _ wm250) dD_headAt_61 ?_
        refine x_iload_n C dD_headAt_64 rfl 2 rfl ?_
        obtain ⟨g7, h⟩ := h
        refine y_ia C 33 (by decide) g7 dD_headAt_65 ?_
        refine kD_sizeOf C wm626 ⟨Nat.le_of_ble_eq_true rfl, Nat.le_of_ble_eq_true rfl⟩ (Nat.le_of_ble_eq_true rfl) dD_headAt_66 ⟨Nat.zero_le _, Nat.zero_le _⟩ h (fun z8 h => ?_)
        refine x_lstore C [(5, .long z8), (3, .int (v3 + (-1))), (0, .ref (ob G 6)), (2, .int v2), (4, .int v4)] dD_headAt_69 (by decide) rfl ?_
        refine x_iload_n C dD_headAt_71 rfl 1 rfl ?_
        refine x_i2l C dD_headAt_72 rfl ?_
        refine x_lload C dD_headAt_73 0 rfl ?_
        refine x_lcmp C dD_headAt_75 ?_
        refine x_if_ge (tgt := 89) C dD_headAt_76 (by decide) (fun g9 => ?_) (fun g9 => ?_)
        · have h := h.1 g9
          refine x_iload_n C dD_headAt_89 rfl 1 rfl ?_
          refine x_lload C dD_headAt_90 0 rfl ?_
          refine x_l2i C dD_headAt_92 rfl ?_
          refine x_isub C dD_headAt_93 ?_
          refine x_istore_n C [(3, .int ((v3 + (-1)) - z8.toInt32)), (5, .long z8), (0, .ref (ob G 6)), (2, .int v2), (4, .int v4)] dD_headAt_94 rfl (by decide) rfl ?_
          refine x_aload_n C dD_headAt_95 rfl 2 rfl ?_
          refine gf_6_2 C (List.mem_cons_of_mem _ wm251) dD_headAt_96 ?_
          refine x_iload_n C dD_headAt_99 rfl 3 rfl ?_
          obtain ⟨g10, h⟩ := h
          refine y_ia C 34 (by decide) g10 dD_headAt_100 ?_
          refine x_istore_n C [(2, .int (ar r 34 v2.toNatClampNeg)), (3, .int ((v3 + (-1)) - z8.toInt32)), (5, .long z8), (0, .ref (ob G 6)), (4, .int v4)] dD_headAt_101 rfl (by decide) rfl ?_
          refine x_sub [3, 0, 1, 4] rfl ?_
          exact tD_headAt_J102 C kB43 kX108 (ar r 34 v2.toNatClampNeg) ((v3 + (-1)) - z8.toInt32) v4 h
        · have h := h.2 g9
          refine x_aload_n C dD_headAt_79 rfl 2 rfl ?_
          refine gf_6_1 C (List.mem_cons_of_mem _ wm250) dD_headAt_80 ?_
          refine x_iload_n C dD_headAt_83 rfl 3 rfl ?_
          obtain ⟨g11, h⟩ := h
          refine y_ia C 33 (by decide) g11 dD_headAt_84 ?_
          refine x_istore_n C [(2, .int (ar r 33 v2.toNatClampNeg)), (5, .long z8), (3, .int (v3 + (-1))), (0, .ref (ob G 6)), (4, .int v4)] dD_headAt_85 rfl (by decide) rfl ?_
          refine x_goto (tgt := 102) C dD_headAt_86 (by decide) ?_
          refine x_sub [3, 0, 2, 4] rfl ?_
          exact tD_headAt_J102 C kB43 kX108 (ar r 33 v2.toNatClampNeg) (v3 + (-1)) v4 h
def qD_headAt_J108 (a : L_) (r : S_) (K : Int32 → Prop) (v2 : Int32) : Prop :=
  vp_in v2 (ln a 32) ∧ K (ar r 32 v2.toNatClampNeg)
set_option maxRecDepth 100000 in
set_option maxHeartbeats 4000000 in
theorem tD_headAt_J108 (C : vx_C p s m args c prog_5_method_7_code 7 (Cond.code yD_headAt prog_5_method_7_code 7 (some .int) :: wAll) "ClassInference$Told" D vwCl (tysG G) nwAll A) (hA : A = va_A ws0 s.heap.size) (hlocks : meth.locks = false) (hr : meth.sig.returnType = (some .int)) {a : L_} {r : S_} {K : Int32 → Prop} (v2 : Int32) (h : qD_headAt_J108 a r K v2) : vx_V p l e { frames := 1, cells := 0, slots := 0, locals := 21 } s m args below meth c A D vwCl 7 0 0 (MQ below (va_Qi (fun v w => w = wo G a r ∧ K v) (vx_B D vwCl (tysG G) A) A) args s 0 0 A) (wo G a r) 108 [(0, .ref (ob G 6)), (2, .int v2)] [] := by
  unfold qD_headAt_J108 at h
  refine x_aload_n C dD_headAt_108 rfl 0 rfl ?_
  refine gf_6_0 C (List.mem_cons_of_mem _ wm249) dD_headAt_109 ?_
  refine x_iload_n C dD_headAt_112 rfl 1 rfl ?_
  obtain ⟨g12, h⟩ := h
  refine y_ia C 32 (by decide) g12 dD_headAt_113 ?_
  exact x_iret C hA hlocks hr ⟨rfl, h⟩ dD_headAt_114
def qD_headAt (a : L_) (r : S_) (K : Int32 → Prop) (p0 : Int32) : Prop :=
  ((p0 < 0) → K (-100)) ∧ ((¬ p0 < 0) → (((fi r 16) = 0) → K (-100)) ∧ ((¬ (fi r 16) = 0) → vp_in ((fi r 16) - 1) (ln a 89) ∧ (((lg_cmp p0.toInt64 (la r 0 ((fi r 16) - 1).toNatClampNeg)) < 0) → ∃ n13 : Nat, qD_headAt_L43 a r (fun v2 => qD_headAt_J108 a r K v2) n13 ((fi r 16) - 1) p0 0) ∧ ((¬ (lg_cmp p0.toInt64 (la r 0 ((fi r 16) - 1).toNatClampNeg)) < 0) → K (-100))))
set_option maxRecDepth 100000 in
set_option maxHeartbeats 4000000 in
theorem cD_headAt {a : L_} {r : S_} {K : Int32 → Prop} (p0 : Int32) (h : qD_headAt a r K p0) : vx_Mi l yD_headAt (Cond.code yD_headAt prog_5_method_7_code 7 (some .int) :: wAll) { frames := 1, cells := 0, slots := 0, locals := 21 } D vwCl (tysG G) nwAll (wo G a r) [.ref (ob G 6), .int p0] 0 0 (fun v w => w = wo G a r ∧ K v) := by
  unfold qD_headAt at h
  refine x_meti (cc := prog_5_method_7_code) (maxL := 7) (ret := (some .int)) (lv0 := [(0, .ref (ob G 6)), (1, .int p0)]) (by decide) rfl (Nat.le_of_ble_eq_true rfl) rfl ?_
  intro p e s m args below meth c A C hA hlocks hr
  refine x_iload_n C dD_headAt_0 rfl 1 rfl ?_
  refine x_if_lt (tgt := 28) C dD_headAt_1 (by decide) (fun g1 => ?_) (fun g1 => ?_)
  · have h := h.1 g1
    refine x_bipush (v := (-100)) C dD_headAt_28 (by decide) ?_
    exact x_iret C hA hlocks hr ⟨rfl, h⟩ dD_headAt_30
  · have h := h.2 g1
    refine x_aload_n C dD_headAt_4 rfl 0 rfl ?_
    refine gf_6_4 C (List.mem_cons_of_mem _ wm253) dD_headAt_5 ?_
    refine x_if_eq (tgt := 28) C dD_headAt_8 (by decide) (fun g2 => ?_) (fun g2 => ?_)
    · have h := h.1 g2
      refine x_bipush (v := (-100)) C dD_headAt_28 (by decide) ?_
      exact x_iret C hA hlocks hr ⟨rfl, h⟩ dD_headAt_30
    · have h := h.2 g2
      refine x_iload_n C dD_headAt_11 rfl 1 rfl ?_
      refine x_i2l C dD_headAt_12 rfl ?_
      refine x_aload_n C dD_headAt_13 rfl 0 rfl ?_
      refine gf_6_3 C (List.mem_cons_of_mem _ wm252) dD_headAt_14 ?_
      refine x_aload_n C dD_headAt_17 rfl 0 rfl ?_
      refine gf_6_4 C (List.mem_cons_of_mem _ wm253) dD_headAt_18 ?_
      refine x_iconst (v := 1) C dD_headAt_21 (by decide) ?_
      refine x_isub C dD_headAt_22 ?_
      obtain ⟨g3, h⟩ := h
      refine y_la C g3 dD_headAt_23 ?_
      refine x_lcmp C dD_headAt_24 ?_
      refine x_if_lt (tgt := 31) C dD_headAt_25 (by decide) (fun g4 => ?_) (fun g4 => ?_)
      · have h := h.1 g4
        refine x_aload_n C dD_headAt_31 rfl 0 rfl ?_
        refine gf_6_4 C (List.mem_cons_of_mem _ wm253) dD_headAt_32 ?_
        refine x_iconst (v := 1) C dD_headAt_35 (by decide) ?_
        refine x_isub C dD_headAt_36 ?_
        refine x_istore_n C [(2, .int ((fi r 16) - 1)), (0, .ref (ob G 6)), (1, .int p0)] dD_headAt_37 rfl (by decide) rfl ?_
        refine x_iload_n C dD_headAt_38 rfl 2 rfl ?_
        refine x_istore_n C [(3, .int p0), (2, .int ((fi r 16) - 1)), (0, .ref (ob G 6)), (1, .int p0)] dD_headAt_39 rfl (by decide) rfl ?_
        refine x_iconst (v := 0) C dD_headAt_40 (by decide) ?_
        refine x_istore C [(4, .int 0), (3, .int p0), (2, .int ((fi r 16) - 1)), (0, .ref (ob G 6)), (1, .int p0)] dD_headAt_41 (by decide) rfl ?_
        obtain ⟨n13, h⟩ := h
        refine x_sub [3, 2, 1, 0] rfl ?_
        refine tD_headAt_L43 C (fun v2 h => ?_) n13 ((fi r 16) - 1) p0 0 h
        · refine x_sub [0, 1] rfl ?_
          exact tD_headAt_J108 C hA hlocks hr v2 h
      · have h := h.2 g4
        refine x_bipush (v := (-100)) C dD_headAt_28 (by decide) ?_
        exact x_iret C hA hlocks hr ⟨rfl, h⟩ dD_headAt_30
set_option maxRecDepth 100000 in
set_option maxHeartbeats 4000000 in
theorem kD_headAt {p : Program} {l : Launch} {e : Env} {R : Room} {s : State} {m : MethodId} {args : Array Value} {below : List Frame} {meth : Method} {c : Code} {cells slots : Nat} {Q : State → Prop} {A : Nat → Prop} {D : va_G} {nL pc : Nat} {cc : ByteArray} {cw : Cond} {own : String} {lv : List (Nat × Value)} {st : List Value} {G : G_} {a : L_} {r : S_} {K : Int32 → Prop} {p0 : Int32} (C : vx_C p s m args c cc nL (cw :: wAll) own D vwCl (tysG G) nwAll A) {i : Nat} (hl : Cond.methodLink own i yD_headAt ∈ wAll) (hR : 1 + 1 ≤ R.frames ∧ 8 + (7 + 11) + 21 ≤ R.locals) (hst : (st.map fun v => v.category).sum ≤ 8) (hd : decode cc pc = .ok (.invokevirtual i, 3)) (hcs : cells ≤ R.cells ∧ slots ≤ R.slots) (h : qD_headAt a r K p0) (k : ∀ (v : Int32), K v → vx_V p l e R s m args below meth c A D vwCl nL cells slots Q (wo G a r) (pc + 3) lv (.int v :: st)) : vx_V p l e R s m args below meth c A D vwCl nL cells slots Q (wo G a r) pc lv (.int p0 :: .ref (ob G 6) :: st) := by
  refine x_callVi C (CC := "ClassInference$Told") (ci := 6) (q0 := 6) (fs := fl6 G a r) (As := [.int p0]) rfl rfl (cD_headAt p0 h) (cwV (C := "ClassInference$Told") 1 C.1.2.2.2.2 (goodV hl wm646 wm647 wm8 wm648) rfl rfl rfl (by decide +kernel) hR) rfl hst hd hcs (fun v w hw => ?_)
  obtain ⟨rfl, h⟩ := hw
  exact k v h
def qI_shape (a : L_) (r : S_) (K : Int32 → Prop) (p0 : Int32) : Prop :=
  qD_headAt a r (fun z1 => K z1) p0
set_option maxRecDepth 100000 in
set_option maxHeartbeats 4000000 in
theorem cI_shape {a : L_} {r : S_} {K : Int32 → Prop} (p0 : Int32) (h : qI_shape a r K p0) : vx_Mi l yI_shape (Cond.code yI_shape prog_1_method_12_code 2 (some .int) :: wAll) { frames := 2, cells := 0, slots := 0, locals := 47 } D vwCl (tysG G) nwAll (wo G a r) [.ref (ob G 0), .int p0] 0 0 (fun v w => w = wo G a r ∧ K v) := by
  unfold qI_shape at h
  refine x_meti (cc := prog_1_method_12_code) (maxL := 2) (ret := (some .int)) (lv0 := [(0, .ref (ob G 0)), (1, .int p0)]) (by decide) rfl (Nat.le_of_ble_eq_true rfl) rfl ?_
  intro p e s m args below meth c A C hA hlocks hr
  refine x_aload_n C dI_shape_0 rfl 0 rfl ?_
  refine gf_0_4 C (List.mem_cons_of_mem _ wm282) dI_shape_1 ?_
  refine x_iload_n C dI_shape_4 rfl 1 rfl ?_
  refine kD_headAt C wm645 ⟨Nat.le_of_ble_eq_true rfl, Nat.le_of_ble_eq_true rfl⟩ (Nat.le_of_ble_eq_true rfl) dI_shape_5 ⟨Nat.zero_le _, Nat.zero_le _⟩ h (fun z1 h => ?_)
  exact x_iret C hA hlocks hr ⟨rfl, h⟩ dI_shape_8
set_option maxRecDepth 100000 in
set_option maxHeartbeats 4000000 in
theorem kI_shape {p : Program} {l : Launch} {e : Env} {R : Room} {s : State} {m : MethodId} {args : Array Value} {below : List Frame} {meth : Method} {c : Code} {cells slots : Nat} {Q : State → Prop} {A : Nat → Prop} {D : va_G} {nL pc : Nat} {cc : ByteArray} {cw : Cond} {own : String} {lv : List (Nat × Value)} {st : List Value} {G : G_} {a : L_} {r : S_} {K : Int32 → Prop} {p0 : Int32} (C : vx_C p s m args c cc nL (cw :: wAll) own D vwCl (tysG G) nwAll A) {i : Nat} (hl : Cond.methodLink own i yI_shape ∈ wAll) (hR : 2 + 1 ≤ R.frames ∧ 8 + (2 + 11) + 47 ≤ R.locals) (hst : (st.map fun v => v.category).sum ≤ 8) (hd : decode cc pc = .ok (.invokevirtual i, 3)) (hcs : cells ≤ R.cells ∧ slots ≤ R.slots) (h : qI_shape a r K p0) (k : ∀ (v : Int32), K v → vx_V p l e R s m args below meth c A D vwCl nL cells slots Q (wo G a r) (pc + 3) lv (.int v :: st)) : vx_V p l e R s m args below meth c A D vwCl nL cells slots Q (wo G a r) pc lv (.int p0 :: .ref (ob G 0) :: st) := by
  refine x_callVi C (CC := "ClassInference") (ci := 0) (q0 := 0) (fs := fl0 G a r) (As := [.int p0]) rfl rfl (cI_shape p0 h) (cwV (C := "ClassInference") 1 C.1.2.2.2.2 (goodV hl wm642 wm643 wm1 wm644) rfl rfl rfl (by decide +kernel) hR) rfl hst hd hcs (fun v w hw => ?_)
  obtain ⟨rfl, h⟩ := hw
  exact k v h
def qD_wantCount (a : L_) (r : S_) (K : Int32 → Prop) : Prop :=
  K (fi r 18)
set_option maxRecDepth 100000 in
set_option maxHeartbeats 4000000 in
theorem cD_wantCount {a : L_} {r : S_} {K : Int32 → Prop} (h : qD_wantCount a r K ) : vx_Mi l yD_wantCount (Cond.code yD_wantCount prog_5_method_8_code 1 (some .int) :: wAll) { frames := 0, cells := 0, slots := 0, locals := 0 } D vwCl (tysG G) nwAll (wo G a r) [.ref (ob G 6)] 0 0 (fun v w => w = wo G a r ∧ K v) := by
  unfold qD_wantCount at h
  refine x_meti (cc := prog_5_method_8_code) (maxL := 1) (ret := (some .int)) (lv0 := [(0, .ref (ob G 6))]) (by decide) rfl (Nat.le_of_ble_eq_true rfl) rfl ?_
  intro p e s m args below meth c A C hA hlocks hr
  refine x_aload_n C dD_wantCount_0 rfl 0 rfl ?_
  refine gf_6_7 C (List.mem_cons_of_mem _ wm256) dD_wantCount_1 ?_
  exact x_iret C hA hlocks hr ⟨rfl, h⟩ dD_wantCount_4
set_option maxRecDepth 100000 in
set_option maxHeartbeats 4000000 in
theorem kD_wantCount {p : Program} {l : Launch} {e : Env} {R : Room} {s : State} {m : MethodId} {args : Array Value} {below : List Frame} {meth : Method} {c : Code} {cells slots : Nat} {Q : State → Prop} {A : Nat → Prop} {D : va_G} {nL pc : Nat} {cc : ByteArray} {cw : Cond} {own : String} {lv : List (Nat × Value)} {st : List Value} {G : G_} {a : L_} {r : S_} {K : Int32 → Prop} (C : vx_C p s m args c cc nL (cw :: wAll) own D vwCl (tysG G) nwAll A) {i : Nat} (hl : Cond.methodLink own i yD_wantCount ∈ wAll) (hR : 0 + 1 ≤ R.frames ∧ 8 + (1 + 11) + 0 ≤ R.locals) (hst : (st.map fun v => v.category).sum ≤ 8) (hd : decode cc pc = .ok (.invokevirtual i, 3)) (hcs : cells ≤ R.cells ∧ slots ≤ R.slots) (h : qD_wantCount a r K ) (k : ∀ (v : Int32), K v → vx_V p l e R s m args below meth c A D vwCl nL cells slots Q (wo G a r) (pc + 3) lv (.int v :: st)) : vx_V p l e R s m args below meth c A D vwCl nL cells slots Q (wo G a r) pc lv (.ref (ob G 6) :: st) := by
  refine x_callVi C (CC := "ClassInference$Told") (ci := 6) (q0 := 6) (fs := fl6 G a r) (As := []) rfl rfl (cD_wantCount  h) (cwV (C := "ClassInference$Told") 0 C.1.2.2.2.2 (goodV hl wm654 wm655 wm8 wm656) rfl rfl rfl (by decide +kernel) hR) rfl hst hd hcs (fun v w hw => ?_)
  obtain ⟨rfl, h⟩ := hw
  exact k v h
def qI_wants (a : L_) (r : S_) (K : Int32 → Prop) : Prop :=
  qD_wantCount a r (fun z1 => K z1)
set_option maxRecDepth 100000 in
set_option maxHeartbeats 4000000 in
theorem cI_wants {a : L_} {r : S_} {K : Int32 → Prop} (h : qI_wants a r K ) : vx_Mi l yI_wants (Cond.code yI_wants prog_1_method_13_code 1 (some .int) :: wAll) { frames := 1, cells := 0, slots := 0, locals := 20 } D vwCl (tysG G) nwAll (wo G a r) [.ref (ob G 0)] 0 0 (fun v w => w = wo G a r ∧ K v) := by
  unfold qI_wants at h
  refine x_meti (cc := prog_1_method_13_code) (maxL := 1) (ret := (some .int)) (lv0 := [(0, .ref (ob G 0))]) (by decide) rfl (Nat.le_of_ble_eq_true rfl) rfl ?_
  intro p e s m args below meth c A C hA hlocks hr
  refine x_aload_n C dI_wants_0 rfl 0 rfl ?_
  refine gf_0_4 C (List.mem_cons_of_mem _ wm282) dI_wants_1 ?_
  refine kD_wantCount C wm653 ⟨Nat.le_of_ble_eq_true rfl, Nat.le_of_ble_eq_true rfl⟩ (Nat.le_of_ble_eq_true rfl) dI_wants_4 ⟨Nat.zero_le _, Nat.zero_le _⟩ h (fun z1 h => ?_)
  exact x_iret C hA hlocks hr ⟨rfl, h⟩ dI_wants_7
set_option maxRecDepth 100000 in
set_option maxHeartbeats 4000000 in
theorem kI_wants {p : Program} {l : Launch} {e : Env} {R : Room} {s : State} {m : MethodId} {args : Array Value} {below : List Frame} {meth : Method} {c : Code} {cells slots : Nat} {Q : State → Prop} {A : Nat → Prop} {D : va_G} {nL pc : Nat} {cc : ByteArray} {cw : Cond} {own : String} {lv : List (Nat × Value)} {st : List Value} {G : G_} {a : L_} {r : S_} {K : Int32 → Prop} (C : vx_C p s m args c cc nL (cw :: wAll) own D vwCl (tysG G) nwAll A) {i : Nat} (hl : Cond.methodLink own i yI_wants ∈ wAll) (hR : 1 + 1 ≤ R.frames ∧ 8 + (1 + 11) + 20 ≤ R.locals) (hst : (st.map fun v => v.category).sum ≤ 8) (hd : decode cc pc = .ok (.invokevirtual i, 3)) (hcs : cells ≤ R.cells ∧ slots ≤ R.slots) (h : qI_wants a r K ) (k : ∀ (v : Int32), K v → vx_V p l e R s m args below meth c A D vwCl nL cells slots Q (wo G a r) (pc + 3) lv (.int v :: st)) : vx_V p l e R s m args below meth c A D vwCl nL cells slots Q (wo G a r) pc lv (.ref (ob G 0) :: st) := by
  refine x_callVi C (CC := "ClassInference") (ci := 0) (q0 := 0) (fs := fl0 G a r) (As := []) rfl rfl (cI_wants  h) (cwV (C := "ClassInference") 0 C.1.2.2.2.2 (goodV hl wm650 wm651 wm1 wm652) rfl rfl rfl (by decide +kernel) hR) rfl hst hd hcs (fun v w hw => ?_)
  obtain ⟨rfl, h⟩ := hw
  exact k v h
def qD_wantAt_J61 (a : L_) (r : S_) (KB17 : Int32 → Int32 → Int32 → Int32 → Prop) (KX46 : Int32 → Int32 → Int32 → Prop) (KX67 : Int32 → Int32 → Int32 → Prop) (v2 : Int32) (v3 : Int32) (v4 : Int32) (v5 : Int32) : Prop :=
  KB17 v2 v3 v4 (v5 + 1)
set_option maxRecDepth 100000 in
set_option maxHeartbeats 4000000 in
theorem tD_wantAt_J61 (C : vx_C p s m args c prog_5_method_10_code 6 (Cond.code yD_wantAt prog_5_method_10_code 6 (some .int) :: wAll) "ClassInference$Told" D vwCl (tysG G) nwAll A) {a : L_} {r : S_} {KB17 : Int32 → Int32 → Int32 → Int32 → Prop} {KX46 : Int32 → Int32 → Int32 → Prop} {KX67 : Int32 → Int32 → Int32 → Prop} (kB17 : ∀ (v2 : Int32) (v3 : Int32) (v4 : Int32) (v5 : Int32), KB17 v2 v3 v4 v5 → vx_V p l e { frames := 0, cells := 0, slots := 0, locals := 0 } s m args below meth c A D vwCl 6 0 0 Q (wo G a r) 17 [(0, .ref (ob G 6)), (2, .int v2), (3, .int v3), (4, .int v4), (5, .int v5)] []) (kX46 : ∀ (v2 : Int32) (v4 : Int32) (v5 : Int32), KX46 v2 v4 v5 → vx_V p l e { frames := 0, cells := 0, slots := 0, locals := 0 } s m args below meth c A D vwCl 6 0 0 Q (wo G a r) 46 [(2, .int v2), (4, .int v4), (5, .int v5)] []) (kX67 : ∀ (v2 : Int32) (v3 : Int32) (v4 : Int32), KX67 v2 v3 v4 → vx_V p l e { frames := 0, cells := 0, slots := 0, locals := 0 } s m args below meth c A D vwCl 6 0 0 Q (wo G a r) 67 [(0, .ref (ob G 6)), (2, .int v2), (3, .int v3), (4, .int v4)] []) (v2 : Int32) (v3 : Int32) (v4 : Int32) (v5 : Int32) (h : qD_wantAt_J61 a r KB17 KX46 KX67 v2 v3 v4 v5) : vx_V p l e { frames := 0, cells := 0, slots := 0, locals := 0 } s m args below meth c A D vwCl 6 0 0 Q (wo G a r) 61 [(0, .ref (ob G 6)), (2, .int v2), (3, .int v3), (4, .int v4), (5, .int v5)] [] := by
  unfold qD_wantAt_J61 at h
  refine x_iinc (j := 4) (v := v5 + 1) C [(5, .int (v5 + 1)), (0, .ref (ob G 6)), (2, .int v2), (3, .int v3), (4, .int v4)] dD_wantAt_61 rfl rfl (by decide) rfl ?_
  refine x_goto (tgt := 17) C dD_wantAt_64 (by decide) ?_
  refine x_sub [1, 2, 3, 4, 0] rfl ?_
  exact kB17 v2 v3 v4 (v5 + 1) h
def qD_wantAt_L17 (a : L_) (r : S_) (KX46 : Int32 → Int32 → Int32 → Prop) (KX67 : Int32 → Int32 → Int32 → Prop) : Nat → Int32 → Int32 → Int32 → Int32 → Prop
  | 0, _, _, _, _ => False
  | n + 1, v2, v3, v4, v5 => ((8 ≤ v5) → KX67 v2 v3 v4) ∧ ((¬ 8 ≤ v5) → vp_in v4 (ln a 35) ∧ ((¬ ((ar r 35 v4.toNatClampNeg) &&& (1 <<< (v5 &&& 31))) = 0) → ((¬ v3 = 0) → qD_wantAt_J61 a r (qD_wantAt_L17 a r KX46 KX67 n) KX46 KX67 v2 (v3 + (-1)) v4 v5) ∧ ((v3 = 0) → KX46 v2 v4 v5)) ∧ ((((ar r 35 v4.toNatClampNeg) &&& (1 <<< (v5 &&& 31))) = 0) → qD_wantAt_J61 a r (qD_wantAt_L17 a r KX46 KX67 n) KX46 KX67 v2 v3 v4 v5))
set_option maxRecDepth 100000 in
set_option maxHeartbeats 4000000 in
theorem tD_wantAt_L17 (C : vx_C p s m args c prog_5_method_10_code 6 (Cond.code yD_wantAt prog_5_method_10_code 6 (some .int) :: wAll) "ClassInference$Told" D vwCl (tysG G) nwAll A) {a : L_} {r : S_} {KX46 : Int32 → Int32 → Int32 → Prop} {KX67 : Int32 → Int32 → Int32 → Prop} (kX46 : ∀ (v2 : Int32) (v4 : Int32) (v5 : Int32), KX46 v2 v4 v5 → vx_V p l e { frames := 0, cells := 0, slots := 0, locals := 0 } s m args below meth c A D vwCl 6 0 0 Q (wo G a r) 46 [(2, .int v2), (4, .int v4), (5, .int v5)] []) (kX67 : ∀ (v2 : Int32) (v3 : Int32) (v4 : Int32), KX67 v2 v3 v4 → vx_V p l e { frames := 0, cells := 0, slots := 0, locals := 0 } s m args below meth c A D vwCl 6 0 0 Q (wo G a r) 67 [(0, .ref (ob G 6)), (2, .int v2), (3, .int v3), (4, .int v4)] []) : ∀ (n : Nat) (v2 : Int32) (v3 : Int32) (v4 : Int32) (v5 : Int32), qD_wantAt_L17 a r KX46 KX67 n v2 v3 v4 v5 → vx_V p l e { frames := 0, cells := 0, slots := 0, locals := 0 } s m args below meth c A D vwCl 6 0 0 Q (wo G a r) 17 [(0, .ref (ob G 6)), (2, .int v2), (3, .int v3), (4, .int v4), (5, .int v5)] [] := by
  intro n
  induction n with
  | zero =>
    intro v2 v3 v4 v5 h
    exact (by rw [qD_wantAt_L17] at h; exact h : False).elim
  | succ n kB17 =>
    intro v2 v3 v4 v5 h
    rw [qD_wantAt_L17] at h
    refine x_iload C dD_wantAt_17 4 rfl ?_
    refine x_bipush (v := 8) C dD_wantAt_19 (by decide) ?_
    refine x_icmp_ge (tgt := 67) C dD_wantAt_21 (by decide) (fun g2 => ?_) (fun g2 => ?_)
    · have h := h.1 g2
      refine x_sub [0, 1, 2, 3] rfl ?_
      exact kX67 v2 v3 v4 h
    · have h := h.2 g2
      refine x_aload_n C dD_wantAt_24 rfl 0 rfl ?_
      refine gf_6_5 C (List.mem_cons_of_mem _ wm254) dD_wantAt_25 ?_
      refine x_iload C dD_wantAt_28 3 rfl ?_
      obtain ⟨g3, h⟩ := h
      refine y_ia C 35 (by decide) g3 dD_wantAt_30 ?_
      refine x_iconst (v := 1) C dD_wantAt_31 (by decide) ?_
      refine x_iload C dD_wantAt_32 4 rfl ?_
      refine x_ishl C dD_wantAt_34 ?_
      refine x_iand C dD_wantAt_35 ?_
      refine x_if_ne (tgt := 42) C dD_wantAt_36 (by decide) (fun g4 => ?_) (fun g4 => ?_)
      · have h := h.1 g4
        refine x_iload_n C dD_wantAt_42 rfl 2 rfl ?_
        refine x_if_ne (tgt := 58) C dD_wantAt_43 (by decide) (fun g5 => ?_) (fun g5 => ?_)
        · have h := h.1 g5
          refine x_iinc (j := 2) (v := v3 + (-1)) C [(3, .int (v3 + (-1))), (0, .ref (ob G 6)), (2, .int v2), (4, .int v4), (5, .int v5)] dD_wantAt_58 rfl rfl (by decide) rfl ?_
          refine x_sub [1, 2, 0, 3, 4] rfl ?_
          exact tD_wantAt_J61 C kB17 kX46 kX67 v2 (v3 + (-1)) v4 v5 h
        · have h := h.2 g5
          refine x_sub [1, 3, 4] rfl ?_
          exact kX46 v2 v4 v5 h
      · have h := h.2 g4
        refine x_goto (tgt := 61) C dD_wantAt_39 (by decide) ?_
        refine x_sub [0, 1, 2, 3, 4] rfl ?_
        exact tD_wantAt_J61 C kB17 kX46 kX67 v2 v3 v4 v5 h
def qD_wantAt_L5 (a : L_) (r : S_) (KX46 : Int32 → Int32 → Int32 → Prop) (KX73 : Prop) : Nat → Int32 → Int32 → Int32 → Prop
  | 0, _, _, _ => False
  | n + 1, v2, v3, v4 => (((fi r 17) ≤ v4) → KX73) ∧ ((¬ (fi r 17) ≤ v4) → ∃ n6 : Nat, qD_wantAt_L17 a r (fun v2 v4 v5 => KX46 v2 v4 v5) (fun v2 v3 v4 => (qD_wantAt_L5 a r KX46 KX73 n) v2 v3 (v4 + 1)) n6 v2 v3 v4 0)
set_option maxRecDepth 100000 in
set_option maxHeartbeats 4000000 in
theorem tD_wantAt_L5 (C : vx_C p s m args c prog_5_method_10_code 6 (Cond.code yD_wantAt prog_5_method_10_code 6 (some .int) :: wAll) "ClassInference$Told" D vwCl (tysG G) nwAll A) {a : L_} {r : S_} {KX46 : Int32 → Int32 → Int32 → Prop} {KX73 : Prop} (kX46 : ∀ (v2 : Int32) (v4 : Int32) (v5 : Int32), KX46 v2 v4 v5 → vx_V p l e { frames := 0, cells := 0, slots := 0, locals := 0 } s m args below meth c A D vwCl 6 0 0 Q (wo G a r) 46 [(2, .int v2), (4, .int v4), (5, .int v5)] []) (kX73 : KX73 → vx_V p l e { frames := 0, cells := 0, slots := 0, locals := 0 } s m args below meth c A D vwCl 6 0 0 Q (wo G a r) 73 [] []) : ∀ (n : Nat) (v2 : Int32) (v3 : Int32) (v4 : Int32), qD_wantAt_L5 a r KX46 KX73 n v2 v3 v4 → vx_V p l e { frames := 0, cells := 0, slots := 0, locals := 0 } s m args below meth c A D vwCl 6 0 0 Q (wo G a r) 5 [(0, .ref (ob G 6)), (2, .int v2), (3, .int v3), (4, .int v4)] [] := by
  intro n
  induction n with
  | zero =>
    intro v2 v3 v4 h
    exact (by rw [qD_wantAt_L5] at h; exact h : False).elim
  | succ n kB5 =>
    intro v2 v3 v4 h
    rw [qD_wantAt_L5] at h
    refine x_iload C dD_wantAt_5 3 rfl ?_
    refine x_aload_n C dD_wantAt_7 rfl 0 rfl ?_
    refine gf_6_6 C (List.mem_cons_of_mem _ wm255) dD_wantAt_8 ?_
    refine x_icmp_ge (tgt := 73) C dD_wantAt_11 (by decide) (fun g1 => ?_) (fun g1 => ?_)
    · have h := h.1 g1
      refine x_sub [] rfl ?_
      exact kX73 h
    · have h := h.2 g1
      refine x_iconst (v := 0) C dD_wantAt_14 (by decide) ?_
      refine x_istore C [(5, .int 0), (0, .ref (ob G 6)), (2, .int v2), (3, .int v3), (4, .int v4)] dD_wantAt_15 (by decide) rfl ?_
      obtain ⟨n6, h⟩ := h
      refine x_sub [1, 2, 3, 4, 0] rfl ?_
      refine tD_wantAt_L17 C (fun v2 v4 v5 h => ?_) (fun v2 v3 v4 h => ?_) n6 v2 v3 v4 0 h
      · refine x_sub [0, 1, 2] rfl ?_
        exact kX46 v2 v4 v5 h
      · refine x_iinc (j := 3) (v := v4 + 1) C [(4, .int (v4 + 1)), (0, .ref (ob G 6)), (2, .int v2), (3, .int v3)] dD_wantAt_67 rfl rfl (by decide) rfl ?_
        refine x_goto (tgt := 5) C dD_wantAt_70 (by decide) ?_
        refine x_sub [1, 2, 3, 0] rfl ?_
        exact kB5 v2 v3 (v4 + 1) h
def qD_wantAt (a : L_) (r : S_) (K : Int32 → Prop) (p0 : Int32) (p1 : Int32) : Prop :=
  ∃ n8 : Nat, qD_wantAt_L5 a r (fun v2 v4 v5 => ((¬ v2 = 0) → K v4) ∧ ((v2 = 0) → K v5)) (K (-1)) n8 p1 p0 0
set_option maxRecDepth 100000 in
set_option maxHeartbeats 4000000 in
theorem cD_wantAt {a : L_} {r : S_} {K : Int32 → Prop} (p0 : Int32) (p1 : Int32) (h : qD_wantAt a r K p0 p1) : vx_Mi l yD_wantAt (Cond.code yD_wantAt prog_5_method_10_code 6 (some .int) :: wAll) { frames := 0, cells := 0, slots := 0, locals := 0 } D vwCl (tysG G) nwAll (wo G a r) [.ref (ob G 6), .int p0, .int p1] 0 0 (fun v w => w = wo G a r ∧ K v) := by
  unfold qD_wantAt at h
  refine x_meti (cc := prog_5_method_10_code) (maxL := 6) (ret := (some .int)) (lv0 := [(0, .ref (ob G 6)), (1, .int p0), (2, .int p1)]) (by decide) rfl (Nat.le_of_ble_eq_true rfl) rfl ?_
  intro p e s m args below meth c A C hA hlocks hr
  refine x_iload_n C dD_wantAt_0 rfl 1 rfl ?_
  refine x_istore_n C [(3, .int p0), (0, .ref (ob G 6)), (1, .int p0), (2, .int p1)] dD_wantAt_1 rfl (by decide) rfl ?_
  refine x_iconst (v := 0) C dD_wantAt_2 (by decide) ?_
  refine x_istore C [(4, .int 0), (3, .int p0), (0, .ref (ob G 6)), (1, .int p0), (2, .int p1)] dD_wantAt_3 (by decide) rfl ?_
  obtain ⟨n8, h⟩ := h
  refine x_sub [2, 4, 1, 0] rfl ?_
  refine tD_wantAt_L5 C (fun v2 v4 v5 h => ?_) (fun h => ?_) n8 p1 p0 0 h
  · refine x_iload_n C dD_wantAt_46 rfl 0 rfl ?_
    refine x_if_ne (tgt := 55) C dD_wantAt_47 (by decide) (fun g7 => ?_) (fun g7 => ?_)
    · have h := h.1 g7
      refine x_iload C dD_wantAt_55 1 rfl ?_
      exact x_iret C hA hlocks hr ⟨rfl, h⟩ dD_wantAt_57
    · have h := h.2 g7
      refine x_iload C dD_wantAt_50 2 rfl ?_
      refine x_goto (tgt := 57) C dD_wantAt_52 (by decide) ?_
      exact x_iret C hA hlocks hr ⟨rfl, h⟩ dD_wantAt_57
  · refine x_iconst (v := (-1)) C dD_wantAt_73 (by decide) ?_
    exact x_iret C hA hlocks hr ⟨rfl, h⟩ dD_wantAt_74
set_option maxRecDepth 100000 in
set_option maxHeartbeats 4000000 in
theorem kD_wantAt {p : Program} {l : Launch} {e : Env} {R : Room} {s : State} {m : MethodId} {args : Array Value} {below : List Frame} {meth : Method} {c : Code} {cells slots : Nat} {Q : State → Prop} {A : Nat → Prop} {D : va_G} {nL pc : Nat} {cc : ByteArray} {cw : Cond} {own : String} {lv : List (Nat × Value)} {st : List Value} {G : G_} {a : L_} {r : S_} {K : Int32 → Prop} {p0 : Int32} {p1 : Int32} (C : vx_C p s m args c cc nL (cw :: wAll) own D vwCl (tysG G) nwAll A) {i : Nat} (hl : Cond.methodLink own i yD_wantAt ∈ wAll) (hR : 0 + 1 ≤ R.frames ∧ 8 + (6 + 11) + 0 ≤ R.locals) (hst : (st.map fun v => v.category).sum ≤ 8) (hd : decode cc pc = .ok (.invokevirtual i, 3)) (hcs : cells ≤ R.cells ∧ slots ≤ R.slots) (h : qD_wantAt a r K p0 p1) (k : ∀ (v : Int32), K v → vx_V p l e R s m args below meth c A D vwCl nL cells slots Q (wo G a r) (pc + 3) lv (.int v :: st)) : vx_V p l e R s m args below meth c A D vwCl nL cells slots Q (wo G a r) pc lv (.int p1 :: .int p0 :: .ref (ob G 6) :: st) := by
  refine x_callVi C (CC := "ClassInference$Told") (ci := 6) (q0 := 6) (fs := fl6 G a r) (As := [.int p0, .int p1]) rfl rfl (cD_wantAt p0 p1 h) (cwV (C := "ClassInference$Told") 2 C.1.2.2.2.2 (goodV hl wm662 wm663 wm8 wm664) rfl rfl rfl (by decide +kernel) hR) rfl hst hd hcs (fun v w hw => ?_)
  obtain ⟨rfl, h⟩ := hw
  exact k v h
end MTH
