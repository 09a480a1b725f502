section MTH
variable {p : Program} {l : Launch} {e : Env} {s : State} {m : MethodId} {args : Array Value} {below : List Frame} {meth : Method} {c : Code} {Q : State → Prop} {A : Nat → Prop} {D : va_G} {G : G_} {ws0 : va_W}
def qY_markOpen_J128 (a : L_) (KB17 : S_ → Int32 → Prop) (KX135 : S_ → Prop) (r : S_) (v2 : Int32) (u0 : Int32) (u1 : Int32) : Prop :=
  vp_in u1 (ln a 26) ∧ ∀ r13 : S_, r13 = sA r 26 (upd (ar r 26) u1.toNatClampNeg u0) → KB17 r13 (v2 + 1)
set_option maxRecDepth 100000 in
set_option maxHeartbeats 4000000 in
theorem tY_markOpen_J128 (C : vx_C p s m args c prog_7_method_15_code 5 (Cond.code yY_markOpen prog_7_method_15_code 5 none :: wAll) "ClassInference$Typer" D vwCl (tysG G) nwAll A) {a : L_} {KB17 : S_ → Int32 → Prop} {KX135 : S_ → Prop} (kB17 : ∀ (r : S_) (v2 : Int32), KB17 r v2 → vx_V p l e { frames := 2, cells := 0, slots := 0, locals := 46 } s m args below meth c A D vwCl 5 0 0 Q (wo G a r) 17 [(0, .ref (ob G 4)), (2, .int v2)] []) (kX135 : ∀ (r : S_), KX135 r → vx_V p l e { frames := 2, cells := 0, slots := 0, locals := 46 } s m args below meth c A D vwCl 5 0 0 Q (wo G a r) 135 [] []) (r : S_) (v2 : Int32) (u0 : Int32) (u1 : Int32) (h : qY_markOpen_J128 a KB17 KX135 r v2 u0 u1) : vx_V p l e { frames := 2, cells := 0, slots := 0, locals := 46 } s m args below meth c A D vwCl 5 0 0 Q (wo G a r) 128 [(0, .ref (ob G 4)), (2, .int v2)] [.int u0, .int u1, .ref (ad a 26)] := by
  unfold qY_markOpen_J128 at h
  obtain ⟨g12, h⟩ := h
  refine y_is C 26 (by decide) g12 dY_markOpen_128 (fun r13 er13 => ?_)
  have h := h r13 er13
  refine x_iinc (j := 1) (v := v2 + 1) C [(2, .int (v2 + 1)), (0, .ref (ob G 4))] dY_markOpen_129 rfl rfl (by decide) rfl ?_
  refine x_goto (tgt := 17) C dY_markOpen_132 (by decide) ?_
  refine x_sub [1, 0] rfl ?_
  exact kB17 r13 (v2 + 1) h
def qY_markOpen_J108 (a : L_) (KB17 : S_ → Int32 → Prop) (KX135 : S_ → Prop) (r : S_) (v2 : Int32) (v3 : Int32) (u0 : Int32) : Prop :=
  ((u0 = 0) → qY_markOpen_J128 a KB17 KX135 r v2 0 v3) ∧ ((¬ u0 = 0) → qY_markOpen_J128 a KB17 KX135 r v2 1 v3)
set_option maxRecDepth 100000 in
set_option maxHeartbeats 4000000 in
theorem tY_markOpen_J108 (C : vx_C p s m args c prog_7_method_15_code 5 (Cond.code yY_markOpen prog_7_method_15_code 5 none :: wAll) "ClassInference$Typer" D vwCl (tysG G) nwAll A) {a : L_} {KB17 : S_ → Int32 → Prop} {KX135 : S_ → Prop} (kB17 : ∀ (r : S_) (v2 : Int32), KB17 r v2 → vx_V p l e { frames := 2, cells := 0, slots := 0, locals := 46 } s m args below meth c A D vwCl 5 0 0 Q (wo G a r) 17 [(0, .ref (ob G 4)), (2, .int v2)] []) (kX135 : ∀ (r : S_), KX135 r → vx_V p l e { frames := 2, cells := 0, slots := 0, locals := 46 } s m args below meth c A D vwCl 5 0 0 Q (wo G a r) 135 [] []) (r : S_) (v2 : Int32) (v3 : Int32) (u0 : Int32) (h : qY_markOpen_J108 a KB17 KX135 r v2 v3 u0) : vx_V p l e { frames := 2, cells := 0, slots := 0, locals := 46 } s m args below meth c A D vwCl 5 0 0 Q (wo G a r) 108 [(0, .ref (ob G 4)), (2, .int v2), (3, .int v3)] [.int u0] := by
  unfold qY_markOpen_J108 at h
  refine x_istore C [(4, .int u0), (0, .ref (ob G 4)), (2, .int v2), (3, .int v3)] dY_markOpen_108 (by decide) rfl ?_
  refine x_aload_n C dY_markOpen_110 rfl 1 rfl ?_
  refine gf_4_3 C (List.mem_cons_of_mem _ wm203) dY_markOpen_111 ?_
  refine gn_5_5 C wn150 dY_markOpen_114 ?_
  refine x_iload_n C dY_markOpen_117 rfl 3 rfl ?_
  refine x_iload C dY_markOpen_118 0 rfl ?_
  refine x_if_eq (tgt := 127) C dY_markOpen_120 (by decide) (fun g11 => ?_) (fun g11 => ?_)
  · have h := h.1 g11
    refine x_iconst (v := 0) C dY_markOpen_127 (by decide) ?_
    refine x_sub [1, 2] rfl ?_
    exact tY_markOpen_J128 C kB17 kX135 r v2 0 v3 h
  · have h := h.2 g11
    refine x_iconst (v := 1) C dY_markOpen_123 (by decide) ?_
    refine x_goto (tgt := 128) C dY_markOpen_124 (by decide) ?_
    refine x_sub [1, 2] rfl ?_
    exact tY_markOpen_J128 C kB17 kX135 r v2 1 v3 h
def qY_markOpen_J103 (a : L_) (KB17 : S_ → Int32 → Prop) (KX135 : S_ → Prop) (r : S_) (v2 : Int32) (v3 : Int32) : Prop :=
  qY_markOpen_J108 a KB17 KX135 r v2 v3 1
set_option maxRecDepth 100000 in
set_option maxHeartbeats 4000000 in
theorem tY_markOpen_J103 (C : vx_C p s m args c prog_7_method_15_code 5 (Cond.code yY_markOpen prog_7_method_15_code 5 none :: wAll) "ClassInference$Typer" D vwCl (tysG G) nwAll A) {a : L_} {KB17 : S_ → Int32 → Prop} {KX135 : S_ → Prop} (kB17 : ∀ (r : S_) (v2 : Int32), KB17 r v2 → vx_V p l e { frames := 2, cells := 0, slots := 0, locals := 46 } s m args below meth c A D vwCl 5 0 0 Q (wo G a r) 17 [(0, .ref (ob G 4)), (2, .int v2)] []) (kX135 : ∀ (r : S_), KX135 r → vx_V p l e { frames := 2, cells := 0, slots := 0, locals := 46 } s m args below meth c A D vwCl 5 0 0 Q (wo G a r) 135 [] []) (r : S_) (v2 : Int32) (v3 : Int32) (h : qY_markOpen_J103 a KB17 KX135 r v2 v3) : vx_V p l e { frames := 2, cells := 0, slots := 0, locals := 46 } s m args below meth c A D vwCl 5 0 0 Q (wo G a r) 103 [(0, .ref (ob G 4)), (2, .int v2), (3, .int v3)] [] := by
  unfold qY_markOpen_J103 at h
  refine x_iconst (v := 1) C dY_markOpen_103 (by decide) ?_
  refine x_goto (tgt := 108) C dY_markOpen_104 (by decide) ?_
  refine x_sub [0, 1, 2] rfl ?_
  exact tY_markOpen_J108 C kB17 kX135 r v2 v3 1 h
def qY_markOpen_L17 (a : L_) (KX135 : S_ → Prop) : Nat → S_ → Int32 → Prop
  | 0, _, _ => False
  | n + 1, r, v2 => (((fi r 12) ≤ v2) → KX135 r) ∧ ((¬ (fi r 12) ≤ v2) → vp_in v2 (ln a 30) ∧ qG_isVariable a r (fun z5 => zb z5 → ((z5 = 0) → qG_firstOf a (fun z7 r8 => qY_holdsOpen a r8 (fun z9 => zb z9 → ((¬ z9 = 0) → qY_markOpen_J103 a (qY_markOpen_L17 a KX135 n) KX135 r8 v2 (ar r 30 v2.toNatClampNeg)) ∧ ((z9 = 0) → qG_secondOf a (fun z14 r15 => qY_holdsOpen a r15 (fun z16 => zb z16 → ((z16 = 0) → qY_markOpen_J108 a (qY_markOpen_L17 a KX135 n) KX135 r15 v2 (ar r 30 v2.toNatClampNeg) 0) ∧ ((¬ z16 = 0) → qY_markOpen_J103 a (qY_markOpen_L17 a KX135 n) KX135 r15 v2 (ar r 30 v2.toNatClampNeg))) z14) r8 (ar r 30 v2.toNatClampNeg))) z7) r (ar r 30 v2.toNatClampNeg)) ∧ ((¬ z5 = 0) → vp_in (ar r 30 v2.toNatClampNeg) (ln a 27) ∧ (((ar r 27 (ar r 30 v2.toNatClampNeg).toNatClampNeg) = (fi r 6)) → qY_markOpen_J108 a (qY_markOpen_L17 a KX135 n) KX135 r v2 (ar r 30 v2.toNatClampNeg) 0) ∧ ((¬ (ar r 27 (ar r 30 v2.toNatClampNeg).toNatClampNeg) = (fi r 6)) → qY_markOpen_J108 a (qY_markOpen_L17 a KX135 n) KX135 r v2 (ar r 30 v2.toNatClampNeg) 1))) (ar r 30 v2.toNatClampNeg))
set_option maxRecDepth 100000 in
set_option maxHeartbeats 4000000 in
theorem tY_markOpen_L17 (C : vx_C p s m args c prog_7_method_15_code 5 (Cond.code yY_markOpen prog_7_method_15_code 5 none :: wAll) "ClassInference$Typer" D vwCl (tysG G) nwAll A) {a : L_} {KX135 : S_ → Prop} (kX135 : ∀ (r : S_), KX135 r → vx_V p l e { frames := 2, cells := 0, slots := 0, locals := 46 } s m args below meth c A D vwCl 5 0 0 Q (wo G a r) 135 [] []) : ∀ (n : Nat) (r : S_) (v2 : Int32), qY_markOpen_L17 a KX135 n r v2 → vx_V p l e { frames := 2, cells := 0, slots := 0, locals := 46 } s m args below meth c A D vwCl 5 0 0 Q (wo G a r) 17 [(0, .ref (ob G 4)), (2, .int v2)] [] := by
  intro n
  induction n with
  | zero =>
    intro r v2 h
    exact (by rw [qY_markOpen_L17] at h; exact h : False).elim
  | succ n kB17 =>
    intro r v2 h
    rw [qY_markOpen_L17] at h
    refine x_iload_n C dY_markOpen_17 rfl 1 rfl ?_
    refine x_aload_n C dY_markOpen_18 rfl 0 rfl ?_
    refine gf_4_3 C (List.mem_cons_of_mem _ wm203) dY_markOpen_19 ?_
    refine gn_5_11 C wn160 dY_markOpen_22 ?_
    refine x_icmp_ge (tgt := 135) C dY_markOpen_25 (by decide) (fun g3 => ?_) (fun g3 => ?_)
    · have h := h.1 g3
      refine x_sub [] rfl ?_
      exact kX135 r h
    · have h := h.2 g3
      refine x_aload_n C dY_markOpen_28 rfl 0 rfl ?_
      refine gf_4_3 C (List.mem_cons_of_mem _ wm203) dY_markOpen_29 ?_
      refine gn_5_10 C wn159 dY_markOpen_32 ?_
      refine x_iload_n C dY_markOpen_35 rfl 1 rfl ?_
      obtain ⟨g4, h⟩ := h
      refine y_ia C 30 (by decide) g4 dY_markOpen_36 ?_
      refine x_istore_n C [(3, .int (ar r 30 v2.toNatClampNeg)), (0, .ref (ob G 4)), (2, .int v2)] dY_markOpen_37 rfl (by decide) rfl ?_
      refine x_aload_n C dY_markOpen_38 rfl 1 rfl ?_
      refine gf_4_3 C (List.mem_cons_of_mem _ wm203) dY_markOpen_39 ?_
      refine x_iload_n C dY_markOpen_42 rfl 0 rfl ?_
      refine kG_isVariable C wm526 ⟨Nat.le_of_ble_eq_true rfl, Nat.le_of_ble_eq_true rfl⟩ (Nat.le_of_ble_eq_true rfl) dY_markOpen_43 ⟨Nat.zero_le _, Nat.zero_le _⟩ h (fun z5 hzz5 h => ?_)
      have h := h hzz5
      refine x_if_eq (tgt := 73) C dY_markOpen_46 (by decide) (fun g6 => ?_) (fun g6 => ?_)
      · have h := h.1 g6
        refine x_aload_n C dY_markOpen_73 rfl 1 rfl ?_
        refine x_aload_n C dY_markOpen_74 rfl 1 rfl ?_
        refine gf_4_3 C (List.mem_cons_of_mem _ wm203) dY_markOpen_75 ?_
        refine x_iload_n C dY_markOpen_78 rfl 0 rfl ?_
        refine kG_firstOf C wm527 ⟨Nat.le_of_ble_eq_true rfl, Nat.le_of_ble_eq_true rfl⟩ (Nat.le_of_ble_eq_true rfl) dY_markOpen_79 ⟨Nat.zero_le _, Nat.zero_le _⟩ h (fun z7 r8 h => ?_)
        refine kY_holdsOpen C wm531 ⟨Nat.le_of_ble_eq_true rfl, Nat.le_of_ble_eq_true rfl⟩ (Nat.le_of_ble_eq_true rfl) dY_markOpen_82 ⟨Nat.zero_le _, Nat.zero_le _⟩ h (fun z9 hzz9 h => ?_)
        have h := h hzz9
        refine x_if_ne (tgt := 103) C dY_markOpen_85 (by decide) (fun g10 => ?_) (fun g10 => ?_)
        · have h := h.1 g10
          refine x_sub [1, 2, 0] rfl ?_
          exact tY_markOpen_J103 C kB17 kX135 r8 v2 (ar r 30 v2.toNatClampNeg) h
        · have h := h.2 g10
          refine x_aload_n C dY_markOpen_88 rfl 1 rfl ?_
          refine x_aload_n C dY_markOpen_89 rfl 1 rfl ?_
          refine gf_4_3 C (List.mem_cons_of_mem _ wm203) dY_markOpen_90 ?_
          refine x_iload_n C dY_markOpen_93 rfl 0 rfl ?_
          refine kG_secondOf C wm535 ⟨Nat.le_of_ble_eq_true rfl, Nat.le_of_ble_eq_true rfl⟩ (Nat.le_of_ble_eq_true rfl) dY_markOpen_94 ⟨Nat.zero_le _, Nat.zero_le _⟩ h (fun z14 r15 h => ?_)
          refine kY_holdsOpen C wm531 ⟨Nat.le_of_ble_eq_true rfl, Nat.le_of_ble_eq_true rfl⟩ (Nat.le_of_ble_eq_true rfl) dY_markOpen_97 ⟨Nat.zero_le _, Nat.zero_le _⟩ h (fun z16 hzz16 h => ?_)
          have h := h hzz16
          refine x_if_eq (tgt := 107) C dY_markOpen_100 (by decide) (fun g17 => ?_) (fun g17 => ?_)
          · have h := h.1 g17
            refine x_iconst (v := 0) C dY_markOpen_107 (by decide) ?_
            refine x_sub [1, 2, 0] rfl ?_
            exact tY_markOpen_J108 C kB17 kX135 r15 v2 (ar r 30 v2.toNatClampNeg) 0 h
          · have h := h.2 g17
            refine x_sub [1, 2, 0] rfl ?_
            exact tY_markOpen_J103 C kB17 kX135 r15 v2 (ar r 30 v2.toNatClampNeg) h
      · have h := h.2 g6
        refine x_aload_n C dY_markOpen_49 rfl 1 rfl ?_
        refine gf_4_3 C (List.mem_cons_of_mem _ wm203) dY_markOpen_50 ?_
        refine gn_5_6 C wn152 dY_markOpen_53 ?_
        refine x_iload_n C dY_markOpen_56 rfl 0 rfl ?_
        obtain ⟨g18, h⟩ := h
        refine y_ia C 27 (by decide) g18 dY_markOpen_57 ?_
        refine x_aload_n C dY_markOpen_58 rfl 1 rfl ?_
        refine gf_4_9 C (List.mem_cons_of_mem _ wm209) dY_markOpen_59 ?_
        refine x_icmp_eq (tgt := 69) C dY_markOpen_62 (by decide) (fun g19 => ?_) (fun g19 => ?_)
        · have h := h.1 g19
          refine x_iconst (v := 0) C dY_markOpen_69 (by decide) ?_
          refine x_goto (tgt := 108) C dY_markOpen_70 (by decide) ?_
          refine x_sub [1, 2, 0] rfl ?_
          exact tY_markOpen_J108 C kB17 kX135 r v2 (ar r 30 v2.toNatClampNeg) 0 h
        · have h := h.2 g19
          refine x_iconst (v := 1) C dY_markOpen_65 (by decide) ?_
          refine x_goto (tgt := 108) C dY_markOpen_66 (by decide) ?_
          refine x_sub [1, 2, 0] rfl ?_
          exact tY_markOpen_J108 C kB17 kX135 r v2 (ar r 30 v2.toNatClampNeg) 1 h
def qY_markOpen (a : L_) (K : S_ → Prop) (r : S_) (p0 : Int32) : Prop :=
  qG_startWalk a (fun r1 => qG_walk a (fun r2 => ∃ n20 : Nat, qY_markOpen_L17 a (fun r => K r) n20 r2 0) r1 p0) r
set_option maxRecDepth 100000 in
set_option maxHeartbeats 4000000 in
theorem cY_markOpen {a : L_} {r : S_} {K : S_ → Prop} (p0 : Int32) (h : qY_markOpen a K r p0) : vx_Mv l yY_markOpen (Cond.code yY_markOpen prog_7_method_15_code 5 none :: wAll) { frames := 2, cells := 0, slots := 0, locals := 46 } D vwCl (tysG G) nwAll (wo G a r) [.ref (ob G 4), .int p0] 0 0 (fun w => ∃ r1, w = wo G a r1 ∧ K r1) := by
  unfold qY_markOpen at h
  refine x_metv (cc := prog_7_method_15_code) (maxL := 5) (ret := none) (lv0 := [(0, .ref (ob G 4)), (1, .int p0)]) (by decide) rfl (Nat.le_of_ble_eq_true rfl) rfl ?_
  intro p e s m args below meth c A C hA hlocks hr
  refine x_aload_n C dY_markOpen_0 rfl 0 rfl ?_
  refine gf_4_3 C (List.mem_cons_of_mem _ wm203) dY_markOpen_1 ?_
  refine kG_startWalk C wm514 ⟨Nat.le_of_ble_eq_true rfl, Nat.le_of_ble_eq_true rfl⟩ (Nat.le_of_ble_eq_true rfl) dY_markOpen_4 ⟨Nat.zero_le _, Nat.zero_le _⟩ h (fun r1 h => ?_)
  refine x_aload_n C dY_markOpen_7 rfl 0 rfl ?_
  refine gf_4_3 C (List.mem_cons_of_mem _ wm203) dY_markOpen_8 ?_
  refine x_iload_n C dY_markOpen_11 rfl 1 rfl ?_
  refine kG_walk C wm518 ⟨Nat.le_of_ble_eq_true rfl, Nat.le_of_ble_eq_true rfl⟩ (Nat.le_of_ble_eq_true rfl) dY_markOpen_12 ⟨Nat.zero_le _, Nat.zero_le _⟩ h (fun r2 h => ?_)
  refine x_iconst (v := 0) C dY_markOpen_15 (by decide) ?_
  refine x_istore_n C [(2, .int 0), (0, .ref (ob G 4)), (1, .int p0)] dY_markOpen_16 rfl (by decide) rfl ?_
  obtain ⟨n20, h⟩ := h
  refine x_sub [1, 0] rfl ?_
  refine tY_markOpen_L17 C (fun r h => ?_) n20 r2 0 h
  · exact x_vret C hA hlocks hr ⟨r, rfl, h⟩ dY_markOpen_135
set_option maxRecDepth 100000 in
set_option maxHeartbeats 4000000 in
theorem kY_markOpen {p : Program} {l : Launch} {e : Env} {R : Room} {s : State} {m : MethodId} {args : Array Value} {below : List Frame} {meth : Method} {c : Code} {cells slots : Nat} {Q : State → Prop} {A : Nat → Prop} {D : va_G} {nL pc : Nat} {cc : ByteArray} {cw : Cond} {own : String} {lv : List (Nat × Value)} {st : List Value} {G : G_} {a : L_} {r : S_} {K : S_ → Prop} {p0 : Int32} (C : vx_C p s m args c cc nL (cw :: wAll) own D vwCl (tysG G) nwAll A) {i : Nat} (hl : Cond.methodLink own i yY_markOpen ∈ wAll) (hR : 2 + 1 ≤ R.frames ∧ 8 + (5 + 11) + 46 ≤ R.locals) (hst : (st.map fun v => v.category).sum ≤ 8) (hd : decode cc pc = .ok (.invokevirtual i, 3)) (hcs : cells ≤ R.cells ∧ slots ≤ R.slots) (h : qY_markOpen a K r p0) (k : ∀ (r1 : S_), K r1 → vx_V p l e R s m args below meth c A D vwCl nL cells slots Q (wo G a r1) (pc + 3) lv st) : vx_V p l e R s m args below meth c A D vwCl nL cells slots Q (wo G a r) pc lv (.int p0 :: .ref (ob G 4) :: st) := by
  refine x_callVv C (CC := "ClassInference$Typer") (ci := 4) (q0 := 4) (fs := fl4 G a r) (As := [.int p0]) rfl rfl (cY_markOpen p0 h) (cwV (C := "ClassInference$Typer") 1 C.1.2.2.2.2 (goodV hl wm524 wp18 wm6 wm525) rfl rfl rfl (by decide +kernel) hR) rfl hst hd hcs (fun w hw => ?_)
  obtain ⟨r1, rfl, h⟩ := hw
  exact k r1 h
def qY_gatherAsked_J40 (a : L_) (KB9 : S_ → Int32 → Int32 → Prop) (KX46 : S_ → Int32 → Prop) (r : S_) (v1 : Int32) (v2 : Int32) : Prop :=
  KB9 r v1 (v2 + 1)
set_option maxRecDepth 100000 in
set_option maxHeartbeats 4000000 in
theorem tY_gatherAsked_J40 (C : vx_C p s m args c prog_7_method_17_code 3 (Cond.code yY_gatherAsked prog_7_method_17_code 3 none :: wAll) "ClassInference$Typer" D vwCl (tysG G) nwAll A) {a : L_} {KB9 : S_ → Int32 → Int32 → Prop} {KX46 : S_ → Int32 → Prop} (kB9 : ∀ (r : S_) (v1 : Int32) (v2 : Int32), KB9 r v1 v2 → vx_V p l e { frames := 2, cells := 0, slots := 0, locals := 46 } s m args below meth c A D vwCl 3 0 0 Q (wo G a r) 9 [(0, .ref (ob G 4)), (1, .int v1), (2, .int v2)] []) (kX46 : ∀ (r : S_) (v1 : Int32), KX46 r v1 → vx_V p l e { frames := 2, cells := 0, slots := 0, locals := 46 } s m args below meth c A D vwCl 3 0 0 Q (wo G a r) 46 [(0, .ref (ob G 4)), (1, .int v1)] []) (r : S_) (v1 : Int32) (v2 : Int32) (h : qY_gatherAsked_J40 a KB9 KX46 r v1 v2) : vx_V p l e { frames := 2, cells := 0, slots := 0, locals := 46 } s m args below meth c A D vwCl 3 0 0 Q (wo G a r) 40 [(0, .ref (ob G 4)), (1, .int v1), (2, .int v2)] [] := by
  unfold qY_gatherAsked_J40 at h
  refine x_iinc (j := 2) (v := v2 + 1) C [(2, .int (v2 + 1)), (0, .ref (ob G 4)), (1, .int v1)] dY_gatherAsked_40 rfl rfl (by decide) rfl ?_
  refine x_goto (tgt := 9) C dY_gatherAsked_43 (by decide) ?_
  refine x_sub [1, 2, 0] rfl ?_
  exact kB9 r v1 (v2 + 1) h
def qY_gatherAsked_L9 (a : L_) (KX46 : S_ → Int32 → Prop) : Nat → S_ → Int32 → Int32 → Prop
  | 0, _, _, _ => False
  | n + 1, r, v1, v2 => (((fi r 11) ≤ v2) → KX46 r v1) ∧ ((¬ (fi r 11) ≤ v2) → vp_in v2 (ln a 24) ∧ (((ar r 24 v2.toNatClampNeg) = 0) → qY_gatherAsked_J40 a (qY_gatherAsked_L9 a KX46 n) KX46 r v1 v2) ∧ ((¬ (ar r 24 v2.toNatClampNeg) = 0) → qG_walk a (fun r5 => qY_gatherAsked_J40 a (qY_gatherAsked_L9 a KX46 n) KX46 r5 v1 v2) r v2))
set_option maxRecDepth 100000 in
set_option maxHeartbeats 4000000 in
theorem tY_gatherAsked_L9 (C : vx_C p s m args c prog_7_method_17_code 3 (Cond.code yY_gatherAsked prog_7_method_17_code 3 none :: wAll) "ClassInference$Typer" D vwCl (tysG G) nwAll A) {a : L_} {KX46 : S_ → Int32 → Prop} (kX46 : ∀ (r : S_) (v1 : Int32), KX46 r v1 → vx_V p l e { frames := 2, cells := 0, slots := 0, locals := 46 } s m args below meth c A D vwCl 3 0 0 Q (wo G a r) 46 [(0, .ref (ob G 4)), (1, .int v1)] []) : ∀ (n : Nat) (r : S_) (v1 : Int32) (v2 : Int32), qY_gatherAsked_L9 a KX46 n r v1 v2 → vx_V p l e { frames := 2, cells := 0, slots := 0, locals := 46 } s m args below meth c A D vwCl 3 0 0 Q (wo G a r) 9 [(0, .ref (ob G 4)), (1, .int v1), (2, .int v2)] [] := by
  intro n
  induction n with
  | zero =>
    intro r v1 v2 h
    exact (by rw [qY_gatherAsked_L9] at h; exact h : False).elim
  | succ n kB9 =>
    intro r v1 v2 h
    rw [qY_gatherAsked_L9] at h
    refine x_iload_n C dY_gatherAsked_9 rfl 2 rfl ?_
    refine x_aload_n C dY_gatherAsked_10 rfl 0 rfl ?_
    refine gf_4_3 C (List.mem_cons_of_mem _ wm203) dY_gatherAsked_11 ?_
    refine gn_5_7 C wn154 dY_gatherAsked_14 ?_
    refine x_icmp_ge (tgt := 46) C dY_gatherAsked_17 (by decide) (fun g2 => ?_) (fun g2 => ?_)
    · have h := h.1 g2
      refine x_sub [0, 1] rfl ?_
      exact kX46 r v1 h
    · have h := h.2 g2
      refine x_aload_n C dY_gatherAsked_20 rfl 0 rfl ?_
      refine gf_4_3 C (List.mem_cons_of_mem _ wm203) dY_gatherAsked_21 ?_
      refine gn_5_3 C wn146 dY_gatherAsked_24 ?_
      refine x_iload_n C dY_gatherAsked_27 rfl 2 rfl ?_
      obtain ⟨g3, h⟩ := h
      refine y_ia C 24 (by decide) g3 dY_gatherAsked_28 ?_
      refine x_if_eq (tgt := 40) C dY_gatherAsked_29 (by decide) (fun g4 => ?_) (fun g4 => ?_)
      · have h := h.1 g4
        refine x_sub [0, 1, 2] rfl ?_
        exact tY_gatherAsked_J40 C kB9 kX46 r v1 v2 h
      · have h := h.2 g4
        refine x_aload_n C dY_gatherAsked_32 rfl 0 rfl ?_
        refine gf_4_3 C (List.mem_cons_of_mem _ wm203) dY_gatherAsked_33 ?_
        refine x_iload_n C dY_gatherAsked_36 rfl 2 rfl ?_
        refine kG_walk C wm518 ⟨Nat.le_of_ble_eq_true rfl, Nat.le_of_ble_eq_true rfl⟩ (Nat.le_of_ble_eq_true rfl) dY_gatherAsked_37 ⟨Nat.zero_le _, Nat.zero_le _⟩ h (fun r5 h => ?_)
        refine x_sub [0, 1, 2] rfl ?_
        exact tY_gatherAsked_J40 C kB9 kX46 r5 v1 v2 h
def qY_gatherAsked_L48 (a : L_) (KX83 : S_ → Int32 → Prop) : Nat → S_ → Int32 → Int32 → Prop
  | 0, _, _, _ => False
  | n + 1, r, v1, v2 => (((fi r 12) ≤ v2) → KX83 r v1) ∧ ((¬ (fi r 12) ≤ v2) → vp_in v2 (ln a 30) ∧ vp_in (ar r 30 v2.toNatClampNeg) (ln a 29) ∧ ∀ r9 : S_, r9 = sA r 29 (upd (ar r 29) (ar r 30 v2.toNatClampNeg).toNatClampNeg 0) → (qY_gatherAsked_L48 a KX83 n) r9 v1 (v2 + 1))
set_option maxRecDepth 100000 in
set_option maxHeartbeats 4000000 in
theorem tY_gatherAsked_L48 (C : vx_C p s m args c prog_7_method_17_code 3 (Cond.code yY_gatherAsked prog_7_method_17_code 3 none :: wAll) "ClassInference$Typer" D vwCl (tysG G) nwAll A) {a : L_} {KX83 : S_ → Int32 → Prop} (kX83 : ∀ (r : S_) (v1 : Int32), KX83 r v1 → vx_V p l e { frames := 2, cells := 0, slots := 0, locals := 46 } s m args below meth c A D vwCl 3 0 0 Q (wo G a r) 83 [(0, .ref (ob G 4)), (1, .int v1)] []) : ∀ (n : Nat) (r : S_) (v1 : Int32) (v2 : Int32), qY_gatherAsked_L48 a KX83 n r v1 v2 → vx_V p l e { frames := 2, cells := 0, slots := 0, locals := 46 } s m args below meth c A D vwCl 3 0 0 Q (wo G a r) 48 [(0, .ref (ob G 4)), (1, .int v1), (2, .int v2)] [] := by
  intro n
  induction n with
  | zero =>
    intro r v1 v2 h
    exact (by rw [qY_gatherAsked_L48] at h; exact h : False).elim
  | succ n kB48 =>
    intro r v1 v2 h
    rw [qY_gatherAsked_L48] at h
    refine x_iload_n C dY_gatherAsked_48 rfl 2 rfl ?_
    refine x_aload_n C dY_gatherAsked_49 rfl 0 rfl ?_
    refine gf_4_3 C (List.mem_cons_of_mem _ wm203) dY_gatherAsked_50 ?_
    refine gn_5_11 C wn160 dY_gatherAsked_53 ?_
    refine x_icmp_ge (tgt := 83) C dY_gatherAsked_56 (by decide) (fun g6 => ?_) (fun g6 => ?_)
    · have h := h.1 g6
      refine x_sub [0, 1] rfl ?_
      exact kX83 r v1 h
    · have h := h.2 g6
      refine x_aload_n C dY_gatherAsked_59 rfl 0 rfl ?_
      refine gf_4_3 C (List.mem_cons_of_mem _ wm203) dY_gatherAsked_60 ?_
      refine gn_5_9 C wn157 dY_gatherAsked_63 ?_
      refine x_aload_n C dY_gatherAsked_66 rfl 0 rfl ?_
      refine gf_4_3 C (List.mem_cons_of_mem _ wm203) dY_gatherAsked_67 ?_
      refine gn_5_10 C wn159 dY_gatherAsked_70 ?_
      refine x_iload_n C dY_gatherAsked_73 rfl 2 rfl ?_
      obtain ⟨g7, h⟩ := h
      refine y_ia C 30 (by decide) g7 dY_gatherAsked_74 ?_
      refine x_iconst (v := 0) C dY_gatherAsked_75 (by decide) ?_
      obtain ⟨g8, h⟩ := h
      refine y_is C 29 (by decide) g8 dY_gatherAsked_76 (fun r9 er9 => ?_)
      have h := h r9 er9
      refine x_iinc (j := 2) (v := v2 + 1) C [(2, .int (v2 + 1)), (0, .ref (ob G 4)), (1, .int v1)] dY_gatherAsked_77 rfl rfl (by decide) rfl ?_
      refine x_goto (tgt := 48) C dY_gatherAsked_80 (by decide) ?_
      refine x_sub [1, 2, 0] rfl ?_
      exact kB48 r9 v1 (v2 + 1) h
def qY_gatherAsked_J146 (a : L_) (KB85 : S_ → Int32 → Prop) (KX152 : S_ → Prop) (r : S_) (v2 : Int32) : Prop :=
  KB85 r (v2 + 1)
set_option maxRecDepth 100000 in
set_option maxHeartbeats 4000000 in
theorem tY_gatherAsked_J146 (C : vx_C p s m args c prog_7_method_17_code 3 (Cond.code yY_gatherAsked prog_7_method_17_code 3 none :: wAll) "ClassInference$Typer" D vwCl (tysG G) nwAll A) {a : L_} {KB85 : S_ → Int32 → Prop} {KX152 : S_ → Prop} (kB85 : ∀ (r : S_) (v2 : Int32), KB85 r v2 → vx_V p l e { frames := 2, cells := 0, slots := 0, locals := 46 } s m args below meth c A D vwCl 3 0 0 Q (wo G a r) 85 [(0, .ref (ob G 4)), (2, .int v2)] []) (kX152 : ∀ (r : S_), KX152 r → vx_V p l e { frames := 2, cells := 0, slots := 0, locals := 46 } s m args below meth c A D vwCl 3 0 0 Q (wo G a r) 152 [] []) (r : S_) (v2 : Int32) (h : qY_gatherAsked_J146 a KB85 KX152 r v2) : vx_V p l e { frames := 2, cells := 0, slots := 0, locals := 46 } s m args below meth c A D vwCl 3 0 0 Q (wo G a r) 146 [(0, .ref (ob G 4)), (2, .int v2)] [] := by
  unfold qY_gatherAsked_J146 at h
  refine x_iinc (j := 1) (v := v2 + 1) C [(2, .int (v2 + 1)), (0, .ref (ob G 4))] dY_gatherAsked_146 rfl rfl (by decide) rfl ?_
  refine x_goto (tgt := 85) C dY_gatherAsked_149 (by decide) ?_
  refine x_sub [1, 0] rfl ?_
  exact kB85 r (v2 + 1) h
def qY_gatherAsked_L85 (a : L_) (KX152 : S_ → Prop) : Nat → S_ → Int32 → Prop
  | 0, _, _ => False
  | n + 1, r, v2 => (((fi r 11) ≤ v2) → KX152 r) ∧ ((¬ (fi r 11) ≤ v2) → vp_in v2 (ln a 24) ∧ (((ar r 24 v2.toNatClampNeg) = 0) → qY_gatherAsked_J146 a (qY_gatherAsked_L85 a KX152 n) KX152 r v2) ∧ ((¬ (ar r 24 v2.toNatClampNeg) = 0) → qG_settled a (fun z13 r14 => vp_in z13 (ln a 29) ∧ vp_in v2 (ln a 24) ∧ vp_in z13 (ln a 29) ∧ ∀ r18 : S_, r18 = sA r14 29 (upd (ar r14 29) z13.toNatClampNeg ((ar r14 29 z13.toNatClampNeg) ||| (ar r14 24 v2.toNatClampNeg))) → vp_in v2 (ln a 24) ∧ ∀ r20 : S_, r20 = sA r18 24 (upd (ar r18 24) v2.toNatClampNeg 0) → qY_gatherAsked_J146 a (qY_gatherAsked_L85 a KX152 n) KX152 r20 v2) r v2))
set_option maxRecDepth 100000 in
set_option maxHeartbeats 4000000 in
theorem tY_gatherAsked_L85 (C : vx_C p s m args c prog_7_method_17_code 3 (Cond.code yY_gatherAsked prog_7_method_17_code 3 none :: wAll) "ClassInference$Typer" D vwCl (tysG G) nwAll A) {a : L_} {KX152 : S_ → Prop} (kX152 : ∀ (r : S_), KX152 r → vx_V p l e { frames := 2, cells := 0, slots := 0, locals := 46 } s m args below meth c A D vwCl 3 0 0 Q (wo G a r) 152 [] []) : ∀ (n : Nat) (r : S_) (v2 : Int32), qY_gatherAsked_L85 a KX152 n r v2 → vx_V p l e { frames := 2, cells := 0, slots := 0, locals := 46 } s m args below meth c A D vwCl 3 0 0 Q (wo G a r) 85 [(0, .ref (ob G 4)), (2, .int v2)] [] := by
  intro n
  induction n with
  | zero =>
    intro r v2 h
    exact (by rw [qY_gatherAsked_L85] at h; exact h : False).elim
  | succ n kB85 =>
    intro r v2 h
    rw [qY_gatherAsked_L85] at h
    refine x_iload_n C dY_gatherAsked_85 rfl 1 rfl ?_
    refine x_aload_n C dY_gatherAsked_86 rfl 0 rfl ?_
    refine gf_4_3 C (List.mem_cons_of_mem _ wm203) dY_gatherAsked_87 ?_
    refine gn_5_7 C wn154 dY_gatherAsked_90 ?_
    refine x_icmp_ge (tgt := 152) C dY_gatherAsked_93 (by decide) (fun g10 => ?_) (fun g10 => ?_)
    · have h := h.1 g10
      refine x_sub [] rfl ?_
      exact kX152 r h
    · have h := h.2 g10
      refine x_aload_n C dY_gatherAsked_96 rfl 0 rfl ?_
      refine gf_4_3 C (List.mem_cons_of_mem _ wm203) dY_gatherAsked_97 ?_
      refine gn_5_3 C wn146 dY_gatherAsked_100 ?_
      refine x_iload_n C dY_gatherAsked_103 rfl 1 rfl ?_
      obtain ⟨g11, h⟩ := h
      refine y_ia C 24 (by decide) g11 dY_gatherAsked_104 ?_
      refine x_if_eq (tgt := 146) C dY_gatherAsked_105 (by decide) (fun g12 => ?_) (fun g12 => ?_)
      · have h := h.1 g12
        refine x_sub [0, 1] rfl ?_
        exact tY_gatherAsked_J146 C kB85 kX152 r v2 h
      · have h := h.2 g12
        refine x_aload_n C dY_gatherAsked_108 rfl 0 rfl ?_
        refine gf_4_3 C (List.mem_cons_of_mem _ wm203) dY_gatherAsked_109 ?_
        refine gn_5_9 C wn157 dY_gatherAsked_112 ?_
        refine x_aload_n C dY_gatherAsked_115 rfl 0 rfl ?_
        refine gf_4_3 C (List.mem_cons_of_mem _ wm203) dY_gatherAsked_116 ?_
        refine x_iload_n C dY_gatherAsked_119 rfl 1 rfl ?_
        refine kG_settled C wm543 ⟨Nat.le_of_ble_eq_true rfl, Nat.le_of_ble_eq_true rfl⟩ (Nat.le_of_ble_eq_true rfl) dY_gatherAsked_120 ⟨Nat.zero_le _, Nat.zero_le _⟩ h (fun z13 r14 h => ?_)
        refine x_dup2 C dY_gatherAsked_123 rfl rfl ?_
        obtain ⟨g15, h⟩ := h
        refine y_ia C 29 (by decide) g15 dY_gatherAsked_124 ?_
        refine x_aload_n C dY_gatherAsked_125 rfl 0 rfl ?_
        refine gf_4_3 C (List.mem_cons_of_mem _ wm203) dY_gatherAsked_126 ?_
        refine gn_5_3 C wn146 dY_gatherAsked_129 ?_
        refine x_iload_n C dY_gatherAsked_132 rfl 1 rfl ?_
        obtain ⟨g16, h⟩ := h
        refine y_ia C 24 (by decide) g16 dY_gatherAsked_133 ?_
        refine x_ior C dY_gatherAsked_134 ?_
        obtain ⟨g17, h⟩ := h
        refine y_is C 29 (by decide) g17 dY_gatherAsked_135 (fun r18 er18 => ?_)
        have h := h r18 er18
        refine x_aload_n C dY_gatherAsked_136 rfl 0 rfl ?_
        refine gf_4_3 C (List.mem_cons_of_mem _ wm203) dY_gatherAsked_137 ?_
        refine gn_5_3 C wn146 dY_gatherAsked_140 ?_
        refine x_iload_n C dY_gatherAsked_143 rfl 1 rfl ?_
        refine x_iconst (v := 0) C dY_gatherAsked_144 (by decide) ?_
        obtain ⟨g19, h⟩ := h
        refine y_is C 24 (by decide) g19 dY_gatherAsked_145 (fun r20 er20 => ?_)
        have h := h r20 er20
        refine x_sub [0, 1] rfl ?_
        exact tY_gatherAsked_J146 C kB85 kX152 r20 v2 h
def qY_gatherAsked (a : L_) (K : S_ → Prop) (r : S_) (p0 : Int32) : Prop :=
  qG_startWalk a (fun r1 => ∃ n23 : Nat, qY_gatherAsked_L9 a (fun r v1 => ∃ n22 : Nat, qY_gatherAsked_L48 a (fun r v1 => ∃ n21 : Nat, qY_gatherAsked_L85 a (fun r => K r) n21 r v1) n22 r v1 0) n23 r1 p0 p0) r
set_option maxRecDepth 100000 in
set_option maxHeartbeats 4000000 in
theorem cY_gatherAsked {a : L_} {r : S_} {K : S_ → Prop} (p0 : Int32) (h : qY_gatherAsked a K r p0) : vx_Mv l yY_gatherAsked (Cond.code yY_gatherAsked prog_7_method_17_code 3 none :: wAll) { frames := 2, cells := 0, slots := 0, locals := 46 } D vwCl (tysG G) nwAll (wo G a r) [.ref (ob G 4), .int p0] 0 0 (fun w => ∃ r1, w = wo G a r1 ∧ K r1) := by
  unfold qY_gatherAsked at h
  refine x_metv (cc := prog_7_method_17_code) (maxL := 3) (ret := none) (lv0 := [(0, .ref (ob G 4)), (1, .int p0)]) (by decide) rfl (Nat.le_of_ble_eq_true rfl) rfl ?_
  intro p e s m args below meth c A C hA hlocks hr
  refine x_aload_n C dY_gatherAsked_0 rfl 0 rfl ?_
  refine gf_4_3 C (List.mem_cons_of_mem _ wm203) dY_gatherAsked_1 ?_
  refine kG_startWalk C wm514 ⟨Nat.le_of_ble_eq_true rfl, Nat.le_of_ble_eq_true rfl⟩ (Nat.le_of_ble_eq_true rfl) dY_gatherAsked_4 ⟨Nat.zero_le _, Nat.zero_le _⟩ h (fun r1 h => ?_)
  refine x_iload_n C dY_gatherAsked_7 rfl 1 rfl ?_
  refine x_istore_n C [(2, .int p0), (0, .ref (ob G 4)), (1, .int p0)] dY_gatherAsked_8 rfl (by decide) rfl ?_
  obtain ⟨n23, h⟩ := h
  refine x_sub [1, 2, 0] rfl ?_
  refine tY_gatherAsked_L9 C (fun r v1 h => ?_) n23 r1 p0 p0 h
  · refine x_iconst (v := 0) C dY_gatherAsked_46 (by decide) ?_
    refine x_istore_n C [(2, .int 0), (0, .ref (ob G 4)), (1, .int v1)] dY_gatherAsked_47 rfl (by decide) rfl ?_
    obtain ⟨n22, h⟩ := h
    refine x_sub [1, 2, 0] rfl ?_
    refine tY_gatherAsked_L48 C (fun r v1 h => ?_) n22 r v1 0 h
    · refine x_iload_n C dY_gatherAsked_83 rfl 1 rfl ?_
      refine x_istore_n C [(2, .int v1), (0, .ref (ob G 4)), (1, .int v1)] dY_gatherAsked_84 rfl (by decide) rfl ?_
      obtain ⟨n21, h⟩ := h
      refine x_sub [1, 0] rfl ?_
      refine tY_gatherAsked_L85 C (fun r h => ?_) n21 r v1 h
      · exact x_vret C hA hlocks hr ⟨r, rfl, h⟩ dY_gatherAsked_152
set_option maxRecDepth 100000 in
set_option maxHeartbeats 4000000 in
theorem kY_gatherAsked {p : Program} {l : Launch} {e : Env} {R : Room} {s : State} {m : MethodId} {args : Array Value} {below : List Frame} {meth : Method} {c : Code} {cells slots : Nat} {Q : State → Prop} {A : Nat → Prop} {D : va_G} {nL pc : Nat} {cc : ByteArray} {cw : Cond} {own : String} {lv : List (Nat × Value)} {st : List Value} {G : G_} {a : L_} {r : S_} {K : S_ → Prop} {p0 : Int32} (C : vx_C p s m args c cc nL (cw :: wAll) own D vwCl (tysG G) nwAll A) {i : Nat} (hl : Cond.methodLink own i yY_gatherAsked ∈ wAll) (hR : 2 + 1 ≤ R.frames ∧ 8 + (3 + 11) + 46 ≤ R.locals) (hst : (st.map fun v => v.category).sum ≤ 8) (hd : decode cc pc = .ok (.invokevirtual i, 3)) (hcs : cells ≤ R.cells ∧ slots ≤ R.slots) (h : qY_gatherAsked a K r p0) (k : ∀ (r1 : S_), K r1 → vx_V p l e R s m args below meth c A D vwCl nL cells slots Q (wo G a r1) (pc + 3) lv st) : vx_V p l e R s m args below meth c A D vwCl nL cells slots Q (wo G a r) pc lv (.int p0 :: .ref (ob G 4) :: st) := by
  refine x_callVv C (CC := "ClassInference$Typer") (ci := 4) (q0 := 4) (fs := fl4 G a r) (As := [.int p0]) rfl rfl (cY_gatherAsked p0 h) (cwV (C := "ClassInference$Typer") 1 C.1.2.2.2.2 (goodV hl wm541 wp20 wm6 wm542) rfl rfl rfl (by decide +kernel) hR) rfl hst hd hcs (fun w hw => ?_)
  obtain ⟨r1, rfl, h⟩ := hw
  exact k r1 h
def qJ_bitCount (a : L_) (r : S_) (K : Int32 → Prop) (p0 : Int32) : Prop :=
  ∀ z1 : Int32, z1 = p0 - (((p0.toUInt32 >>> ((1 : Int32).toUInt32 &&& Int32.toUInt32 31)).toInt32) &&& 1431655765) → ∀ z2 : Int32, z2 = (z1 &&& 858993459) + (((z1.toUInt32 >>> ((2 : Int32).toUInt32 &&& Int32.toUInt32 31)).toInt32) &&& 858993459) → ∀ z3 : Int32, z3 = (z2 + ((z2.toUInt32 >>> ((4 : Int32).toUInt32 &&& Int32.toUInt32 31)).toInt32)) &&& 252645135 → ∀ z4 : Int32, z4 = z3 + ((z3.toUInt32 >>> ((8 : Int32).toUInt32 &&& Int32.toUInt32 31)).toInt32) → ∀ z5 : Int32, z5 = z4 + ((z4.toUInt32 >>> ((16 : Int32).toUInt32 &&& Int32.toUInt32 31)).toInt32) → K (z5 &&& 63)
set_option maxRecDepth 100000 in
set_option maxHeartbeats 4000000 in
theorem cJ_bitCount {a : L_} {r : S_} {K : Int32 → Prop} (p0 : Int32) (h : qJ_bitCount a r K p0) : vx_Mi l yJ_bitCount (Cond.code yJ_bitCount prog_11_method_49_code 1 (some .int) :: wAll) { frames := 0, cells := 0, slots := 0, locals := 0 } D vwCl (tysG G) nwAll (wo G a r) [.int p0] 0 0 (fun v w => w = wo G a r ∧ K v) := by
  unfold qJ_bitCount at h
  refine x_meti (cc := prog_11_method_49_code) (maxL := 1) (ret := (some .int)) (lv0 := [(0, .int p0)]) (by decide) rfl (Nat.le_of_ble_eq_true rfl) rfl ?_
  intro p e s m args below meth c A C hA hlocks hr
  refine x_iload_n C dJ_bitCount_0 rfl 0 rfl ?_
  refine x_iload_n C dJ_bitCount_1 rfl 0 rfl ?_
  refine x_iconst (v := 1) C dJ_bitCount_2 (by decide) ?_
  refine x_iushr C dJ_bitCount_3 rfl ?_
  refine x_ldcw (v := 1431655765) C (List.mem_cons_of_mem _ wm555) dJ_bitCount_4 ?_
  refine x_iand C dJ_bitCount_7 ?_
  refine x_isub C dJ_bitCount_8 ?_
  refine x_topi (fun z1 ez1 => ?_)
  have h := h z1 ez1
  refine x_istore_n C [(0, .int z1)] dJ_bitCount_9 rfl (by decide) rfl ?_
  refine x_iload_n C dJ_bitCount_10 rfl 0 rfl ?_
  refine x_ldcw (v := 858993459) C (List.mem_cons_of_mem _ wm556) dJ_bitCount_11 ?_
  refine x_iand C dJ_bitCount_14 ?_
  refine x_iload_n C dJ_bitCount_15 rfl 0 rfl ?_
  refine x_iconst (v := 2) C dJ_bitCount_16 (by decide) ?_
  refine x_iushr C dJ_bitCount_17 rfl ?_
  refine x_ldcw (v := 858993459) C (List.mem_cons_of_mem _ wm556) dJ_bitCount_18 ?_
  refine x_iand C dJ_bitCount_21 ?_
  refine x_iadd C dJ_bitCount_22 ?_
  refine x_topi (fun z2 ez2 => ?_)
  have h := h z2 ez2
  refine x_istore_n C [(0, .int z2)] dJ_bitCount_23 rfl (by decide) rfl ?_
  refine x_iload_n C dJ_bitCount_24 rfl 0 rfl ?_
  refine x_iload_n C dJ_bitCount_25 rfl 0 rfl ?_
  refine x_iconst (v := 4) C dJ_bitCount_26 (by decide) ?_
  refine x_iushr C dJ_bitCount_27 rfl ?_
  refine x_iadd C dJ_bitCount_28 ?_
  refine x_ldcw (v := 252645135) C (List.mem_cons_of_mem _ wm557) dJ_bitCount_29 ?_
  refine x_iand C dJ_bitCount_32 ?_
  refine x_topi (fun z3 ez3 => ?_)
  have h := h z3 ez3
  refine x_istore_n C [(0, .int z3)] dJ_bitCount_33 rfl (by decide) rfl ?_
  refine x_iload_n C dJ_bitCount_34 rfl 0 rfl ?_
  refine x_iload_n C dJ_bitCount_35 rfl 0 rfl ?_
  refine x_bipush (v := 8) C dJ_bitCount_36 (by decide) ?_
  refine x_iushr C dJ_bitCount_38 rfl ?_
  refine x_iadd C dJ_bitCount_39 ?_
  refine x_topi (fun z4 ez4 => ?_)
  have h := h z4 ez4
  refine x_istore_n C [(0, .int z4)] dJ_bitCount_40 rfl (by decide) rfl ?_
  refine x_iload_n C dJ_bitCount_41 rfl 0 rfl ?_
  refine x_iload_n C dJ_bitCount_42 rfl 0 rfl ?_
  refine x_bipush (v := 16) C dJ_bitCount_43 (by decide) ?_
  refine x_iushr C dJ_bitCount_45 rfl ?_
  refine x_iadd C dJ_bitCount_46 ?_
  refine x_topi (fun z5 ez5 => ?_)
  have h := h z5 ez5
  refine x_istore_n C [(0, .int z5)] dJ_bitCount_47 rfl (by decide) rfl ?_
  refine x_iload_n C dJ_bitCount_48 rfl 0 rfl ?_
  refine x_bipush (v := 63) C dJ_bitCount_49 (by decide) ?_
  refine x_iand C dJ_bitCount_51 ?_
  exact x_iret C hA hlocks hr ⟨rfl, h⟩ dJ_bitCount_52
set_option maxRecDepth 100000 in
set_option maxHeartbeats 4000000 in
theorem kJ_bitCount {p : Program} {l : Launch} {e : Env} {R : Room} {s : State} {m : MethodId} {args : Array Value} {below : List Frame} {meth : Method} {c : Code} {cells slots : Nat} {Q : State → Prop} {A : Nat → Prop} {D : va_G} {nL pc : Nat} {cc : ByteArray} {cw : Cond} {own : String} {lv : List (Nat × Value)} {st : List Value} {G : G_} {a : L_} {r : S_} {K : Int32 → Prop} {p0 : Int32} (C : vx_C p s m args c cc nL (cw :: wAll) own D vwCl (tysG G) nwAll A) {i : Nat} (hl : Cond.methodLink own i yJ_bitCount ∈ wAll) (hR : 0 + 1 ≤ R.frames ∧ 8 + (1 + 11) + 0 ≤ R.locals) (hst : (st.map fun v => v.category).sum ≤ 8) (hd : decode cc pc = .ok (.invokestatic i, 3)) (hcs : cells ≤ R.cells ∧ slots ≤ R.slots) (h : qJ_bitCount a r K p0) (k : ∀ (v : Int32), K v → vx_V p l e R s m args below meth c A D vwCl nL cells slots Q (wo G a r) (pc + 3) lv (.int v :: st)) : vx_V p l e R s m args below meth c A D vwCl nL cells slots Q (wo G a r) pc lv (.int p0 :: st) := by
  refine x_callSi C (As := [.int p0]) (cJ_bitCount p0 h) (va_cwS 1 C.1.2.2.2.2 (goodS hl wm553 wm12 wm554) rfl rfl rfl (by decide +kernel) hR) rfl hst hd hcs (fun v w hw => ?_)
  obtain ⟨rfl, h⟩ := hw
  exact k v h
def qY_settleVariable (a : L_) (K : Int32 → S_ → Prop) (r : S_) (p0 : Int32) (p1 : Int32) : Prop :=
  vp_in p0 (ln a 26) ∧ ((¬ (ar r 26 p0.toNatClampNeg) = 1) → vp_in p0 (ln a 27) ∧ ((¬ (ar r 27 p0.toNatClampNeg) = (fi r 6)) → zb 1 ∧ ∀ r5 : S_, r5 = sF r 10 1 → K 0 r5) ∧ (((ar r 27 p0.toNatClampNeg) = (fi r 6)) → vp_in p0 (ln a 24) ∧ vp_in p0 (ln a 24) ∧ ∀ r9 : S_, r9 = sA r 24 (upd (ar r 24) p0.toNatClampNeg ((ar r 24 p0.toNatClampNeg) ||| p1)) → K 0 r9)) ∧ (((ar r 26 p0.toNatClampNeg) = 1) → qK_lowest a r (fun z10 => vp_in p0 (ln a 25) ∧ ∀ r12 : S_, r12 = sA r 25 (upd (ar r 25) p0.toNatClampNeg z10) → vp_in p0 (ln a 25) ∧ qJ_bitCount a r12 (fun z14 => K z14 r12) (ar r12 25 p0.toNatClampNeg)) p1)
set_option maxRecDepth 100000 in
set_option maxHeartbeats 4000000 in
theorem cY_settleVariable {a : L_} {r : S_} {K : Int32 → S_ → Prop} (p0 : Int32) (p1 : Int32) (h : qY_settleVariable a K r p0 p1) : vx_Mi l yY_settleVariable (Cond.code yY_settleVariable prog_7_method_18_code 3 (some .int) :: wAll) { frames := 1, cells := 0, slots := 0, locals := 23 } D vwCl (tysG G) nwAll (wo G a r) [.ref (ob G 4), .int p0, .int p1] 0 0 (fun v w => ∃ r1, w = wo G a r1 ∧ K v r1) := by
  unfold qY_settleVariable at h
  refine x_meti (cc := prog_7_method_18_code) (maxL := 3) (ret := (some .int)) (lv0 := [(0, .ref (ob G 4)), (1, .int p0), (2, .int p1)]) (by decide) rfl (Nat.le_of_ble_eq_true rfl) rfl ?_
  intro p e s m args below meth c A C hA hlocks hr
  refine x_aload_n C dY_settleVariable_0 rfl 0 rfl ?_
  refine gf_4_3 C (List.mem_cons_of_mem _ wm203) dY_settleVariable_1 ?_
  refine gn_5_5 C wn150 dY_settleVariable_4 ?_
  refine x_iload_n C dY_settleVariable_7 rfl 1 rfl ?_
  obtain ⟨g1, h⟩ := h
  refine y_ia C 26 (by decide) g1 dY_settleVariable_8 ?_
  refine x_iconst (v := 1) C dY_settleVariable_9 (by decide) ?_
  refine x_icmp_ne (tgt := 43) C dY_settleVariable_10 (by decide) (fun g2 => ?_) (fun g2 => ?_)
  · have h := h.1 g2
    refine x_aload_n C dY_settleVariable_43 rfl 0 rfl ?_
    refine gf_4_3 C (List.mem_cons_of_mem _ wm203) dY_settleVariable_44 ?_
    refine gn_5_6 C wn152 dY_settleVariable_47 ?_
    refine x_iload_n C dY_settleVariable_50 rfl 1 rfl ?_
    obtain ⟨g3, h⟩ := h
    refine y_ia C 27 (by decide) g3 dY_settleVariable_51 ?_
    refine x_aload_n C dY_settleVariable_52 rfl 0 rfl ?_
    refine gf_4_9 C (List.mem_cons_of_mem _ wm209) dY_settleVariable_53 ?_
    refine x_icmp_ne (tgt := 75) C dY_settleVariable_56 (by decide) (fun g4 => ?_) (fun g4 => ?_)
    · have h := h.1 g4
      refine x_aload_n C dY_settleVariable_75 rfl 0 rfl ?_
      refine x_iconst (v := 1) C dY_settleVariable_76 (by decide) ?_
      obtain ⟨g6, h⟩ := h
      refine pf_4_13 C (List.mem_cons_of_mem _ wm213) g6 dY_settleVariable_77 (fun r5 er5 => ?_)
      have h := h r5 er5
      refine x_iconst (v := 0) C dY_settleVariable_80 (by decide) ?_
      exact x_iret C hA hlocks hr ⟨r5, rfl, h⟩ dY_settleVariable_81
    · have h := h.2 g4
      refine x_aload_n C dY_settleVariable_59 rfl 0 rfl ?_
      refine gf_4_3 C (List.mem_cons_of_mem _ wm203) dY_settleVariable_60 ?_
      refine gn_5_3 C wn146 dY_settleVariable_63 ?_
      refine x_iload_n C dY_settleVariable_66 rfl 1 rfl ?_
      refine x_dup2 C dY_settleVariable_67 rfl rfl ?_
      obtain ⟨g7, h⟩ := h
      refine y_ia C 24 (by decide) g7 dY_settleVariable_68 ?_
      refine x_iload_n C dY_settleVariable_69 rfl 2 rfl ?_
      refine x_ior C dY_settleVariable_70 ?_
      obtain ⟨g8, h⟩ := h
      refine y_is C 24 (by decide) g8 dY_settleVariable_71 (fun r9 er9 => ?_)
      have h := h r9 er9
      refine x_goto (tgt := 80) C dY_settleVariable_72 (by decide) ?_
      refine x_iconst (v := 0) C dY_settleVariable_80 (by decide) ?_
      exact x_iret C hA hlocks hr ⟨r9, rfl, h⟩ dY_settleVariable_81
  · have h := h.2 g2
    refine x_aload_n C dY_settleVariable_13 rfl 0 rfl ?_
    refine gf_4_3 C (List.mem_cons_of_mem _ wm203) dY_settleVariable_14 ?_
    refine gn_5_4 C wn148 dY_settleVariable_17 ?_
    refine x_iload_n C dY_settleVariable_20 rfl 1 rfl ?_
    refine x_aload_n C dY_settleVariable_21 rfl 0 rfl ?_
    refine gf_4_1 C (List.mem_cons_of_mem _ wm201) dY_settleVariable_22 ?_
    refine x_iload_n C dY_settleVariable_25 rfl 2 rfl ?_
    refine kK_lowest C wm548 ⟨Nat.le_of_ble_eq_true rfl, Nat.le_of_ble_eq_true rfl⟩ (Nat.le_of_ble_eq_true rfl) dY_settleVariable_26 ⟨Nat.zero_le _, Nat.zero_le _⟩ h (fun z10 h => ?_)
    obtain ⟨g11, h⟩ := h
    refine y_is C 25 (by decide) g11 dY_settleVariable_29 (fun r12 er12 => ?_)
    have h := h r12 er12
    refine x_aload_n C dY_settleVariable_30 rfl 0 rfl ?_
    refine gf_4_3 C (List.mem_cons_of_mem _ wm203) dY_settleVariable_31 ?_
    refine gn_5_4 C wn148 dY_settleVariable_34 ?_
    refine x_iload_n C dY_settleVariable_37 rfl 1 rfl ?_
    obtain ⟨g13, h⟩ := h
    refine y_ia C 25 (by decide) g13 dY_settleVariable_38 ?_
    refine kJ_bitCount C wm552 ⟨Nat.le_of_ble_eq_true rfl, Nat.le_of_ble_eq_true rfl⟩ (Nat.le_of_ble_eq_true rfl) dY_settleVariable_39 ⟨Nat.zero_le _, Nat.zero_le _⟩ h (fun z14 h => ?_)
    exact x_iret C hA hlocks hr ⟨r12, rfl, h⟩ dY_settleVariable_42
set_option maxRecDepth 100000 in
set_option maxHeartbeats 4000000 in
theorem kY_settleVariable {p : Program} {l : Launch} {e : Env} {R : Room} {s : State} {m : MethodId} {args : Array Value} {below : List Frame} {meth : Method} {c : Code} {cells slots : Nat} {Q : State → Prop} {A : Nat → Prop} {D : va_G} {nL pc : Nat} {cc : ByteArray} {cw : Cond} {own : String} {lv : List (Nat × Value)} {st : List Value} {G : G_} {a : L_} {r : S_} {K : Int32 → S_ → Prop} {p0 : Int32} {p1 : Int32} (C : vx_C p s m args c cc nL (cw :: wAll) own D vwCl (tysG G) nwAll A) {i : Nat} (hl : Cond.methodLink own i yY_settleVariable ∈ wAll) (hR : 1 + 1 ≤ R.frames ∧ 8 + (3 + 11) + 23 ≤ R.locals) (hst : (st.map fun v => v.category).sum ≤ 8) (hd : decode cc pc = .ok (.invokevirtual i, 3)) (hcs : cells ≤ R.cells ∧ slots ≤ R.slots) (h : qY_settleVariable a K r p0 p1) (k : ∀ (v : Int32) (r1 : S_), K v r1 → vx_V p l e R s m args below meth c A D vwCl nL cells slots Q (wo G a r1) (pc + 3) lv (.int v :: st)) : vx_V p l e R s m args below meth c A D vwCl nL cells slots Q (wo G a r) pc lv (.int p1 :: .int p0 :: .ref (ob G 4) :: st) := by
  refine x_callVi C (CC := "ClassInference$Typer") (ci := 4) (q0 := 4) (fs := fl4 G a r) (As := [.int p0, .int p1]) rfl rfl (cY_settleVariable p0 p1 h) (cwV (C := "ClassInference$Typer") 2 C.1.2.2.2.2 (goodV hl wm546 wp21 wm6 wm547) rfl rfl rfl (by decide +kernel) hR) rfl hst hd hcs (fun v w hw => ?_)
  obtain ⟨r1, rfl, h⟩ := hw
  exact k v r1 h
end MTH
