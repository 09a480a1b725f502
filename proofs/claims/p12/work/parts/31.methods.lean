section MTH
variable {p : Program} {l : Launch} {e : Env} {s : State} {m : MethodId} {args : Array Value} {below : List Frame} {meth : Method} {c : Code} {Q : State → Prop} {A : Nat → Prop} {D : va_G} {G : G_} {ws0 : va_W}
def qM_typeAll_J53 (a : L_) (KB9 : S_ → Int32 → Prop) (KX56 : S_ → Prop) (r : S_) (v1 : Int32) : Prop :=
  KB9 r v1
set_option maxRecDepth 100000 in
set_option maxHeartbeats 4000000 in
theorem tM_typeAll_J53 (C : vx_C p s m args c prog_9_method_41_code 3 (Cond.code yM_typeAll prog_9_method_41_code 3 none :: wAll) "ClassInferenceModel" D vwCl (tysG G) nwAll A) {a : L_} {KB9 : S_ → Int32 → Prop} {KX56 : S_ → Prop} (kB9 : ∀ (r : S_) (v1 : Int32), KB9 r v1 → vx_V p l e { frames := 5, cells := 0, slots := 0, locals := 118 } s m args below meth c A D vwCl 3 0 0 Q (wo G a r) 9 [(0, .ref (ob G 7)), (1, .int v1)] []) (kX56 : ∀ (r : S_), KX56 r → vx_V p l e { frames := 5, cells := 0, slots := 0, locals := 118 } s m args below meth c A D vwCl 3 0 0 Q (wo G a r) 56 [] []) (r : S_) (v1 : Int32) (h : qM_typeAll_J53 a KB9 KX56 r v1) : vx_V p l e { frames := 5, cells := 0, slots := 0, locals := 118 } s m args below meth c A D vwCl 3 0 0 Q (wo G a r) 53 [(0, .ref (ob G 7)), (1, .int v1)] [] := by
  unfold qM_typeAll_J53 at h
  refine x_goto (tgt := 9) C dM_typeAll_53 (by decide) ?_
  refine x_sub [0, 1] rfl ?_
  exact kB9 r v1 h
def qM_typeAll_L9 (a : L_) (KX56 : S_ → Prop) : Nat → S_ → Int32 → Prop
  | 0, _, _ => False
  | n + 1, r, v1 => ((v1 ≤ 0) → KX56 r) ∧ ((¬ v1 ≤ 0) → ((¬ (fi r 32) = 0) → KX56 r) ∧ (((fi r 32) = 0) → vp_in (v1 - 1) (ln a 60) ∧ qM_visit a (fun z6 r7 => ((0 ≤ z6) → vp_in v1 (ln a 60) ∧ ∀ r10 : S_, r10 = sA r7 60 (upd (ar r7 60) v1.toNatClampNeg z6) → qM_typeAll_J53 a (qM_typeAll_L9 a KX56 n) KX56 r10 (v1 + 1)) ∧ ((¬ 0 ≤ z6) → qM_typeAll_J53 a (qM_typeAll_L9 a KX56 n) KX56 r7 (v1 + (-1)))) r (ar r 60 (v1 - 1).toNatClampNeg)))
set_option maxRecDepth 100000 in
set_option maxHeartbeats 4000000 in
theorem tM_typeAll_L9 (C : vx_C p s m args c prog_9_method_41_code 3 (Cond.code yM_typeAll prog_9_method_41_code 3 none :: wAll) "ClassInferenceModel" D vwCl (tysG G) nwAll A) {a : L_} {KX56 : S_ → Prop} (kX56 : ∀ (r : S_), KX56 r → vx_V p l e { frames := 5, cells := 0, slots := 0, locals := 118 } s m args below meth c A D vwCl 3 0 0 Q (wo G a r) 56 [] []) : ∀ (n : Nat) (r : S_) (v1 : Int32), qM_typeAll_L9 a KX56 n r v1 → vx_V p l e { frames := 5, cells := 0, slots := 0, locals := 118 } s m args below meth c A D vwCl 3 0 0 Q (wo G a r) 9 [(0, .ref (ob G 7)), (1, .int v1)] [] := by
  intro n
  induction n with
  | zero =>
    intro r v1 h
    exact (by rw [qM_typeAll_L9] at h; exact h : False).elim
  | succ n kB9 =>
    intro r v1 h
    rw [qM_typeAll_L9] at h
    refine x_iload_n C dM_typeAll_9 rfl 1 rfl ?_
    refine x_if_le (tgt := 56) C dM_typeAll_10 (by decide) (fun g3 => ?_) (fun g3 => ?_)
    · have h := h.1 g3
      refine x_sub [] rfl ?_
      exact kX56 r h
    · have h := h.2 g3
      refine x_aload_n C dM_typeAll_13 rfl 0 rfl ?_
      refine gf_7_56 C (List.mem_cons_of_mem _ wm772) dM_typeAll_14 ?_
      refine x_if_ne (tgt := 56) C dM_typeAll_17 (by decide) (fun g4 => ?_) (fun g4 => ?_)
      · have h := h.1 g4
        refine x_sub [] rfl ?_
        exact kX56 r h
      · have h := h.2 g4
        refine x_aload_n C dM_typeAll_20 rfl 0 rfl ?_
        refine x_aload_n C dM_typeAll_21 rfl 0 rfl ?_
        refine gf_7_32 C (List.mem_cons_of_mem _ wm748) dM_typeAll_22 ?_
        refine x_iload_n C dM_typeAll_25 rfl 1 rfl ?_
        refine x_iconst (v := 1) C dM_typeAll_26 (by decide) ?_
        refine x_isub C dM_typeAll_27 ?_
        obtain ⟨g5, h⟩ := h
        refine y_ia C 60 (by decide) g5 dM_typeAll_28 ?_
        refine kM_visit C wm1015 ⟨Nat.le_of_ble_eq_true rfl, Nat.le_of_ble_eq_true rfl⟩ (Nat.le_of_ble_eq_true rfl) dM_typeAll_29 ⟨Nat.zero_le _, Nat.zero_le _⟩ h (fun z6 r7 h => ?_)
        refine x_istore_n C [(2, .int z6), (0, .ref (ob G 7)), (1, .int v1)] dM_typeAll_32 rfl (by decide) rfl ?_
        refine x_iload_n C dM_typeAll_33 rfl 0 rfl ?_
        refine x_if_ge (tgt := 43) C dM_typeAll_34 (by decide) (fun g8 => ?_) (fun g8 => ?_)
        · have h := h.1 g8
          refine x_aload_n C dM_typeAll_43 rfl 1 rfl ?_
          refine gf_7_32 C (List.mem_cons_of_mem _ wm748) dM_typeAll_44 ?_
          refine x_iload_n C dM_typeAll_47 rfl 2 rfl ?_
          refine x_iload_n C dM_typeAll_48 rfl 0 rfl ?_
          obtain ⟨g9, h⟩ := h
          refine y_is C 60 (by decide) g9 dM_typeAll_49 (fun r10 er10 => ?_)
          have h := h r10 er10
          refine x_iinc (j := 2) (v := v1 + 1) C [(1, .int (v1 + 1)), (2, .int z6), (0, .ref (ob G 7))] dM_typeAll_50 rfl rfl (by decide) rfl ?_
          refine x_sub [2, 0] rfl ?_
          exact tM_typeAll_J53 C kB9 kX56 r10 (v1 + 1) h
        · have h := h.2 g8
          refine x_iinc (j := 2) (v := v1 + (-1)) C [(1, .int (v1 + (-1))), (2, .int z6), (0, .ref (ob G 7))] dM_typeAll_37 rfl rfl (by decide) rfl ?_
          refine x_goto (tgt := 53) C dM_typeAll_40 (by decide) ?_
          refine x_sub [2, 0] rfl ?_
          exact tM_typeAll_J53 C kB9 kX56 r7 (v1 + (-1)) h
def qM_typeAll (a : L_) (K : S_ → Prop) (r : S_) : Prop :=
  vp_in 0 (ln a 60) ∧ ∀ r2 : S_, r2 = sA r 60 (upd (ar r 60) (0 : Int32).toNatClampNeg 0) → ∃ n11 : Nat, qM_typeAll_L9 a (fun r => K r) n11 r2 1
set_option maxRecDepth 100000 in
set_option maxHeartbeats 4000000 in
theorem cM_typeAll {a : L_} {r : S_} {K : S_ → Prop} (h : qM_typeAll a K r ) : vx_Mv l yM_typeAll (Cond.code yM_typeAll prog_9_method_41_code 3 none :: wAll) { frames := 5, cells := 0, slots := 0, locals := 118 } D vwCl (tysG G) nwAll (wo G a r) [.ref (ob G 7)] 0 0 (fun w => ∃ r1, w = wo G a r1 ∧ K r1) := by
  unfold qM_typeAll at h
  refine x_metv (cc := prog_9_method_41_code) (maxL := 3) (ret := none) (lv0 := [(0, .ref (ob G 7))]) (by decide) rfl (Nat.le_of_ble_eq_true rfl) rfl ?_
  intro p e s m args below meth c A C hA hlocks hr
  refine x_iconst (v := 1) C dM_typeAll_0 (by decide) ?_
  refine x_istore_n C [(1, .int 1), (0, .ref (ob G 7))] dM_typeAll_1 rfl (by decide) rfl ?_
  refine x_aload_n C dM_typeAll_2 rfl 1 rfl ?_
  refine gf_7_32 C (List.mem_cons_of_mem _ wm748) dM_typeAll_3 ?_
  refine x_iconst (v := 0) C dM_typeAll_6 (by decide) ?_
  refine x_iconst (v := 0) C dM_typeAll_7 (by decide) ?_
  obtain ⟨g1, h⟩ := h
  refine y_is C 60 (by decide) g1 dM_typeAll_8 (fun r2 er2 => ?_)
  have h := h r2 er2
  obtain ⟨n11, h⟩ := h
  refine x_sub [1, 0] rfl ?_
  refine tM_typeAll_L9 C (fun r h => ?_) n11 r2 1 h
  · exact x_vret C hA hlocks hr ⟨r, rfl, h⟩ dM_typeAll_56
set_option maxRecDepth 100000 in
set_option maxHeartbeats 4000000 in
theorem kM_typeAll {p : Program} {l : Launch} {e : Env} {R : Room} {s : State} {m : MethodId} {args : Array Value} {below : List Frame} {meth : Method} {c : Code} {cells slots : Nat} {Q : State → Prop} {A : Nat → Prop} {D : va_G} {nL pc : Nat} {cc : ByteArray} {cw : Cond} {own : String} {lv : List (Nat × Value)} {st : List Value} {G : G_} {a : L_} {r : S_} {K : S_ → Prop} (C : vx_C p s m args c cc nL (cw :: wAll) own D vwCl (tysG G) nwAll A) {i : Nat} (hl : Cond.methodLink own i yM_typeAll ∈ wAll) (hR : 5 + 1 ≤ R.frames ∧ 8 + (3 + 11) + 118 ≤ R.locals) (hst : (st.map fun v => v.category).sum ≤ 8) (hd : decode cc pc = .ok (.invokevirtual i, 3)) (hcs : cells ≤ R.cells ∧ slots ≤ R.slots) (h : qM_typeAll a K r ) (k : ∀ (r1 : S_), K r1 → vx_V p l e R s m args below meth c A D vwCl nL cells slots Q (wo G a r1) (pc + 3) lv st) : vx_V p l e R s m args below meth c A D vwCl nL cells slots Q (wo G a r) pc lv (.ref (ob G 7) :: st) := by
  refine x_callVv C (CC := "ClassInferenceModel") (ci := 7) (q0 := 7) (fs := fl7 G a r) (As := []) rfl rfl (cM_typeAll  h) (cwV (C := "ClassInferenceModel") 0 C.1.2.2.2.2 (goodV hl wm1013 wp39 wm9 wm1014) rfl rfl rfl (by decide +kernel) hR) rfl hst hd hcs (fun w hw => ?_)
  obtain ⟨r1, rfl, h⟩ := hw
  exact k r1 h
def qM_sum (a : L_) (r : S_) (K : Int32 → Prop) (p0 : Int32) (p1 : Int32) : Prop :=
  (((p0 + p1) ≤ 1000000000) → K (p0 + p1)) ∧ ((¬ (p0 + p1) ≤ 1000000000) → K 1000000000)
set_option maxRecDepth 100000 in
set_option maxHeartbeats 4000000 in
theorem cM_sum {a : L_} {r : S_} {K : Int32 → Prop} (p0 : Int32) (p1 : Int32) (h : qM_sum a r K p0 p1) : vx_Mi l yM_sum (Cond.code yM_sum prog_9_method_43_code 2 (some .int) :: wAll) { frames := 0, cells := 0, slots := 0, locals := 0 } D vwCl (tysG G) nwAll (wo G a r) [.int p0, .int p1] 0 0 (fun v w => w = wo G a r ∧ K v) := by
  unfold qM_sum at h
  refine x_meti (cc := prog_9_method_43_code) (maxL := 2) (ret := (some .int)) (lv0 := [(0, .int p0), (1, .int p1)]) (by decide) rfl (Nat.le_of_ble_eq_true rfl) rfl ?_
  intro p e s m args below meth c A C hA hlocks hr
  refine x_iload_n C dM_sum_0 rfl 0 rfl ?_
  refine x_iload_n C dM_sum_1 rfl 1 rfl ?_
  refine x_iadd C dM_sum_2 ?_
  refine x_ldcw (v := 1000000000) C (List.mem_cons_of_mem _ wm1105) dM_sum_3 ?_
  refine x_icmp_le (tgt := 15) C dM_sum_6 (by decide) (fun g1 => ?_) (fun g1 => ?_)
  · have h := h.1 g1
    refine x_iload_n C dM_sum_15 rfl 0 rfl ?_
    refine x_iload_n C dM_sum_16 rfl 1 rfl ?_
    refine x_iadd C dM_sum_17 ?_
    exact x_iret C hA hlocks hr ⟨rfl, h⟩ dM_sum_18
  · have h := h.2 g1
    refine x_ldcw (v := 1000000000) C (List.mem_cons_of_mem _ wm1105) dM_sum_9 ?_
    refine x_goto (tgt := 18) C dM_sum_12 (by decide) ?_
    exact x_iret C hA hlocks hr ⟨rfl, h⟩ dM_sum_18
set_option maxRecDepth 100000 in
set_option maxHeartbeats 4000000 in
theorem kM_sum {p : Program} {l : Launch} {e : Env} {R : Room} {s : State} {m : MethodId} {args : Array Value} {below : List Frame} {meth : Method} {c : Code} {cells slots : Nat} {Q : State → Prop} {A : Nat → Prop} {D : va_G} {nL pc : Nat} {cc : ByteArray} {cw : Cond} {own : String} {lv : List (Nat × Value)} {st : List Value} {G : G_} {a : L_} {r : S_} {K : Int32 → Prop} {p0 : Int32} {p1 : Int32} (C : vx_C p s m args c cc nL (cw :: wAll) own D vwCl (tysG G) nwAll A) {i : Nat} (hl : Cond.methodLink own i yM_sum ∈ wAll) (hR : 0 + 1 ≤ R.frames ∧ 8 + (2 + 11) + 0 ≤ R.locals) (hst : (st.map fun v => v.category).sum ≤ 8) (hd : decode cc pc = .ok (.invokestatic i, 3)) (hcs : cells ≤ R.cells ∧ slots ≤ R.slots) (h : qM_sum a r K p0 p1) (k : ∀ (v : Int32), K v → vx_V p l e R s m args below meth c A D vwCl nL cells slots Q (wo G a r) (pc + 3) lv (.int v :: st)) : vx_V p l e R s m args below meth c A D vwCl nL cells slots Q (wo G a r) pc lv (.int p1 :: .int p0 :: st) := by
  refine x_callSi C (As := [.int p0, .int p1]) (cM_sum p0 p1 h) (va_cwS 2 C.1.2.2.2.2 (goodS hl wm1103 wm9 wm1104) rfl rfl rfl (by decide +kernel) hR) rfl hst hd hcs (fun v w hw => ?_)
  obtain ⟨rfl, h⟩ := hw
  exact k v h
def qM_number_J141 (a : L_) (KB27 : S_ → Int32 → Prop) (KX144 : S_ → Prop) (r : S_) (v1 : Int32) : Prop :=
  KB27 r v1
set_option maxRecDepth 100000 in
set_option maxHeartbeats 4000000 in
theorem tM_number_J141 (C : vx_C p s m args c prog_9_method_45_code 3 (Cond.code yM_number prog_9_method_45_code 3 none :: wAll) "ClassInferenceModel" D vwCl (tysG G) nwAll A) {a : L_} {KB27 : S_ → Int32 → Prop} {KX144 : S_ → Prop} (kB27 : ∀ (r : S_) (v1 : Int32), KB27 r v1 → vx_V p l e { frames := 0, cells := 0, slots := 0, locals := 0 } s m args below meth c A D vwCl 3 0 0 Q (wo G a r) 27 [(0, .ref (ob G 7)), (1, .int v1)] []) (kX144 : ∀ (r : S_), KX144 r → vx_V p l e { frames := 0, cells := 0, slots := 0, locals := 0 } s m args below meth c A D vwCl 3 0 0 Q (wo G a r) 144 [(0, .ref (ob G 7))] []) (r : S_) (v1 : Int32) (h : qM_number_J141 a KB27 KX144 r v1) : vx_V p l e { frames := 0, cells := 0, slots := 0, locals := 0 } s m args below meth c A D vwCl 3 0 0 Q (wo G a r) 141 [(0, .ref (ob G 7)), (1, .int v1)] [] := by
  unfold qM_number_J141 at h
  refine x_goto (tgt := 27) C dM_number_141 (by decide) ?_
  refine x_sub [0, 1] rfl ?_
  exact kB27 r v1 h
def qM_number_J117 (a : L_) (KB27 : S_ → Int32 → Prop) (KX144 : S_ → Prop) (r : S_) (v1 : Int32) (v2 : Int32) : Prop :=
  vp_in v2 (ln a 78) ∧ (((ar r 78 v2.toNatClampNeg) < 0) → qM_number_J141 a KB27 KX144 r v1) ∧ ((¬ (ar r 78 v2.toNatClampNeg) < 0) → vp_in v2 (ln a 78) ∧ vp_in v1 (ln a 72) ∧ ∀ r19 : S_, r19 = sA r 72 (upd (ar r 72) v1.toNatClampNeg (ar r 78 v2.toNatClampNeg)) → qM_number_J141 a KB27 KX144 r19 (v1 + 1))
set_option maxRecDepth 100000 in
set_option maxHeartbeats 4000000 in
theorem tM_number_J117 (C : vx_C p s m args c prog_9_method_45_code 3 (Cond.code yM_number prog_9_method_45_code 3 none :: wAll) "ClassInferenceModel" D vwCl (tysG G) nwAll A) {a : L_} {KB27 : S_ → Int32 → Prop} {KX144 : S_ → Prop} (kB27 : ∀ (r : S_) (v1 : Int32), KB27 r v1 → vx_V p l e { frames := 0, cells := 0, slots := 0, locals := 0 } s m args below meth c A D vwCl 3 0 0 Q (wo G a r) 27 [(0, .ref (ob G 7)), (1, .int v1)] []) (kX144 : ∀ (r : S_), KX144 r → vx_V p l e { frames := 0, cells := 0, slots := 0, locals := 0 } s m args below meth c A D vwCl 3 0 0 Q (wo G a r) 144 [(0, .ref (ob G 7))] []) (r : S_) (v1 : Int32) (v2 : Int32) (h : qM_number_J117 a KB27 KX144 r v1 v2) : vx_V p l e { frames := 0, cells := 0, slots := 0, locals := 0 } s m args below meth c A D vwCl 3 0 0 Q (wo G a r) 117 [(0, .ref (ob G 7)), (1, .int v1), (2, .int v2)] [] := by
  unfold qM_number_J117 at h
  refine x_aload_n C dM_number_117 rfl 0 rfl ?_
  refine gf_7_63 C (List.mem_cons_of_mem _ wm779) dM_number_118 ?_
  refine x_iload_n C dM_number_121 rfl 2 rfl ?_
  obtain ⟨g15, h⟩ := h
  refine y_ia C 78 (by decide) g15 dM_number_122 ?_
  refine x_if_lt (tgt := 141) C dM_number_123 (by decide) (fun g16 => ?_) (fun g16 => ?_)
  · have h := h.1 g16
    refine x_sub [0, 1] rfl ?_
    exact tM_number_J141 C kB27 kX144 r v1 h
  · have h := h.2 g16
    refine x_aload_n C dM_number_126 rfl 0 rfl ?_
    refine gf_7_48 C (List.mem_cons_of_mem _ wm764) dM_number_127 ?_
    refine x_iload_n C dM_number_130 rfl 1 rfl ?_
    refine x_aload_n C dM_number_131 rfl 0 rfl ?_
    refine gf_7_63 C (List.mem_cons_of_mem _ wm779) dM_number_132 ?_
    refine x_iload_n C dM_number_135 rfl 2 rfl ?_
    obtain ⟨g17, h⟩ := h
    refine y_ia C 78 (by decide) g17 dM_number_136 ?_
    obtain ⟨g18, h⟩ := h
    refine y_is C 72 (by decide) g18 dM_number_137 (fun r19 er19 => ?_)
    have h := h r19 er19
    refine x_iinc (j := 1) (v := v1 + 1) C [(1, .int (v1 + 1)), (0, .ref (ob G 7)), (2, .int v2)] dM_number_138 rfl rfl (by decide) rfl ?_
    refine x_sub [1, 0] rfl ?_
    exact tM_number_J141 C kB27 kX144 r19 (v1 + 1) h
def qM_number_J93 (a : L_) (KB27 : S_ → Int32 → Prop) (KX144 : S_ → Prop) (r : S_) (v1 : Int32) (v2 : Int32) : Prop :=
  vp_in v2 (ln a 79) ∧ (((ar r 79 v2.toNatClampNeg) < 0) → qM_number_J117 a KB27 KX144 r v1 v2) ∧ ((¬ (ar r 79 v2.toNatClampNeg) < 0) → vp_in v2 (ln a 79) ∧ vp_in v1 (ln a 72) ∧ ∀ r22 : S_, r22 = sA r 72 (upd (ar r 72) v1.toNatClampNeg (ar r 79 v2.toNatClampNeg)) → qM_number_J117 a KB27 KX144 r22 (v1 + 1) v2)
set_option maxRecDepth 100000 in
set_option maxHeartbeats 4000000 in
theorem tM_number_J93 (C : vx_C p s m args c prog_9_method_45_code 3 (Cond.code yM_number prog_9_method_45_code 3 none :: wAll) "ClassInferenceModel" D vwCl (tysG G) nwAll A) {a : L_} {KB27 : S_ → Int32 → Prop} {KX144 : S_ → Prop} (kB27 : ∀ (r : S_) (v1 : Int32), KB27 r v1 → vx_V p l e { frames := 0, cells := 0, slots := 0, locals := 0 } s m args below meth c A D vwCl 3 0 0 Q (wo G a r) 27 [(0, .ref (ob G 7)), (1, .int v1)] []) (kX144 : ∀ (r : S_), KX144 r → vx_V p l e { frames := 0, cells := 0, slots := 0, locals := 0 } s m args below meth c A D vwCl 3 0 0 Q (wo G a r) 144 [(0, .ref (ob G 7))] []) (r : S_) (v1 : Int32) (v2 : Int32) (h : qM_number_J93 a KB27 KX144 r v1 v2) : vx_V p l e { frames := 0, cells := 0, slots := 0, locals := 0 } s m args below meth c A D vwCl 3 0 0 Q (wo G a r) 93 [(0, .ref (ob G 7)), (1, .int v1), (2, .int v2)] [] := by
  unfold qM_number_J93 at h
  refine x_aload_n C dM_number_93 rfl 0 rfl ?_
  refine gf_7_64 C (List.mem_cons_of_mem _ wm780) dM_number_94 ?_
  refine x_iload_n C dM_number_97 rfl 2 rfl ?_
  obtain ⟨g13, h⟩ := h
  refine y_ia C 79 (by decide) g13 dM_number_98 ?_
  refine x_if_lt (tgt := 117) C dM_number_99 (by decide) (fun g14 => ?_) (fun g14 => ?_)
  · have h := h.1 g14
    refine x_sub [0, 1, 2] rfl ?_
    exact tM_number_J117 C kB27 kX144 r v1 v2 h
  · have h := h.2 g14
    refine x_aload_n C dM_number_102 rfl 0 rfl ?_
    refine gf_7_48 C (List.mem_cons_of_mem _ wm764) dM_number_103 ?_
    refine x_iload_n C dM_number_106 rfl 1 rfl ?_
    refine x_aload_n C dM_number_107 rfl 0 rfl ?_
    refine gf_7_64 C (List.mem_cons_of_mem _ wm780) dM_number_108 ?_
    refine x_iload_n C dM_number_111 rfl 2 rfl ?_
    obtain ⟨g20, h⟩ := h
    refine y_ia C 79 (by decide) g20 dM_number_112 ?_
    obtain ⟨g21, h⟩ := h
    refine y_is C 72 (by decide) g21 dM_number_113 (fun r22 er22 => ?_)
    have h := h r22 er22
    refine x_iinc (j := 1) (v := v1 + 1) C [(1, .int (v1 + 1)), (0, .ref (ob G 7)), (2, .int v2)] dM_number_114 rfl rfl (by decide) rfl ?_
    refine x_sub [1, 0, 2] rfl ?_
    exact tM_number_J117 C kB27 kX144 r22 (v1 + 1) v2 h
def qM_number_L27 (a : L_) (KX144 : S_ → Prop) : Nat → S_ → Int32 → Prop
  | 0, _, _ => False
  | n + 1, r, v1 => ((v1 ≤ 0) → KX144 r) ∧ ((¬ v1 ≤ 0) → vp_in (v1 + (-1)) (ln a 72) ∧ vp_in (ar r 72 (v1 + (-1)).toNatClampNeg) (ln a 68) ∧ (((ar r 68 (ar r 72 (v1 + (-1)).toNatClampNeg).toNatClampNeg) = (fi r 29)) → qM_number_J141 a (qM_number_L27 a KX144 n) KX144 r (v1 + (-1))) ∧ ((¬ (ar r 68 (ar r 72 (v1 + (-1)).toNatClampNeg).toNatClampNeg) = (fi r 29)) → vp_in (ar r 72 (v1 + (-1)).toNatClampNeg) (ln a 68) ∧ ∀ r10 : S_, r10 = sA r 68 (upd (ar r 68) (ar r 72 (v1 + (-1)).toNatClampNeg).toNatClampNeg (fi r 29)) → vp_in (ar r 72 (v1 + (-1)).toNatClampNeg) (ln a 77) ∧ ((0 ≤ (ar r10 77 (ar r 72 (v1 + (-1)).toNatClampNeg).toNatClampNeg)) → qM_number_J93 a (qM_number_L27 a KX144 n) KX144 r10 (v1 + (-1)) (ar r 72 (v1 + (-1)).toNatClampNeg)) ∧ ((¬ 0 ≤ (ar r10 77 (ar r 72 (v1 + (-1)).toNatClampNeg).toNatClampNeg)) → vp_in (ar r 72 (v1 + (-1)).toNatClampNeg) (ln a 83) ∧ ∀ r24 : S_, r24 = sA r10 83 (upd (ar r10 83) (ar r 72 (v1 + (-1)).toNatClampNeg).toNatClampNeg (fi r10 36)) → ∀ r25 : S_, r25 = sF r24 36 ((fi r24 36) + 1) → qM_number_J93 a (qM_number_L27 a KX144 n) KX144 r25 (v1 + (-1)) (ar r 72 (v1 + (-1)).toNatClampNeg))))
set_option maxRecDepth 100000 in
set_option maxHeartbeats 4000000 in
theorem tM_number_L27 (C : vx_C p s m args c prog_9_method_45_code 3 (Cond.code yM_number prog_9_method_45_code 3 none :: wAll) "ClassInferenceModel" D vwCl (tysG G) nwAll A) {a : L_} {KX144 : S_ → Prop} (kX144 : ∀ (r : S_), KX144 r → vx_V p l e { frames := 0, cells := 0, slots := 0, locals := 0 } s m args below meth c A D vwCl 3 0 0 Q (wo G a r) 144 [(0, .ref (ob G 7))] []) : ∀ (n : Nat) (r : S_) (v1 : Int32), qM_number_L27 a KX144 n r v1 → vx_V p l e { frames := 0, cells := 0, slots := 0, locals := 0 } s m args below meth c A D vwCl 3 0 0 Q (wo G a r) 27 [(0, .ref (ob G 7)), (1, .int v1)] [] := by
  intro n
  induction n with
  | zero =>
    intro r v1 h
    exact (by rw [qM_number_L27] at h; exact h : False).elim
  | succ n kB27 =>
    intro r v1 h
    rw [qM_number_L27] at h
    refine x_iload_n C dM_number_27 rfl 1 rfl ?_
    refine x_if_le (tgt := 144) C dM_number_28 (by decide) (fun g5 => ?_) (fun g5 => ?_)
    · have h := h.1 g5
      refine x_sub [0] rfl ?_
      exact kX144 r h
    · have h := h.2 g5
      refine x_iinc (j := 1) (v := v1 + (-1)) C [(1, .int (v1 + (-1))), (0, .ref (ob G 7))] dM_number_31 rfl rfl (by decide) rfl ?_
      refine x_aload_n C dM_number_34 rfl 1 rfl ?_
      refine gf_7_48 C (List.mem_cons_of_mem _ wm764) dM_number_35 ?_
      refine x_iload_n C dM_number_38 rfl 0 rfl ?_
      obtain ⟨g6, h⟩ := h
      refine y_ia C 72 (by decide) g6 dM_number_39 ?_
      refine x_istore_n C [(2, .int (ar r 72 (v1 + (-1)).toNatClampNeg)), (1, .int (v1 + (-1))), (0, .ref (ob G 7))] dM_number_40 rfl (by decide) rfl ?_
      refine x_aload_n C dM_number_41 rfl 2 rfl ?_
      refine gf_7_42 C (List.mem_cons_of_mem _ wm758) dM_number_42 ?_
      refine x_iload_n C dM_number_45 rfl 0 rfl ?_
      obtain ⟨g7, h⟩ := h
      refine y_ia C 68 (by decide) g7 dM_number_46 ?_
      refine x_aload_n C dM_number_47 rfl 2 rfl ?_
      refine gf_7_43 C (List.mem_cons_of_mem _ wm759) dM_number_48 ?_
      refine x_icmp_eq (tgt := 141) C dM_number_51 (by decide) (fun g8 => ?_) (fun g8 => ?_)
      · have h := h.1 g8
        refine x_sub [2, 1] rfl ?_
        exact tM_number_J141 C kB27 kX144 r (v1 + (-1)) h
      · have h := h.2 g8
        refine x_aload_n C dM_number_54 rfl 2 rfl ?_
        refine gf_7_42 C (List.mem_cons_of_mem _ wm758) dM_number_55 ?_
        refine x_iload_n C dM_number_58 rfl 0 rfl ?_
        refine x_aload_n C dM_number_59 rfl 2 rfl ?_
        refine gf_7_43 C (List.mem_cons_of_mem _ wm759) dM_number_60 ?_
        obtain ⟨g9, h⟩ := h
        refine y_is C 68 (by decide) g9 dM_number_63 (fun r10 er10 => ?_)
        have h := h r10 er10
        refine x_aload_n C dM_number_64 rfl 2 rfl ?_
        refine gf_7_62 C (List.mem_cons_of_mem _ wm778) dM_number_65 ?_
        refine x_iload_n C dM_number_68 rfl 0 rfl ?_
        obtain ⟨g11, h⟩ := h
        refine y_ia C 77 (by decide) g11 dM_number_69 ?_
        refine x_if_ge (tgt := 93) C dM_number_70 (by decide) (fun g12 => ?_) (fun g12 => ?_)
        · have h := h.1 g12
          refine x_sub [2, 1, 0] rfl ?_
          exact tM_number_J93 C kB27 kX144 r10 (v1 + (-1)) (ar r 72 (v1 + (-1)).toNatClampNeg) h
        · have h := h.2 g12
          refine x_aload_n C dM_number_73 rfl 2 rfl ?_
          refine gf_7_70 C (List.mem_cons_of_mem _ wm786) dM_number_74 ?_
          refine x_iload_n C dM_number_77 rfl 0 rfl ?_
          refine x_aload_n C dM_number_78 rfl 2 rfl ?_
          refine gf_7_60 C (List.mem_cons_of_mem _ wm776) dM_number_79 ?_
          obtain ⟨g23, h⟩ := h
          refine y_is C 83 (by decide) g23 dM_number_82 (fun r24 er24 => ?_)
          have h := h r24 er24
          refine x_aload_n C dM_number_83 rfl 2 rfl ?_
          refine x_dup C dM_number_84 rfl ?_
          refine gf_7_60 C (List.mem_cons_of_mem _ wm776) dM_number_85 ?_
          refine x_iconst (v := 1) C dM_number_88 (by decide) ?_
          refine x_iadd C dM_number_89 ?_
          refine pf_7_60 C (List.mem_cons_of_mem _ wm776) dM_number_90 (fun r25 er25 => ?_)
          have h := h r25 er25
          refine x_sub [2, 1, 0] rfl ?_
          exact tM_number_J93 C kB27 kX144 r25 (v1 + (-1)) (ar r 72 (v1 + (-1)).toNatClampNeg) h
def qM_number_J205 (a : L_) (KB146 : S_ → Int32 → Prop) (KX212 : S_ → Prop) (r : S_) (v2 : Int32) (u0 : Int32) (u1 : Int32) : Prop :=
  vp_in u1 (ln a 77) ∧ ∀ r34 : S_, r34 = sA r 77 (upd (ar r 77) u1.toNatClampNeg u0) → KB146 r34 (v2 + 1)
set_option maxRecDepth 100000 in
set_option maxHeartbeats 4000000 in
theorem tM_number_J205 (C : vx_C p s m args c prog_9_method_45_code 3 (Cond.code yM_number prog_9_method_45_code 3 none :: wAll) "ClassInferenceModel" D vwCl (tysG G) nwAll A) {a : L_} {KB146 : S_ → Int32 → Prop} {KX212 : S_ → Prop} (kB146 : ∀ (r : S_) (v2 : Int32), KB146 r v2 → vx_V p l e { frames := 0, cells := 0, slots := 0, locals := 0 } s m args below meth c A D vwCl 3 0 0 Q (wo G a r) 146 [(0, .ref (ob G 7)), (2, .int v2)] []) (kX212 : ∀ (r : S_), KX212 r → vx_V p l e { frames := 0, cells := 0, slots := 0, locals := 0 } s m args below meth c A D vwCl 3 0 0 Q (wo G a r) 212 [] []) (r : S_) (v2 : Int32) (u0 : Int32) (u1 : Int32) (h : qM_number_J205 a KB146 KX212 r v2 u0 u1) : vx_V p l e { frames := 0, cells := 0, slots := 0, locals := 0 } s m args below meth c A D vwCl 3 0 0 Q (wo G a r) 205 [(0, .ref (ob G 7)), (2, .int v2)] [.int u0, .int u1, .ref (ad a 77)] := by
  unfold qM_number_J205 at h
  obtain ⟨g33, h⟩ := h
  refine y_is C 77 (by decide) g33 dM_number_205 (fun r34 er34 => ?_)
  have h := h r34 er34
  refine x_iinc (j := 1) (v := v2 + 1) C [(2, .int (v2 + 1)), (0, .ref (ob G 7))] dM_number_206 rfl rfl (by decide) rfl ?_
  refine x_goto (tgt := 146) C dM_number_209 (by decide) ?_
  refine x_sub [1, 0] rfl ?_
  exact kB146 r34 (v2 + 1) h
def qM_number_L146 (a : L_) (KX212 : S_ → Prop) : Nat → S_ → Int32 → Prop
  | 0, _, _ => False
  | n + 1, r, v2 => (((fi r 30) ≤ v2) → KX212 r) ∧ ((¬ (fi r 30) ≤ v2) → vp_in v2 (ln a 73) ∧ vp_in v2 (ln a 73) ∧ vp_in (ar r 73 v2.toNatClampNeg) (ln a 77) ∧ ((0 ≤ (ar r 77 (ar r 73 v2.toNatClampNeg).toNatClampNeg)) → vp_in v2 (ln a 73) ∧ vp_in (ar r 73 v2.toNatClampNeg) (ln a 77) ∧ qM_number_J205 a (qM_number_L146 a KX212 n) KX212 r v2 (ar r 77 (ar r 73 v2.toNatClampNeg).toNatClampNeg) (ar r 73 v2.toNatClampNeg)) ∧ ((¬ 0 ≤ (ar r 77 (ar r 73 v2.toNatClampNeg).toNatClampNeg)) → vp_in v2 (ln a 73) ∧ vp_in (ar r 73 v2.toNatClampNeg) (ln a 83) ∧ qM_number_J205 a (qM_number_L146 a KX212 n) KX212 r v2 ((-1) - (ar r 83 (ar r 73 v2.toNatClampNeg).toNatClampNeg)) (ar r 73 v2.toNatClampNeg)))
set_option maxRecDepth 100000 in
set_option maxHeartbeats 4000000 in
theorem tM_number_L146 (C : vx_C p s m args c prog_9_method_45_code 3 (Cond.code yM_number prog_9_method_45_code 3 none :: wAll) "ClassInferenceModel" D vwCl (tysG G) nwAll A) {a : L_} {KX212 : S_ → Prop} (kX212 : ∀ (r : S_), KX212 r → vx_V p l e { frames := 0, cells := 0, slots := 0, locals := 0 } s m args below meth c A D vwCl 3 0 0 Q (wo G a r) 212 [] []) : ∀ (n : Nat) (r : S_) (v2 : Int32), qM_number_L146 a KX212 n r v2 → vx_V p l e { frames := 0, cells := 0, slots := 0, locals := 0 } s m args below meth c A D vwCl 3 0 0 Q (wo G a r) 146 [(0, .ref (ob G 7)), (2, .int v2)] [] := by
  intro n
  induction n with
  | zero =>
    intro r v2 h
    exact (by rw [qM_number_L146] at h; exact h : False).elim
  | succ n kB146 =>
    intro r v2 h
    rw [qM_number_L146] at h
    refine x_iload_n C dM_number_146 rfl 1 rfl ?_
    refine x_aload_n C dM_number_147 rfl 0 rfl ?_
    refine gf_7_50 C (List.mem_cons_of_mem _ wm766) dM_number_148 ?_
    refine x_icmp_ge (tgt := 212) C dM_number_151 (by decide) (fun g26 => ?_) (fun g26 => ?_)
    · have h := h.1 g26
      refine x_sub [] rfl ?_
      exact kX212 r h
    · have h := h.2 g26
      refine x_aload_n C dM_number_154 rfl 0 rfl ?_
      refine gf_7_62 C (List.mem_cons_of_mem _ wm778) dM_number_155 ?_
      refine x_aload_n C dM_number_158 rfl 0 rfl ?_
      refine gf_7_49 C (List.mem_cons_of_mem _ wm765) dM_number_159 ?_
      refine x_iload_n C dM_number_162 rfl 1 rfl ?_
      obtain ⟨g27, h⟩ := h
      refine y_ia C 73 (by decide) g27 dM_number_163 ?_
      refine x_aload_n C dM_number_164 rfl 0 rfl ?_
      refine gf_7_62 C (List.mem_cons_of_mem _ wm778) dM_number_165 ?_
      refine x_aload_n C dM_number_168 rfl 0 rfl ?_
      refine gf_7_49 C (List.mem_cons_of_mem _ wm765) dM_number_169 ?_
      refine x_iload_n C dM_number_172 rfl 1 rfl ?_
      obtain ⟨g28, h⟩ := h
      refine y_ia C 73 (by decide) g28 dM_number_173 ?_
      obtain ⟨g29, h⟩ := h
      refine y_ia C 77 (by decide) g29 dM_number_174 ?_
      refine x_if_ge (tgt := 194) C dM_number_175 (by decide) (fun g30 => ?_) (fun g30 => ?_)
      · have h := h.1 g30
        refine x_aload_n C dM_number_194 rfl 0 rfl ?_
        refine gf_7_62 C (List.mem_cons_of_mem _ wm778) dM_number_195 ?_
        refine x_aload_n C dM_number_198 rfl 0 rfl ?_
        refine gf_7_49 C (List.mem_cons_of_mem _ wm765) dM_number_199 ?_
        refine x_iload_n C dM_number_202 rfl 1 rfl ?_
        obtain ⟨g31, h⟩ := h
        refine y_ia C 73 (by decide) g31 dM_number_203 ?_
        obtain ⟨g32, h⟩ := h
        refine y_ia C 77 (by decide) g32 dM_number_204 ?_
        refine x_sub [0, 1] rfl ?_
        exact tM_number_J205 C kB146 kX212 r v2 (ar r 77 (ar r 73 v2.toNatClampNeg).toNatClampNeg) (ar r 73 v2.toNatClampNeg) h
      · have h := h.2 g30
        refine x_iconst (v := (-1)) C dM_number_178 (by decide) ?_
        refine x_aload_n C dM_number_179 rfl 0 rfl ?_
        refine gf_7_70 C (List.mem_cons_of_mem _ wm786) dM_number_180 ?_
        refine x_aload_n C dM_number_183 rfl 0 rfl ?_
        refine gf_7_49 C (List.mem_cons_of_mem _ wm765) dM_number_184 ?_
        refine x_iload_n C dM_number_187 rfl 1 rfl ?_
        obtain ⟨g35, h⟩ := h
        refine y_ia C 73 (by decide) g35 dM_number_188 ?_
        obtain ⟨g36, h⟩ := h
        refine y_ia C 83 (by decide) g36 dM_number_189 ?_
        refine x_isub C dM_number_190 ?_
        refine x_goto (tgt := 205) C dM_number_191 (by decide) ?_
        refine x_sub [0, 1] rfl ?_
        exact tM_number_J205 C kB146 kX212 r v2 ((-1) - (ar r 83 (ar r 73 v2.toNatClampNeg).toNatClampNeg)) (ar r 73 v2.toNatClampNeg) h
def qM_number (a : L_) (K : S_ → Prop) (r : S_) : Prop :=
  ∀ r1 : S_, r1 = sF r 36 0 → ∀ r2 : S_, r2 = sF r1 29 ((fi r1 29) + 1) → vp_in 0 (ln a 72) ∧ ∀ r4 : S_, r4 = sA r2 72 (upd (ar r2 72) (0 : Int32).toNatClampNeg (fi r2 37)) → ∃ n38 : Nat, qM_number_L27 a (fun r => ∃ n37 : Nat, qM_number_L146 a (fun r => K r) n37 r 0) n38 r4 1
set_option maxRecDepth 100000 in
set_option maxHeartbeats 4000000 in
theorem cM_number {a : L_} {r : S_} {K : S_ → Prop} (h : qM_number a K r ) : vx_Mv l yM_number (Cond.code yM_number prog_9_method_45_code 3 none :: wAll) { frames := 0, cells := 0, slots := 0, locals := 0 } D vwCl (tysG G) nwAll (wo G a r) [.ref (ob G 7)] 0 0 (fun w => ∃ r1, w = wo G a r1 ∧ K r1) := by
  unfold qM_number at h
  refine x_metv (cc := prog_9_method_45_code) (maxL := 3) (ret := none) (lv0 := [(0, .ref (ob G 7))]) (by decide) rfl (Nat.le_of_ble_eq_true rfl) rfl ?_
  intro p e s m args below meth c A C hA hlocks hr
  refine x_aload_n C dM_number_0 rfl 0 rfl ?_
  refine x_iconst (v := 0) C dM_number_1 (by decide) ?_
  refine pf_7_60 C (List.mem_cons_of_mem _ wm776) dM_number_2 (fun r1 er1 => ?_)
  have h := h r1 er1
  refine x_aload_n C dM_number_5 rfl 0 rfl ?_
  refine x_dup C dM_number_6 rfl ?_
  refine gf_7_43 C (List.mem_cons_of_mem _ wm759) dM_number_7 ?_
  refine x_iconst (v := 1) C dM_number_10 (by decide) ?_
  refine x_iadd C dM_number_11 ?_
  refine pf_7_43 C (List.mem_cons_of_mem _ wm759) dM_number_12 (fun r2 er2 => ?_)
  have h := h r2 er2
  refine x_iconst (v := 1) C dM_number_15 (by decide) ?_
  refine x_istore_n C [(1, .int 1), (0, .ref (ob G 7))] dM_number_16 rfl (by decide) rfl ?_
  refine x_aload_n C dM_number_17 rfl 1 rfl ?_
  refine gf_7_48 C (List.mem_cons_of_mem _ wm764) dM_number_18 ?_
  refine x_iconst (v := 0) C dM_number_21 (by decide) ?_
  refine x_aload_n C dM_number_22 rfl 1 rfl ?_
  refine gf_7_61 C (List.mem_cons_of_mem _ wm777) dM_number_23 ?_
  obtain ⟨g3, h⟩ := h
  refine y_is C 72 (by decide) g3 dM_number_26 (fun r4 er4 => ?_)
  have h := h r4 er4
  obtain ⟨n38, h⟩ := h
  refine x_sub [1, 0] rfl ?_
  refine tM_number_L27 C (fun r h => ?_) n38 r4 1 h
  · refine x_iconst (v := 0) C dM_number_144 (by decide) ?_
    refine x_istore_n C [(2, .int 0), (0, .ref (ob G 7))] dM_number_145 rfl (by decide) rfl ?_
    obtain ⟨n37, h⟩ := h
    refine x_sub [1, 0] rfl ?_
    refine tM_number_L146 C (fun r h => ?_) n37 r 0 h
    · exact x_vret C hA hlocks hr ⟨r, rfl, h⟩ dM_number_212
set_option maxRecDepth 100000 in
set_option maxHeartbeats 4000000 in
theorem kM_number {p : Program} {l : Launch} {e : Env} {R : Room} {s : State} {m : MethodId} {args : Array Value} {below : List Frame} {meth : Method} {c : Code} {cells slots : Nat} {Q : State → Prop} {A : Nat → Prop} {D : va_G} {nL pc : Nat} {cc : ByteArray} {cw : Cond} {own : String} {lv : List (Nat × Value)} {st : List Value} {G : G_} {a : L_} {r : S_} {K : S_ → Prop} (C : vx_C p s m args c cc nL (cw :: wAll) own D vwCl (tysG G) nwAll A) {i : Nat} (hl : Cond.methodLink own i yM_number ∈ wAll) (hR : 0 + 1 ≤ R.frames ∧ 8 + (3 + 11) + 0 ≤ R.locals) (hst : (st.map fun v => v.category).sum ≤ 8) (hd : decode cc pc = .ok (.invokevirtual i, 3)) (hcs : cells ≤ R.cells ∧ slots ≤ R.slots) (h : qM_number a K r ) (k : ∀ (r1 : S_), K r1 → vx_V p l e R s m args below meth c A D vwCl nL cells slots Q (wo G a r1) (pc + 3) lv st) : vx_V p l e R s m args below meth c A D vwCl nL cells slots Q (wo G a r) pc lv (.ref (ob G 7) :: st) := by
  refine x_callVv C (CC := "ClassInferenceModel") (ci := 7) (q0 := 7) (fs := fl7 G a r) (As := []) rfl rfl (cM_number  h) (cwV (C := "ClassInferenceModel") 0 C.1.2.2.2.2 (goodV hl wm1108 wp61 wm9 wm1109) rfl rfl rfl (by decide +kernel) hR) rfl hst hd hcs (fun w hw => ?_)
  obtain ⟨r1, rfl, h⟩ := hw
  exact k r1 h
end MTH
