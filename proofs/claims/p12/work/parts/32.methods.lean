section MTH
variable {p : Program} {l : Launch} {e : Env} {s : State} {m : MethodId} {args : Array Value} {below : List Frame} {meth : Method} {c : Code} {Q : State → Prop} {A : Nat → Prop} {D : va_G} {G : G_} {ws0 : va_W}
def qM_keep_J100 (a : L_) (KB16 : S_ → Int32 → Prop) (KX114 : S_ → Prop) (r : S_) (v1 : Int32) (v2 : Int32) (u0 : Int32) (u1 : Int32) : Prop :=
  vp_in u1 (ln a 79) ∧ ∀ r20 : S_, r20 = sA r 79 (upd (ar r 79) u1.toNatClampNeg u0) → vp_in v2 (ln a 80) ∧ ∀ r22 : S_, r22 = sA r20 80 (upd (ar r20 80) v2.toNatClampNeg 0) → KB16 r22 (v1 + 1)
set_option maxRecDepth 100000 in
set_option maxHeartbeats 4000000 in
theorem tM_keep_J100 (C : vx_C p s m args c prog_9_method_44_code 7 (Cond.code yM_keep prog_9_method_44_code 7 none :: wAll) "ClassInferenceModel" D vwCl (tysG G) nwAll A) {a : L_} {KB16 : S_ → Int32 → Prop} {KX114 : S_ → Prop} (kB16 : ∀ (r : S_) (v1 : Int32), KB16 r v1 → vx_V p l e { frames := 2, cells := 0, slots := 0, locals := 48 } s m args below meth c A D vwCl 7 0 0 Q (wo G a r) 16 [(0, .ref (ob G 7)), (1, .int v1)] []) (kX114 : ∀ (r : S_), KX114 r → vx_V p l e { frames := 2, cells := 0, slots := 0, locals := 48 } s m args below meth c A D vwCl 7 0 0 Q (wo G a r) 114 [(0, .ref (ob G 7))] []) (r : S_) (v1 : Int32) (v2 : Int32) (u0 : Int32) (u1 : Int32) (h : qM_keep_J100 a KB16 KX114 r v1 v2 u0 u1) : vx_V p l e { frames := 2, cells := 0, slots := 0, locals := 48 } s m args below meth c A D vwCl 7 0 0 Q (wo G a r) 100 [(0, .ref (ob G 7)), (1, .int v1), (2, .int v2)] [.int u0, .int u1, .ref (ad a 79)] := by
  unfold qM_keep_J100 at h
  obtain ⟨g19, h⟩ := h
  refine y_is C 79 (by decide) g19 dM_keep_100 (fun r20 er20 => ?_)
  have h := h r20 er20
  refine x_aload_n C dM_keep_101 rfl 0 rfl ?_
  refine gf_7_65 C (List.mem_cons_of_mem _ wm781) dM_keep_102 ?_
  refine x_iload_n C dM_keep_105 rfl 2 rfl ?_
  refine x_iconst (v := 0) C dM_keep_106 (by decide) ?_
  obtain ⟨g21, h⟩ := h
  refine y_is C 80 (by decide) g21 dM_keep_107 (fun r22 er22 => ?_)
  have h := h r22 er22
  refine x_iinc (j := 1) (v := v1 + 1) C [(1, .int (v1 + 1)), (0, .ref (ob G 7)), (2, .int v2)] dM_keep_108 rfl rfl (by decide) rfl ?_
  refine x_goto (tgt := 16) C dM_keep_111 (by decide) ?_
  refine x_sub [1, 0] rfl ?_
  exact kB16 r22 (v1 + 1) h
def qM_keep_J71 (a : L_) (KB16 : S_ → Int32 → Prop) (KX114 : S_ → Prop) (r : S_) (v1 : Int32) (v2 : Int32) (u0 : Int32) (u1 : Int32) : Prop :=
  vp_in u1 (ln a 78) ∧ ∀ r14 : S_, r14 = sA r 78 (upd (ar r 78) u1.toNatClampNeg u0) → vp_in v2 (ln a 67) ∧ ((0 ≤ (ar r14 67 v2.toNatClampNeg)) → vp_in v2 (ln a 67) ∧ qM_find a r14 (fun z18 => qM_keep_J100 a KB16 KX114 r14 v1 v2 z18 v2) (ar r14 67 v2.toNatClampNeg)) ∧ ((¬ 0 ≤ (ar r14 67 v2.toNatClampNeg)) → qM_keep_J100 a KB16 KX114 r14 v1 v2 (-1) v2)
set_option maxRecDepth 100000 in
set_option maxHeartbeats 4000000 in
theorem tM_keep_J71 (C : vx_C p s m args c prog_9_method_44_code 7 (Cond.code yM_keep prog_9_method_44_code 7 none :: wAll) "ClassInferenceModel" D vwCl (tysG G) nwAll A) {a : L_} {KB16 : S_ → Int32 → Prop} {KX114 : S_ → Prop} (kB16 : ∀ (r : S_) (v1 : Int32), KB16 r v1 → vx_V p l e { frames := 2, cells := 0, slots := 0, locals := 48 } s m args below meth c A D vwCl 7 0 0 Q (wo G a r) 16 [(0, .ref (ob G 7)), (1, .int v1)] []) (kX114 : ∀ (r : S_), KX114 r → vx_V p l e { frames := 2, cells := 0, slots := 0, locals := 48 } s m args below meth c A D vwCl 7 0 0 Q (wo G a r) 114 [(0, .ref (ob G 7))] []) (r : S_) (v1 : Int32) (v2 : Int32) (u0 : Int32) (u1 : Int32) (h : qM_keep_J71 a KB16 KX114 r v1 v2 u0 u1) : vx_V p l e { frames := 2, cells := 0, slots := 0, locals := 48 } s m args below meth c A D vwCl 7 0 0 Q (wo G a r) 71 [(0, .ref (ob G 7)), (1, .int v1), (2, .int v2)] [.int u0, .int u1, .ref (ad a 78)] := by
  unfold qM_keep_J71 at h
  obtain ⟨g13, h⟩ := h
  refine y_is C 78 (by decide) g13 dM_keep_71 (fun r14 er14 => ?_)
  have h := h r14 er14
  refine x_aload_n C dM_keep_72 rfl 0 rfl ?_
  refine gf_7_64 C (List.mem_cons_of_mem _ wm780) dM_keep_73 ?_
  refine x_iload_n C dM_keep_76 rfl 2 rfl ?_
  refine x_aload_n C dM_keep_77 rfl 0 rfl ?_
  refine gf_7_41 C (List.mem_cons_of_mem _ wm757) dM_keep_78 ?_
  refine x_iload_n C dM_keep_81 rfl 2 rfl ?_
  obtain ⟨g15, h⟩ := h
  refine y_ia C 67 (by decide) g15 dM_keep_82 ?_
  refine x_if_ge (tgt := 90) C dM_keep_83 (by decide) (fun g16 => ?_) (fun g16 => ?_)
  · have h := h.1 g16
    refine x_aload_n C dM_keep_90 rfl 0 rfl ?_
    refine x_aload_n C dM_keep_91 rfl 0 rfl ?_
    refine gf_7_41 C (List.mem_cons_of_mem _ wm757) dM_keep_92 ?_
    refine x_iload_n C dM_keep_95 rfl 2 rfl ?_
    obtain ⟨g17, h⟩ := h
    refine y_ia C 67 (by decide) g17 dM_keep_96 ?_
    refine kM_find C wm1039 ⟨Nat.le_of_ble_eq_true rfl, Nat.le_of_ble_eq_true rfl⟩ (Nat.le_of_ble_eq_true rfl) dM_keep_97 ⟨Nat.zero_le _, Nat.zero_le _⟩ h (fun z18 h => ?_)
    refine x_sub [0, 1, 2] rfl ?_
    exact tM_keep_J100 C kB16 kX114 r14 v1 v2 z18 v2 h
  · have h := h.2 g16
    refine x_iconst (v := (-1)) C dM_keep_86 (by decide) ?_
    refine x_goto (tgt := 100) C dM_keep_87 (by decide) ?_
    refine x_sub [0, 1, 2] rfl ?_
    exact tM_keep_J100 C kB16 kX114 r14 v1 v2 (-1) v2 h
def qM_keep_L16 (a : L_) (KX114 : S_ → Prop) : Nat → S_ → Int32 → Prop
  | 0, _, _ => False
  | n + 1, r, v1 => (((fi r 30) ≤ v1) → KX114 r) ∧ ((¬ (fi r 30) ≤ v1) → vp_in v1 (ln a 73) ∧ vp_in (ar r 73 v1.toNatClampNeg) (ln a 65) ∧ vp_in (ar r 73 v1.toNatClampNeg) (ln a 77) ∧ ∀ r8 : S_, r8 = sA r 77 (upd (ar r 77) (ar r 73 v1.toNatClampNeg).toNatClampNeg (ar r 65 (ar r 73 v1.toNatClampNeg).toNatClampNeg)) → vp_in (ar r 73 v1.toNatClampNeg) (ln a 66) ∧ ((0 ≤ (ar r8 66 (ar r 73 v1.toNatClampNeg).toNatClampNeg)) → vp_in (ar r 73 v1.toNatClampNeg) (ln a 66) ∧ qM_find a r8 (fun z12 => qM_keep_J71 a (qM_keep_L16 a KX114 n) KX114 r8 v1 (ar r 73 v1.toNatClampNeg) z12 (ar r 73 v1.toNatClampNeg)) (ar r8 66 (ar r 73 v1.toNatClampNeg).toNatClampNeg)) ∧ ((¬ 0 ≤ (ar r8 66 (ar r 73 v1.toNatClampNeg).toNatClampNeg)) → qM_keep_J71 a (qM_keep_L16 a KX114 n) KX114 r8 v1 (ar r 73 v1.toNatClampNeg) (-1) (ar r 73 v1.toNatClampNeg)))
set_option maxRecDepth 100000 in
set_option maxHeartbeats 4000000 in
theorem tM_keep_L16 (C : vx_C p s m args c prog_9_method_44_code 7 (Cond.code yM_keep prog_9_method_44_code 7 none :: wAll) "ClassInferenceModel" D vwCl (tysG G) nwAll A) {a : L_} {KX114 : S_ → Prop} (kX114 : ∀ (r : S_), KX114 r → vx_V p l e { frames := 2, cells := 0, slots := 0, locals := 48 } s m args below meth c A D vwCl 7 0 0 Q (wo G a r) 114 [(0, .ref (ob G 7))] []) : ∀ (n : Nat) (r : S_) (v1 : Int32), qM_keep_L16 a KX114 n r v1 → vx_V p l e { frames := 2, cells := 0, slots := 0, locals := 48 } s m args below meth c A D vwCl 7 0 0 Q (wo G a r) 16 [(0, .ref (ob G 7)), (1, .int v1)] [] := by
  intro n
  induction n with
  | zero =>
    intro r v1 h
    exact (by rw [qM_keep_L16] at h; exact h : False).elim
  | succ n kB16 =>
    intro r v1 h
    rw [qM_keep_L16] at h
    refine x_iload_n C dM_keep_16 rfl 1 rfl ?_
    refine x_aload_n C dM_keep_17 rfl 0 rfl ?_
    refine gf_7_50 C (List.mem_cons_of_mem _ wm766) dM_keep_18 ?_
    refine x_icmp_ge (tgt := 114) C dM_keep_21 (by decide) (fun g4 => ?_) (fun g4 => ?_)
    · have h := h.1 g4
      refine x_sub [0] rfl ?_
      exact kX114 r h
    · have h := h.2 g4
      refine x_aload_n C dM_keep_24 rfl 0 rfl ?_
      refine gf_7_49 C (List.mem_cons_of_mem _ wm765) dM_keep_25 ?_
      refine x_iload_n C dM_keep_28 rfl 1 rfl ?_
      obtain ⟨g5, h⟩ := h
      refine y_ia C 73 (by decide) g5 dM_keep_29 ?_
      refine x_istore_n C [(2, .int (ar r 73 v1.toNatClampNeg)), (0, .ref (ob G 7)), (1, .int v1)] dM_keep_30 rfl (by decide) rfl ?_
      refine x_aload_n C dM_keep_31 rfl 1 rfl ?_
      refine gf_7_62 C (List.mem_cons_of_mem _ wm778) dM_keep_32 ?_
      refine x_iload_n C dM_keep_35 rfl 0 rfl ?_
      refine x_aload_n C dM_keep_36 rfl 1 rfl ?_
      refine gf_7_39 C (List.mem_cons_of_mem _ wm755) dM_keep_37 ?_
      refine x_iload_n C dM_keep_40 rfl 0 rfl ?_
      obtain ⟨g6, h⟩ := h
      refine y_ia C 65 (by decide) g6 dM_keep_41 ?_
      obtain ⟨g7, h⟩ := h
      refine y_is C 77 (by decide) g7 dM_keep_42 (fun r8 er8 => ?_)
      have h := h r8 er8
      refine x_aload_n C dM_keep_43 rfl 1 rfl ?_
      refine gf_7_63 C (List.mem_cons_of_mem _ wm779) dM_keep_44 ?_
      refine x_iload_n C dM_keep_47 rfl 0 rfl ?_
      refine x_aload_n C dM_keep_48 rfl 1 rfl ?_
      refine gf_7_40 C (List.mem_cons_of_mem _ wm756) dM_keep_49 ?_
      refine x_iload_n C dM_keep_52 rfl 0 rfl ?_
      obtain ⟨g9, h⟩ := h
      refine y_ia C 66 (by decide) g9 dM_keep_53 ?_
      refine x_if_ge (tgt := 61) C dM_keep_54 (by decide) (fun g10 => ?_) (fun g10 => ?_)
      · have h := h.1 g10
        refine x_aload_n C dM_keep_61 rfl 1 rfl ?_
        refine x_aload_n C dM_keep_62 rfl 1 rfl ?_
        refine gf_7_40 C (List.mem_cons_of_mem _ wm756) dM_keep_63 ?_
        refine x_iload_n C dM_keep_66 rfl 0 rfl ?_
        obtain ⟨g11, h⟩ := h
        refine y_ia C 66 (by decide) g11 dM_keep_67 ?_
        refine kM_find C wm1039 ⟨Nat.le_of_ble_eq_true rfl, Nat.le_of_ble_eq_true rfl⟩ (Nat.le_of_ble_eq_true rfl) dM_keep_68 ⟨Nat.zero_le _, Nat.zero_le _⟩ h (fun z12 h => ?_)
        refine x_sub [1, 2, 0] rfl ?_
        exact tM_keep_J71 C kB16 kX114 r8 v1 (ar r 73 v1.toNatClampNeg) z12 (ar r 73 v1.toNatClampNeg) h
      · have h := h.2 g10
        refine x_iconst (v := (-1)) C dM_keep_57 (by decide) ?_
        refine x_goto (tgt := 71) C dM_keep_58 (by decide) ?_
        refine x_sub [1, 2, 0] rfl ?_
        exact tM_keep_J71 C kB16 kX114 r8 v1 (ar r 73 v1.toNatClampNeg) (-1) (ar r 73 v1.toNatClampNeg) h
def qM_keep_J259 (a : L_) (KB124 : S_ → Int32 → Int32 → Prop) (KX265 : S_ → Int32 → Prop) (r : S_) (v1 : Int32) (v2 : Int32) : Prop :=
  KB124 r v1 (v2 + 1)
set_option maxRecDepth 100000 in
set_option maxHeartbeats 4000000 in
theorem tM_keep_J259 (C : vx_C p s m args c prog_9_method_44_code 7 (Cond.code yM_keep prog_9_method_44_code 7 none :: wAll) "ClassInferenceModel" D vwCl (tysG G) nwAll A) {a : L_} {KB124 : S_ → Int32 → Int32 → Prop} {KX265 : S_ → Int32 → Prop} (kB124 : ∀ (r : S_) (v1 : Int32) (v2 : Int32), KB124 r v1 v2 → vx_V p l e { frames := 2, cells := 0, slots := 0, locals := 48 } s m args below meth c A D vwCl 7 0 0 Q (wo G a r) 124 [(0, .ref (ob G 7)), (1, .int v1), (2, .int v2)] []) (kX265 : ∀ (r : S_) (v1 : Int32), KX265 r v1 → vx_V p l e { frames := 2, cells := 0, slots := 0, locals := 48 } s m args below meth c A D vwCl 7 0 0 Q (wo G a r) 265 [(0, .ref (ob G 7)), (1, .int v1)] []) (r : S_) (v1 : Int32) (v2 : Int32) (h : qM_keep_J259 a KB124 KX265 r v1 v2) : vx_V p l e { frames := 2, cells := 0, slots := 0, locals := 48 } s m args below meth c A D vwCl 7 0 0 Q (wo G a r) 259 [(0, .ref (ob G 7)), (1, .int v1), (2, .int v2)] [] := by
  unfold qM_keep_J259 at h
  refine x_iinc (j := 2) (v := v2 + 1) C [(2, .int (v2 + 1)), (0, .ref (ob G 7)), (1, .int v1)] dM_keep_259 rfl rfl (by decide) rfl ?_
  refine x_goto (tgt := 124) C dM_keep_262 (by decide) ?_
  refine x_sub [1, 2, 0] rfl ?_
  exact kB124 r v1 (v2 + 1) h
def qM_keep_J224 (a : L_) (KB124 : S_ → Int32 → Int32 → Prop) (KX265 : S_ → Int32 → Prop) (r : S_) (v1 : Int32) (v2 : Int32) (v3 : Int32) (v4 : Int32) (v5 : Int32) (u0 : Int32) : Prop :=
  vp_in v3 (ln a 80) ∧ ((¬ (ar r 80 v3.toNatClampNeg) = 0) → qM_keep_J259 a KB124 KX265 r v1 v2) ∧ (((ar r 80 v3.toNatClampNeg) = 0) → ((u0 = 0) → qM_keep_J259 a KB124 KX265 r v1 v2) ∧ ((¬ u0 = 0) → qM_sum a r (fun z41 => qM_sum a r (fun z42 => vp_in v3 (ln a 80) ∧ ∀ r44 : S_, r44 = sA r 80 (upd (ar r 80) v3.toNatClampNeg z42) → qM_keep_J259 a KB124 KX265 r44 1 v2) 1 z41) v4 v5))
set_option maxRecDepth 100000 in
set_option maxHeartbeats 4000000 in
theorem tM_keep_J224 (C : vx_C p s m args c prog_9_method_44_code 7 (Cond.code yM_keep prog_9_method_44_code 7 none :: wAll) "ClassInferenceModel" D vwCl (tysG G) nwAll A) {a : L_} {KB124 : S_ → Int32 → Int32 → Prop} {KX265 : S_ → Int32 → Prop} (kB124 : ∀ (r : S_) (v1 : Int32) (v2 : Int32), KB124 r v1 v2 → vx_V p l e { frames := 2, cells := 0, slots := 0, locals := 48 } s m args below meth c A D vwCl 7 0 0 Q (wo G a r) 124 [(0, .ref (ob G 7)), (1, .int v1), (2, .int v2)] []) (kX265 : ∀ (r : S_) (v1 : Int32), KX265 r v1 → vx_V p l e { frames := 2, cells := 0, slots := 0, locals := 48 } s m args below meth c A D vwCl 7 0 0 Q (wo G a r) 265 [(0, .ref (ob G 7)), (1, .int v1)] []) (r : S_) (v1 : Int32) (v2 : Int32) (v3 : Int32) (v4 : Int32) (v5 : Int32) (u0 : Int32) (h : qM_keep_J224 a KB124 KX265 r v1 v2 v3 v4 v5 u0) : vx_V p l e { frames := 2, cells := 0, slots := 0, locals := 48 } s m args below meth c A D vwCl 7 0 0 Q (wo G a r) 224 [(0, .ref (ob G 7)), (1, .int v1), (2, .int v2), (3, .int v3), (4, .int v4), (5, .int v5)] [.int u0] := by
  unfold qM_keep_J224 at h
  refine x_istore C [(6, .int u0), (0, .ref (ob G 7)), (1, .int v1), (2, .int v2), (3, .int v3), (4, .int v4), (5, .int v5)] dM_keep_224 (by decide) rfl ?_
  refine x_aload_n C dM_keep_226 rfl 1 rfl ?_
  refine gf_7_65 C (List.mem_cons_of_mem _ wm781) dM_keep_227 ?_
  refine x_iload_n C dM_keep_230 rfl 4 rfl ?_
  obtain ⟨g38, h⟩ := h
  refine y_ia C 80 (by decide) g38 dM_keep_231 ?_
  refine x_if_ne (tgt := 259) C dM_keep_232 (by decide) (fun g39 => ?_) (fun g39 => ?_)
  · have h := h.1 g39
    refine x_sub [1, 2, 3] rfl ?_
    exact tM_keep_J259 C kB124 kX265 r v1 v2 h
  · have h := h.2 g39
    refine x_iload C dM_keep_235 0 rfl ?_
    refine x_if_eq (tgt := 259) C dM_keep_237 (by decide) (fun g40 => ?_) (fun g40 => ?_)
    · have h := h.1 g40
      refine x_sub [1, 2, 3] rfl ?_
      exact tM_keep_J259 C kB124 kX265 r v1 v2 h
    · have h := h.2 g40
      refine x_aload_n C dM_keep_240 rfl 1 rfl ?_
      refine gf_7_65 C (List.mem_cons_of_mem _ wm781) dM_keep_241 ?_
      refine x_iload_n C dM_keep_244 rfl 4 rfl ?_
      refine x_iconst (v := 1) C dM_keep_245 (by decide) ?_
      refine x_iload C dM_keep_246 5 rfl ?_
      refine x_iload C dM_keep_248 6 rfl ?_
      refine kM_sum C wm1102 ⟨Nat.le_of_ble_eq_true rfl, Nat.le_of_ble_eq_true rfl⟩ (Nat.le_of_ble_eq_true rfl) dM_keep_250 ⟨Nat.zero_le _, Nat.zero_le _⟩ h (fun z41 h => ?_)
      refine kM_sum C wm1102 ⟨Nat.le_of_ble_eq_true rfl, Nat.le_of_ble_eq_true rfl⟩ (Nat.le_of_ble_eq_true rfl) dM_keep_253 ⟨Nat.zero_le _, Nat.zero_le _⟩ h (fun z42 h => ?_)
      obtain ⟨g43, h⟩ := h
      refine y_is C 80 (by decide) g43 dM_keep_256 (fun r44 er44 => ?_)
      have h := h r44 er44
      refine x_iconst (v := 1) C dM_keep_257 (by decide) ?_
      refine x_istore_n C [(1, .int 1), (6, .int u0), (0, .ref (ob G 7)), (2, .int v2), (3, .int v3), (4, .int v4), (5, .int v5)] dM_keep_258 rfl (by decide) rfl ?_
      refine x_sub [2, 0, 3] rfl ?_
      exact tM_keep_J259 C kB124 kX265 r44 1 v2 h
def qM_keep_J219 (a : L_) (KB124 : S_ → Int32 → Int32 → Prop) (KX265 : S_ → Int32 → Prop) (r : S_) (v1 : Int32) (v2 : Int32) (v3 : Int32) (v4 : Int32) (v5 : Int32) : Prop :=
  qM_keep_J224 a KB124 KX265 r v1 v2 v3 v4 v5 1
set_option maxRecDepth 100000 in
set_option maxHeartbeats 4000000 in
theorem tM_keep_J219 (C : vx_C p s m args c prog_9_method_44_code 7 (Cond.code yM_keep prog_9_method_44_code 7 none :: wAll) "ClassInferenceModel" D vwCl (tysG G) nwAll A) {a : L_} {KB124 : S_ → Int32 → Int32 → Prop} {KX265 : S_ → Int32 → Prop} (kB124 : ∀ (r : S_) (v1 : Int32) (v2 : Int32), KB124 r v1 v2 → vx_V p l e { frames := 2, cells := 0, slots := 0, locals := 48 } s m args below meth c A D vwCl 7 0 0 Q (wo G a r) 124 [(0, .ref (ob G 7)), (1, .int v1), (2, .int v2)] []) (kX265 : ∀ (r : S_) (v1 : Int32), KX265 r v1 → vx_V p l e { frames := 2, cells := 0, slots := 0, locals := 48 } s m args below meth c A D vwCl 7 0 0 Q (wo G a r) 265 [(0, .ref (ob G 7)), (1, .int v1)] []) (r : S_) (v1 : Int32) (v2 : Int32) (v3 : Int32) (v4 : Int32) (v5 : Int32) (h : qM_keep_J219 a KB124 KX265 r v1 v2 v3 v4 v5) : vx_V p l e { frames := 2, cells := 0, slots := 0, locals := 48 } s m args below meth c A D vwCl 7 0 0 Q (wo G a r) 219 [(0, .ref (ob G 7)), (1, .int v1), (2, .int v2), (3, .int v3), (4, .int v4), (5, .int v5)] [] := by
  unfold qM_keep_J219 at h
  refine x_iconst (v := 1) C dM_keep_219 (by decide) ?_
  refine x_goto (tgt := 224) C dM_keep_220 (by decide) ?_
  refine x_sub [0, 1, 2, 3, 4, 5] rfl ?_
  exact tM_keep_J224 C kB124 kX265 r v1 v2 v3 v4 v5 1 h
def qM_keep_J223 (a : L_) (KB124 : S_ → Int32 → Int32 → Prop) (KX265 : S_ → Int32 → Prop) (r : S_) (v1 : Int32) (v2 : Int32) (v3 : Int32) (v4 : Int32) (v5 : Int32) : Prop :=
  qM_keep_J224 a KB124 KX265 r v1 v2 v3 v4 v5 0
set_option maxRecDepth 100000 in
set_option maxHeartbeats 4000000 in
theorem tM_keep_J223 (C : vx_C p s m args c prog_9_method_44_code 7 (Cond.code yM_keep prog_9_method_44_code 7 none :: wAll) "ClassInferenceModel" D vwCl (tysG G) nwAll A) {a : L_} {KB124 : S_ → Int32 → Int32 → Prop} {KX265 : S_ → Int32 → Prop} (kB124 : ∀ (r : S_) (v1 : Int32) (v2 : Int32), KB124 r v1 v2 → vx_V p l e { frames := 2, cells := 0, slots := 0, locals := 48 } s m args below meth c A D vwCl 7 0 0 Q (wo G a r) 124 [(0, .ref (ob G 7)), (1, .int v1), (2, .int v2)] []) (kX265 : ∀ (r : S_) (v1 : Int32), KX265 r v1 → vx_V p l e { frames := 2, cells := 0, slots := 0, locals := 48 } s m args below meth c A D vwCl 7 0 0 Q (wo G a r) 265 [(0, .ref (ob G 7)), (1, .int v1)] []) (r : S_) (v1 : Int32) (v2 : Int32) (v3 : Int32) (v4 : Int32) (v5 : Int32) (h : qM_keep_J223 a KB124 KX265 r v1 v2 v3 v4 v5) : vx_V p l e { frames := 2, cells := 0, slots := 0, locals := 48 } s m args below meth c A D vwCl 7 0 0 Q (wo G a r) 223 [(0, .ref (ob G 7)), (1, .int v1), (2, .int v2), (3, .int v3), (4, .int v4), (5, .int v5)] [] := by
  unfold qM_keep_J223 at h
  refine x_iconst (v := 0) C dM_keep_223 (by decide) ?_
  refine x_sub [0, 1, 2, 3, 4, 5] rfl ?_
  exact tM_keep_J224 C kB124 kX265 r v1 v2 v3 v4 v5 0 h
def qM_keep_J205 (a : L_) (KB124 : S_ → Int32 → Int32 → Prop) (KX265 : S_ → Int32 → Prop) (r : S_) (v1 : Int32) (v2 : Int32) (v3 : Int32) (v4 : Int32) (v5 : Int32) : Prop :=
  vp_in v3 (ln a 79) ∧ (((ar r 79 v3.toNatClampNeg) < 0) → qM_keep_J219 a KB124 KX265 r v1 v2 v3 v4 v5) ∧ ((¬ (ar r 79 v3.toNatClampNeg) < 0) → ((v5 ≤ 0) → qM_keep_J223 a KB124 KX265 r v1 v2 v3 v4 v5) ∧ ((¬ v5 ≤ 0) → qM_keep_J219 a KB124 KX265 r v1 v2 v3 v4 v5))
set_option maxRecDepth 100000 in
set_option maxHeartbeats 4000000 in
theorem tM_keep_J205 (C : vx_C p s m args c prog_9_method_44_code 7 (Cond.code yM_keep prog_9_method_44_code 7 none :: wAll) "ClassInferenceModel" D vwCl (tysG G) nwAll A) {a : L_} {KB124 : S_ → Int32 → Int32 → Prop} {KX265 : S_ → Int32 → Prop} (kB124 : ∀ (r : S_) (v1 : Int32) (v2 : Int32), KB124 r v1 v2 → vx_V p l e { frames := 2, cells := 0, slots := 0, locals := 48 } s m args below meth c A D vwCl 7 0 0 Q (wo G a r) 124 [(0, .ref (ob G 7)), (1, .int v1), (2, .int v2)] []) (kX265 : ∀ (r : S_) (v1 : Int32), KX265 r v1 → vx_V p l e { frames := 2, cells := 0, slots := 0, locals := 48 } s m args below meth c A D vwCl 7 0 0 Q (wo G a r) 265 [(0, .ref (ob G 7)), (1, .int v1)] []) (r : S_) (v1 : Int32) (v2 : Int32) (v3 : Int32) (v4 : Int32) (v5 : Int32) (h : qM_keep_J205 a KB124 KX265 r v1 v2 v3 v4 v5) : vx_V p l e { frames := 2, cells := 0, slots := 0, locals := 48 } s m args below meth c A D vwCl 7 0 0 Q (wo G a r) 205 [(0, .ref (ob G 7)), (1, .int v1), (2, .int v2), (3, .int v3), (4, .int v4), (5, .int v5)] [] := by
  unfold qM_keep_J205 at h
  refine x_aload_n C dM_keep_205 rfl 0 rfl ?_
  refine gf_7_64 C (List.mem_cons_of_mem _ wm780) dM_keep_206 ?_
  refine x_iload_n C dM_keep_209 rfl 3 rfl ?_
  obtain ⟨g36, h⟩ := h
  refine y_ia C 79 (by decide) g36 dM_keep_210 ?_
  refine x_if_lt (tgt := 219) C dM_keep_211 (by decide) (fun g37 => ?_) (fun g37 => ?_)
  · have h := h.1 g37
    refine x_sub [0, 1, 2, 3, 4, 5] rfl ?_
    exact tM_keep_J219 C kB124 kX265 r v1 v2 v3 v4 v5 h
  · have h := h.2 g37
    refine x_iload C dM_keep_214 5 rfl ?_
    refine x_if_le (tgt := 223) C dM_keep_216 (by decide) (fun g45 => ?_) (fun g45 => ?_)
    · have h := h.1 g45
      refine x_sub [0, 1, 2, 3, 4, 5] rfl ?_
      exact tM_keep_J223 C kB124 kX265 r v1 v2 v3 v4 v5 h
    · have h := h.2 g45
      refine x_sub [0, 1, 2, 3, 4, 5] rfl ?_
      exact tM_keep_J219 C kB124 kX265 r v1 v2 v3 v4 v5 h
def qM_keep_J189 (a : L_) (KB124 : S_ → Int32 → Int32 → Prop) (KX265 : S_ → Int32 → Prop) (r : S_) (v1 : Int32) (v2 : Int32) (v3 : Int32) (v4 : Int32) (u0 : Int32) : Prop :=
  vp_in v3 (ln a 78) ∧ (((ar r 78 v3.toNatClampNeg) < 0) → qM_keep_J205 a KB124 KX265 r v1 v2 v3 v4 u0) ∧ ((¬ (ar r 78 v3.toNatClampNeg) < 0) → ((v4 ≤ 0) → qM_keep_J223 a KB124 KX265 r v1 v2 v3 v4 u0) ∧ ((¬ v4 ≤ 0) → qM_keep_J205 a KB124 KX265 r v1 v2 v3 v4 u0))
set_option maxRecDepth 100000 in
set_option maxHeartbeats 4000000 in
theorem tM_keep_J189 (C : vx_C p s m args c prog_9_method_44_code 7 (Cond.code yM_keep prog_9_method_44_code 7 none :: wAll) "ClassInferenceModel" D vwCl (tysG G) nwAll A) {a : L_} {KB124 : S_ → Int32 → Int32 → Prop} {KX265 : S_ → Int32 → Prop} (kB124 : ∀ (r : S_) (v1 : Int32) (v2 : Int32), KB124 r v1 v2 → vx_V p l e { frames := 2, cells := 0, slots := 0, locals := 48 } s m args below meth c A D vwCl 7 0 0 Q (wo G a r) 124 [(0, .ref (ob G 7)), (1, .int v1), (2, .int v2)] []) (kX265 : ∀ (r : S_) (v1 : Int32), KX265 r v1 → vx_V p l e { frames := 2, cells := 0, slots := 0, locals := 48 } s m args below meth c A D vwCl 7 0 0 Q (wo G a r) 265 [(0, .ref (ob G 7)), (1, .int v1)] []) (r : S_) (v1 : Int32) (v2 : Int32) (v3 : Int32) (v4 : Int32) (u0 : Int32) (h : qM_keep_J189 a KB124 KX265 r v1 v2 v3 v4 u0) : vx_V p l e { frames := 2, cells := 0, slots := 0, locals := 48 } s m args below meth c A D vwCl 7 0 0 Q (wo G a r) 189 [(0, .ref (ob G 7)), (1, .int v1), (2, .int v2), (3, .int v3), (4, .int v4)] [.int u0] := by
  unfold qM_keep_J189 at h
  refine x_istore C [(5, .int u0), (0, .ref (ob G 7)), (1, .int v1), (2, .int v2), (3, .int v3), (4, .int v4)] dM_keep_189 (by decide) rfl ?_
  refine x_aload_n C dM_keep_191 rfl 1 rfl ?_
  refine gf_7_63 C (List.mem_cons_of_mem _ wm779) dM_keep_192 ?_
  refine x_iload_n C dM_keep_195 rfl 4 rfl ?_
  obtain ⟨g34, h⟩ := h
  refine y_ia C 78 (by decide) g34 dM_keep_196 ?_
  refine x_if_lt (tgt := 205) C dM_keep_197 (by decide) (fun g35 => ?_) (fun g35 => ?_)
  · have h := h.1 g35
    refine x_sub [1, 2, 3, 4, 5, 0] rfl ?_
    exact tM_keep_J205 C kB124 kX265 r v1 v2 v3 v4 u0 h
  · have h := h.2 g35
    refine x_iload C dM_keep_200 5 rfl ?_
    refine x_if_le (tgt := 223) C dM_keep_202 (by decide) (fun g46 => ?_) (fun g46 => ?_)
    · have h := h.1 g46
      refine x_sub [1, 2, 3, 4, 5, 0] rfl ?_
      exact tM_keep_J223 C kB124 kX265 r v1 v2 v3 v4 u0 h
    · have h := h.2 g46
      refine x_sub [1, 2, 3, 4, 5, 0] rfl ?_
      exact tM_keep_J205 C kB124 kX265 r v1 v2 v3 v4 u0 h
def qM_keep_J163 (a : L_) (KB124 : S_ → Int32 → Int32 → Prop) (KX265 : S_ → Int32 → Prop) (r : S_) (v1 : Int32) (v2 : Int32) (v3 : Int32) (u0 : Int32) : Prop :=
  vp_in v3 (ln a 79) ∧ ((0 ≤ (ar r 79 v3.toNatClampNeg)) → vp_in v3 (ln a 79) ∧ vp_in (ar r 79 v3.toNatClampNeg) (ln a 80) ∧ qM_keep_J189 a KB124 KX265 r v1 v2 v3 u0 (ar r 80 (ar r 79 v3.toNatClampNeg).toNatClampNeg)) ∧ ((¬ 0 ≤ (ar r 79 v3.toNatClampNeg)) → qM_keep_J189 a KB124 KX265 r v1 v2 v3 u0 0)
set_option maxRecDepth 100000 in
set_option maxHeartbeats 4000000 in
theorem tM_keep_J163 (C : vx_C p s m args c prog_9_method_44_code 7 (Cond.code yM_keep prog_9_method_44_code 7 none :: wAll) "ClassInferenceModel" D vwCl (tysG G) nwAll A) {a : L_} {KB124 : S_ → Int32 → Int32 → Prop} {KX265 : S_ → Int32 → Prop} (kB124 : ∀ (r : S_) (v1 : Int32) (v2 : Int32), KB124 r v1 v2 → vx_V p l e { frames := 2, cells := 0, slots := 0, locals := 48 } s m args below meth c A D vwCl 7 0 0 Q (wo G a r) 124 [(0, .ref (ob G 7)), (1, .int v1), (2, .int v2)] []) (kX265 : ∀ (r : S_) (v1 : Int32), KX265 r v1 → vx_V p l e { frames := 2, cells := 0, slots := 0, locals := 48 } s m args below meth c A D vwCl 7 0 0 Q (wo G a r) 265 [(0, .ref (ob G 7)), (1, .int v1)] []) (r : S_) (v1 : Int32) (v2 : Int32) (v3 : Int32) (u0 : Int32) (h : qM_keep_J163 a KB124 KX265 r v1 v2 v3 u0) : vx_V p l e { frames := 2, cells := 0, slots := 0, locals := 48 } s m args below meth c A D vwCl 7 0 0 Q (wo G a r) 163 [(0, .ref (ob G 7)), (1, .int v1), (2, .int v2), (3, .int v3)] [.int u0] := by
  unfold qM_keep_J163 at h
  refine x_istore C [(4, .int u0), (0, .ref (ob G 7)), (1, .int v1), (2, .int v2), (3, .int v3)] dM_keep_163 (by decide) rfl ?_
  refine x_aload_n C dM_keep_165 rfl 1 rfl ?_
  refine gf_7_64 C (List.mem_cons_of_mem _ wm780) dM_keep_166 ?_
  refine x_iload_n C dM_keep_169 rfl 4 rfl ?_
  obtain ⟨g30, h⟩ := h
  refine y_ia C 79 (by decide) g30 dM_keep_170 ?_
  refine x_if_ge (tgt := 178) C dM_keep_171 (by decide) (fun g31 => ?_) (fun g31 => ?_)
  · have h := h.1 g31
    refine x_aload_n C dM_keep_178 rfl 1 rfl ?_
    refine gf_7_65 C (List.mem_cons_of_mem _ wm781) dM_keep_179 ?_
    refine x_aload_n C dM_keep_182 rfl 1 rfl ?_
    refine gf_7_64 C (List.mem_cons_of_mem _ wm780) dM_keep_183 ?_
    refine x_iload_n C dM_keep_186 rfl 4 rfl ?_
    obtain ⟨g32, h⟩ := h
    refine y_ia C 79 (by decide) g32 dM_keep_187 ?_
    obtain ⟨g33, h⟩ := h
    refine y_ia C 80 (by decide) g33 dM_keep_188 ?_
    refine x_sub [1, 2, 3, 4, 0] rfl ?_
    exact tM_keep_J189 C kB124 kX265 r v1 v2 v3 u0 (ar r 80 (ar r 79 v3.toNatClampNeg).toNatClampNeg) h
  · have h := h.2 g31
    refine x_iconst (v := 0) C dM_keep_174 (by decide) ?_
    refine x_goto (tgt := 189) C dM_keep_175 (by decide) ?_
    refine x_sub [1, 2, 3, 4, 0] rfl ?_
    exact tM_keep_J189 C kB124 kX265 r v1 v2 v3 u0 0 h
def qM_keep_L124 (a : L_) (KX265 : S_ → Int32 → Prop) : Nat → S_ → Int32 → Int32 → Prop
  | 0, _, _, _ => False
  | n + 1, r, v1, v2 => (((fi r 30) ≤ v2) → KX265 r v1) ∧ ((¬ (fi r 30) ≤ v2) → vp_in v2 (ln a 73) ∧ vp_in (ar r 73 v2.toNatClampNeg) (ln a 78) ∧ ((0 ≤ (ar r 78 (ar r 73 v2.toNatClampNeg).toNatClampNeg)) → vp_in (ar r 73 v2.toNatClampNeg) (ln a 78) ∧ vp_in (ar r 78 (ar r 73 v2.toNatClampNeg).toNatClampNeg) (ln a 80) ∧ qM_keep_J163 a (qM_keep_L124 a KX265 n) KX265 r v1 v2 (ar r 73 v2.toNatClampNeg) (ar r 80 (ar r 78 (ar r 73 v2.toNatClampNeg).toNatClampNeg).toNatClampNeg)) ∧ ((¬ 0 ≤ (ar r 78 (ar r 73 v2.toNatClampNeg).toNatClampNeg)) → qM_keep_J163 a (qM_keep_L124 a KX265 n) KX265 r v1 v2 (ar r 73 v2.toNatClampNeg) 0))
set_option maxRecDepth 100000 in
set_option maxHeartbeats 4000000 in
theorem tM_keep_L124 (C : vx_C p s m args c prog_9_method_44_code 7 (Cond.code yM_keep prog_9_method_44_code 7 none :: wAll) "ClassInferenceModel" D vwCl (tysG G) nwAll A) {a : L_} {KX265 : S_ → Int32 → Prop} (kX265 : ∀ (r : S_) (v1 : Int32), KX265 r v1 → vx_V p l e { frames := 2, cells := 0, slots := 0, locals := 48 } s m args below meth c A D vwCl 7 0 0 Q (wo G a r) 265 [(0, .ref (ob G 7)), (1, .int v1)] []) : ∀ (n : Nat) (r : S_) (v1 : Int32) (v2 : Int32), qM_keep_L124 a KX265 n r v1 v2 → vx_V p l e { frames := 2, cells := 0, slots := 0, locals := 48 } s m args below meth c A D vwCl 7 0 0 Q (wo G a r) 124 [(0, .ref (ob G 7)), (1, .int v1), (2, .int v2)] [] := by
  intro n
  induction n with
  | zero =>
    intro r v1 v2 h
    exact (by rw [qM_keep_L124] at h; exact h : False).elim
  | succ n kB124 =>
    intro r v1 v2 h
    rw [qM_keep_L124] at h
    refine x_iload_n C dM_keep_124 rfl 2 rfl ?_
    refine x_aload_n C dM_keep_125 rfl 0 rfl ?_
    refine gf_7_50 C (List.mem_cons_of_mem _ wm766) dM_keep_126 ?_
    refine x_icmp_ge (tgt := 265) C dM_keep_129 (by decide) (fun g24 => ?_) (fun g24 => ?_)
    · have h := h.1 g24
      refine x_sub [0, 1] rfl ?_
      exact kX265 r v1 h
    · have h := h.2 g24
      refine x_aload_n C dM_keep_132 rfl 0 rfl ?_
      refine gf_7_49 C (List.mem_cons_of_mem _ wm765) dM_keep_133 ?_
      refine x_iload_n C dM_keep_136 rfl 2 rfl ?_
      obtain ⟨g25, h⟩ := h
      refine y_ia C 73 (by decide) g25 dM_keep_137 ?_
      refine x_istore_n C [(3, .int (ar r 73 v2.toNatClampNeg)), (0, .ref (ob G 7)), (1, .int v1), (2, .int v2)] dM_keep_138 rfl (by decide) rfl ?_
      refine x_aload_n C dM_keep_139 rfl 1 rfl ?_
      refine gf_7_63 C (List.mem_cons_of_mem _ wm779) dM_keep_140 ?_
      refine x_iload_n C dM_keep_143 rfl 0 rfl ?_
      obtain ⟨g26, h⟩ := h
      refine y_ia C 78 (by decide) g26 dM_keep_144 ?_
      refine x_if_ge (tgt := 152) C dM_keep_145 (by decide) (fun g27 => ?_) (fun g27 => ?_)
      · have h := h.1 g27
        refine x_aload_n C dM_keep_152 rfl 1 rfl ?_
        refine gf_7_65 C (List.mem_cons_of_mem _ wm781) dM_keep_153 ?_
        refine x_aload_n C dM_keep_156 rfl 1 rfl ?_
        refine gf_7_63 C (List.mem_cons_of_mem _ wm779) dM_keep_157 ?_
        refine x_iload_n C dM_keep_160 rfl 0 rfl ?_
        obtain ⟨g28, h⟩ := h
        refine y_ia C 78 (by decide) g28 dM_keep_161 ?_
        obtain ⟨g29, h⟩ := h
        refine y_ia C 80 (by decide) g29 dM_keep_162 ?_
        refine x_sub [1, 2, 3, 0] rfl ?_
        exact tM_keep_J163 C kB124 kX265 r v1 v2 (ar r 73 v2.toNatClampNeg) (ar r 80 (ar r 78 (ar r 73 v2.toNatClampNeg).toNatClampNeg).toNatClampNeg) h
      · have h := h.2 g27
        refine x_iconst (v := 0) C dM_keep_148 (by decide) ?_
        refine x_goto (tgt := 163) C dM_keep_149 (by decide) ?_
        refine x_sub [1, 2, 3, 0] rfl ?_
        exact tM_keep_J163 C kB124 kX265 r v1 v2 (ar r 73 v2.toNatClampNeg) 0 h
def qM_keep_L116 (a : L_) (KX268 : S_ → Prop) : Nat → S_ → Int32 → Prop
  | 0, _, _ => False
  | n + 1, r, v1 => ((v1 = 0) → KX268 r) ∧ ((¬ v1 = 0) → ∃ n47 : Nat, qM_keep_L124 a (fun r v1 => (qM_keep_L116 a KX268 n) r v1) n47 r 0 0)
set_option maxRecDepth 100000 in
set_option maxHeartbeats 4000000 in
theorem tM_keep_L116 (C : vx_C p s m args c prog_9_method_44_code 7 (Cond.code yM_keep prog_9_method_44_code 7 none :: wAll) "ClassInferenceModel" D vwCl (tysG G) nwAll A) {a : L_} {KX268 : S_ → Prop} (kX268 : ∀ (r : S_), KX268 r → vx_V p l e { frames := 2, cells := 0, slots := 0, locals := 48 } s m args below meth c A D vwCl 7 0 0 Q (wo G a r) 268 [(0, .ref (ob G 7))] []) : ∀ (n : Nat) (r : S_) (v1 : Int32), qM_keep_L116 a KX268 n r v1 → vx_V p l e { frames := 2, cells := 0, slots := 0, locals := 48 } s m args below meth c A D vwCl 7 0 0 Q (wo G a r) 116 [(0, .ref (ob G 7)), (1, .int v1)] [] := by
  intro n
  induction n with
  | zero =>
    intro r v1 h
    exact (by rw [qM_keep_L116] at h; exact h : False).elim
  | succ n kB116 =>
    intro r v1 h
    rw [qM_keep_L116] at h
    refine x_iload_n C dM_keep_116 rfl 1 rfl ?_
    refine x_if_eq (tgt := 268) C dM_keep_117 (by decide) (fun g23 => ?_) (fun g23 => ?_)
    · have h := h.1 g23
      refine x_sub [0] rfl ?_
      exact kX268 r h
    · have h := h.2 g23
      refine x_iconst (v := 0) C dM_keep_120 (by decide) ?_
      refine x_istore_n C [(1, .int 0), (0, .ref (ob G 7))] dM_keep_121 rfl (by decide) rfl ?_
      refine x_iconst (v := 0) C dM_keep_122 (by decide) ?_
      refine x_istore_n C [(2, .int 0), (1, .int 0), (0, .ref (ob G 7))] dM_keep_123 rfl (by decide) rfl ?_
      obtain ⟨n47, h⟩ := h
      refine x_sub [2, 1, 0] rfl ?_
      refine tM_keep_L124 C (fun r v1 h => ?_) n47 r 0 0 h
      · refine x_goto (tgt := 116) C dM_keep_265 (by decide) ?_
        refine x_sub [0, 1] rfl ?_
        exact kB116 r v1 h
def qM_keep_J390 (a : L_) (KB339 : S_ → Int32 → Int32 → Int32 → Int32 → Prop) (KX396 : S_ → Int32 → Int32 → Prop) (r : S_) (v2 : Int32) (v3 : Int32) (v4 : Int32) (v5 : Int32) : Prop :=
  KB339 r v2 v3 v4 (v5 + 1)
set_option maxRecDepth 100000 in
set_option maxHeartbeats 4000000 in
theorem tM_keep_J390 (C : vx_C p s m args c prog_9_method_44_code 7 (Cond.code yM_keep prog_9_method_44_code 7 none :: wAll) "ClassInferenceModel" D vwCl (tysG G) nwAll A) {a : L_} {KB339 : S_ → Int32 → Int32 → Int32 → Int32 → Prop} {KX396 : S_ → Int32 → Int32 → Prop} (kB339 : ∀ (r : S_) (v2 : Int32) (v3 : Int32) (v4 : Int32) (v5 : Int32), KB339 r v2 v3 v4 v5 → vx_V p l e { frames := 2, cells := 0, slots := 0, locals := 48 } s m args below meth c A D vwCl 7 0 0 Q (wo G a r) 339 [(0, .ref (ob G 7)), (2, .int v2), (3, .int v3), (4, .int v4), (5, .int v5)] []) (kX396 : ∀ (r : S_) (v2 : Int32) (v3 : Int32), KX396 r v2 v3 → vx_V p l e { frames := 2, cells := 0, slots := 0, locals := 48 } s m args below meth c A D vwCl 7 0 0 Q (wo G a r) 396 [(0, .ref (ob G 7)), (2, .int v2), (3, .int v3)] []) (r : S_) (v2 : Int32) (v3 : Int32) (v4 : Int32) (v5 : Int32) (h : qM_keep_J390 a KB339 KX396 r v2 v3 v4 v5) : vx_V p l e { frames := 2, cells := 0, slots := 0, locals := 48 } s m args below meth c A D vwCl 7 0 0 Q (wo G a r) 390 [(0, .ref (ob G 7)), (2, .int v2), (3, .int v3), (4, .int v4), (5, .int v5)] [] := by
  unfold qM_keep_J390 at h
  refine x_iinc (j := 4) (v := v5 + 1) C [(5, .int (v5 + 1)), (0, .ref (ob G 7)), (2, .int v2), (3, .int v3), (4, .int v4)] dM_keep_390 rfl rfl (by decide) rfl ?_
  refine x_goto (tgt := 339) C dM_keep_393 (by decide) ?_
  refine x_sub [1, 2, 3, 4, 0] rfl ?_
  exact kB339 r v2 v3 v4 (v5 + 1) h
def qM_keep_L339 (a : L_) (KX396 : S_ → Int32 → Int32 → Prop) : Nat → S_ → Int32 → Int32 → Int32 → Int32 → Prop
  | 0, _, _, _, _, _ => False
  | n + 1, r, v2, v3, v4, v5 => (((fi r 23) ≤ v5) → KX396 r v2 v3) ∧ ((¬ (fi r 23) ≤ v5) → ((¬ ((v4 >>> (v5 &&& 31)) &&& 1) = 1) → qM_keep_J390 a (qM_keep_L339 a KX396 n) KX396 r v2 v3 v4 v5) ∧ ((((v4 >>> (v5 &&& 31)) &&& 1) = 1) → vp_in (fi r 38) (ln a 81) ∧ ∀ r59 : S_, r59 = sA r 81 (upd (ar r 81) (fi r 38).toNatClampNeg v5) → vp_in (fi r59 38) (ln a 82) ∧ ∀ r61 : S_, r61 = sA r59 82 (upd (ar r59 82) (fi r59 38).toNatClampNeg v2) → ∀ r62 : S_, r62 = sF r61 38 ((fi r61 38) + 1) → qM_keep_J390 a (qM_keep_L339 a KX396 n) KX396 r62 v2 v3 v4 v5))
set_option maxRecDepth 100000 in
set_option maxHeartbeats 4000000 in
theorem tM_keep_L339 (C : vx_C p s m args c prog_9_method_44_code 7 (Cond.code yM_keep prog_9_method_44_code 7 none :: wAll) "ClassInferenceModel" D vwCl (tysG G) nwAll A) {a : L_} {KX396 : S_ → Int32 → Int32 → Prop} (kX396 : ∀ (r : S_) (v2 : Int32) (v3 : Int32), KX396 r v2 v3 → vx_V p l e { frames := 2, cells := 0, slots := 0, locals := 48 } s m args below meth c A D vwCl 7 0 0 Q (wo G a r) 396 [(0, .ref (ob G 7)), (2, .int v2), (3, .int v3)] []) : ∀ (n : Nat) (r : S_) (v2 : Int32) (v3 : Int32) (v4 : Int32) (v5 : Int32), qM_keep_L339 a KX396 n r v2 v3 v4 v5 → vx_V p l e { frames := 2, cells := 0, slots := 0, locals := 48 } s m args below meth c A D vwCl 7 0 0 Q (wo G a r) 339 [(0, .ref (ob G 7)), (2, .int v2), (3, .int v3), (4, .int v4), (5, .int v5)] [] := by
  intro n
  induction n with
  | zero =>
    intro r v2 v3 v4 v5 h
    exact (by rw [qM_keep_L339] at h; exact h : False).elim
  | succ n kB339 =>
    intro r v2 v3 v4 v5 h
    rw [qM_keep_L339] at h
    refine x_iload C dM_keep_339 4 rfl ?_
    refine x_aload_n C dM_keep_341 rfl 0 rfl ?_
    refine gf_7_8 C (List.mem_cons_of_mem _ wm724) dM_keep_342 ?_
    refine x_icmp_ge (tgt := 396) C dM_keep_345 (by decide) (fun g56 => ?_) (fun g56 => ?_)
    · have h := h.1 g56
      refine x_sub [0, 1, 2] rfl ?_
      exact kX396 r v2 v3 h
    · have h := h.2 g56
      refine x_iload C dM_keep_348 3 rfl ?_
      refine x_iload C dM_keep_350 4 rfl ?_
      refine x_ishr C dM_keep_352 ?_
      refine x_iconst (v := 1) C dM_keep_353 (by decide) ?_
      refine x_iand C dM_keep_354 ?_
      refine x_iconst (v := 1) C dM_keep_355 (by decide) ?_
      refine x_icmp_ne (tgt := 390) C dM_keep_356 (by decide) (fun g57 => ?_) (fun g57 => ?_)
      · have h := h.1 g57
        refine x_sub [0, 1, 2, 3, 4] rfl ?_
        exact tM_keep_J390 C kB339 kX396 r v2 v3 v4 v5 h
      · have h := h.2 g57
        refine x_aload_n C dM_keep_359 rfl 0 rfl ?_
        refine gf_7_67 C (List.mem_cons_of_mem _ wm783) dM_keep_360 ?_
        refine x_aload_n C dM_keep_363 rfl 0 rfl ?_
        refine gf_7_66 C (List.mem_cons_of_mem _ wm782) dM_keep_364 ?_
        refine x_iload C dM_keep_367 4 rfl ?_
        obtain ⟨g58, h⟩ := h
        refine y_is C 81 (by decide) g58 dM_keep_369 (fun r59 er59 => ?_)
        have h := h r59 er59
        refine x_aload_n C dM_keep_370 rfl 0 rfl ?_
        refine gf_7_68 C (List.mem_cons_of_mem _ wm784) dM_keep_371 ?_
        refine x_aload_n C dM_keep_374 rfl 0 rfl ?_
        refine gf_7_66 C (List.mem_cons_of_mem _ wm782) dM_keep_375 ?_
        refine x_iload_n C dM_keep_378 rfl 1 rfl ?_
        obtain ⟨g60, h⟩ := h
        refine y_is C 82 (by decide) g60 dM_keep_379 (fun r61 er61 => ?_)
        have h := h r61 er61
        refine x_aload_n C dM_keep_380 rfl 0 rfl ?_
        refine x_dup C dM_keep_381 rfl ?_
        refine gf_7_66 C (List.mem_cons_of_mem _ wm782) dM_keep_382 ?_
        refine x_iconst (v := 1) C dM_keep_385 (by decide) ?_
        refine x_iadd C dM_keep_386 ?_
        refine pf_7_66 C (List.mem_cons_of_mem _ wm782) dM_keep_387 (fun r62 er62 => ?_)
        have h := h r62 er62
        refine x_sub [0, 1, 2, 3, 4] rfl ?_
        exact tM_keep_J390 C kB339 kX396 r62 v2 v3 v4 v5 h
def qM_keep_J334 (a : L_) (KB297 : S_ → Int32 → Int32 → Prop) (KX402 : S_ → Int32 → Prop) (r : S_) (v2 : Int32) (v3 : Int32) (u0 : Int32) : Prop :=
  ∃ n63 : Nat, qM_keep_L339 a (fun r v2 v3 => KB297 r v2 (v3 + 1)) n63 r v2 v3 u0 0
set_option maxRecDepth 100000 in
set_option maxHeartbeats 4000000 in
theorem tM_keep_J334 (C : vx_C p s m args c prog_9_method_44_code 7 (Cond.code yM_keep prog_9_method_44_code 7 none :: wAll) "ClassInferenceModel" D vwCl (tysG G) nwAll A) {a : L_} {KB297 : S_ → Int32 → Int32 → Prop} {KX402 : S_ → Int32 → Prop} (kB297 : ∀ (r : S_) (v2 : Int32) (v3 : Int32), KB297 r v2 v3 → vx_V p l e { frames := 2, cells := 0, slots := 0, locals := 48 } s m args below meth c A D vwCl 7 0 0 Q (wo G a r) 297 [(0, .ref (ob G 7)), (2, .int v2), (3, .int v3)] []) (kX402 : ∀ (r : S_) (v2 : Int32), KX402 r v2 → vx_V p l e { frames := 2, cells := 0, slots := 0, locals := 48 } s m args below meth c A D vwCl 7 0 0 Q (wo G a r) 402 [(0, .ref (ob G 7)), (2, .int v2)] []) (r : S_) (v2 : Int32) (v3 : Int32) (u0 : Int32) (h : qM_keep_J334 a KB297 KX402 r v2 v3 u0) : vx_V p l e { frames := 2, cells := 0, slots := 0, locals := 48 } s m args below meth c A D vwCl 7 0 0 Q (wo G a r) 334 [(0, .ref (ob G 7)), (2, .int v2), (3, .int v3)] [.int u0] := by
  unfold qM_keep_J334 at h
  refine x_istore C [(4, .int u0), (0, .ref (ob G 7)), (2, .int v2), (3, .int v3)] dM_keep_334 (by decide) rfl ?_
  refine x_iconst (v := 0) C dM_keep_336 (by decide) ?_
  refine x_istore C [(5, .int 0), (4, .int u0), (0, .ref (ob G 7)), (2, .int v2), (3, .int v3)] dM_keep_337 (by decide) rfl ?_
  obtain ⟨n63, h⟩ := h
  refine x_sub [2, 3, 4, 1, 0] rfl ?_
  refine tM_keep_L339 C (fun r v2 v3 h => ?_) n63 r v2 v3 u0 0 h
  · refine x_iinc (j := 2) (v := v3 + 1) C [(3, .int (v3 + 1)), (0, .ref (ob G 7)), (2, .int v2)] dM_keep_396 rfl rfl (by decide) rfl ?_
    refine x_goto (tgt := 297) C dM_keep_399 (by decide) ?_
    refine x_sub [1, 2, 0] rfl ?_
    exact kB297 r v2 (v3 + 1) h
def qM_keep_L297 (a : L_) (KX402 : S_ → Int32 → Prop) : Nat → S_ → Int32 → Int32 → Prop
  | 0, _, _, _ => False
  | n + 1, r, v2, v3 => (((fi r 40) ≤ v3) → KX402 r v2) ∧ ((¬ (fi r 40) ≤ v3) → vp_in v3 (ln a 84) ∧ vp_in (ar r 84 v3.toNatClampNeg) (ln a 83) ∧ ((¬ (ar r 83 (ar r 84 v3.toNatClampNeg).toNatClampNeg) = v2) → qM_keep_J334 a (qM_keep_L297 a KX402 n) KX402 r v2 v3 0) ∧ (((ar r 83 (ar r 84 v3.toNatClampNeg).toNatClampNeg) = v2) → vp_in v3 (ln a 85) ∧ qM_least a r (fun z65 => qM_keep_J334 a (qM_keep_L297 a KX402 n) KX402 r v2 v3 z65) (ar r 85 v3.toNatClampNeg)))
set_option maxRecDepth 100000 in
set_option maxHeartbeats 4000000 in
theorem tM_keep_L297 (C : vx_C p s m args c prog_9_method_44_code 7 (Cond.code yM_keep prog_9_method_44_code 7 none :: wAll) "ClassInferenceModel" D vwCl (tysG G) nwAll A) {a : L_} {KX402 : S_ → Int32 → Prop} (kX402 : ∀ (r : S_) (v2 : Int32), KX402 r v2 → vx_V p l e { frames := 2, cells := 0, slots := 0, locals := 48 } s m args below meth c A D vwCl 7 0 0 Q (wo G a r) 402 [(0, .ref (ob G 7)), (2, .int v2)] []) : ∀ (n : Nat) (r : S_) (v2 : Int32) (v3 : Int32), qM_keep_L297 a KX402 n r v2 v3 → vx_V p l e { frames := 2, cells := 0, slots := 0, locals := 48 } s m args below meth c A D vwCl 7 0 0 Q (wo G a r) 297 [(0, .ref (ob G 7)), (2, .int v2), (3, .int v3)] [] := by
  intro n
  induction n with
  | zero =>
    intro r v2 v3 h
    exact (by rw [qM_keep_L297] at h; exact h : False).elim
  | succ n kB297 =>
    intro r v2 v3 h
    rw [qM_keep_L297] at h
    refine x_iload_n C dM_keep_297 rfl 2 rfl ?_
    refine x_aload_n C dM_keep_298 rfl 0 rfl ?_
    refine gf_7_71 C (List.mem_cons_of_mem _ wm787) dM_keep_299 ?_
    refine x_icmp_ge (tgt := 402) C dM_keep_302 (by decide) (fun g52 => ?_) (fun g52 => ?_)
    · have h := h.1 g52
      refine x_sub [0, 1] rfl ?_
      exact kX402 r v2 h
    · have h := h.2 g52
      refine x_aload_n C dM_keep_305 rfl 0 rfl ?_
      refine gf_7_70 C (List.mem_cons_of_mem _ wm786) dM_keep_306 ?_
      refine x_aload_n C dM_keep_309 rfl 0 rfl ?_
      refine gf_7_72 C (List.mem_cons_of_mem _ wm788) dM_keep_310 ?_
      refine x_iload_n C dM_keep_313 rfl 2 rfl ?_
      obtain ⟨g53, h⟩ := h
      refine y_ia C 84 (by decide) g53 dM_keep_314 ?_
      obtain ⟨g54, h⟩ := h
      refine y_ia C 83 (by decide) g54 dM_keep_315 ?_
      refine x_iload_n C dM_keep_316 rfl 1 rfl ?_
      refine x_icmp_ne (tgt := 333) C dM_keep_317 (by decide) (fun g55 => ?_) (fun g55 => ?_)
      · have h := h.1 g55
        refine x_iconst (v := 0) C dM_keep_333 (by decide) ?_
        refine x_sub [0, 1, 2] rfl ?_
        exact tM_keep_J334 C kB297 kX402 r v2 v3 0 h
      · have h := h.2 g55
        refine x_aload_n C dM_keep_320 rfl 0 rfl ?_
        refine x_aload_n C dM_keep_321 rfl 0 rfl ?_
        refine gf_7_73 C (List.mem_cons_of_mem _ wm789) dM_keep_322 ?_
        refine x_iload_n C dM_keep_325 rfl 2 rfl ?_
        obtain ⟨g64, h⟩ := h
        refine y_ia C 85 (by decide) g64 dM_keep_326 ?_
        refine kM_least C wm1090 ⟨Nat.le_of_ble_eq_true rfl, Nat.le_of_ble_eq_true rfl⟩ (Nat.le_of_ble_eq_true rfl) dM_keep_327 ⟨Nat.zero_le _, Nat.zero_le _⟩ h (fun z65 h => ?_)
        refine x_goto (tgt := 334) C dM_keep_330 (by decide) ?_
        refine x_sub [0, 1, 2] rfl ?_
        exact tM_keep_J334 C kB297 kX402 r v2 v3 z65 h
def qM_keep_L287 (a : L_) (KX408 : S_ → Prop) : Nat → S_ → Int32 → Prop
  | 0, _, _ => False
  | n + 1, r, v2 => (((fi r 36) ≤ v2) → KX408 r) ∧ ((¬ (fi r 36) ≤ v2) → ∃ n66 : Nat, qM_keep_L297 a (fun r v2 => (qM_keep_L287 a KX408 n) r (v2 + 1)) n66 r v2 0)
set_option maxRecDepth 100000 in
set_option maxHeartbeats 4000000 in
theorem tM_keep_L287 (C : vx_C p s m args c prog_9_method_44_code 7 (Cond.code yM_keep prog_9_method_44_code 7 none :: wAll) "ClassInferenceModel" D vwCl (tysG G) nwAll A) {a : L_} {KX408 : S_ → Prop} (kX408 : ∀ (r : S_), KX408 r → vx_V p l e { frames := 2, cells := 0, slots := 0, locals := 48 } s m args below meth c A D vwCl 7 0 0 Q (wo G a r) 408 [] []) : ∀ (n : Nat) (r : S_) (v2 : Int32), qM_keep_L287 a KX408 n r v2 → vx_V p l e { frames := 2, cells := 0, slots := 0, locals := 48 } s m args below meth c A D vwCl 7 0 0 Q (wo G a r) 287 [(0, .ref (ob G 7)), (2, .int v2)] [] := by
  intro n
  induction n with
  | zero =>
    intro r v2 h
    exact (by rw [qM_keep_L287] at h; exact h : False).elim
  | succ n kB287 =>
    intro r v2 h
    rw [qM_keep_L287] at h
    refine x_iload_n C dM_keep_287 rfl 1 rfl ?_
    refine x_aload_n C dM_keep_288 rfl 0 rfl ?_
    refine gf_7_60 C (List.mem_cons_of_mem _ wm776) dM_keep_289 ?_
    refine x_icmp_ge (tgt := 408) C dM_keep_292 (by decide) (fun g51 => ?_) (fun g51 => ?_)
    · have h := h.1 g51
      refine x_sub [] rfl ?_
      exact kX408 r h
    · have h := h.2 g51
      refine x_iconst (v := 0) C dM_keep_295 (by decide) ?_
      refine x_istore_n C [(3, .int 0), (0, .ref (ob G 7)), (2, .int v2)] dM_keep_296 rfl (by decide) rfl ?_
      obtain ⟨n66, h⟩ := h
      refine x_sub [1, 2, 0] rfl ?_
      refine tM_keep_L297 C (fun r v2 h => ?_) n66 r v2 0 h
      · refine x_iinc (j := 1) (v := v2 + 1) C [(2, .int (v2 + 1)), (0, .ref (ob G 7))] dM_keep_402 rfl rfl (by decide) rfl ?_
        refine x_goto (tgt := 287) C dM_keep_405 (by decide) ?_
        refine x_sub [1, 0] rfl ?_
        exact kB287 r (v2 + 1) h
def qM_keep (a : L_) (K : S_ → Prop) (r : S_) : Prop :=
  vp_in 0 (ln a 55) ∧ qM_find a r (fun z2 => ∀ r3 : S_, r3 = sF r 37 z2 → ∃ n69 : Nat, qM_keep_L16 a (fun r => ∃ n68 : Nat, qM_keep_L116 a (fun r => qM_number a (fun r48 => ∀ r49 : S_, r49 = sF r48 39 (fi r48 35) → ∀ r50 : S_, r50 = sF r49 38 0 → ∃ n67 : Nat, qM_keep_L287 a (fun r => K r) n67 r50 0) r) n68 r 1) n69 r3 0) (ar r 55 (0 : Int32).toNatClampNeg)
set_option maxRecDepth 100000 in
set_option maxHeartbeats 4000000 in
theorem cM_keep {a : L_} {r : S_} {K : S_ → Prop} (h : qM_keep a K r ) : vx_Mv l yM_keep (Cond.code yM_keep prog_9_method_44_code 7 none :: wAll) { frames := 2, cells := 0, slots := 0, locals := 48 } D vwCl (tysG G) nwAll (wo G a r) [.ref (ob G 7)] 0 0 (fun w => ∃ r1, w = wo G a r1 ∧ K r1) := by
  unfold qM_keep at h
  refine x_metv (cc := prog_9_method_44_code) (maxL := 7) (ret := none) (lv0 := [(0, .ref (ob G 7))]) (by decide) rfl (Nat.le_of_ble_eq_true rfl) rfl ?_
  intro p e s m args below meth c A C hA hlocks hr
  refine x_aload_n C dM_keep_0 rfl 0 rfl ?_
  refine x_aload_n C dM_keep_1 rfl 0 rfl ?_
  refine x_aload_n C dM_keep_2 rfl 0 rfl ?_
  refine gf_7_27 C (List.mem_cons_of_mem _ wm743) dM_keep_3 ?_
  refine x_iconst (v := 0) C dM_keep_6 (by decide) ?_
  obtain ⟨g1, h⟩ := h
  refine y_ia C 55 (by decide) g1 dM_keep_7 ?_
  refine kM_find C wm1039 ⟨Nat.le_of_ble_eq_true rfl, Nat.le_of_ble_eq_true rfl⟩ (Nat.le_of_ble_eq_true rfl) dM_keep_8 ⟨Nat.zero_le _, Nat.zero_le _⟩ h (fun z2 h => ?_)
  refine pf_7_61 C (List.mem_cons_of_mem _ wm777) dM_keep_11 (fun r3 er3 => ?_)
  have h := h r3 er3
  refine x_iconst (v := 0) C dM_keep_14 (by decide) ?_
  refine x_istore_n C [(1, .int 0), (0, .ref (ob G 7))] dM_keep_15 rfl (by decide) rfl ?_
  obtain ⟨n69, h⟩ := h
  refine x_sub [1, 0] rfl ?_
  refine tM_keep_L16 C (fun r h => ?_) n69 r3 0 h
  · refine x_iconst (v := 1) C dM_keep_114 (by decide) ?_
    refine x_istore_n C [(1, .int 1), (0, .ref (ob G 7))] dM_keep_115 rfl (by decide) rfl ?_
    obtain ⟨n68, h⟩ := h
    refine x_sub [1, 0] rfl ?_
    refine tM_keep_L116 C (fun r h => ?_) n68 r 1 h
    · refine x_aload_n C dM_keep_268 rfl 0 rfl ?_
      refine kM_number C wm1106 ⟨Nat.le_of_ble_eq_true rfl, Nat.le_of_ble_eq_true rfl⟩ (Nat.le_of_ble_eq_true rfl) dM_keep_269 ⟨Nat.zero_le _, Nat.zero_le _⟩ h (fun r48 h => ?_)
      refine x_aload_n C dM_keep_272 rfl 0 rfl ?_
      refine x_aload_n C dM_keep_273 rfl 0 rfl ?_
      refine gf_7_59 C (List.mem_cons_of_mem _ wm775) dM_keep_274 ?_
      refine pf_7_69 C (List.mem_cons_of_mem _ wm785) dM_keep_277 (fun r49 er49 => ?_)
      have h := h r49 er49
      refine x_aload_n C dM_keep_280 rfl 0 rfl ?_
      refine x_iconst (v := 0) C dM_keep_281 (by decide) ?_
      refine pf_7_66 C (List.mem_cons_of_mem _ wm782) dM_keep_282 (fun r50 er50 => ?_)
      have h := h r50 er50
      refine x_iconst (v := 0) C dM_keep_285 (by decide) ?_
      refine x_istore_n C [(2, .int 0), (0, .ref (ob G 7))] dM_keep_286 rfl (by decide) rfl ?_
      obtain ⟨n67, h⟩ := h
      refine x_sub [1, 0] rfl ?_
      refine tM_keep_L287 C (fun r h => ?_) n67 r50 0 h
      · exact x_vret C hA hlocks hr ⟨r, rfl, h⟩ dM_keep_408
set_option maxRecDepth 100000 in
set_option maxHeartbeats 4000000 in
theorem kM_keep {p : Program} {l : Launch} {e : Env} {R : Room} {s : State} {m : MethodId} {args : Array Value} {below : List Frame} {meth : Method} {c : Code} {cells slots : Nat} {Q : State → Prop} {A : Nat → Prop} {D : va_G} {nL pc : Nat} {cc : ByteArray} {cw : Cond} {own : String} {lv : List (Nat × Value)} {st : List Value} {G : G_} {a : L_} {r : S_} {K : S_ → Prop} (C : vx_C p s m args c cc nL (cw :: wAll) own D vwCl (tysG G) nwAll A) {i : Nat} (hl : Cond.methodLink own i yM_keep ∈ wAll) (hR : 2 + 1 ≤ R.frames ∧ 8 + (7 + 11) + 48 ≤ R.locals) (hst : (st.map fun v => v.category).sum ≤ 8) (hd : decode cc pc = .ok (.invokevirtual i, 3)) (hcs : cells ≤ R.cells ∧ slots ≤ R.slots) (h : qM_keep a K r ) (k : ∀ (r1 : S_), K r1 → vx_V p l e R s m args below meth c A D vwCl nL cells slots Q (wo G a r1) (pc + 3) lv st) : vx_V p l e R s m args below meth c A D vwCl nL cells slots Q (wo G a r) pc lv (.ref (ob G 7) :: st) := by
  refine x_callVv C (CC := "ClassInferenceModel") (ci := 7) (q0 := 7) (fs := fl7 G a r) (As := []) rfl rfl (cM_keep  h) (cwV (C := "ClassInferenceModel") 0 C.1.2.2.2.2 (goodV hl wm1100 wp60 wm9 wm1101) rfl rfl rfl (by decide +kernel) hR) rfl hst hd hcs (fun w hw => ?_)
  obtain ⟨r1, rfl, h⟩ := hw
  exact k r1 h
end MTH
