section MTH
variable {p : Program} {l : Launch} {e : Env} {s : State} {m : MethodId} {args : Array Value} {below : List Frame} {meth : Method} {c : Code} {Q : State → Prop} {A : Nat → Prop} {D : va_G} {G : G_} {ws0 : va_W}
def qM_instance_J179 (a : L_) (K : Int32 → S_ → Prop) (r : S_) (v6 : Int32) (v7 : Int32) (v9 : Int32) : Prop :=
  vp_in v9 (ln a 86) ∧ ∀ r17 : S_, r17 = sA r 86 (upd (ar r 86) v9.toNatClampNeg (vp_nar .boolean 1)) → vp_in v9 (ln a 43) ∧ ∀ r19 : S_, r19 = sA r17 43 (upd (ar r17 43) v9.toNatClampNeg v6) → vp_in v9 (ln a 44) ∧ ∀ r21 : S_, r21 = sA r19 44 (upd (ar r19 44) v9.toNatClampNeg v7) → ∀ r22 : S_, r22 = sF r21 24 ((fi r21 24) + 1) → K ((fi r22 24) - 1) r22
set_option maxRecDepth 100000 in
set_option maxHeartbeats 4000000 in
theorem tM_instance_J179 (C : vx_C p s m args c prog_9_method_15_code 11 (Cond.code yM_instance prog_9_method_15_code 11 (some .int) :: wAll) "ClassInferenceModel" D vwCl (tysG G) nwAll A) (hA : A = va_A ws0 s.heap.size) (hlocks : meth.locks = false) (hr : meth.sig.returnType = (some .int)) {a : L_} {K : Int32 → S_ → Prop} (r : S_) (v6 : Int32) (v7 : Int32) (v9 : Int32) (h : qM_instance_J179 a K r v6 v7 v9) : vx_V p l e { frames := 2, cells := 0, slots := 0, locals := 49 } s m args below meth c A D vwCl 11 0 0 (MQ below (va_Qi (fun v w => ∃ r1, w = wo G a r1 ∧ K v r1) (vx_B D vwCl (tysG G) A) A) args s 0 0 A) (wo G a r) 179 [(0, .ref (ob G 7)), (6, .int v6), (7, .int v7), (9, .int v9)] [] := by
  unfold qM_instance_J179 at h
  refine x_aload_n C dM_instance_179 rfl 0 rfl ?_
  refine gf_7_12 C (List.mem_cons_of_mem _ wm728) dM_instance_180 ?_
  refine x_iload C dM_instance_183 3 rfl ?_
  refine x_iconst (v := 1) C dM_instance_185 (by decide) ?_
  obtain ⟨g16, h⟩ := h
  refine y_zs C 86 (by decide) g16 dM_instance_186 (fun r17 er17 => ?_)
  have h := h r17 er17
  refine x_aload_n C dM_instance_187 rfl 0 rfl ?_
  refine gf_7_13 C (List.mem_cons_of_mem _ wm729) dM_instance_188 ?_
  refine x_iload C dM_instance_191 3 rfl ?_
  refine x_iload C dM_instance_193 1 rfl ?_
  obtain ⟨g18, h⟩ := h
  refine y_is C 43 (by decide) g18 dM_instance_195 (fun r19 er19 => ?_)
  have h := h r19 er19
  refine x_aload_n C dM_instance_196 rfl 0 rfl ?_
  refine gf_7_14 C (List.mem_cons_of_mem _ wm730) dM_instance_197 ?_
  refine x_iload C dM_instance_200 3 rfl ?_
  refine x_iload C dM_instance_202 2 rfl ?_
  obtain ⟨g20, h⟩ := h
  refine y_is C 44 (by decide) g20 dM_instance_204 (fun r21 er21 => ?_)
  have h := h r21 er21
  refine x_aload_n C dM_instance_205 rfl 0 rfl ?_
  refine x_dup C dM_instance_206 rfl ?_
  refine gf_7_11 C (List.mem_cons_of_mem _ wm727) dM_instance_207 ?_
  refine x_iconst (v := 1) C dM_instance_210 (by decide) ?_
  refine x_iadd C dM_instance_211 ?_
  refine pf_7_11 C (List.mem_cons_of_mem _ wm727) dM_instance_212 (fun r22 er22 => ?_)
  have h := h r22 er22
  refine x_aload_n C dM_instance_215 rfl 0 rfl ?_
  refine gf_7_11 C (List.mem_cons_of_mem _ wm727) dM_instance_216 ?_
  refine x_iconst (v := 1) C dM_instance_219 (by decide) ?_
  refine x_isub C dM_instance_220 ?_
  exact x_iret C hA hlocks hr ⟨r22, rfl, h⟩ dM_instance_221
def qM_instance_J61 (a : L_) (K : Int32 → S_ → Prop) (r : S_) (v1 : Int32) (v2 : Int32) (v3 : Int32) (v4 : Int32) (v6 : Int32) (u0 : Int32) : Prop :=
  ((¬ (v3 &&& (((1 <<< ((fi r 23) &&& 31)) - 1) ^^^ (-1))) = 0) → K (-1) r) ∧ (((v3 &&& (((1 <<< ((fi r 23) &&& 31)) - 1) ^^^ (-1))) = 0) → (((v4 &&& (((1 <<< ((fi r 23) &&& 31)) - 1) ^^^ (-1))) = 0) → vp_in v1 (ln a 41) ∧ vp_in ((8 * v1) + v2) (ln a 86) ∧ ((¬ (ar r 86 ((8 * v1) + v2).toNatClampNeg) = 0) → K (-2) r) ∧ (((ar r 86 ((8 * v1) + v2).toNatClampNeg) = 0) → vp_in v1 (ln a 41) ∧ (((ar r 41 v1.toNatClampNeg) < 0) → qM_instance_J179 a K r v6 u0 ((8 * v1) + v2)) ∧ ((¬ (ar r 41 v1.toNatClampNeg) < 0) → vp_in ((8 * (ar r 41 v1.toNatClampNeg)) + v2) (ln a 86) ∧ (((ar r 86 ((8 * (ar r 41 v1.toNatClampNeg)) + v2).toNatClampNeg) = 0) → K (-2) r) ∧ ((¬ (ar r 86 ((8 * (ar r 41 v1.toNatClampNeg)) + v2).toNatClampNeg) = 0) → vp_in ((8 * (ar r 41 v1.toNatClampNeg)) + v2) (ln a 43) ∧ qM_covers a r (fun z26 => zb z26 → ((z26 = 0) → K (-2) r) ∧ ((¬ z26 = 0) → vp_in ((8 * (ar r 41 v1.toNatClampNeg)) + v2) (ln a 44) ∧ qM_covers a r (fun z29 => zb z29 → ((¬ z29 = 0) → qM_instance_J179 a K r v6 u0 ((8 * v1) + v2)) ∧ ((z29 = 0) → K (-2) r)) u0 (ar r 44 ((8 * (ar r 41 v1.toNatClampNeg)) + v2).toNatClampNeg))) v6 (ar r 43 ((8 * (ar r 41 v1.toNatClampNeg)) + v2).toNatClampNeg))))) ∧ ((¬ (v4 &&& (((1 <<< ((fi r 23) &&& 31)) - 1) ^^^ (-1))) = 0) → K (-1) r))
set_option maxRecDepth 100000 in
set_option maxHeartbeats 4000000 in
theorem tM_instance_J61 (C : vx_C p s m args c prog_9_method_15_code 11 (Cond.code yM_instance prog_9_method_15_code 11 (some .int) :: wAll) "ClassInferenceModel" D vwCl (tysG G) nwAll A) (hA : A = va_A ws0 s.heap.size) (hlocks : meth.locks = false) (hr : meth.sig.returnType = (some .int)) {a : L_} {K : Int32 → S_ → Prop} (r : S_) (v1 : Int32) (v2 : Int32) (v3 : Int32) (v4 : Int32) (v6 : Int32) (u0 : Int32) (h : qM_instance_J61 a K r v1 v2 v3 v4 v6 u0) : vx_V p l e { frames := 2, cells := 0, slots := 0, locals := 49 } s m args below meth c A D vwCl 11 0 0 (MQ below (va_Qi (fun v w => ∃ r1, w = wo G a r1 ∧ K v r1) (vx_B D vwCl (tysG G) A) A) args s 0 0 A) (wo G a r) 61 [(0, .ref (ob G 7)), (1, .int v1), (2, .int v2), (3, .int v3), (4, .int v4), (6, .int v6)] [.int u0] := by
  unfold qM_instance_J61 at h
  refine x_istore C [(7, .int u0), (0, .ref (ob G 7)), (1, .int v1), (2, .int v2), (3, .int v3), (4, .int v4), (6, .int v6)] dM_instance_61 (by decide) rfl ?_
  refine x_iconst (v := 1) C dM_instance_63 (by decide) ?_
  refine x_aload_n C dM_instance_64 rfl 1 rfl ?_
  refine gf_7_8 C (List.mem_cons_of_mem _ wm724) dM_instance_65 ?_
  refine x_ishl C dM_instance_68 ?_
  refine x_iconst (v := 1) C dM_instance_69 (by decide) ?_
  refine x_isub C dM_instance_70 ?_
  refine x_istore C [(8, .int ((1 <<< ((fi r 23) &&& 31)) - 1)), (7, .int u0), (0, .ref (ob G 7)), (1, .int v1), (2, .int v2), (3, .int v3), (4, .int v4), (6, .int v6)] dM_instance_71 (by decide) rfl ?_
  refine x_iload_n C dM_instance_73 rfl 5 rfl ?_
  refine x_iload C dM_instance_74 0 rfl ?_
  refine x_iconst (v := (-1)) C dM_instance_76 (by decide) ?_
  refine x_ixor C dM_instance_77 ?_
  refine x_iand C dM_instance_78 ?_
  refine x_if_ne (tgt := 92) C dM_instance_79 (by decide) (fun g9 => ?_) (fun g9 => ?_)
  · have h := h.1 g9
    refine x_iconst (v := (-1)) C dM_instance_92 (by decide) ?_
    exact x_iret C hA hlocks hr ⟨r, rfl, h⟩ dM_instance_93
  · have h := h.2 g9
    refine x_iload C dM_instance_82 6 rfl ?_
    refine x_iload C dM_instance_84 0 rfl ?_
    refine x_iconst (v := (-1)) C dM_instance_86 (by decide) ?_
    refine x_ixor C dM_instance_87 ?_
    refine x_iand C dM_instance_88 ?_
    refine x_if_eq (tgt := 94) C dM_instance_89 (by decide) (fun g10 => ?_) (fun g10 => ?_)
    · have h := h.1 g10
      refine x_bipush (v := 8) C dM_instance_94 (by decide) ?_
      refine x_iload_n C dM_instance_96 rfl 3 rfl ?_
      refine x_imul C dM_instance_97 ?_
      refine x_iload_n C dM_instance_98 rfl 4 rfl ?_
      refine x_iadd C dM_instance_99 ?_
      refine x_istore C [(9, .int ((8 * v1) + v2)), (8, .int ((1 <<< ((fi r 23) &&& 31)) - 1)), (7, .int u0), (0, .ref (ob G 7)), (1, .int v1), (2, .int v2), (3, .int v3), (4, .int v4), (6, .int v6)] dM_instance_100 (by decide) rfl ?_
      refine x_bipush (v := 8) C dM_instance_102 (by decide) ?_
      refine x_aload_n C dM_instance_104 rfl 3 rfl ?_
      refine gf_7_9 C (List.mem_cons_of_mem _ wm725) dM_instance_105 ?_
      refine x_iload_n C dM_instance_108 rfl 4 rfl ?_
      obtain ⟨g11, h⟩ := h
      refine y_ia C 41 (by decide) g11 dM_instance_109 ?_
      refine x_imul C dM_instance_110 ?_
      refine x_iload_n C dM_instance_111 rfl 5 rfl ?_
      refine x_iadd C dM_instance_112 ?_
      refine x_istore C [(10, .int ((8 * (ar r 41 v1.toNatClampNeg)) + v2)), (9, .int ((8 * v1) + v2)), (8, .int ((1 <<< ((fi r 23) &&& 31)) - 1)), (7, .int u0), (0, .ref (ob G 7)), (1, .int v1), (2, .int v2), (3, .int v3), (4, .int v4), (6, .int v6)] dM_instance_113 (by decide) rfl ?_
      refine x_aload_n C dM_instance_115 rfl 4 rfl ?_
      refine gf_7_12 C (List.mem_cons_of_mem _ wm728) dM_instance_116 ?_
      refine x_iload C dM_instance_119 1 rfl ?_
      obtain ⟨g12, h⟩ := h
      refine y_za C 86 (by decide) g12 dM_instance_121 ?_
      refine x_if_ne (tgt := 176) C dM_instance_122 (by decide) (fun g13 => ?_) (fun g13 => ?_)
      · have h := h.1 g13
        refine x_bipush (v := (-2)) C dM_instance_176 (by decide) ?_
        exact x_iret C hA hlocks hr ⟨r, rfl, h⟩ dM_instance_178
      · have h := h.2 g13
        refine x_aload_n C dM_instance_125 rfl 4 rfl ?_
        refine gf_7_9 C (List.mem_cons_of_mem _ wm725) dM_instance_126 ?_
        refine x_iload_n C dM_instance_129 rfl 5 rfl ?_
        obtain ⟨g14, h⟩ := h
        refine y_ia C 41 (by decide) g14 dM_instance_130 ?_
        refine x_if_lt (tgt := 179) C dM_instance_131 (by decide) (fun g15 => ?_) (fun g15 => ?_)
        · have h := h.1 g15
          refine x_sub [4, 9, 3, 1] rfl ?_
          exact tM_instance_J179 C hA hlocks hr r v6 u0 ((8 * v1) + v2) h
        · have h := h.2 g15
          refine x_aload_n C dM_instance_134 rfl 4 rfl ?_
          refine gf_7_12 C (List.mem_cons_of_mem _ wm728) dM_instance_135 ?_
          refine x_iload C dM_instance_138 0 rfl ?_
          obtain ⟨g23, h⟩ := h
          refine y_za C 86 (by decide) g23 dM_instance_140 ?_
          refine x_if_eq (tgt := 176) C dM_instance_141 (by decide) (fun g24 => ?_) (fun g24 => ?_)
          · have h := h.1 g24
            refine x_bipush (v := (-2)) C dM_instance_176 (by decide) ?_
            exact x_iret C hA hlocks hr ⟨r, rfl, h⟩ dM_instance_178
          · have h := h.2 g24
            refine x_aload_n C dM_instance_144 rfl 4 rfl ?_
            refine x_iload C dM_instance_145 9 rfl ?_
            refine x_aload_n C dM_instance_147 rfl 4 rfl ?_
            refine gf_7_13 C (List.mem_cons_of_mem _ wm729) dM_instance_148 ?_
            refine x_iload C dM_instance_151 0 rfl ?_
            obtain ⟨g25, h⟩ := h
            refine y_ia C 43 (by decide) g25 dM_instance_153 ?_
            refine kM_covers C wm983 ⟨Nat.le_of_ble_eq_true rfl, Nat.le_of_ble_eq_true rfl⟩ (Nat.le_of_ble_eq_true rfl) dM_instance_154 ⟨Nat.zero_le _, Nat.zero_le _⟩ h (fun z26 hzz26 h => ?_)
            have h := h hzz26
            refine x_if_eq (tgt := 176) C dM_instance_157 (by decide) (fun g27 => ?_) (fun g27 => ?_)
            · have h := h.1 g27
              refine x_bipush (v := (-2)) C dM_instance_176 (by decide) ?_
              exact x_iret C hA hlocks hr ⟨r, rfl, h⟩ dM_instance_178
            · have h := h.2 g27
              refine x_aload_n C dM_instance_160 rfl 4 rfl ?_
              refine x_iload C dM_instance_161 3 rfl ?_
              refine x_aload_n C dM_instance_163 rfl 4 rfl ?_
              refine gf_7_14 C (List.mem_cons_of_mem _ wm730) dM_instance_164 ?_
              refine x_iload C dM_instance_167 0 rfl ?_
              obtain ⟨g28, h⟩ := h
              refine y_ia C 44 (by decide) g28 dM_instance_169 ?_
              refine kM_covers C wm983 ⟨Nat.le_of_ble_eq_true rfl, Nat.le_of_ble_eq_true rfl⟩ (Nat.le_of_ble_eq_true rfl) dM_instance_170 ⟨Nat.zero_le _, Nat.zero_le _⟩ h (fun z29 hzz29 h => ?_)
              have h := h hzz29
              refine x_if_ne (tgt := 179) C dM_instance_173 (by decide) (fun g30 => ?_) (fun g30 => ?_)
              · have h := h.1 g30
                refine x_sub [4, 9, 3, 1] rfl ?_
                exact tM_instance_J179 C hA hlocks hr r v6 u0 ((8 * v1) + v2) h
              · have h := h.2 g30
                refine x_bipush (v := (-2)) C dM_instance_176 (by decide) ?_
                exact x_iret C hA hlocks hr ⟨r, rfl, h⟩ dM_instance_178
    · have h := h.2 g10
      refine x_iconst (v := (-1)) C dM_instance_92 (by decide) ?_
      exact x_iret C hA hlocks hr ⟨r, rfl, h⟩ dM_instance_93
def qM_instance_J47 (a : L_) (K : Int32 → S_ → Prop) (r : S_) (v1 : Int32) (v2 : Int32) (v3 : Int32) (v4 : Int32) (v5 : Int32) (u0 : Int32) : Prop :=
  ((v5 ≤ 1) → qM_instance_J61 a K r v1 v2 v3 v4 u0 0) ∧ ((¬ v5 ≤ 1) → qM_instance_J61 a K r v1 v2 v3 v4 u0 v4)
set_option maxRecDepth 100000 in
set_option maxHeartbeats 4000000 in
theorem tM_instance_J47 (C : vx_C p s m args c prog_9_method_15_code 11 (Cond.code yM_instance prog_9_method_15_code 11 (some .int) :: wAll) "ClassInferenceModel" D vwCl (tysG G) nwAll A) (hA : A = va_A ws0 s.heap.size) (hlocks : meth.locks = false) (hr : meth.sig.returnType = (some .int)) {a : L_} {K : Int32 → S_ → Prop} (r : S_) (v1 : Int32) (v2 : Int32) (v3 : Int32) (v4 : Int32) (v5 : Int32) (u0 : Int32) (h : qM_instance_J47 a K r v1 v2 v3 v4 v5 u0) : vx_V p l e { frames := 2, cells := 0, slots := 0, locals := 49 } s m args below meth c A D vwCl 11 0 0 (MQ below (va_Qi (fun v w => ∃ r1, w = wo G a r1 ∧ K v r1) (vx_B D vwCl (tysG G) A) A) args s 0 0 A) (wo G a r) 47 [(0, .ref (ob G 7)), (1, .int v1), (2, .int v2), (3, .int v3), (4, .int v4), (5, .int v5)] [.int u0] := by
  unfold qM_instance_J47 at h
  refine x_istore C [(6, .int u0), (0, .ref (ob G 7)), (1, .int v1), (2, .int v2), (3, .int v3), (4, .int v4), (5, .int v5)] dM_instance_47 (by decide) rfl ?_
  refine x_iload C dM_instance_49 6 rfl ?_
  refine x_iconst (v := 1) C dM_instance_51 (by decide) ?_
  refine x_icmp_le (tgt := 60) C dM_instance_52 (by decide) (fun g8 => ?_) (fun g8 => ?_)
  · have h := h.1 g8
    refine x_iconst (v := 0) C dM_instance_60 (by decide) ?_
    refine x_sub [1, 2, 3, 4, 5, 0] rfl ?_
    exact tM_instance_J61 C hA hlocks hr r v1 v2 v3 v4 u0 0 h
  · have h := h.2 g8
    refine x_iload C dM_instance_55 5 rfl ?_
    refine x_goto (tgt := 61) C dM_instance_57 (by decide) ?_
    refine x_sub [1, 2, 3, 4, 5, 0] rfl ?_
    exact tM_instance_J61 C hA hlocks hr r v1 v2 v3 v4 u0 v4 h
def qM_instance (a : L_) (K : Int32 → S_ → Prop) (r : S_) (p0 : Int32) (p1 : Int32) (p2 : Int32) (p3 : Int32) : Prop :=
  ∀ r1 : S_, r1 = sF r 20 0 → qM_isClass a r1 (fun z2 => zb z2 → ((z2 = 0) → K (-1) r1) ∧ ((¬ z2 = 0) → qM_in a r1 (fun z4 => zb z4 → ((¬ z4 = 0) → vp_in p1 (ln a 36) ∧ (((ar r1 36 p1.toNatClampNeg) ≤ 0) → qM_instance_J47 a K r1 p0 p1 p2 p3 (ar r1 36 p1.toNatClampNeg) 0) ∧ ((¬ (ar r1 36 p1.toNatClampNeg) ≤ 0) → qM_instance_J47 a K r1 p0 p1 p2 p3 (ar r1 36 p1.toNatClampNeg) p2)) ∧ ((z4 = 0) → K (-1) r1)) p1 0 ((fi r1 21) - 1))) p0
set_option maxRecDepth 100000 in
set_option maxHeartbeats 4000000 in
theorem cM_instance {a : L_} {r : S_} {K : Int32 → S_ → Prop} (p0 : Int32) (p1 : Int32) (p2 : Int32) (p3 : Int32) (h : qM_instance a K r p0 p1 p2 p3) : vx_Mi l yM_instance (Cond.code yM_instance prog_9_method_15_code 11 (some .int) :: wAll) { frames := 2, cells := 0, slots := 0, locals := 49 } D vwCl (tysG G) nwAll (wo G a r) [.ref (ob G 7), .int p0, .int p1, .int p2, .int p3] 0 0 (fun v w => ∃ r1, w = wo G a r1 ∧ K v r1) := by
  unfold qM_instance at h
  refine x_meti (cc := prog_9_method_15_code) (maxL := 11) (ret := (some .int)) (lv0 := [(0, .ref (ob G 7)), (1, .int p0), (2, .int p1), (3, .int p2), (4, .int p3)]) (by decide) rfl (Nat.le_of_ble_eq_true rfl) rfl ?_
  intro p e s m args below meth c A C hA hlocks hr
  refine x_aload_n C dM_instance_0 rfl 0 rfl ?_
  refine x_iconst (v := 0) C dM_instance_1 (by decide) ?_
  refine pf_7_0 C (List.mem_cons_of_mem _ wm716) dM_instance_2 (fun r1 er1 => ?_)
  have h := h r1 er1
  refine x_aload_n C dM_instance_5 rfl 0 rfl ?_
  refine x_iload_n C dM_instance_6 rfl 1 rfl ?_
  refine kM_isClass C wm963 ⟨Nat.le_of_ble_eq_true rfl, Nat.le_of_ble_eq_true rfl⟩ (Nat.le_of_ble_eq_true rfl) dM_instance_7 ⟨Nat.zero_le _, Nat.zero_le _⟩ h (fun z2 hzz2 h => ?_)
  have h := h hzz2
  refine x_if_eq (tgt := 27) C dM_instance_10 (by decide) (fun g3 => ?_) (fun g3 => ?_)
  · have h := h.1 g3
    refine x_iconst (v := (-1)) C dM_instance_27 (by decide) ?_
    exact x_iret C hA hlocks hr ⟨r1, rfl, h⟩ dM_instance_28
  · have h := h.2 g3
    refine x_iload_n C dM_instance_13 rfl 2 rfl ?_
    refine x_iconst (v := 0) C dM_instance_14 (by decide) ?_
    refine x_aload_n C dM_instance_15 rfl 0 rfl ?_
    refine gf_7_1 C (List.mem_cons_of_mem _ wm717) dM_instance_16 ?_
    refine x_iconst (v := 1) C dM_instance_19 (by decide) ?_
    refine x_isub C dM_instance_20 ?_
    refine kM_in C wm944 ⟨Nat.le_of_ble_eq_true rfl, Nat.le_of_ble_eq_true rfl⟩ (Nat.le_of_ble_eq_true rfl) dM_instance_21 ⟨Nat.zero_le _, Nat.zero_le _⟩ h (fun z4 hzz4 h => ?_)
    have h := h hzz4
    refine x_if_ne (tgt := 29) C dM_instance_24 (by decide) (fun g5 => ?_) (fun g5 => ?_)
    · have h := h.1 g5
      refine x_aload_n C dM_instance_29 rfl 0 rfl ?_
      refine gf_7_2 C (List.mem_cons_of_mem _ wm718) dM_instance_30 ?_
      refine x_iload_n C dM_instance_33 rfl 2 rfl ?_
      obtain ⟨g6, h⟩ := h
      refine y_ia C 36 (by decide) g6 dM_instance_34 ?_
      refine x_istore C [(5, .int (ar r1 36 p1.toNatClampNeg)), (0, .ref (ob G 7)), (1, .int p0), (2, .int p1), (3, .int p2), (4, .int p3)] dM_instance_35 (by decide) rfl ?_
      refine x_iload C dM_instance_37 0 rfl ?_
      refine x_if_le (tgt := 46) C dM_instance_39 (by decide) (fun g7 => ?_) (fun g7 => ?_)
      · have h := h.1 g7
        refine x_iconst (v := 0) C dM_instance_46 (by decide) ?_
        refine x_sub [1, 2, 3, 4, 5, 0] rfl ?_
        exact tM_instance_J47 C hA hlocks hr r1 p0 p1 p2 p3 (ar r1 36 p1.toNatClampNeg) 0 h
      · have h := h.2 g7
        refine x_iload_n C dM_instance_42 rfl 4 rfl ?_
        refine x_goto (tgt := 47) C dM_instance_43 (by decide) ?_
        refine x_sub [1, 2, 3, 4, 5, 0] rfl ?_
        exact tM_instance_J47 C hA hlocks hr r1 p0 p1 p2 p3 (ar r1 36 p1.toNatClampNeg) p2 h
    · have h := h.2 g5
      refine x_iconst (v := (-1)) C dM_instance_27 (by decide) ?_
      exact x_iret C hA hlocks hr ⟨r1, rfl, h⟩ dM_instance_28
set_option maxRecDepth 100000 in
set_option maxHeartbeats 4000000 in
theorem kM_instance {p : Program} {l : Launch} {e : Env} {R : Room} {s : State} {m : MethodId} {args : Array Value} {below : List Frame} {meth : Method} {c : Code} {cells slots : Nat} {Q : State → Prop} {A : Nat → Prop} {D : va_G} {nL pc : Nat} {cc : ByteArray} {cw : Cond} {own : String} {lv : List (Nat × Value)} {st : List Value} {G : G_} {a : L_} {r : S_} {K : Int32 → S_ → Prop} {p0 : Int32} {p1 : Int32} {p2 : Int32} {p3 : Int32} (C : vx_C p s m args c cc nL (cw :: wAll) own D vwCl (tysG G) nwAll A) {i : Nat} (hl : Cond.methodLink own i yM_instance ∈ wAll) (hR : 2 + 1 ≤ R.frames ∧ 8 + (11 + 11) + 49 ≤ R.locals) (hst : (st.map fun v => v.category).sum ≤ 8) (hd : decode cc pc = .ok (.invokevirtual i, 3)) (hcs : cells ≤ R.cells ∧ slots ≤ R.slots) (h : qM_instance a K r p0 p1 p2 p3) (k : ∀ (v : Int32) (r1 : S_), K v r1 → vx_V p l e R s m args below meth c A D vwCl nL cells slots Q (wo G a r1) (pc + 3) lv (.int v :: st)) : vx_V p l e R s m args below meth c A D vwCl nL cells slots Q (wo G a r) pc lv (.int p3 :: .int p2 :: .int p1 :: .int p0 :: .ref (ob G 7) :: st) := by
  refine x_callVi C (CC := "ClassInferenceModel") (ci := 7) (q0 := 7) (fs := fl7 G a r) (As := [.int p0, .int p1, .int p2, .int p3]) rfl rfl (cM_instance p0 p1 p2 p3 h) (cwV (C := "ClassInferenceModel") 4 C.1.2.2.2.2 (goodV hl wm980 wm981 wm9 wm982) rfl rfl rfl (by decide +kernel) hR) rfl hst hd hcs (fun v w hw => ?_)
  obtain ⟨r1, rfl, h⟩ := hw
  exact k v r1 h
def qM_isExpression (a : L_) (r : S_) (K : Int32 → Prop) (p0 : Int32) : Prop :=
  ((p0 < 0) → zb 0 ∧ K 0) ∧ ((¬ p0 < 0) → (((fi r 25) ≤ p0) → zb 0 ∧ K 0) ∧ ((¬ (fi r 25) ≤ p0) → zb 1 ∧ K 1))
set_option maxRecDepth 100000 in
set_option maxHeartbeats 4000000 in
theorem cM_isExpression {a : L_} {r : S_} {K : Int32 → Prop} (p0 : Int32) (h : qM_isExpression a r K p0) : vx_Mi l yM_isExpression (Cond.code yM_isExpression prog_9_method_16_code 2 (some .boolean) :: wAll) { frames := 0, cells := 0, slots := 0, locals := 0 } D vwCl (tysG G) nwAll (wo G a r) [.ref (ob G 7), .int p0] 0 0 (fun v w => w = wo G a r ∧ zb v ∧ K v) := by
  unfold qM_isExpression at h
  refine x_meti (cc := prog_9_method_16_code) (maxL := 2) (ret := (some .boolean)) (lv0 := [(0, .ref (ob G 7)), (1, .int p0)]) (by decide) rfl (Nat.le_of_ble_eq_true rfl) rfl ?_
  intro p e s m args below meth c A C hA hlocks hr
  refine x_iload_n C dM_isExpression_0 rfl 1 rfl ?_
  refine x_if_lt (tgt := 16) C dM_isExpression_1 (by decide) (fun g1 => ?_) (fun g1 => ?_)
  · have h := h.1 g1
    refine x_iconst (v := 0) C dM_isExpression_16 (by decide) ?_
    obtain ⟨g2, h⟩ := h
    exact x_zret C hA hlocks hr (zb_n g2) ⟨rfl, g2, h⟩ dM_isExpression_17
  · have h := h.2 g1
    refine x_iload_n C dM_isExpression_4 rfl 1 rfl ?_
    refine x_aload_n C dM_isExpression_5 rfl 0 rfl ?_
    refine gf_7_15 C (List.mem_cons_of_mem _ wm731) dM_isExpression_6 ?_
    refine x_icmp_ge (tgt := 16) C dM_isExpression_9 (by decide) (fun g3 => ?_) (fun g3 => ?_)
    · have h := h.1 g3
      refine x_iconst (v := 0) C dM_isExpression_16 (by decide) ?_
      obtain ⟨g4, h⟩ := h
      exact x_zret C hA hlocks hr (zb_n g4) ⟨rfl, g4, h⟩ dM_isExpression_17
    · have h := h.2 g3
      refine x_iconst (v := 1) C dM_isExpression_12 (by decide) ?_
      refine x_goto (tgt := 17) C dM_isExpression_13 (by decide) ?_
      obtain ⟨g5, h⟩ := h
      exact x_zret C hA hlocks hr (zb_n g5) ⟨rfl, g5, h⟩ dM_isExpression_17
set_option maxRecDepth 100000 in
set_option maxHeartbeats 4000000 in
theorem kM_isExpression {p : Program} {l : Launch} {e : Env} {R : Room} {s : State} {m : MethodId} {args : Array Value} {below : List Frame} {meth : Method} {c : Code} {cells slots : Nat} {Q : State → Prop} {A : Nat → Prop} {D : va_G} {nL pc : Nat} {cc : ByteArray} {cw : Cond} {own : String} {lv : List (Nat × Value)} {st : List Value} {G : G_} {a : L_} {r : S_} {K : Int32 → Prop} {p0 : Int32} (C : vx_C p s m args c cc nL (cw :: wAll) own D vwCl (tysG G) nwAll A) {i : Nat} (hl : Cond.methodLink own i yM_isExpression ∈ wAll) (hR : 0 + 1 ≤ R.frames ∧ 8 + (2 + 11) + 0 ≤ R.locals) (hst : (st.map fun v => v.category).sum ≤ 8) (hd : decode cc pc = .ok (.invokevirtual i, 3)) (hcs : cells ≤ R.cells ∧ slots ≤ R.slots) (h : qM_isExpression a r K p0) (k : ∀ (v : Int32), zb v → K v → vx_V p l e R s m args below meth c A D vwCl nL cells slots Q (wo G a r) (pc + 3) lv (.int v :: st)) : vx_V p l e R s m args below meth c A D vwCl nL cells slots Q (wo G a r) pc lv (.int p0 :: .ref (ob G 7) :: st) := by
  refine x_callVi C (CC := "ClassInferenceModel") (ci := 7) (q0 := 7) (fs := fl7 G a r) (As := [.int p0]) rfl rfl (cM_isExpression p0 h) (cwV (C := "ClassInferenceModel") 1 C.1.2.2.2.2 (goodV hl wm997 wp36 wm9 wm998) rfl rfl rfl (by decide +kernel) hR) rfl hst hd hcs (fun v w hw => ?_)
  obtain ⟨rfl, h⟩ := hw
  exact k v h.1 h.2
end MTH
