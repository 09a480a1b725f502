/-! Arrays.copyOf to another length, over the one array that it reads; contracts that answer a reference. -/
section CPY
variable {p : Program} {l : Launch} {e : Env} {R : Room} {s : State} {m : MethodId} {args : Array Value} {below : List Frame} {meth : Method} {c : Code} {cells slots : Nat} {Q : State → Prop}
variable {A : Nat → Prop} {D : va_G} {cl : List vw_C} {tys : List (ClassId × FieldType)} {nw : List Cond} {nL pc : Nat} {cc : ByteArray} {Ts : List Cond} {own : String} {ws : va_W} {lv : List (Nat × Value)} {st : List Value}
def vx_Mr (l : Launch) (y : MethodName) (wz : List Cond) (rm : Room) (D : va_G) (cl : List vw_C) (tys : List (ClassId × FieldType)) (nw : List Cond) (ws : va_W) (av : List Value) (mc ms : Nat) (K : Nat → va_W → Prop) : Prop :=
  ∀ sz : Nat, Met l y wz rm (vx_Pr D cl tys nw ws av sz) (va_Qr (fun u : Nat × va_W => K u.1 u.2) (fun u a t => u.1 = a ∧ vx_B D cl tys (va_A ws sz) u.2 t) (va_A ws sz)) mc ms (va_A ws sz)
theorem x_aret (C : vx_C p s m args c cc nL Ts own D cl tys nw A) {ws0 : va_W} {K : Nat → va_W → Prop} {q : Nat} {rt : FieldType} (hA : A = va_A ws0 s.heap.size) (hlocks : meth.locks = false) (hr : meth.sig.returnType = some rt) (hrt : (∃ n, rt = .object n) ∨ ∃ t, rt = .array t) (hK : K q ws) (hd : decode cc pc = .ok (.areturn, 1)) : vx_V p l e R s m args below meth c A D cl nL cells slots (MQ below (va_Qr (fun u : Nat × va_W => K u.1 u.2) (fun u a t => u.1 = a ∧ vx_B D cl tys A u.2 t) A) args s cells slots A) ws pc lv [.ref q] := fun H locs ls hP hD hS hl => W.aret C.1.1 C.1.2.1 hr hrt (Or.inr ⟨q, rfl⟩) (fun t ht hW => ⟨⟨(q, ws), q, rfl, hK, rfl, by rw [ht]; exact hP, va_K.moved hW.alike C.2.1, hD⟩, hS.F ht⟩) hS.2.2 hd hlocks
theorem x_metr {y : MethodName} {wz wz' : List Cond} {rm : Room} {mc ms maxL : Nat} {ret : Option FieldType} {av : List Value} {lv0 : List (Nat × Value)} {K : Nat → va_W → Prop} (hy : plainName y.cls = true) (hw : wz = Cond.code y cc maxL ret :: wz') (hav : (lg_sl av).length ≤ maxL) (hlv : lv_args 0 av = lv0)
    (body : ∀ (p : Program) (e : Env) (s : State) (m : MethodId) (args : Array Value) (below : List Frame) (meth : Method) (c : Code) (A : Nat → Prop), vx_C p s m args c cc maxL wz y.cls D cl tys nw A → A = va_A ws s.heap.size → meth.locks = false → meth.sig.returnType = ret → vx_V p l e rm s m args below meth c A D cl maxL 0 0 (MQ below (va_Qr (fun u : Nat × va_W => K u.1 u.2) (fun u a t => u.1 = a ∧ vx_B D cl tys A u.2 t) A) args s mc ms A) ws 0 lv0 []) : vx_Mr l y wz rm D cl tys nw ws av mc ms K := by
  subst hlv
  intro sz
  refine Met.ofW (cc := cc) (maxL := maxL) (ret := ret) hy hw ?_
  intro p e s m args below meth c s₁ B hml hv
  obtain ⟨rfl, hsz, hP, hK, hD0, hN⟩ := hv
  have hx := B.exec
  have hb := B.bytes
  have hr := B.returns
  have hts := atoms_spec (ws := wz) B.pre
  have hown : s.vm.findClass y.cls = some m.cls := findClass_of_methodNamed B.named
  have hlocks := B.notSynchronized
  subst hsz
  have hD := hD0.self (sz := s.heap.size)
  have hl := lv_entry av (n := maxL) hav
  rw [lg_entry_eq]
  exact body p e s m av.toArray below meth c (va_A ws s.heap.size) ⟨⟨hx, hb, hml, hown, hts⟩, hK, fun q h => Or.inr h, hN⟩ rfl hlocks hr s.heap [] _ hP hD va_S.rf hl
theorem x_callSr2 (C : vx_C p s m args c cc nL Ts own D cl tys nw A) {y : MethodName} {bytes : ByteArray} {maxL mc ms n i : Nat} {ret : Option FieldType} {wz : List Cond} {rm : Room} {As : List Value} {K : Nat → va_W → Prop} {wc wr : va_W} (isC isR : List Nat) (hC : isC.map (fun i => ws[i]?) = wc.map some) (hRr : isR.map (fun i => ws[i]?) = wr.map some) (hndC : va_nd isC = true) (hnd : va_nd isR = true) (hdis : ∀ i ∈ isR, i ∉ isC) (hM : vx_Mr l y wz rm D cl tys nw wc As mc ms K) (cw : CallB R s args own i y bytes maxL ret wz rm mc ms n ∧ (Cond.static y).before args s = true) (hn : As.length = n) (hst : (st.map fun v => v.category).sum ≤ 8) (hd : decode cc pc = .ok (.invokestatic i, 3)) (hf : cells + mc ≤ R.cells ∧ slots + ms ≤ R.slots) (k : ∀ (q : Nat) (w : va_W), K q w → vx_V p l e R s m args below meth c A D cl nL (cells + mc) (slots + ms) Q (wr ++ w) (pc + 3) lv (.ref q :: st)) : vx_V p l e R s m args below meth c A D cl nL cells slots Q ws pc lv (As.reverse ++ st) := by
  intro H locs ls hP hD hS hl
  have hPc : va_P D cl wc H := by
    intro j q hj
    have h1 : (isC.map (fun i => ws[i]?))[j]? = some (some q) := by rw [hC, List.getElem?_map, hj]; rfl
    rw [List.getElem?_map] at h1
    cases hi : isC[j]? with
    | none => rw [hi] at h1; cases h1
    | some z => rw [hi] at h1; exact hP z q (Option.some.inj h1)
  have hFc := va_free (wc := wc) hD hS C.2.2.1 isC hC
  have hDc := hD.sub isC hndC hC
  refine va_callr (va_runS (As := As) (rest := st) C.1 (hM H.size) cw ⟨vx_blind D cl tys nw wc As H.size, fun U hU hW => ⟨rfl, by rw [hU], by rw [hU]; exact hPc, va_K.moved hW.alike C.2.1, hDc.weaken (fun _ _ _ _ => trivial), C.2.2.2.warm hW⟩⟩ rfl hn hl.1 rfl (lv_room hst) hd hf) hS (fun q _ h => hFc q h) hFc (fun u ra t H1 locs1 ht hvm hw hB hz1 hk1 hS => ?_)
  obtain ⟨e1, hP1, hK1, hD1⟩ := hB
  subst e1
  rw [ht] at hP1
  obtain ⟨hP2, hD2⟩ := va_join (wr := wr) (w1 := u.2) hP hD isC isR hC hRr hnd hdis hk1 hFc hP1 hD1
  exact k u.1 u.2 hw H1 locs1 ls hP2 hD2 hS hl
theorem x_copyi (C : vx_C p s m args c cc nL Ts own D cl tys nw A) {i : Nat} (hl1 : Cond.methodLink own i arraycopyName ∈ Ts) (hl2 : Cond.native arraycopyName ∈ Ts) (hl3 : Cond.static arraycopyName ∈ Ts) (hl4 : Cond.initialized "java/lang/System" ∈ Ts) (q0 q1 t0 t1 : Nat) {a a0 : Nat} {c0 c1 : ClassId} {n0 n1 : Nat} {f g : Nat → Int32} (ha0 : ws[q0]? = some (a0, .inl (c0, n0, .inl f))) (ha1 : ws[q1]? = some (a, .inl (c1, n1, .inl g))) (ht0 : tys[t0]? = some (c0, .int)) (ht1 : tys[t1]? = some (c1, .int)) {sp dp n : Int32} (h1 : ¬ sp < 0) (h2 : ¬ dp < 0) (h3 : ¬ n < 0) (h4 : sp.toNatClampNeg + n.toNatClampNeg ≤ n0) (h5 : dp.toNatClampNeg + n.toNatClampNeg ≤ n1) (hfr : 1 ≤ R.frames) (hlo : (st.map fun v => v.category).sum + (nativeFrameWords "java/lang/System" "arraycopy" 5 + 11) ≤ R.locals) (hd : decode cc pc = .ok (.invokestatic i, 3)) (ws2 : va_W) (hws : ws.set q1 (a, .inl (c1, n1, .inl (va_cpy f g sp.toNatClampNeg dp.toNatClampNeg n.toNatClampNeg))) = ws2) (k : vx_V p l e R s m args below meth c A D cl nL cells slots Q ws2 (pc + 3) lv st) : vx_V p l e R s m args below meth c A D cl nL cells slots Q ws pc lv (.int n :: .int dp :: .ref a :: .int sp :: .ref a0 :: st) := by
  subst hws
  exact fun H locs ls hP hD hS hl => va_copyi C.1.1 C.1.2.1 (C.1.2.2.1.trans hl.1.symm) C.1.2.2.2.1 (C.1.2.2.2.2 _ hl1) (C.1.2.2.2.2 _ hl2) (C.1.2.2.2.2 _ hl3) (C.1.2.2.2.2 _ hl4) C.2.1 hP hD hS q0 q1 t0 t1 ha0 ha1 ht0 ht1 rfl h1 h2 h3 h4 h5 (fun _ _ => rfl) hfr hlo hd (fun H locs hP hD hS => k H locs ls hP hD hS hl)
end CPY
theorem wm11 : (Jvm.Cond.initialized "java/lang/System") ∈ wAll := mw 11 (by decide +kernel) (by decide +kernel)
theorem wm457 : (Jvm.Cond.methodLink "java/util/Arrays" (304 : Nat) ({ cls := "java/lang/Math", name := "min", desc := "(II)I" } : Jvm.MethodName)) ∈ wAll := mw 457 (by decide +kernel) (by decide +kernel)
theorem wm458 : (Jvm.Cond.methodLink "java/util/Arrays" (150 : Nat) ({ cls := "java/lang/System", name := "arraycopy", desc := "(Ljava/lang/Object;ILjava/lang/Object;II)V" } : Jvm.MethodName)) ∈ wAll := mw 458 (by decide +kernel) (by decide +kernel)
theorem wm459 : (Jvm.Cond.static ({ cls := "java/lang/System", name := "arraycopy", desc := "(Ljava/lang/Object;ILjava/lang/Object;II)V" } : Jvm.MethodName)) ∈ wAll := mw 459 (by decide +kernel) (by decide +kernel)
theorem wm460 : (Jvm.Cond.native ({ cls := "java/lang/System", name := "arraycopy", desc := "(Ljava/lang/Object;ILjava/lang/Object;II)V" } : Jvm.MethodName)) ∈ wAll := mw 460 (by decide +kernel) (by decide +kernel)
theorem dJ_copyOf_0 : decode prog_14_method_123_code 0 = .ok (.iload_n 1, 1) := by decide +kernel
theorem dJ_copyOf_1 : decode prog_14_method_123_code 1 = .ok (.aload_n 0, 1) := by decide +kernel
theorem dJ_copyOf_2 : decode prog_14_method_123_code 2 = .ok (.arraylength, 1) := by decide +kernel
theorem dJ_copyOf_3 : decode prog_14_method_123_code 3 = .ok (.if_icmp .ne 11, 3) := by decide +kernel
theorem dJ_copyOf_14 : decode prog_14_method_123_code 14 = .ok (.iload_n 1, 1) := by decide +kernel
theorem dJ_copyOf_15 : decode prog_14_method_123_code 15 = .ok (.newarray .int, 2) := by decide +kernel
theorem dJ_copyOf_17 : decode prog_14_method_123_code 17 = .ok (.astore_n 2, 1) := by decide +kernel
theorem dJ_copyOf_18 : decode prog_14_method_123_code 18 = .ok (.aload_n 0, 1) := by decide +kernel
theorem dJ_copyOf_19 : decode prog_14_method_123_code 19 = .ok (.iconst 0, 1) := by decide +kernel
theorem dJ_copyOf_20 : decode prog_14_method_123_code 20 = .ok (.aload_n 2, 1) := by decide +kernel
theorem dJ_copyOf_21 : decode prog_14_method_123_code 21 = .ok (.iconst 0, 1) := by decide +kernel
theorem dJ_copyOf_22 : decode prog_14_method_123_code 22 = .ok (.aload_n 0, 1) := by decide +kernel
theorem dJ_copyOf_23 : decode prog_14_method_123_code 23 = .ok (.arraylength, 1) := by decide +kernel
theorem dJ_copyOf_24 : decode prog_14_method_123_code 24 = .ok (.iload_n 1, 1) := by decide +kernel
theorem dJ_copyOf_25 : decode prog_14_method_123_code 25 = .ok (.invokestatic 304, 3) := by decide +kernel
theorem dJ_copyOf_28 : decode prog_14_method_123_code 28 = .ok (.invokestatic 150, 3) := by decide +kernel
theorem dJ_copyOf_31 : decode prog_14_method_123_code 31 = .ok (.aload_n 2, 1) := by decide +kernel
theorem dJ_copyOf_32 : decode prog_14_method_123_code 32 = .ok (.areturn, 1) := by decide +kernel
abbrev yJ_copyOf : MethodName := { cls := "java/util/Arrays", name := "copyOf", desc := "([II)[I" }
def cp_n (n : Int32) (n0 : Nat) : Int32 := if n < Int32.ofNat n0 then n else Int32.ofNat n0
theorem cp_ok {n : Int32} {n0 : Nat} (hn : ¬ n < 0) (h0 : n0 < 2 ^ 31) : ¬ cp_n n n0 < 0 ∧ (cp_n n n0).toNatClampNeg ≤ n0 ∧ (cp_n n n0).toNatClampNeg ≤ n.toNatClampNeg := by
  have e0 : Int32.ofNat n0 = nI n0 := rfl
  obtain ⟨j, hj, rfl⟩ := nI_of hn
  unfold cp_n
  rw [e0]
  by_cases h : nI j < nI n0
  · rw [if_pos h]
    have h2 := (nI_ltI hj h0).mp h
    rw [nI_clamp hj]
    exact ⟨nI_pos hj, by omega, by omega⟩
  · rw [if_neg h]
    have h2 : ¬ j < n0 := fun q => h ((nI_ltI hj h0).mpr q)
    rw [nI_clamp hj, nI_clamp h0]
    exact ⟨nI_pos h0, by omega, by omega⟩
set_option maxRecDepth 100000 in
set_option maxHeartbeats 4000000 in
theorem raw_copyOf {l : Launch} {D : va_G} {G : G_} (q n0 : Nat) (f : Nat → Int32) (n : Int32) (h0 : n0 < 2 ^ 31) (hn : ¬ n < 0) (hne : ¬ n = Int32.ofNat n0) (hby : n.toNatClampNeg * 4 ≤ 536870912) : vx_Mr l yJ_copyOf (Cond.code yJ_copyOf prog_14_method_123_code 3 (some (.array .int)) :: wAll) { frames := 1, cells := 1, slots := n.toNatClampNeg, locals := 27 } D vwCl (tysG G) nwAll [(q, .inl (G.2.1, n0, .inl f))] [.ref q, .int n] 1 n.toNatClampNeg (fun q2 w => w = [(q, .inl (G.2.1, n0, .inl f)), (q2, .inl (G.2.1, n.toNatClampNeg, .inl (va_cpy f (fun _ => 0) 0 0 (cp_n n n0).toNatClampNeg)))]) := by
  obtain ⟨c1, c2, c3⟩ := cp_ok (n := n) (n0 := n0) hn h0
  refine x_metr (cc := prog_14_method_123_code) (maxL := 3) (ret := some (.array .int)) (lv0 := [(0, .ref q), (1, .int n)]) (by decide) rfl (Nat.le_of_ble_eq_true rfl) rfl ?_
  intro p e s m args below meth c A C hA hlocks hr
  refine x_iload_n C dJ_copyOf_0 rfl 1 rfl ?_
  refine x_aload_n C dJ_copyOf_1 rfl 0 rfl ?_
  refine x_alen C 0 0 rfl rfl rfl dJ_copyOf_2 ?_
  refine x_icmp_ne (tgt := 14) C dJ_copyOf_3 (by decide) (fun _ => ?_) (fun h => absurd h hne)
  refine x_iload_n C dJ_copyOf_14 rfl 1 rfl ?_
  refine x_newa (atype := .int) (ty := .int) (N := n.toNatClampNeg) (a0 := (n.toNatClampNeg, .inl (fun _ => 0))) C (List.mem_cons_of_mem _ wm59) rfl 0 rfl (fun _ => rfl) hn rfl hby (by simp) (by simp) dJ_copyOf_15 (fun q2 => ?_)
  refine x_weq [(q, .inl (G.2.1, n0, .inl f)), (q2, .inl (G.2.1, n.toNatClampNeg, .inl (fun _ => 0)))] rfl ?_
  refine x_widen (k1 := 1) (n1 := n.toNatClampNeg) (by omega) (by omega) ?_
  refine x_astore_n C [(2, .ref q2), (0, .ref q), (1, .int n)] dJ_copyOf_17 rfl (by decide) rfl ?_
  refine x_aload_n C dJ_copyOf_18 rfl 1 rfl ?_
  refine x_iconst (v := 0) C dJ_copyOf_19 (by decide) ?_
  refine x_aload_n C dJ_copyOf_20 rfl 0 rfl ?_
  refine x_iconst (v := 0) C dJ_copyOf_21 (by decide) ?_
  refine x_aload_n C dJ_copyOf_22 rfl 1 rfl ?_
  refine x_alen C 0 0 rfl rfl rfl dJ_copyOf_23 ?_
  refine x_iload_n C dJ_copyOf_24 rfl 2 rfl ?_
  refine x_mmin C wm457 (Nat.le_of_ble_eq_true rfl) (Nat.le_of_ble_eq_true rfl) ⟨Nat.le_refl _, Nat.le_refl _⟩ dJ_copyOf_25 ?_
  refine x_copyi (n := cp_n n n0) C (List.mem_cons_of_mem _ wm458) (List.mem_cons_of_mem _ wm460) (List.mem_cons_of_mem _ wm459) (List.mem_cons_of_mem _ wm11) 0 1 0 0 rfl rfl rfl rfl (by decide) (by decide) c1 (by simpa using c2) (by simpa using c3) (Nat.le_of_ble_eq_true rfl) (Nat.le_of_ble_eq_true rfl) dJ_copyOf_28 [(q, .inl (G.2.1, n0, .inl f)), (q2, .inl (G.2.1, n.toNatClampNeg, .inl (va_cpy f (fun _ => 0) 0 0 (cp_n n n0).toNatClampNeg)))] rfl ?_
  refine x_aload_n C dJ_copyOf_31 rfl 0 rfl ?_
  exact x_aret (K := fun q2 w => w = [(q, .inl (G.2.1, n0, .inl f)), (q2, .inl (G.2.1, n.toNatClampNeg, .inl (va_cpy f (fun _ => 0) 0 0 (cp_n n n0).toNatClampNeg)))]) C hA hlocks hr (Or.inr ⟨_, rfl⟩) rfl dJ_copyOf_32
