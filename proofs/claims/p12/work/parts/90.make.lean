/-! Rows for what makes cells: arrays, objects, constructors' calls. -/
section MAKE
variable {p : Program} {l : Launch} {e : Env} {R : Room} {s : State} {m : MethodId} {args : Array Value} {below : List Frame} {meth : Method} {c : Code} {cells slots : Nat} {Q : State → Prop}
variable {A : Nat → Prop} {D : va_G} {cl : List vw_C} {tys : List (ClassId × FieldType)} {nw : List Cond} {nL pc : Nat} {cc : ByteArray} {Ts : List Cond} {own : String} {ws : va_W} {lv : List (Nat × Value)} {st : List Value}
theorem ra_eq {U : State} {c1 c2 : ClassId} {ty : FieldType} (h1 : va_RA U c1 ty) (h2 : va_RA U c2 ty) : c1 = c2 := by
  cases ty with
  | object C =>
    obtain ⟨_, _, _, _, _, h4⟩ := h1
    obtain ⟨_, _, _, _, _, h8⟩ := h2
    exact Option.some.inj (h4.symm.trans h8)
  | _ => exact Option.some.inj (Eq.trans (Eq.symm h1) h2)
theorem x_weq (ws2 : va_W) (h : ws = ws2) (k : vx_V p l e R s m args below meth c A D cl nL cells slots Q ws2 pc lv st) : vx_V p l e R s m args below meth c A D cl nL cells slots Q ws pc lv st := h ▸ k
theorem x_newa (C : vx_C p s m args c cc nL Ts own D cl tys nw A) {atype : ArrayType} {ty : FieldType} (harr : Cond.arrayClass (newarray.typeOf atype) ∈ Ts) (hty : newarray.typeOf atype = ty) (t0 : Nat) {cA0 : ClassId} (ht : tys[t0]? = some (cA0, ty)) {n : Int32} {N : Nat} {a0 : vp_A} (ha : ∀ cA : ClassId, vp_cell cA a0 = arrV cA N (fun _ => defaultValue ty)) (hn : ¬ n < 0) (hN : n.toNatClampNeg = N) (hbytes : N * componentBytes ty ≤ 536870912) (hcells : cells + 1 ≤ R.cells) (hslots : slots + N ≤ R.slots) (hd : decode cc pc = .ok (.newarray atype, 2))
    (k : ∀ q : Nat, vx_V p l e R s m args below meth c A D cl nL (cells + 1) (slots + N) Q (ws ++ [(q, .inl (cA0, a0))]) (pc + 2) lv (.ref q :: st)) : vx_V p l e R s m args below meth c A D cl nL cells slots Q ws pc lv (.int n :: st) := by
  intro H locs ls hP hD hS hl
  refine va_newa C.1.1 C.1.2.1 (C.1.2.2.2.2 _ harr) hty C.2.1 hP hD hS C.2.2.1 ha hn hN hbytes hcells hslots hd (fun q cA H1 hK1 hP1 hD1 hS1 => ?_)
  have e1 := (hK1.2 tys.length (cA, ty) (by simp)).2
  have e2 := (C.2.1.2 t0 _ ht).2
  have e3 : cA = cA0 := ra_eq e1 e2
  subst e3
  exact k q H1 locs ls hP1 hD1 hS1 hl
theorem x_new (C : vx_C p s m args c cc nL Ts own D cl tys nw A) {CC : String} {T : u_T} {N ci i : Nat} (hin : ∀ w ∈ u_ws CC T N, w ∈ Ts) (ty0 : Nat → FieldType) (hty : ∀ k, k < N → parseFieldDescriptor (T k).2.2.1 = some (ty0 k)) (hcl : Cond.classLink own i CC ∈ Ts) (hinst : Cond.instantiable CC N ∈ Ts) (hini : Cond.initialized CC ∈ Ts) (hc : cl[ci]? = some (CC, T, N)) {fs : List Value} (hfs : ∀ j, j < N → defaultValue (ty0 j) = vp_V fs j) (hcells : cells + 1 ≤ R.cells) (hslots : slots + N ≤ R.slots) (hd : decode cc pc = .ok (.new i, 3))
    (k : ∀ q : Nat, vx_V p l e R s m args below meth c A D cl nL (cells + 1) (slots + N) Q (ws ++ [(q, .inr (ci, fs))]) (pc + 3) lv (.ref q :: st)) : vx_V p l e R s m args below meth c A D cl nL cells slots Q ws pc lv st :=
  fun H locs ls hP hD hS hl => va_new (D := D) C.1.1 C.1.2.1 C.1.2.2.2.2 hin ty0 hty C.1.2.2.2.1 (C.1.2.2.2.2 _ hcl) (C.1.2.2.2.2 _ hinst) (C.1.2.2.2.2 _ hini) C.2.1 hP hD hS C.2.2.1 hc hfs hcells hslots hd (fun q H1 hP1 hD1 hS1 => k q H1 locs ls hP1 hD1 hS1 hl)
theorem x_putF (C : vx_C p s m args c cc nL Ts own D cl tys nw A) {ref CC : String} {T : u_T} {N ci i a : Nat} (hnm2 : meth.name = "<init>") (hin : ∀ w ∈ u_ws CC T N, w ∈ Ts) (ty0 : Nat → FieldType) (hty : ∀ k, k < N → parseFieldDescriptor (T k).2.2.1 = some (ty0 k)) (hnm : ∀ a, a < N → ∀ b, b < N → a ≠ b → (T a).2.1 ≠ (T b).2.1) (q0 : Nat) {fs : List Value} (he : ws[q0]? = some (a, .inr (ci, fs))) (hc : cl[ci]? = some (CC, T, N)) (j : Nat) (hj : j < N) (hlink : Cond.fieldLink own i ref (T j).2.1 (T j).2.2.1 ∈ Ts) (href : ref = (T j).1) (hfin : (T j).2.2.2 = true) (hdecl : (T j).1 = own) {ty : FieldType} {v : Value} (hde : parseFieldDescriptor (T j).2.2.1 = some ty) (hn : narrow ty v = v) (hfit : fits ty v = true) (hl9 : j < fs.length) (hd : decode cc pc = .ok (.putfield i, 3)) (ws2 : va_W) (hws : ws.set q0 (a, .inr (ci, fs.set j v)) = ws2) (k : vx_V p l e R s m args below meth c A D cl nL cells slots Q ws2 (pc + 3) lv st) : vx_V p l e R s m args below meth c A D cl nL cells slots Q ws pc lv (v :: .ref a :: st) := by
  subst hws
  exact fun H locs ls hP hD hS hl => va_putF (D := D) C.1.1 C.1.2.1 C.1.2.2.2.2 hin ty0 hty hnm C.1.2.2.2.1 C.2.1 hP hD hS q0 he hc j hj (C.1.2.2.2.2 _ hlink) (fun _ h9 => by rw [href]; exact h9) hfin hnm2 hdecl hde hn hfit hl9 hd (fun H locs hP hD hS => k H locs ls hP hD hS hl)
theorem x_objInit (C : vx_C p s m args c cc nL Ts own D cl tys nw A) {i a : Nat} (h1 : Cond.methodLink own i objectInit ∈ Ts) (h2 : Cond.instanceMethod objectInit ∈ Ts) (h3 : Cond.code objectInit ⟨#[0xb1]⟩ 1 none ∈ Ts) (hd : decode cc pc = .ok (.invokespecial i, 3)) (hfr : 1 ≤ R.frames) (hlo : 2 * 0 + (st.map fun v => v.category).sum + 12 ≤ R.locals) (k : vx_V p l e R s m args below meth c A D cl nL cells slots Q ws (pc + 3) lv st) : vx_V p l e R s m args below meth c A D cl nL cells slots Q ws pc lv (.ref a :: st) :=
  fun H locs ls hP hD hS hl => W.objInit C.1.1 C.1.2.1 C.1.2.2.2.1 (C.1.2.2.2.2 _ h1) (C.1.2.2.2.2 _ h2) (C.1.2.2.2.2 _ h3) rfl (hl.1.trans C.1.2.2.1.symm) rfl hd hfr hlo (k H locs ls hP hD hS hl)
theorem x_metC {y : MethodName} {wz wz' : List Cond} {rm : Room} {mc ms maxL : Nat} {av : List Value} {lv0 : List (Nat × Value)} {K : va_W → Prop} (hy : plainName y.cls = true) (hw : wz = Cond.code y cc maxL none :: wz') (hav : (lg_sl av).length ≤ maxL) (hlv : lv_args 0 av = lv0)
    (body : ∀ (p : Program) (e : Env) (s : State) (m : MethodId) (args : Array Value) (below : List Frame) (meth : Method) (c : Code) (A : Nat → Prop), vx_C p s m args c cc maxL wz y.cls D cl tys nw A → A = va_A ws s.heap.size → meth.locks = false → meth.sig.returnType = none → meth.name = y.name → vx_V p l e rm s m args below meth c A D cl maxL 0 0 (MQ below (va_Qv K (vx_B D cl tys A) A) args s mc ms A) ws 0 lv0 []) : vx_Mv l y wz rm D cl tys nw ws av mc ms K := by
  subst hlv
  intro sz
  refine Met.ofW (cc := cc) (maxL := maxL) (ret := none) hy hw ?_
  intro p e s m args below meth c s₁ B hml hv
  obtain ⟨rfl, hsz, hP, hK, hD0, hN⟩ := hv
  have hx := B.exec
  have hb := B.bytes
  have hr := B.returns
  have hts := atoms_spec (ws := wz) B.pre
  have hown : s.vm.findClass y.cls = some m.cls := findClass_of_methodNamed B.named
  have hlocks := B.notSynchronized
  have hnm := (name_of_methodNamed B.named B.method).1
  subst hsz
  have hD := hD0.self (sz := s.heap.size)
  have hl := lv_entry av (n := maxL) hav
  rw [lg_entry_eq]
  exact body p e s m av.toArray below meth c (va_A ws s.heap.size) ⟨⟨hx, hb, hml, hown, hts⟩, hK, fun q h => Or.inr h, hN⟩ rfl hlocks hr hnm s.heap [] _ hP hD va_S.rf hl
theorem x_callI (C : vx_C p s m args c cc nL Ts own D cl tys nw A) {y : MethodName} {bytes : ByteArray} {maxL mc ms n i b : Nat} {wz : List Cond} {rm : Room} {As : List Value} {K : va_W → Prop} {wc wr : va_W} (isC isR : List Nat) (hC : isC.map (fun i => ws[i]?) = wc.map some) (hRr : isR.map (fun i => ws[i]?) = wr.map some) (hndC : va_nd isC = true) (hnd : va_nd isR = true) (hdis : ∀ i ∈ isR, i ∉ isC) (hM : vx_Mv l y wz rm D cl tys nw wc (.ref b :: As) mc ms K) (cw : CallB R s args own i y bytes maxL none wz rm mc ms n ∧ y.name = "<init>" ∧ (Cond.instanceMethod y).before args s = true) (hn : As.length = n) (hst : (st.map fun v => v.category).sum ≤ 8) (hd : decode cc pc = .ok (.invokespecial i, 3)) (hf : cells + mc ≤ R.cells ∧ slots + ms ≤ R.slots) (k : ∀ w : va_W, K w → vx_V p l e R s m args below meth c A D cl nL (cells + mc) (slots + ms) Q (wr ++ w) (pc + 3) lv st) : vx_V p l e R s m args below meth c A D cl nL cells slots Q ws pc lv (As.reverse ++ .ref b :: st) := by
  intro H locs ls hP hD hS hl
  have hPc : va_P D cl wc H := by
    intro j q hj
    have h1 : (isC.map (fun i => ws[i]?))[j]? = some (some q) := by rw [hC, List.getElem?_map, hj]; rfl
    rw [List.getElem?_map] at h1
    cases hi : isC[j]? with
    | none => rw [hi] at h1; cases h1
    | some z => rw [hi] at h1; exact hP z q (Option.some.inj h1)
  have hFc := va_free (wc := wc) hD hS C.2.2.1 isC hC
  have hDc := hD.sub isC hndC hC
  refine va_callv (va_runI (As := As) (rest := st) C.1 (hM H.size) cw ⟨vx_blind D cl tys nw wc (.ref b :: As) H.size, fun U hU hW => ⟨rfl, by rw [hU], by rw [hU]; exact hPc, va_K.moved hW.alike C.2.1, hDc.weaken (fun _ _ _ _ => trivial), C.2.2.2.warm hW⟩⟩ rfl hn hl.1 rfl (lv_room hst) hd hf) hS (fun q _ h => hFc q h) hFc (fun u t H1 locs1 ht hvm hw hB hz1 hk1 hS => ?_)
  obtain ⟨hP1, hK1, hD1⟩ := hB
  rw [ht] at hP1
  obtain ⟨hP2, hD2⟩ := va_join (wr := wr) (w1 := u) hP hD isC isR hC hRr hnd hdis hk1 hFc hP1 hD1
  exact k u hw H1 locs1 ls hP2 hD2 hS hl
theorem x_callIN (C : vx_C p s m args c cc nL Ts own D cl tys nw A) {host : String} {y : MethodName} {bytes : ByteArray} {maxL mc ms n i b : Nat} {wz : List Cond} {rm : Room} {As : List Value} {K : va_W → Prop} {wc wr : va_W} (isC isR : List Nat) (hC : isC.map (fun i => ws[i]?) = wc.map some) (hRr : isR.map (fun i => ws[i]?) = wr.map some) (hndC : va_nd isC = true) (hnd : va_nd isR = true) (hdis : ∀ i ∈ isR, i ∉ isC) (hM : vx_Mv l y wz rm D cl tys nw wc (.ref b :: As) mc ms K) (cw : va_CN R s args own i y host bytes maxL none wz rm mc ms n ∧ y.name = "<init>" ∧ (Cond.instanceMethod y).before args s = true) (hn : As.length = n) (hst : (st.map fun v => v.category).sum ≤ 8) (hd : decode cc pc = .ok (.invokespecial i, 3)) (hf : cells + mc ≤ R.cells ∧ slots + ms ≤ R.slots) (k : ∀ w : va_W, K w → vx_V p l e R s m args below meth c A D cl nL (cells + mc) (slots + ms) Q (wr ++ w) (pc + 3) lv st) : vx_V p l e R s m args below meth c A D cl nL cells slots Q ws pc lv (As.reverse ++ .ref b :: st) := by
  intro H locs ls hP hD hS hl
  have hPc : va_P D cl wc H := by
    intro j q hj
    have h1 : (isC.map (fun i => ws[i]?))[j]? = some (some q) := by rw [hC, List.getElem?_map, hj]; rfl
    rw [List.getElem?_map] at h1
    cases hi : isC[j]? with
    | none => rw [hi] at h1; cases h1
    | some z => rw [hi] at h1; exact hP z q (Option.some.inj h1)
  have hFc := va_free (wc := wc) hD hS C.2.2.1 isC hC
  have hDc := hD.sub isC hndC hC
  refine va_callv (va_runIN (As := As) (rest := st) C.1 (hM H.size) cw ⟨vx_blind D cl tys nw wc (.ref b :: As) H.size, fun U hU hW => ⟨rfl, by rw [hU], by rw [hU]; exact hPc, va_K.moved hW.alike C.2.1, hDc.weaken (fun _ _ _ _ => trivial), C.2.2.2.warm hW⟩⟩ rfl hn hl.1 rfl (lv_room hst) hd hf) hS (fun q _ h => hFc q h) hFc (fun u t H1 locs1 ht hvm hw hB hz1 hk1 hS => ?_)
  obtain ⟨hP1, hK1, hD1⟩ := hB
  rw [ht] at hP1
  obtain ⟨hP2, hD2⟩ := va_join (wr := wr) (w1 := u) hP hD isC isR hC hRr hnd hdis hk1 hFc hP1 hD1
  exact k u hw H1 locs1 ls hP2 hD2 hS hl
theorem x_callSv2 (C : vx_C p s m args c cc nL Ts own D cl tys nw A) {y : MethodName} {bytes : ByteArray} {maxL mc ms n i : Nat} {ret : Option FieldType} {wz : List Cond} {rm : Room} {As : List Value} {K : va_W → Prop} {wc wr : va_W} (isC isR : List Nat) (hC : isC.map (fun i => ws[i]?) = wc.map some) (hRr : isR.map (fun i => ws[i]?) = wr.map some) (hndC : va_nd isC = true) (hnd : va_nd isR = true) (hdis : ∀ i ∈ isR, i ∉ isC) (hM : vx_Mv l y wz rm D cl tys nw wc As mc ms K) (cw : CallB R s args own i y bytes maxL ret wz rm mc ms n ∧ (Cond.static y).before args s = true) (hn : As.length = n) (hst : (st.map fun v => v.category).sum ≤ 8) (hd : decode cc pc = .ok (.invokestatic i, 3)) (hf : cells + mc ≤ R.cells ∧ slots + ms ≤ R.slots) (k : ∀ w : va_W, K w → vx_V p l e R s m args below meth c A D cl nL (cells + mc) (slots + ms) Q (wr ++ w) (pc + 3) lv st) : vx_V p l e R s m args below meth c A D cl nL cells slots Q ws pc lv (As.reverse ++ st) := by
  intro H locs ls hP hD hS hl
  have hPc : va_P D cl wc H := by
    intro j q hj
    have h1 : (isC.map (fun i => ws[i]?))[j]? = some (some q) := by rw [hC, List.getElem?_map, hj]; rfl
    rw [List.getElem?_map] at h1
    cases hi : isC[j]? with
    | none => rw [hi] at h1; cases h1
    | some z => rw [hi] at h1; exact hP z q (Option.some.inj h1)
  have hFc := va_free (wc := wc) hD hS C.2.2.1 isC hC
  have hDc := hD.sub isC hndC hC
  refine va_callv (va_runS (As := As) (rest := st) C.1 (hM H.size) cw ⟨vx_blind D cl tys nw wc As H.size, fun U hU hW => ⟨rfl, by rw [hU], by rw [hU]; exact hPc, va_K.moved hW.alike C.2.1, hDc.weaken (fun _ _ _ _ => trivial), C.2.2.2.warm hW⟩⟩ rfl hn hl.1 rfl (lv_room hst) hd hf) hS (fun q _ h => hFc q h) hFc (fun u t H1 locs1 ht hvm hw hB hz1 hk1 hS => ?_)
  obtain ⟨hP1, hK1, hD1⟩ := hB
  rw [ht] at hP1
  obtain ⟨hP2, hD2⟩ := va_join (wr := wr) (w1 := u) hP hD isC isR hC hRr hnd hdis hk1 hFc hP1 hD1
  exact k u hw H1 locs1 ls hP2 hD2 hS hl
end MAKE
