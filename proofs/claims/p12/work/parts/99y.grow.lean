theorem wm448 : (Jvm.Cond.static ({ cls := "java/util/Arrays", name := "copyOf", desc := "([II)[I" } : Jvm.MethodName)) ∈ wAll := mw 448 (by decide +kernel) (by decide +kernel)
theorem wm449 : (Jvm.Cond.code ({ cls := "java/util/Arrays", name := "copyOf", desc := "([II)[I" } : Jvm.MethodName) prog_14_method_123_code (3 : Nat) (Option.some (Jvm.ClassFile.FieldType.array Jvm.ClassFile.FieldType.int))) ∈ wAll := mw 449 (by decide +kernel) (by decide +kernel)
def sAd (a : L_) (k q n : Nat) : L_ := (fun j => if j = k then q else a.1 j, fun j => if j = k then n else a.2 j)
section GROW
variable {p : Program} {l : Launch} {e : Env} {R : Room} {s : State} {m : MethodId} {args : Array Value} {below : List Frame} {meth : Method} {c : Code} {cells slots : Nat} {Q : State → Prop}
variable {A : Nat → Prop} {D : va_G} {nL pc : Nat} {cc : ByteArray} {lv : List (Nat × Value)} {st : List Value}
/-- the last cell takes the place of an elder one, which is let go -/
theorem x_repl {cl : List vw_C} {ws : va_W} (P : Nat) (hP9 : P < ws.length) {x : Nat × va_E} (k : vx_V p l e R s m args below meth c A D cl nL cells slots Q (ws.set P x) pc lv st) : vx_V p l e R s m args below meth c A D cl nL cells slots Q (ws ++ [x]) pc lv st := by
  intro H locs ls hP hD hS hl
  have key : ∀ (i : Nat) (z : Nat × va_E), (ws.set P x)[i]? = some z → ∃ i', (ws ++ [x])[i']? = some z ∧ (i = P → i' = ws.length) ∧ (i ≠ P → i' = i ∧ i < ws.length) := by
    intro i z hz
    by_cases hi : i = P
    · subst hi
      rw [List.getElem?_set_self hP9] at hz
      cases hz
      exact ⟨ws.length, by simp, fun _ => rfl, fun h => absurd rfl h⟩
    · rw [List.getElem?_set_ne (Ne.symm hi)] at hz
      have hlt := (List.getElem?_eq_some_iff.mp hz).1
      exact ⟨i, by rw [List.getElem?_append_left hlt]; exact hz, fun h => absurd h hi, fun _ => ⟨rfl, hlt⟩⟩
  refine k H locs ls ?_ ⟨?_, ?_⟩ hS hl
  · intro i z hz
    obtain ⟨i', h1, -⟩ := key i z hz
    exact hP i' z h1
  · intro i j z w hi hj hzw
    obtain ⟨i', h1, h2, h3⟩ := key i z hi
    obtain ⟨j', h4, h5, h6⟩ := key j w hj
    have he := hD.1 i' j' z w h1 h4 hzw
    by_cases ci : i = P <;> by_cases cj : j = P
    · rw [ci, cj]
    · have := h2 ci; have := h6 cj; omega
    · have := h3 ci; have := h5 cj; omega
    · have := (h3 ci).1; have := (h6 cj).1; omega
  · intro i z hz
    obtain ⟨i', h1, -⟩ := key i z hz
    exact hD.2 i' z h1
/-- a static call that reads one cell, leaves it, and answers a new one -/
theorem x_callCopy {cl : List vw_C} {tys : List (ClassId × FieldType)} {nw Ts : List Cond} {own : String} {ws : va_W} (C : vx_C p s m args c cc nL Ts own D cl tys nw A) {y : MethodName} {bytes : ByteArray} {maxL mc ms n i P : Nat} {ret : Option FieldType} {wz : List Cond} {rm : Room} {As : List Value} {x : Nat × va_E} {ne : va_E} (hx : ws[P]? = some x) (hM : vx_Mr l y wz rm D cl tys nw [x] As mc ms (fun q w => w = [x, (q, ne)])) (cw : CallB R s args own i y bytes maxL ret wz rm mc ms n ∧ (Cond.static y).before args s = true) (hn : As.length = n) (hst : (st.map fun v => v.category).sum ≤ 8) (hd : decode cc pc = .ok (.invokestatic i, 3)) (hf : cells + mc ≤ R.cells ∧ slots + ms ≤ R.slots) (k : ∀ q : Nat, vx_V p l e R s m args below meth c A D cl nL (cells + mc) (slots + ms) Q (ws ++ [(q, ne)]) (pc + 3) lv (.ref q :: st)) : vx_V p l e R s m args below meth c A D cl nL cells slots Q ws pc lv (As.reverse ++ st) := by
  intro H locs ls hP hD hS hl
  have one : ∀ (j : Nat) (z : Nat × va_E), [x][j]? = some z → z = x := by
    intro j z hj
    have h1 : j < 1 := (List.getElem?_eq_some_iff.mp hj).1
    rw [show j = 0 by omega] at hj
    cases hj
    rfl
  have hPc : va_P D cl [x] H := by
    intro j z hj
    rw [one j z hj]
    exact hP P x hx
  have hFc : ∀ q, va_A [x] H.size q → A q := by
    intro q h
    rcases h with ⟨j, e9, h⟩ | h
    · have h2 := one j _ h
      have h3 : q = x.1 := congrArg Prod.fst h2
      rw [h3]
      exact hD.2 P x hx
    · exact C.2.2.1 q (Nat.le_trans hS.1 h)
  have hDc : va_D A [x] := ⟨fun i j z w hi hj _ => by
    have h1 : i < 1 := (List.getElem?_eq_some_iff.mp hi).1
    have h2 : j < 1 := (List.getElem?_eq_some_iff.mp hj).1
    omega, fun j z hj => by rw [one j z hj]; exact hD.2 P x hx⟩
  refine va_callr (va_runS (As := As) (rest := st) C.1 (hM H.size) cw ⟨vx_blind D cl tys nw [x] As H.size, fun U hU hW => ⟨rfl, by rw [hU], by rw [hU]; exact hPc, va_K.moved hW.alike C.2.1, hDc.weaken (fun _ _ _ _ => trivial), C.2.2.2.warm hW⟩⟩ rfl hn hl.1 rfl (lv_room hst) hd hf) hS (fun q _ h => hFc q h) hFc (fun u ra t H1 locs1 ht hvm hw hB hz1 hk1 hS1 => ?_)
  obtain ⟨e1, hP1, hK1, hD1⟩ := hB
  subst e1
  rw [ht] at hP1
  obtain ⟨q, w⟩ := u
  dsimp only at hw hP1 hD1
  subst hw
  have hqA : va_A [x] H.size q := hD1.2 1 (q, ne) rfl
  have hqx : q ≠ x.1 := fun h => by
    have := hD1.1 1 0 (q, ne) x rfl rfl h
    omega
  have hqH : H.size ≤ q := by
    rcases hqA with ⟨j, e9, h⟩ | h
    · exact absurd (congrArg Prod.fst (one j _ h)) hqx
    · exact h
  have hPn : va_P D cl ws H1 := by
    intro j z hj
    by_cases hz : z.1 = x.1
    · have hjP := hD.1 j P z x hj hx hz
      subst hjP
      cases hj.symm.trans hx
      exact hP1 0 x rfl
    · refine (hP j z hj).kept (hk1 z.1 (hP j z hj).lt ?_)
      rintro (⟨i9, e9, h⟩ | h)
      · have h9 := one i9 (z.1, e9) h
        exact hz (by rw [← h9])
      · exact absurd (hP j z hj).lt (by omega)
  refine k q H1 locs1 ls (hPn.app (fun j z hj => ?_)) (hD.app ⟨fun i j z w hi hj _ => ?_, fun j z hj => ?_⟩ (fun i j z w hi hj hzw => ?_)) hS1 hl
  · have h1 : j < 1 := (List.getElem?_eq_some_iff.mp hj).1
    rw [show j = 0 by omega] at hj
    cases hj
    exact hP1 1 (q, ne) rfl
  · have h1 : i < 1 := (List.getElem?_eq_some_iff.mp hi).1
    have h2 : j < 1 := (List.getElem?_eq_some_iff.mp hj).1
    omega
  · have h1 : j < 1 := (List.getElem?_eq_some_iff.mp hj).1
    rw [show j = 0 by omega] at hj
    cases hj
    exact hFc q hqA
  · have h1 : j < 1 := (List.getElem?_eq_some_iff.mp hj).1
    rw [show j = 0 by omega] at hj
    cases hj
    have := (hP i z hi).lt
    have h9 : z.1 = q := hzw
    omega
end GROW

theorem wo_len (G : G_) (a : L_) (r : S_) : (wo G a r).length = 98 := by simp [wo, woO, woA]
theorem wo_grow (G : G_) (a : L_) (r : S_) {k ob q n : Nat} (hk : k < 89) (hob : ob < 8) {x : Nat × va_E} {g : Nat → Int32} (hO : (woO G a r).set ob x = woO G (sAd a k q n) (sA r k g)) : ((wo G a r).set ob x).set (8 + k) (q, .inl (cid G k, n, .inl g)) = wo G (sAd a k q n) (sA r k g) := by
  unfold wo
  rw [List.set_append_left _ _ (by simp [woO]; exact hob), hO, List.set_append_right _ _ (by simp [woO]), show 8 + k - (woO G (sAd a k q n) (sA r k g)).length = k by simp [woO], List.set_append_left _ _ (by simp [woA]; exact hk)]
  have h : (woA G a r).set k (q, .inl (cid G k, n, .inl g)) = woA G (sAd a k q n) (sA r k g) := by
    unfold woA
    refine rg_set 89 k _ _ _ hk ?_ ?_
    · simp [ar, sA, sAd, ad, ln]
    · intro j hj
      simp [ar, sA, sAd, ad, ln, hj]
  rw [h]
  have h2 : 89 ≠ k := by omega
  simp [sAd, ad, ln, la, sA, h2]
section GROW2
variable {p : Program} {l : Launch} {e : Env} {R : Room} {s : State} {m : MethodId} {args : Array Value} {below : List Frame} {meth : Method} {c : Code} {cells slots : Nat} {Q : State → Prop}
variable {A : Nat → Prop} {D : va_G} {nL pc : Nat} {cc : ByteArray} {cw : Cond} {own : String} {lv : List (Nat × Value)} {st : List Value} {G : G_} {a : L_} {r : S_}
set_option maxRecDepth 100000 in
set_option maxHeartbeats 40000000 in
theorem wog21 (G : G_) (a : L_) (r : S_) (q n : Nat) (g : Nat → Int32) : (woO G a r).set 5 (ob G 5, .inr (5, (fl5 G a r).set 0 (.ref q))) = woO G (sAd a 21 q n) (sA r 21 g) := rfl
set_option maxRecDepth 100000 in
set_option maxHeartbeats 40000000 in
theorem yc_21 (C : vx_C p s m args c cc nL (cw :: wAll) own D vwCl (tysG G) nwAll A) {i1 i2 : Nat} {n : Int32} (hl : Cond.methodLink own i1 yJ_copyOf ∈ wAll) (hf : Cond.fieldLink own i2 "ClassInference$Graph" "head" "[I" ∈ (cw :: wAll)) (h0 : ln a 21 < 2 ^ 31) (hn : ¬ n < 0) (hne : ¬ n = Int32.ofNat (ln a 21)) (hby : n.toNatClampNeg * 4 ≤ 536870912) (hR : 1 + 1 ≤ R.frames ∧ 8 + (3 + 11) + 27 ≤ R.locals) (hst : (((.ref (ob G 5) : Value) :: st).map fun v => v.category).sum ≤ 8) (hd1 : decode cc pc = .ok (.invokestatic i1, 3)) (hd2 : decode cc (pc + 3) = .ok (.putfield i2, 3)) (hcs : cells + 1 ≤ R.cells ∧ slots + n.toNatClampNeg ≤ R.slots) (h : ∀ (q : Nat) (a1 : L_) (r1 : S_), a1 = sAd a 21 q n.toNatClampNeg → r1 = sA r 21 (va_cpy (ar r 21) (fun _ => 0) 0 0 (cp_n n (ln a 21)).toNatClampNeg) → vx_V p l e R s m args below meth c A D vwCl nL (cells + 1) (slots + n.toNatClampNeg) Q (wo G a1 r1) (pc + 3 + 3) lv st) : vx_V p l e R s m args below meth c A D vwCl nL cells slots Q (wo G a r) pc lv (.int n :: .ref (ad a 21) :: .ref (ob G 5) :: st) := by
  refine x_callCopy (P := 29) (x := (ad a 21, .inl (G.2.1, ln a 21, .inl (ar r 21)))) (As := [.ref (ad a 21), .int n]) (st := .ref (ob G 5) :: st) C ((wo_a G a r (k := 21) (by decide)).trans (by rw [cid_i G (by decide)])) (raw_copyOf (ad a 21) (ln a 21) (ar r 21) n h0 hn hne hby) (va_cwS 2 C.1.2.2.2.2 (goodS hl wm448 wm4 wm449) rfl rfl rfl (by decide +kernel) hR) rfl hst hd1 hcs (fun q => ?_)
  refine x_put (ref := "ClassInference$Graph") (T := u9T_G) (N := 16) (v := .ref q) C (fun w h => List.mem_cons_of_mem _ (u9i_G w h)) u9t_G u9k_G u9n_G 5 (ci := 5) (fs := fl5 G a r) rfl rfl 0 (by decide) hf rfl rfl (u9k_G 0 (by decide)) rfl rfl (by simp [fl5]) hd2 ((wo G a r).set 5 (ob G 5, .inr (5, (fl5 G a r).set 0 (.ref q))) ++ [(q, .inl (G.2.1, n.toNatClampNeg, .inl (va_cpy (ar r 21) (fun _ => 0) 0 0 (cp_n n (ln a 21)).toNatClampNeg)))]) (List.set_append_left _ _ (by rw [wo_len]; decide)) ?_
  refine x_repl 29 (by rw [List.length_set, wo_len]; decide) ?_
  refine x_weq _ (by rw [← cid_i G (show 21 < 86 by decide)]; exact wo_grow G a r (k := 21) (by decide) (by decide) (wog21 G a r q _ _)) (h q _ _ rfl rfl)
set_option maxRecDepth 100000 in
set_option maxHeartbeats 40000000 in
theorem wog22 (G : G_) (a : L_) (r : S_) (q n : Nat) (g : Nat → Int32) : (woO G a r).set 5 (ob G 5, .inr (5, (fl5 G a r).set 1 (.ref q))) = woO G (sAd a 22 q n) (sA r 22 g) := rfl
set_option maxRecDepth 100000 in
set_option maxHeartbeats 40000000 in
theorem yc_22 (C : vx_C p s m args c cc nL (cw :: wAll) own D vwCl (tysG G) nwAll A) {i1 i2 : Nat} {n : Int32} (hl : Cond.methodLink own i1 yJ_copyOf ∈ wAll) (hf : Cond.fieldLink own i2 "ClassInference$Graph" "first" "[I" ∈ (cw :: wAll)) (h0 : ln a 22 < 2 ^ 31) (hn : ¬ n < 0) (hne : ¬ n = Int32.ofNat (ln a 22)) (hby : n.toNatClampNeg * 4 ≤ 536870912) (hR : 1 + 1 ≤ R.frames ∧ 8 + (3 + 11) + 27 ≤ R.locals) (hst : (((.ref (ob G 5) : Value) :: st).map fun v => v.category).sum ≤ 8) (hd1 : decode cc pc = .ok (.invokestatic i1, 3)) (hd2 : decode cc (pc + 3) = .ok (.putfield i2, 3)) (hcs : cells + 1 ≤ R.cells ∧ slots + n.toNatClampNeg ≤ R.slots) (h : ∀ (q : Nat) (a1 : L_) (r1 : S_), a1 = sAd a 22 q n.toNatClampNeg → r1 = sA r 22 (va_cpy (ar r 22) (fun _ => 0) 0 0 (cp_n n (ln a 22)).toNatClampNeg) → vx_V p l e R s m args below meth c A D vwCl nL (cells + 1) (slots + n.toNatClampNeg) Q (wo G a1 r1) (pc + 3 + 3) lv st) : vx_V p l e R s m args below meth c A D vwCl nL cells slots Q (wo G a r) pc lv (.int n :: .ref (ad a 22) :: .ref (ob G 5) :: st) := by
  refine x_callCopy (P := 30) (x := (ad a 22, .inl (G.2.1, ln a 22, .inl (ar r 22)))) (As := [.ref (ad a 22), .int n]) (st := .ref (ob G 5) :: st) C ((wo_a G a r (k := 22) (by decide)).trans (by rw [cid_i G (by decide)])) (raw_copyOf (ad a 22) (ln a 22) (ar r 22) n h0 hn hne hby) (va_cwS 2 C.1.2.2.2.2 (goodS hl wm448 wm4 wm449) rfl rfl rfl (by decide +kernel) hR) rfl hst hd1 hcs (fun q => ?_)
  refine x_put (ref := "ClassInference$Graph") (T := u9T_G) (N := 16) (v := .ref q) C (fun w h => List.mem_cons_of_mem _ (u9i_G w h)) u9t_G u9k_G u9n_G 5 (ci := 5) (fs := fl5 G a r) rfl rfl 1 (by decide) hf rfl rfl (u9k_G 1 (by decide)) rfl rfl (by simp [fl5]) hd2 ((wo G a r).set 5 (ob G 5, .inr (5, (fl5 G a r).set 1 (.ref q))) ++ [(q, .inl (G.2.1, n.toNatClampNeg, .inl (va_cpy (ar r 22) (fun _ => 0) 0 0 (cp_n n (ln a 22)).toNatClampNeg)))]) (List.set_append_left _ _ (by rw [wo_len]; decide)) ?_
  refine x_repl 30 (by rw [List.length_set, wo_len]; decide) ?_
  refine x_weq _ (by rw [← cid_i G (show 22 < 86 by decide)]; exact wo_grow G a r (k := 22) (by decide) (by decide) (wog22 G a r q _ _)) (h q _ _ rfl rfl)
set_option maxRecDepth 100000 in
set_option maxHeartbeats 40000000 in
theorem wog23 (G : G_) (a : L_) (r : S_) (q n : Nat) (g : Nat → Int32) : (woO G a r).set 5 (ob G 5, .inr (5, (fl5 G a r).set 2 (.ref q))) = woO G (sAd a 23 q n) (sA r 23 g) := rfl
set_option maxRecDepth 100000 in
set_option maxHeartbeats 40000000 in
theorem yc_23 (C : vx_C p s m args c cc nL (cw :: wAll) own D vwCl (tysG G) nwAll A) {i1 i2 : Nat} {n : Int32} (hl : Cond.methodLink own i1 yJ_copyOf ∈ wAll) (hf : Cond.fieldLink own i2 "ClassInference$Graph" "second" "[I" ∈ (cw :: wAll)) (h0 : ln a 23 < 2 ^ 31) (hn : ¬ n < 0) (hne : ¬ n = Int32.ofNat (ln a 23)) (hby : n.toNatClampNeg * 4 ≤ 536870912) (hR : 1 + 1 ≤ R.frames ∧ 8 + (3 + 11) + 27 ≤ R.locals) (hst : (((.ref (ob G 5) : Value) :: st).map fun v => v.category).sum ≤ 8) (hd1 : decode cc pc = .ok (.invokestatic i1, 3)) (hd2 : decode cc (pc + 3) = .ok (.putfield i2, 3)) (hcs : cells + 1 ≤ R.cells ∧ slots + n.toNatClampNeg ≤ R.slots) (h : ∀ (q : Nat) (a1 : L_) (r1 : S_), a1 = sAd a 23 q n.toNatClampNeg → r1 = sA r 23 (va_cpy (ar r 23) (fun _ => 0) 0 0 (cp_n n (ln a 23)).toNatClampNeg) → vx_V p l e R s m args below meth c A D vwCl nL (cells + 1) (slots + n.toNatClampNeg) Q (wo G a1 r1) (pc + 3 + 3) lv st) : vx_V p l e R s m args below meth c A D vwCl nL cells slots Q (wo G a r) pc lv (.int n :: .ref (ad a 23) :: .ref (ob G 5) :: st) := by
  refine x_callCopy (P := 31) (x := (ad a 23, .inl (G.2.1, ln a 23, .inl (ar r 23)))) (As := [.ref (ad a 23), .int n]) (st := .ref (ob G 5) :: st) C ((wo_a G a r (k := 23) (by decide)).trans (by rw [cid_i G (by decide)])) (raw_copyOf (ad a 23) (ln a 23) (ar r 23) n h0 hn hne hby) (va_cwS 2 C.1.2.2.2.2 (goodS hl wm448 wm4 wm449) rfl rfl rfl (by decide +kernel) hR) rfl hst hd1 hcs (fun q => ?_)
  refine x_put (ref := "ClassInference$Graph") (T := u9T_G) (N := 16) (v := .ref q) C (fun w h => List.mem_cons_of_mem _ (u9i_G w h)) u9t_G u9k_G u9n_G 5 (ci := 5) (fs := fl5 G a r) rfl rfl 2 (by decide) hf rfl rfl (u9k_G 2 (by decide)) rfl rfl (by simp [fl5]) hd2 ((wo G a r).set 5 (ob G 5, .inr (5, (fl5 G a r).set 2 (.ref q))) ++ [(q, .inl (G.2.1, n.toNatClampNeg, .inl (va_cpy (ar r 23) (fun _ => 0) 0 0 (cp_n n (ln a 23)).toNatClampNeg)))]) (List.set_append_left _ _ (by rw [wo_len]; decide)) ?_
  refine x_repl 31 (by rw [List.length_set, wo_len]; decide) ?_
  refine x_weq _ (by rw [← cid_i G (show 23 < 86 by decide)]; exact wo_grow G a r (k := 23) (by decide) (by decide) (wog23 G a r q _ _)) (h q _ _ rfl rfl)
set_option maxRecDepth 100000 in
set_option maxHeartbeats 40000000 in
theorem wog24 (G : G_) (a : L_) (r : S_) (q n : Nat) (g : Nat → Int32) : (woO G a r).set 5 (ob G 5, .inr (5, (fl5 G a r).set 3 (.ref q))) = woO G (sAd a 24 q n) (sA r 24 g) := rfl
set_option maxRecDepth 100000 in
set_option maxHeartbeats 40000000 in
theorem yc_24 (C : vx_C p s m args c cc nL (cw :: wAll) own D vwCl (tysG G) nwAll A) {i1 i2 : Nat} {n : Int32} (hl : Cond.methodLink own i1 yJ_copyOf ∈ wAll) (hf : Cond.fieldLink own i2 "ClassInference$Graph" "asked" "[I" ∈ (cw :: wAll)) (h0 : ln a 24 < 2 ^ 31) (hn : ¬ n < 0) (hne : ¬ n = Int32.ofNat (ln a 24)) (hby : n.toNatClampNeg * 4 ≤ 536870912) (hR : 1 + 1 ≤ R.frames ∧ 8 + (3 + 11) + 27 ≤ R.locals) (hst : (((.ref (ob G 5) : Value) :: st).map fun v => v.category).sum ≤ 8) (hd1 : decode cc pc = .ok (.invokestatic i1, 3)) (hd2 : decode cc (pc + 3) = .ok (.putfield i2, 3)) (hcs : cells + 1 ≤ R.cells ∧ slots + n.toNatClampNeg ≤ R.slots) (h : ∀ (q : Nat) (a1 : L_) (r1 : S_), a1 = sAd a 24 q n.toNatClampNeg → r1 = sA r 24 (va_cpy (ar r 24) (fun _ => 0) 0 0 (cp_n n (ln a 24)).toNatClampNeg) → vx_V p l e R s m args below meth c A D vwCl nL (cells + 1) (slots + n.toNatClampNeg) Q (wo G a1 r1) (pc + 3 + 3) lv st) : vx_V p l e R s m args below meth c A D vwCl nL cells slots Q (wo G a r) pc lv (.int n :: .ref (ad a 24) :: .ref (ob G 5) :: st) := by
  refine x_callCopy (P := 32) (x := (ad a 24, .inl (G.2.1, ln a 24, .inl (ar r 24)))) (As := [.ref (ad a 24), .int n]) (st := .ref (ob G 5) :: st) C ((wo_a G a r (k := 24) (by decide)).trans (by rw [cid_i G (by decide)])) (raw_copyOf (ad a 24) (ln a 24) (ar r 24) n h0 hn hne hby) (va_cwS 2 C.1.2.2.2.2 (goodS hl wm448 wm4 wm449) rfl rfl rfl (by decide +kernel) hR) rfl hst hd1 hcs (fun q => ?_)
  refine x_put (ref := "ClassInference$Graph") (T := u9T_G) (N := 16) (v := .ref q) C (fun w h => List.mem_cons_of_mem _ (u9i_G w h)) u9t_G u9k_G u9n_G 5 (ci := 5) (fs := fl5 G a r) rfl rfl 3 (by decide) hf rfl rfl (u9k_G 3 (by decide)) rfl rfl (by simp [fl5]) hd2 ((wo G a r).set 5 (ob G 5, .inr (5, (fl5 G a r).set 3 (.ref q))) ++ [(q, .inl (G.2.1, n.toNatClampNeg, .inl (va_cpy (ar r 24) (fun _ => 0) 0 0 (cp_n n (ln a 24)).toNatClampNeg)))]) (List.set_append_left _ _ (by rw [wo_len]; decide)) ?_
  refine x_repl 32 (by rw [List.length_set, wo_len]; decide) ?_
  refine x_weq _ (by rw [← cid_i G (show 24 < 86 by decide)]; exact wo_grow G a r (k := 24) (by decide) (by decide) (wog24 G a r q _ _)) (h q _ _ rfl rfl)
set_option maxRecDepth 100000 in
set_option maxHeartbeats 40000000 in
theorem wog25 (G : G_) (a : L_) (r : S_) (q n : Nat) (g : Nat → Int32) : (woO G a r).set 5 (ob G 5, .inr (5, (fl5 G a r).set 4 (.ref q))) = woO G (sAd a 25 q n) (sA r 25 g) := rfl
set_option maxRecDepth 100000 in
set_option maxHeartbeats 40000000 in
theorem yc_25 (C : vx_C p s m args c cc nL (cw :: wAll) own D vwCl (tysG G) nwAll A) {i1 i2 : Nat} {n : Int32} (hl : Cond.methodLink own i1 yJ_copyOf ∈ wAll) (hf : Cond.fieldLink own i2 "ClassInference$Graph" "kept" "[I" ∈ (cw :: wAll)) (h0 : ln a 25 < 2 ^ 31) (hn : ¬ n < 0) (hne : ¬ n = Int32.ofNat (ln a 25)) (hby : n.toNatClampNeg * 4 ≤ 536870912) (hR : 1 + 1 ≤ R.frames ∧ 8 + (3 + 11) + 27 ≤ R.locals) (hst : (((.ref (ob G 5) : Value) :: st).map fun v => v.category).sum ≤ 8) (hd1 : decode cc pc = .ok (.invokestatic i1, 3)) (hd2 : decode cc (pc + 3) = .ok (.putfield i2, 3)) (hcs : cells + 1 ≤ R.cells ∧ slots + n.toNatClampNeg ≤ R.slots) (h : ∀ (q : Nat) (a1 : L_) (r1 : S_), a1 = sAd a 25 q n.toNatClampNeg → r1 = sA r 25 (va_cpy (ar r 25) (fun _ => 0) 0 0 (cp_n n (ln a 25)).toNatClampNeg) → vx_V p l e R s m args below meth c A D vwCl nL (cells + 1) (slots + n.toNatClampNeg) Q (wo G a1 r1) (pc + 3 + 3) lv st) : vx_V p l e R s m args below meth c A D vwCl nL cells slots Q (wo G a r) pc lv (.int n :: .ref (ad a 25) :: .ref (ob G 5) :: st) := by
  refine x_callCopy (P := 33) (x := (ad a 25, .inl (G.2.1, ln a 25, .inl (ar r 25)))) (As := [.ref (ad a 25), .int n]) (st := .ref (ob G 5) :: st) C ((wo_a G a r (k := 25) (by decide)).trans (by rw [cid_i G (by decide)])) (raw_copyOf (ad a 25) (ln a 25) (ar r 25) n h0 hn hne hby) (va_cwS 2 C.1.2.2.2.2 (goodS hl wm448 wm4 wm449) rfl rfl rfl (by decide +kernel) hR) rfl hst hd1 hcs (fun q => ?_)
  refine x_put (ref := "ClassInference$Graph") (T := u9T_G) (N := 16) (v := .ref q) C (fun w h => List.mem_cons_of_mem _ (u9i_G w h)) u9t_G u9k_G u9n_G 5 (ci := 5) (fs := fl5 G a r) rfl rfl 4 (by decide) hf rfl rfl (u9k_G 4 (by decide)) rfl rfl (by simp [fl5]) hd2 ((wo G a r).set 5 (ob G 5, .inr (5, (fl5 G a r).set 4 (.ref q))) ++ [(q, .inl (G.2.1, n.toNatClampNeg, .inl (va_cpy (ar r 25) (fun _ => 0) 0 0 (cp_n n (ln a 25)).toNatClampNeg)))]) (List.set_append_left _ _ (by rw [wo_len]; decide)) ?_
  refine x_repl 33 (by rw [List.length_set, wo_len]; decide) ?_
  refine x_weq _ (by rw [← cid_i G (show 25 < 86 by decide)]; exact wo_grow G a r (k := 25) (by decide) (by decide) (wog25 G a r q _ _)) (h q _ _ rfl rfl)
set_option maxRecDepth 100000 in
set_option maxHeartbeats 40000000 in
theorem wog26 (G : G_) (a : L_) (r : S_) (q n : Nat) (g : Nat → Int32) : (woO G a r).set 5 (ob G 5, .inr (5, (fl5 G a r).set 5 (.ref q))) = woO G (sAd a 26 q n) (sA r 26 g) := rfl
set_option maxRecDepth 100000 in
set_option maxHeartbeats 40000000 in
theorem yc_26 (C : vx_C p s m args c cc nL (cw :: wAll) own D vwCl (tysG G) nwAll A) {i1 i2 : Nat} {n : Int32} (hl : Cond.methodLink own i1 yJ_copyOf ∈ wAll) (hf : Cond.fieldLink own i2 "ClassInference$Graph" "open" "[I" ∈ (cw :: wAll)) (h0 : ln a 26 < 2 ^ 31) (hn : ¬ n < 0) (hne : ¬ n = Int32.ofNat (ln a 26)) (hby : n.toNatClampNeg * 4 ≤ 536870912) (hR : 1 + 1 ≤ R.frames ∧ 8 + (3 + 11) + 27 ≤ R.locals) (hst : (((.ref (ob G 5) : Value) :: st).map fun v => v.category).sum ≤ 8) (hd1 : decode cc pc = .ok (.invokestatic i1, 3)) (hd2 : decode cc (pc + 3) = .ok (.putfield i2, 3)) (hcs : cells + 1 ≤ R.cells ∧ slots + n.toNatClampNeg ≤ R.slots) (h : ∀ (q : Nat) (a1 : L_) (r1 : S_), a1 = sAd a 26 q n.toNatClampNeg → r1 = sA r 26 (va_cpy (ar r 26) (fun _ => 0) 0 0 (cp_n n (ln a 26)).toNatClampNeg) → vx_V p l e R s m args below meth c A D vwCl nL (cells + 1) (slots + n.toNatClampNeg) Q (wo G a1 r1) (pc + 3 + 3) lv st) : vx_V p l e R s m args below meth c A D vwCl nL cells slots Q (wo G a r) pc lv (.int n :: .ref (ad a 26) :: .ref (ob G 5) :: st) := by
  refine x_callCopy (P := 34) (x := (ad a 26, .inl (G.2.1, ln a 26, .inl (ar r 26)))) (As := [.ref (ad a 26), .int n]) (st := .ref (ob G 5) :: st) C ((wo_a G a r (k := 26) (by decide)).trans (by rw [cid_i G (by decide)])) (raw_copyOf (ad a 26) (ln a 26) (ar r 26) n h0 hn hne hby) (va_cwS 2 C.1.2.2.2.2 (goodS hl wm448 wm4 wm449) rfl rfl rfl (by decide +kernel) hR) rfl hst hd1 hcs (fun q => ?_)
  refine x_put (ref := "ClassInference$Graph") (T := u9T_G) (N := 16) (v := .ref q) C (fun w h => List.mem_cons_of_mem _ (u9i_G w h)) u9t_G u9k_G u9n_G 5 (ci := 5) (fs := fl5 G a r) rfl rfl 5 (by decide) hf rfl rfl (u9k_G 5 (by decide)) rfl rfl (by simp [fl5]) hd2 ((wo G a r).set 5 (ob G 5, .inr (5, (fl5 G a r).set 5 (.ref q))) ++ [(q, .inl (G.2.1, n.toNatClampNeg, .inl (va_cpy (ar r 26) (fun _ => 0) 0 0 (cp_n n (ln a 26)).toNatClampNeg)))]) (List.set_append_left _ _ (by rw [wo_len]; decide)) ?_
  refine x_repl 34 (by rw [List.length_set, wo_len]; decide) ?_
  refine x_weq _ (by rw [← cid_i G (show 26 < 86 by decide)]; exact wo_grow G a r (k := 26) (by decide) (by decide) (wog26 G a r q _ _)) (h q _ _ rfl rfl)
set_option maxRecDepth 100000 in
set_option maxHeartbeats 40000000 in
theorem wog27 (G : G_) (a : L_) (r : S_) (q n : Nat) (g : Nat → Int32) : (woO G a r).set 5 (ob G 5, .inr (5, (fl5 G a r).set 6 (.ref q))) = woO G (sAd a 27 q n) (sA r 27 g) := rfl
set_option maxRecDepth 100000 in
set_option maxHeartbeats 40000000 in
theorem yc_27 (C : vx_C p s m args c cc nL (cw :: wAll) own D vwCl (tysG G) nwAll A) {i1 i2 : Nat} {n : Int32} (hl : Cond.methodLink own i1 yJ_copyOf ∈ wAll) (hf : Cond.fieldLink own i2 "ClassInference$Graph" "bound" "[I" ∈ (cw :: wAll)) (h0 : ln a 27 < 2 ^ 31) (hn : ¬ n < 0) (hne : ¬ n = Int32.ofNat (ln a 27)) (hby : n.toNatClampNeg * 4 ≤ 536870912) (hR : 1 + 1 ≤ R.frames ∧ 8 + (3 + 11) + 27 ≤ R.locals) (hst : (((.ref (ob G 5) : Value) :: st).map fun v => v.category).sum ≤ 8) (hd1 : decode cc pc = .ok (.invokestatic i1, 3)) (hd2 : decode cc (pc + 3) = .ok (.putfield i2, 3)) (hcs : cells + 1 ≤ R.cells ∧ slots + n.toNatClampNeg ≤ R.slots) (h : ∀ (q : Nat) (a1 : L_) (r1 : S_), a1 = sAd a 27 q n.toNatClampNeg → r1 = sA r 27 (va_cpy (ar r 27) (fun _ => 0) 0 0 (cp_n n (ln a 27)).toNatClampNeg) → vx_V p l e R s m args below meth c A D vwCl nL (cells + 1) (slots + n.toNatClampNeg) Q (wo G a1 r1) (pc + 3 + 3) lv st) : vx_V p l e R s m args below meth c A D vwCl nL cells slots Q (wo G a r) pc lv (.int n :: .ref (ad a 27) :: .ref (ob G 5) :: st) := by
  refine x_callCopy (P := 35) (x := (ad a 27, .inl (G.2.1, ln a 27, .inl (ar r 27)))) (As := [.ref (ad a 27), .int n]) (st := .ref (ob G 5) :: st) C ((wo_a G a r (k := 27) (by decide)).trans (by rw [cid_i G (by decide)])) (raw_copyOf (ad a 27) (ln a 27) (ar r 27) n h0 hn hne hby) (va_cwS 2 C.1.2.2.2.2 (goodS hl wm448 wm4 wm449) rfl rfl rfl (by decide +kernel) hR) rfl hst hd1 hcs (fun q => ?_)
  refine x_put (ref := "ClassInference$Graph") (T := u9T_G) (N := 16) (v := .ref q) C (fun w h => List.mem_cons_of_mem _ (u9i_G w h)) u9t_G u9k_G u9n_G 5 (ci := 5) (fs := fl5 G a r) rfl rfl 6 (by decide) hf rfl rfl (u9k_G 6 (by decide)) rfl rfl (by simp [fl5]) hd2 ((wo G a r).set 5 (ob G 5, .inr (5, (fl5 G a r).set 6 (.ref q))) ++ [(q, .inl (G.2.1, n.toNatClampNeg, .inl (va_cpy (ar r 27) (fun _ => 0) 0 0 (cp_n n (ln a 27)).toNatClampNeg)))]) (List.set_append_left _ _ (by rw [wo_len]; decide)) ?_
  refine x_repl 35 (by rw [List.length_set, wo_len]; decide) ?_
  refine x_weq _ (by rw [← cid_i G (show 27 < 86 by decide)]; exact wo_grow G a r (k := 27) (by decide) (by decide) (wog27 G a r q _ _)) (h q _ _ rfl rfl)
set_option maxRecDepth 100000 in
set_option maxHeartbeats 40000000 in
theorem wog28 (G : G_) (a : L_) (r : S_) (q n : Nat) (g : Nat → Int32) : (woO G a r).set 5 (ob G 5, .inr (5, (fl5 G a r).set 8 (.ref q))) = woO G (sAd a 28 q n) (sA r 28 g) := rfl
set_option maxRecDepth 100000 in
set_option maxHeartbeats 40000000 in
theorem yc_28 (C : vx_C p s m args c cc nL (cw :: wAll) own D vwCl (tysG G) nwAll A) {i1 i2 : Nat} {n : Int32} (hl : Cond.methodLink own i1 yJ_copyOf ∈ wAll) (hf : Cond.fieldLink own i2 "ClassInference$Graph" "visitedIn" "[I" ∈ (cw :: wAll)) (h0 : ln a 28 < 2 ^ 31) (hn : ¬ n < 0) (hne : ¬ n = Int32.ofNat (ln a 28)) (hby : n.toNatClampNeg * 4 ≤ 536870912) (hR : 1 + 1 ≤ R.frames ∧ 8 + (3 + 11) + 27 ≤ R.locals) (hst : (((.ref (ob G 5) : Value) :: st).map fun v => v.category).sum ≤ 8) (hd1 : decode cc pc = .ok (.invokestatic i1, 3)) (hd2 : decode cc (pc + 3) = .ok (.putfield i2, 3)) (hcs : cells + 1 ≤ R.cells ∧ slots + n.toNatClampNeg ≤ R.slots) (h : ∀ (q : Nat) (a1 : L_) (r1 : S_), a1 = sAd a 28 q n.toNatClampNeg → r1 = sA r 28 (va_cpy (ar r 28) (fun _ => 0) 0 0 (cp_n n (ln a 28)).toNatClampNeg) → vx_V p l e R s m args below meth c A D vwCl nL (cells + 1) (slots + n.toNatClampNeg) Q (wo G a1 r1) (pc + 3 + 3) lv st) : vx_V p l e R s m args below meth c A D vwCl nL cells slots Q (wo G a r) pc lv (.int n :: .ref (ad a 28) :: .ref (ob G 5) :: st) := by
  refine x_callCopy (P := 36) (x := (ad a 28, .inl (G.2.1, ln a 28, .inl (ar r 28)))) (As := [.ref (ad a 28), .int n]) (st := .ref (ob G 5) :: st) C ((wo_a G a r (k := 28) (by decide)).trans (by rw [cid_i G (by decide)])) (raw_copyOf (ad a 28) (ln a 28) (ar r 28) n h0 hn hne hby) (va_cwS 2 C.1.2.2.2.2 (goodS hl wm448 wm4 wm449) rfl rfl rfl (by decide +kernel) hR) rfl hst hd1 hcs (fun q => ?_)
  refine x_put (ref := "ClassInference$Graph") (T := u9T_G) (N := 16) (v := .ref q) C (fun w h => List.mem_cons_of_mem _ (u9i_G w h)) u9t_G u9k_G u9n_G 5 (ci := 5) (fs := fl5 G a r) rfl rfl 8 (by decide) hf rfl rfl (u9k_G 8 (by decide)) rfl rfl (by simp [fl5]) hd2 ((wo G a r).set 5 (ob G 5, .inr (5, (fl5 G a r).set 8 (.ref q))) ++ [(q, .inl (G.2.1, n.toNatClampNeg, .inl (va_cpy (ar r 28) (fun _ => 0) 0 0 (cp_n n (ln a 28)).toNatClampNeg)))]) (List.set_append_left _ _ (by rw [wo_len]; decide)) ?_
  refine x_repl 36 (by rw [List.length_set, wo_len]; decide) ?_
  refine x_weq _ (by rw [← cid_i G (show 28 < 86 by decide)]; exact wo_grow G a r (k := 28) (by decide) (by decide) (wog28 G a r q _ _)) (h q _ _ rfl rfl)
set_option maxRecDepth 100000 in
set_option maxHeartbeats 40000000 in
theorem wog29 (G : G_) (a : L_) (r : S_) (q n : Nat) (g : Nat → Int32) : (woO G a r).set 5 (ob G 5, .inr (5, (fl5 G a r).set 9 (.ref q))) = woO G (sAd a 29 q n) (sA r 29 g) := rfl
set_option maxRecDepth 100000 in
set_option maxHeartbeats 40000000 in
theorem yc_29 (C : vx_C p s m args c cc nL (cw :: wAll) own D vwCl (tysG G) nwAll A) {i1 i2 : Nat} {n : Int32} (hl : Cond.methodLink own i1 yJ_copyOf ∈ wAll) (hf : Cond.fieldLink own i2 "ClassInference$Graph" "value" "[I" ∈ (cw :: wAll)) (h0 : ln a 29 < 2 ^ 31) (hn : ¬ n < 0) (hne : ¬ n = Int32.ofNat (ln a 29)) (hby : n.toNatClampNeg * 4 ≤ 536870912) (hR : 1 + 1 ≤ R.frames ∧ 8 + (3 + 11) + 27 ≤ R.locals) (hst : (((.ref (ob G 5) : Value) :: st).map fun v => v.category).sum ≤ 8) (hd1 : decode cc pc = .ok (.invokestatic i1, 3)) (hd2 : decode cc (pc + 3) = .ok (.putfield i2, 3)) (hcs : cells + 1 ≤ R.cells ∧ slots + n.toNatClampNeg ≤ R.slots) (h : ∀ (q : Nat) (a1 : L_) (r1 : S_), a1 = sAd a 29 q n.toNatClampNeg → r1 = sA r 29 (va_cpy (ar r 29) (fun _ => 0) 0 0 (cp_n n (ln a 29)).toNatClampNeg) → vx_V p l e R s m args below meth c A D vwCl nL (cells + 1) (slots + n.toNatClampNeg) Q (wo G a1 r1) (pc + 3 + 3) lv st) : vx_V p l e R s m args below meth c A D vwCl nL cells slots Q (wo G a r) pc lv (.int n :: .ref (ad a 29) :: .ref (ob G 5) :: st) := by
  refine x_callCopy (P := 37) (x := (ad a 29, .inl (G.2.1, ln a 29, .inl (ar r 29)))) (As := [.ref (ad a 29), .int n]) (st := .ref (ob G 5) :: st) C ((wo_a G a r (k := 29) (by decide)).trans (by rw [cid_i G (by decide)])) (raw_copyOf (ad a 29) (ln a 29) (ar r 29) n h0 hn hne hby) (va_cwS 2 C.1.2.2.2.2 (goodS hl wm448 wm4 wm449) rfl rfl rfl (by decide +kernel) hR) rfl hst hd1 hcs (fun q => ?_)
  refine x_put (ref := "ClassInference$Graph") (T := u9T_G) (N := 16) (v := .ref q) C (fun w h => List.mem_cons_of_mem _ (u9i_G w h)) u9t_G u9k_G u9n_G 5 (ci := 5) (fs := fl5 G a r) rfl rfl 9 (by decide) hf rfl rfl (u9k_G 9 (by decide)) rfl rfl (by simp [fl5]) hd2 ((wo G a r).set 5 (ob G 5, .inr (5, (fl5 G a r).set 9 (.ref q))) ++ [(q, .inl (G.2.1, n.toNatClampNeg, .inl (va_cpy (ar r 29) (fun _ => 0) 0 0 (cp_n n (ln a 29)).toNatClampNeg)))]) (List.set_append_left _ _ (by rw [wo_len]; decide)) ?_
  refine x_repl 37 (by rw [List.length_set, wo_len]; decide) ?_
  refine x_weq _ (by rw [← cid_i G (show 29 < 86 by decide)]; exact wo_grow G a r (k := 29) (by decide) (by decide) (wog29 G a r q _ _)) (h q _ _ rfl rfl)
set_option maxRecDepth 100000 in
set_option maxHeartbeats 40000000 in
theorem wog30 (G : G_) (a : L_) (r : S_) (q n : Nat) (g : Nat → Int32) : (woO G a r).set 5 (ob G 5, .inr (5, (fl5 G a r).set 10 (.ref q))) = woO G (sAd a 30 q n) (sA r 30 g) := rfl
set_option maxRecDepth 100000 in
set_option maxHeartbeats 40000000 in
theorem yc_30 (C : vx_C p s m args c cc nL (cw :: wAll) own D vwCl (tysG G) nwAll A) {i1 i2 : Nat} {n : Int32} (hl : Cond.methodLink own i1 yJ_copyOf ∈ wAll) (hf : Cond.fieldLink own i2 "ClassInference$Graph" "order" "[I" ∈ (cw :: wAll)) (h0 : ln a 30 < 2 ^ 31) (hn : ¬ n < 0) (hne : ¬ n = Int32.ofNat (ln a 30)) (hby : n.toNatClampNeg * 4 ≤ 536870912) (hR : 1 + 1 ≤ R.frames ∧ 8 + (3 + 11) + 27 ≤ R.locals) (hst : (((.ref (ob G 5) : Value) :: st).map fun v => v.category).sum ≤ 8) (hd1 : decode cc pc = .ok (.invokestatic i1, 3)) (hd2 : decode cc (pc + 3) = .ok (.putfield i2, 3)) (hcs : cells + 1 ≤ R.cells ∧ slots + n.toNatClampNeg ≤ R.slots) (h : ∀ (q : Nat) (a1 : L_) (r1 : S_), a1 = sAd a 30 q n.toNatClampNeg → r1 = sA r 30 (va_cpy (ar r 30) (fun _ => 0) 0 0 (cp_n n (ln a 30)).toNatClampNeg) → vx_V p l e R s m args below meth c A D vwCl nL (cells + 1) (slots + n.toNatClampNeg) Q (wo G a1 r1) (pc + 3 + 3) lv st) : vx_V p l e R s m args below meth c A D vwCl nL cells slots Q (wo G a r) pc lv (.int n :: .ref (ad a 30) :: .ref (ob G 5) :: st) := by
  refine x_callCopy (P := 38) (x := (ad a 30, .inl (G.2.1, ln a 30, .inl (ar r 30)))) (As := [.ref (ad a 30), .int n]) (st := .ref (ob G 5) :: st) C ((wo_a G a r (k := 30) (by decide)).trans (by rw [cid_i G (by decide)])) (raw_copyOf (ad a 30) (ln a 30) (ar r 30) n h0 hn hne hby) (va_cwS 2 C.1.2.2.2.2 (goodS hl wm448 wm4 wm449) rfl rfl rfl (by decide +kernel) hR) rfl hst hd1 hcs (fun q => ?_)
  refine x_put (ref := "ClassInference$Graph") (T := u9T_G) (N := 16) (v := .ref q) C (fun w h => List.mem_cons_of_mem _ (u9i_G w h)) u9t_G u9k_G u9n_G 5 (ci := 5) (fs := fl5 G a r) rfl rfl 10 (by decide) hf rfl rfl (u9k_G 10 (by decide)) rfl rfl (by simp [fl5]) hd2 ((wo G a r).set 5 (ob G 5, .inr (5, (fl5 G a r).set 10 (.ref q))) ++ [(q, .inl (G.2.1, n.toNatClampNeg, .inl (va_cpy (ar r 30) (fun _ => 0) 0 0 (cp_n n (ln a 30)).toNatClampNeg)))]) (List.set_append_left _ _ (by rw [wo_len]; decide)) ?_
  refine x_repl 38 (by rw [List.length_set, wo_len]; decide) ?_
  refine x_weq _ (by rw [← cid_i G (show 30 < 86 by decide)]; exact wo_grow G a r (k := 30) (by decide) (by decide) (wog30 G a r q _ _)) (h q _ _ rfl rfl)
set_option maxRecDepth 100000 in
set_option maxHeartbeats 40000000 in
theorem wog31 (G : G_) (a : L_) (r : S_) (q n : Nat) (g : Nat → Int32) : (woO G a r).set 5 (ob G 5, .inr (5, (fl5 G a r).set 13 (.ref q))) = woO G (sAd a 31 q n) (sA r 31 g) := rfl
set_option maxRecDepth 100000 in
set_option maxHeartbeats 40000000 in
theorem yc_31 (C : vx_C p s m args c cc nL (cw :: wAll) own D vwCl (tysG G) nwAll A) {i1 i2 : Nat} {n : Int32} (hl : Cond.methodLink own i1 yJ_copyOf ∈ wAll) (hf : Cond.fieldLink own i2 "ClassInference$Graph" "stack" "[I" ∈ (cw :: wAll)) (h0 : ln a 31 < 2 ^ 31) (hn : ¬ n < 0) (hne : ¬ n = Int32.ofNat (ln a 31)) (hby : n.toNatClampNeg * 4 ≤ 536870912) (hR : 1 + 1 ≤ R.frames ∧ 8 + (3 + 11) + 27 ≤ R.locals) (hst : (((.ref (ob G 5) : Value) :: st).map fun v => v.category).sum ≤ 8) (hd1 : decode cc pc = .ok (.invokestatic i1, 3)) (hd2 : decode cc (pc + 3) = .ok (.putfield i2, 3)) (hcs : cells + 1 ≤ R.cells ∧ slots + n.toNatClampNeg ≤ R.slots) (h : ∀ (q : Nat) (a1 : L_) (r1 : S_), a1 = sAd a 31 q n.toNatClampNeg → r1 = sA r 31 (va_cpy (ar r 31) (fun _ => 0) 0 0 (cp_n n (ln a 31)).toNatClampNeg) → vx_V p l e R s m args below meth c A D vwCl nL (cells + 1) (slots + n.toNatClampNeg) Q (wo G a1 r1) (pc + 3 + 3) lv st) : vx_V p l e R s m args below meth c A D vwCl nL cells slots Q (wo G a r) pc lv (.int n :: .ref (ad a 31) :: .ref (ob G 5) :: st) := by
  refine x_callCopy (P := 39) (x := (ad a 31, .inl (G.2.1, ln a 31, .inl (ar r 31)))) (As := [.ref (ad a 31), .int n]) (st := .ref (ob G 5) :: st) C ((wo_a G a r (k := 31) (by decide)).trans (by rw [cid_i G (by decide)])) (raw_copyOf (ad a 31) (ln a 31) (ar r 31) n h0 hn hne hby) (va_cwS 2 C.1.2.2.2.2 (goodS hl wm448 wm4 wm449) rfl rfl rfl (by decide +kernel) hR) rfl hst hd1 hcs (fun q => ?_)
  refine x_put (ref := "ClassInference$Graph") (T := u9T_G) (N := 16) (v := .ref q) C (fun w h => List.mem_cons_of_mem _ (u9i_G w h)) u9t_G u9k_G u9n_G 5 (ci := 5) (fs := fl5 G a r) rfl rfl 13 (by decide) hf rfl rfl (u9k_G 13 (by decide)) rfl rfl (by simp [fl5]) hd2 ((wo G a r).set 5 (ob G 5, .inr (5, (fl5 G a r).set 13 (.ref q))) ++ [(q, .inl (G.2.1, n.toNatClampNeg, .inl (va_cpy (ar r 31) (fun _ => 0) 0 0 (cp_n n (ln a 31)).toNatClampNeg)))]) (List.set_append_left _ _ (by rw [wo_len]; decide)) ?_
  refine x_repl 39 (by rw [List.length_set, wo_len]; decide) ?_
  refine x_weq _ (by rw [← cid_i G (show 31 < 86 by decide)]; exact wo_grow G a r (k := 31) (by decide) (by decide) (wog31 G a r q _ _)) (h q _ _ rfl rfl)
end GROW2
