
/-- the arrays that are never replaced stay where they are -/
def fx (a b : L_) : Prop := ∀ k, (k < 21 ∨ 36 ≤ k ∧ k < 89) → b.1 k = a.1 k ∧ b.2 k = a.2 k
theorem fx_refl (a : L_) : fx a a := fun _ _ => ⟨rfl, rfl⟩
theorem fx_trans {a b c : L_} (h1 : fx a b) (h2 : fx b c) : fx a c := fun k hk => ⟨(h2 k hk).1.trans (h1 k hk).1, (h2 k hk).2.trans (h1 k hk).2⟩
theorem fx_sAd {a : L_} {k q n : Nat} (hk : 21 ≤ k ∧ k < 36 ∨ k = 89) : fx a (sAd a k q n) := by
  intro j hj
  have h : j ≠ k := by omega
  simp [sAd, h]
theorem x_steq {p : Program} {l : Launch} {e : Env} {R : Room} {s : State} {m : MethodId} {args : Array Value} {below : List Frame} {meth : Method} {c : Code} {cells slots : Nat} {Q : State → Prop} {A : Nat → Prop} {D : va_G} {cl : List vw_C} {nL pc : Nat} {ws : va_W} {lv : List (Nat × Value)} {st : List Value} (st2 : List Value) (h : st = st2) (k : vx_V p l e R s m args below meth c A D cl nL cells slots Q ws pc lv st2) : vx_V p l e R s m args below meth c A D cl nL cells slots Q ws pc lv st := h ▸ k

theorem wo_growL (G : G_) (a : L_) (r : S_) {ob q n : Nat} (hob : ob < 8) {x : Nat × va_E} {g : Nat → Int64} (hO : (woO G a r).set ob x = woO G (sAd a 89 q n) (sL r 0 g)) : ((wo G a r).set ob x).set 97 (q, .inl (G.2.2.2, n, .inr (.inl g))) = wo G (sAd a 89 q n) (sL r 0 g) := by
  unfold wo
  rw [List.set_append_left _ _ (by simp [woO]; exact hob), hO, List.set_append_right _ _ (by simp [woO]), show 97 - (woO G (sAd a 89 q n) (sL r 0 g)).length = 89 by simp [woO], List.set_append_right _ _ (by simp [woA])]
  have h : woA G a r = woA G (sAd a 89 q n) (sL r 0 g) := by
    unfold woA
    apply List.map_congr_left
    intro k hk
    have hk2 : k ≠ 89 := by have := List.mem_range.mp hk; omega
    simp [ar, sL, sAd, ad, ln, hk2]
  rw [h]
  simp [woA, sAd, ad, ln, la, sL]
section NEWR
variable {p : Program} {l : Launch} {e : Env} {R : Room} {s : State} {m : MethodId} {args : Array Value} {below : List Frame} {meth : Method} {c : Code} {cells slots : Nat} {Q : State → Prop}
variable {A : Nat → Prop} {D : va_G} {nL pc : Nat} {cc : ByteArray} {cw : Cond} {own : String} {lv : List (Nat × Value)} {st : List Value} {G : G_} {a : L_} {r : S_}
set_option maxRecDepth 100000 in
set_option maxHeartbeats 40000000 in
theorem wog32 (G : G_) (a : L_) (r : S_) (q n : Nat) (g : Nat → Int32) : (woO G a r).set 6 (ob G 6, .inr (6, (fl6 G a r).set 0 (.ref q))) = woO G (sAd a 32 q n) (sA r 32 g) := rfl
set_option maxRecDepth 100000 in
set_option maxHeartbeats 40000000 in
theorem yn_32 (C : vx_C p s m args c cc nL (cw :: wAll) own D vwCl (tysG G) nwAll A) {i2 : Nat} {n : Int32} (hf : Cond.fieldLink own i2 "ClassInference$Told" "head" "[I" ∈ (cw :: wAll)) (hn : ¬ n < 0) (hby : n.toNatClampNeg * 4 ≤ 536870912) (hd1 : decode cc pc = .ok (.newarray .int, 2)) (hd2 : decode cc (pc + 2) = .ok (.putfield i2, 3)) (hcs : cells + 1 ≤ R.cells ∧ slots + n.toNatClampNeg ≤ R.slots) (h : ∀ (q : Nat) (a1 : L_) (r1 : S_), a1 = sAd a 32 q n.toNatClampNeg → r1 = sA r 32 (fun _ => 0) → vx_V p l e R s m args below meth c A D vwCl nL (cells + 1) (slots + n.toNatClampNeg) Q (wo G a1 r1) (pc + 2 + 3) lv st) : vx_V p l e R s m args below meth c A D vwCl nL cells slots Q (wo G a r) pc lv (.int n :: .ref (ob G 6) :: st) := by
  refine x_newa (atype := .int) (ty := .int) (N := n.toNatClampNeg) (a0 := (n.toNatClampNeg, .inl (fun _ => 0))) C (List.mem_cons_of_mem _ wm59) rfl 0 rfl (fun _ => rfl) hn rfl hby hcs.1 hcs.2 hd1 (fun q => ?_)
  refine x_put (ref := "ClassInference$Told") (T := u9T_D) (N := 9) (v := .ref q) C (fun w h => List.mem_cons_of_mem _ (u9i_D w h)) u9t_D u9k_D u9n_D 6 (ci := 6) (fs := fl6 G a r) rfl rfl 0 (by decide) hf rfl rfl (u9k_D 0 (by decide)) rfl rfl (by simp [fl6]) hd2 ((wo G a r).set 6 (ob G 6, .inr (6, (fl6 G a r).set 0 (.ref q))) ++ [(q, .inl (G.2.1, n.toNatClampNeg, .inl (fun _ => 0)))]) (List.set_append_left _ _ (by rw [wo_len]; decide)) ?_
  refine x_repl 40 (by rw [List.length_set, wo_len]; decide) ?_
  refine x_weq _ (by rw [← cid_i G (show 32 < 86 by decide)]; exact wo_grow G a r (k := 32) (by decide) (by decide) (wog32 G a r q _ _)) (h q _ _ rfl rfl)
set_option maxRecDepth 100000 in
set_option maxHeartbeats 40000000 in
theorem wog33 (G : G_) (a : L_) (r : S_) (q n : Nat) (g : Nat → Int32) : (woO G a r).set 6 (ob G 6, .inr (6, (fl6 G a r).set 1 (.ref q))) = woO G (sAd a 33 q n) (sA r 33 g) := rfl
set_option maxRecDepth 100000 in
set_option maxHeartbeats 40000000 in
theorem yn_33 (C : vx_C p s m args c cc nL (cw :: wAll) own D vwCl (tysG G) nwAll A) {i2 : Nat} {n : Int32} (hf : Cond.fieldLink own i2 "ClassInference$Told" "first" "[I" ∈ (cw :: wAll)) (hn : ¬ n < 0) (hby : n.toNatClampNeg * 4 ≤ 536870912) (hd1 : decode cc pc = .ok (.newarray .int, 2)) (hd2 : decode cc (pc + 2) = .ok (.putfield i2, 3)) (hcs : cells + 1 ≤ R.cells ∧ slots + n.toNatClampNeg ≤ R.slots) (h : ∀ (q : Nat) (a1 : L_) (r1 : S_), a1 = sAd a 33 q n.toNatClampNeg → r1 = sA r 33 (fun _ => 0) → vx_V p l e R s m args below meth c A D vwCl nL (cells + 1) (slots + n.toNatClampNeg) Q (wo G a1 r1) (pc + 2 + 3) lv st) : vx_V p l e R s m args below meth c A D vwCl nL cells slots Q (wo G a r) pc lv (.int n :: .ref (ob G 6) :: st) := by
  refine x_newa (atype := .int) (ty := .int) (N := n.toNatClampNeg) (a0 := (n.toNatClampNeg, .inl (fun _ => 0))) C (List.mem_cons_of_mem _ wm59) rfl 0 rfl (fun _ => rfl) hn rfl hby hcs.1 hcs.2 hd1 (fun q => ?_)
  refine x_put (ref := "ClassInference$Told") (T := u9T_D) (N := 9) (v := .ref q) C (fun w h => List.mem_cons_of_mem _ (u9i_D w h)) u9t_D u9k_D u9n_D 6 (ci := 6) (fs := fl6 G a r) rfl rfl 1 (by decide) hf rfl rfl (u9k_D 1 (by decide)) rfl rfl (by simp [fl6]) hd2 ((wo G a r).set 6 (ob G 6, .inr (6, (fl6 G a r).set 1 (.ref q))) ++ [(q, .inl (G.2.1, n.toNatClampNeg, .inl (fun _ => 0)))]) (List.set_append_left _ _ (by rw [wo_len]; decide)) ?_
  refine x_repl 41 (by rw [List.length_set, wo_len]; decide) ?_
  refine x_weq _ (by rw [← cid_i G (show 33 < 86 by decide)]; exact wo_grow G a r (k := 33) (by decide) (by decide) (wog33 G a r q _ _)) (h q _ _ rfl rfl)
set_option maxRecDepth 100000 in
set_option maxHeartbeats 40000000 in
theorem wog34 (G : G_) (a : L_) (r : S_) (q n : Nat) (g : Nat → Int32) : (woO G a r).set 6 (ob G 6, .inr (6, (fl6 G a r).set 2 (.ref q))) = woO G (sAd a 34 q n) (sA r 34 g) := rfl
set_option maxRecDepth 100000 in
set_option maxHeartbeats 40000000 in
theorem yn_34 (C : vx_C p s m args c cc nL (cw :: wAll) own D vwCl (tysG G) nwAll A) {i2 : Nat} {n : Int32} (hf : Cond.fieldLink own i2 "ClassInference$Told" "second" "[I" ∈ (cw :: wAll)) (hn : ¬ n < 0) (hby : n.toNatClampNeg * 4 ≤ 536870912) (hd1 : decode cc pc = .ok (.newarray .int, 2)) (hd2 : decode cc (pc + 2) = .ok (.putfield i2, 3)) (hcs : cells + 1 ≤ R.cells ∧ slots + n.toNatClampNeg ≤ R.slots) (h : ∀ (q : Nat) (a1 : L_) (r1 : S_), a1 = sAd a 34 q n.toNatClampNeg → r1 = sA r 34 (fun _ => 0) → vx_V p l e R s m args below meth c A D vwCl nL (cells + 1) (slots + n.toNatClampNeg) Q (wo G a1 r1) (pc + 2 + 3) lv st) : vx_V p l e R s m args below meth c A D vwCl nL cells slots Q (wo G a r) pc lv (.int n :: .ref (ob G 6) :: st) := by
  refine x_newa (atype := .int) (ty := .int) (N := n.toNatClampNeg) (a0 := (n.toNatClampNeg, .inl (fun _ => 0))) C (List.mem_cons_of_mem _ wm59) rfl 0 rfl (fun _ => rfl) hn rfl hby hcs.1 hcs.2 hd1 (fun q => ?_)
  refine x_put (ref := "ClassInference$Told") (T := u9T_D) (N := 9) (v := .ref q) C (fun w h => List.mem_cons_of_mem _ (u9i_D w h)) u9t_D u9k_D u9n_D 6 (ci := 6) (fs := fl6 G a r) rfl rfl 2 (by decide) hf rfl rfl (u9k_D 2 (by decide)) rfl rfl (by simp [fl6]) hd2 ((wo G a r).set 6 (ob G 6, .inr (6, (fl6 G a r).set 2 (.ref q))) ++ [(q, .inl (G.2.1, n.toNatClampNeg, .inl (fun _ => 0)))]) (List.set_append_left _ _ (by rw [wo_len]; decide)) ?_
  refine x_repl 42 (by rw [List.length_set, wo_len]; decide) ?_
  refine x_weq _ (by rw [← cid_i G (show 34 < 86 by decide)]; exact wo_grow G a r (k := 34) (by decide) (by decide) (wog34 G a r q _ _)) (h q _ _ rfl rfl)
set_option maxRecDepth 100000 in
set_option maxHeartbeats 40000000 in
theorem wog89 (G : G_) (a : L_) (r : S_) (q n : Nat) (g : Nat → Int64) : (woO G a r).set 6 (ob G 6, .inr (6, (fl6 G a r).set 3 (.ref q))) = woO G (sAd a 89 q n) (sL r 0 g) := rfl
set_option maxRecDepth 100000 in
set_option maxHeartbeats 40000000 in
theorem yn_89 (C : vx_C p s m args c cc nL (cw :: wAll) own D vwCl (tysG G) nwAll A) {i2 : Nat} {n : Int32} (hf : Cond.fieldLink own i2 "ClassInference$Told" "size" "[J" ∈ (cw :: wAll)) (hn : ¬ n < 0) (hby : n.toNatClampNeg * 8 ≤ 536870912) (hd1 : decode cc pc = .ok (.newarray .long, 2)) (hd2 : decode cc (pc + 2) = .ok (.putfield i2, 3)) (hcs : cells + 1 ≤ R.cells ∧ slots + n.toNatClampNeg ≤ R.slots) (h : ∀ (q : Nat) (a1 : L_) (r1 : S_), a1 = sAd a 89 q n.toNatClampNeg → r1 = sL r 0 (fun _ => 0) → vx_V p l e R s m args below meth c A D vwCl nL (cells + 1) (slots + n.toNatClampNeg) Q (wo G a1 r1) (pc + 2 + 3) lv st) : vx_V p l e R s m args below meth c A D vwCl nL cells slots Q (wo G a r) pc lv (.int n :: .ref (ob G 6) :: st) := by
  refine x_newa (atype := .long) (ty := .long) (N := n.toNatClampNeg) (a0 := (n.toNatClampNeg, .inr (.inl (fun _ => 0)))) C (List.mem_cons_of_mem _ wm277) rfl 2 rfl (fun _ => rfl) hn rfl hby hcs.1 hcs.2 hd1 (fun q => ?_)
  refine x_put (ref := "ClassInference$Told") (T := u9T_D) (N := 9) (v := .ref q) C (fun w h => List.mem_cons_of_mem _ (u9i_D w h)) u9t_D u9k_D u9n_D 6 (ci := 6) (fs := fl6 G a r) rfl rfl 3 (by decide) hf rfl rfl (u9k_D 3 (by decide)) rfl rfl (by simp [fl6]) hd2 ((wo G a r).set 6 (ob G 6, .inr (6, (fl6 G a r).set 3 (.ref q))) ++ [(q, .inl (G.2.2.2, n.toNatClampNeg, .inr (.inl (fun _ => 0))))]) (List.set_append_left _ _ (by rw [wo_len]; decide)) ?_
  refine x_repl 97 (by rw [List.length_set, wo_len]; decide) ?_
  refine x_weq _ (by exact wo_growL G a r (by decide) (wog89 G a r q _ _)) (h q _ _ rfl rfl)
set_option maxRecDepth 100000 in
set_option maxHeartbeats 40000000 in
theorem wog35 (G : G_) (a : L_) (r : S_) (q n : Nat) (g : Nat → Int32) : (woO G a r).set 6 (ob G 6, .inr (6, (fl6 G a r).set 5 (.ref q))) = woO G (sAd a 35 q n) (sA r 35 g) := rfl
set_option maxRecDepth 100000 in
set_option maxHeartbeats 40000000 in
theorem yn_35 (C : vx_C p s m args c cc nL (cw :: wAll) own D vwCl (tysG G) nwAll A) {i2 : Nat} {n : Int32} (hf : Cond.fieldLink own i2 "ClassInference$Told" "classes" "[I" ∈ (cw :: wAll)) (hn : ¬ n < 0) (hby : n.toNatClampNeg * 4 ≤ 536870912) (hd1 : decode cc pc = .ok (.newarray .int, 2)) (hd2 : decode cc (pc + 2) = .ok (.putfield i2, 3)) (hcs : cells + 1 ≤ R.cells ∧ slots + n.toNatClampNeg ≤ R.slots) (h : ∀ (q : Nat) (a1 : L_) (r1 : S_), a1 = sAd a 35 q n.toNatClampNeg → r1 = sA r 35 (fun _ => 0) → vx_V p l e R s m args below meth c A D vwCl nL (cells + 1) (slots + n.toNatClampNeg) Q (wo G a1 r1) (pc + 2 + 3) lv st) : vx_V p l e R s m args below meth c A D vwCl nL cells slots Q (wo G a r) pc lv (.int n :: .ref (ob G 6) :: st) := by
  refine x_newa (atype := .int) (ty := .int) (N := n.toNatClampNeg) (a0 := (n.toNatClampNeg, .inl (fun _ => 0))) C (List.mem_cons_of_mem _ wm59) rfl 0 rfl (fun _ => rfl) hn rfl hby hcs.1 hcs.2 hd1 (fun q => ?_)
  refine x_put (ref := "ClassInference$Told") (T := u9T_D) (N := 9) (v := .ref q) C (fun w h => List.mem_cons_of_mem _ (u9i_D w h)) u9t_D u9k_D u9n_D 6 (ci := 6) (fs := fl6 G a r) rfl rfl 5 (by decide) hf rfl rfl (u9k_D 5 (by decide)) rfl rfl (by simp [fl6]) hd2 ((wo G a r).set 6 (ob G 6, .inr (6, (fl6 G a r).set 5 (.ref q))) ++ [(q, .inl (G.2.1, n.toNatClampNeg, .inl (fun _ => 0)))]) (List.set_append_left _ _ (by rw [wo_len]; decide)) ?_
  refine x_repl 43 (by rw [List.length_set, wo_len]; decide) ?_
  refine x_weq _ (by rw [← cid_i G (show 35 < 86 by decide)]; exact wo_grow G a r (k := 35) (by decide) (by decide) (wog35 G a r q _ _)) (h q _ _ rfl rfl)
end NEWR
