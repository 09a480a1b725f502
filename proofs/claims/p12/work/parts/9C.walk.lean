/-! The walk over the graph. -/
section WALK
def itm (v : Int32) : Int32 := if v < 0 then -1 - v else v
theorem i_suc {x y : Int32} (h0 : 0 ≤ x) (h : x < y) : (x + 1).toNatClampNeg = x.toNatClampNeg + 1 := by
  have h1 := i_inc h
  have h2 := i_nat h0
  have h3 : 0 ≤ x + 1 := by grind
  have h4 := i_nat h3
  omega
theorem i_pre {x : Int32} (h0 : 0 < x) : x.toNatClampNeg = (x - 1).toNatClampNeg + 1 := by
  have := i_suc (x := x - 1) (y := x) (by grind) (by grind)
  rw [← this]
  congr 1
  grind
theorem cnt_pre {p : Nat → Bool} {x : Int32} (h0 : 0 < x) : cnt p x.toNatClampNeg = cnt p (x - 1).toNatClampNeg + (if p (x - 1).toNatClampNeg then 1 else 0) := by
  rw [i_pre h0, cnt]
theorem cnt_suc {p : Nat → Bool} {x y : Int32} (h0 : 0 ≤ x) (h : x < y) : cnt p (x + 1).toNatClampNeg = cnt p x.toNatClampNeg + (if p x.toNatClampNeg then 1 else 0) := by
  rw [i_suc h0 h, cnt]
/-- sizes -/
def WA (c : Int32) (V : Nat → Int32) (vis o : Int32) (st : Nat → Int32) (hh : Int32) (d : Nat) : Prop := 0 ≤ o ∧ 0 ≤ hh ∧ hh.toInt + d ≤ 1 + 2 * (cnt (fun i => V i == vis) c.toNatClampNeg : Int) ∧ o.toInt + (cnt (fun i => decide (st i < 0)) hh.toNatClampNeg : Int) ≤ cnt (fun i => V i == vis) c.toNatClampNeg
/-- what is ordered and what lies on the stack -/
def WB (c : Int32) (h : Nat → Int32) (V : Nat → Int32) (vis : Int32) (ord : Nat → Int32) (o : Int32) (st : Nat → Int32) (hh : Int32) : Prop := (∀ k : Int32, 0 ≤ k → k < o → 0 ≤ ord k.toNatClampNeg ∧ ord k.toNatClampNeg < c ∧ ¬ h (ord k.toNatClampNeg).toNatClampNeg = -2 ∧ V (ord k.toNatClampNeg).toNatClampNeg = vis) ∧ (∀ k : Int32, 0 ≤ k → k < hh → (0 ≤ st k.toNatClampNeg → st k.toNatClampNeg < c ∧ ¬ h (st k.toNatClampNeg).toNatClampNeg = -2) ∧ (st k.toNatClampNeg < 0 → 0 ≤ -1 - st k.toNatClampNeg ∧ -1 - st k.toNatClampNeg < c ∧ ¬ h (-1 - st k.toNatClampNeg).toNatClampNeg = -2 ∧ V (-1 - st k.toNatClampNeg).toNatClampNeg = vis))
/-- of the visited ones -/
def WC (c : Int32) (h f s : Nat → Int32) (rh : Int32 → Int32) (V : Nat → Int32) (vis : Int32) (val ord : Nat → Int32) (o : Int32) (st : Nat → Int32) (hh px : Int32) (d : Nat) : Prop := ∀ x : Int32, 0 ≤ x → x < c → V x.toNatClampNeg = vis → ¬ h x.toNatClampNeg = -2 ∧ 0 ≤ val x.toNatClampNeg ∧ val x.toNatClampNeg < c ∧ ((∃ k : Int32, 0 ≤ k ∧ k < o ∧ ord k.toNatClampNeg = x) ∨ ∃ k : Int32, 0 ≤ k ∧ k < hh ∧ st k.toNatClampNeg = -1 - x) ∧ (¬ f x.toNatClampNeg = -1 → (x = px → d = 0) → V (rh (f x.toNatClampNeg)).toNatClampNeg = vis ∨ ∃ k : Int32, 0 ≤ k ∧ k < hh ∧ st k.toNatClampNeg = rh (f x.toNatClampNeg)) ∧ (¬ s x.toNatClampNeg = -1 → (x = px → d ≤ 1) → V (rh (s x.toNatClampNeg)).toNatClampNeg = vis ∨ ∃ k : Int32, 0 ≤ k ∧ k < hh ∧ st k.toNatClampNeg = rh (s x.toNatClampNeg))
/-- where no type is a part of itself: parts before wholes -/
def WD1 (rk : Int32 → Int32) (st : Nat → Int32) (hh : Int32) : Prop := ∀ p q : Int32, 0 ≤ p → p < q → q < hh → st p.toNatClampNeg < 0 → rk (itm (st q.toNatClampNeg)) < rk (-1 - st p.toNatClampNeg)
def onS (ord : Nat → Int32) (o : Int32) (st : Nat → Int32) (hh p y : Int32) : Prop := (∃ k : Int32, 0 ≤ k ∧ k < o ∧ ord k.toNatClampNeg = y) ∨ ∃ q : Int32, p < q ∧ q < hh ∧ itm (st q.toNatClampNeg) = y
def WD2 (f s : Nat → Int32) (rh : Int32 → Int32) (ord : Nat → Int32) (o : Int32) (st : Nat → Int32) (hh px : Int32) (d : Nat) : Prop := ∀ p : Int32, 0 ≤ p → p < hh → st p.toNatClampNeg < 0 → (¬ f (-1 - st p.toNatClampNeg).toNatClampNeg = -1 → (-1 - st p.toNatClampNeg = px → d = 0) → onS ord o st hh p (rh (f (-1 - st p.toNatClampNeg).toNatClampNeg))) ∧ (¬ s (-1 - st p.toNatClampNeg).toNatClampNeg = -1 → (-1 - st p.toNatClampNeg = px → d ≤ 1) → onS ord o st hh p (rh (s (-1 - st p.toNatClampNeg).toNatClampNeg)))
def WD3 (f s : Nat → Int32) (rh : Int32 → Int32) (ord : Nat → Int32) (o : Int32) : Prop := ∀ k : Int32, 0 ≤ k → k < o → (¬ f (ord k.toNatClampNeg).toNatClampNeg = -1 → ∃ j : Int32, 0 ≤ j ∧ j < k ∧ ord j.toNatClampNeg = rh (f (ord k.toNatClampNeg).toNatClampNeg)) ∧ (¬ s (ord k.toNatClampNeg).toNatClampNeg = -1 → ∃ j : Int32, 0 ≤ j ∧ j < k ∧ ord j.toNatClampNeg = rh (s (ord k.toNatClampNeg).toNatClampNeg))
def WE (st : Nat → Int32) (hh px pp : Int32) : Prop := 0 ≤ pp ∧ pp < hh ∧ st pp.toNatClampNeg = -1 - px ∧ 0 ≤ px ∧ ∀ q : Int32, pp < q → q < hh → 0 ≤ st q.toNatClampNeg
def ACY (c : Int32) (h f s : Nat → Int32) (rh rk : Int32 → Int32) : Prop := ∀ x : Int32, 0 ≤ x → x < c → ¬ h x.toNatClampNeg = -2 → (¬ f x.toNatClampNeg = -1 → rk (rh (f x.toNatClampNeg)) < rk x) ∧ (¬ s x.toNatClampNeg = -1 → rk (rh (s x.toNatClampNeg)) < rk x)
variable {c : Int32} {h f s : Nat → Int32} {rh rk : Int32 → Int32} {V : Nat → Int32} {vis : Int32} {val ord : Nat → Int32} {o : Int32} {st : Nat → Int32} {hh px pp : Int32} {d : Nat}
theorem WA_pop (w : WA c V vis o st hh 0) (h0 : 0 < hh) (h1 : 0 ≤ st (hh - 1).toNatClampNeg) : WA c V vis o st (hh - 1) 0 := by
  obtain ⟨a1, a2, a3, a4⟩ := w
  have e := cnt_pre (p := fun i => decide (st i < 0)) h0
  have e2 : ¬ st (hh - 1).toNatClampNeg < 0 := by grind
  have e3 : (hh - 1).toInt = hh.toInt - 1 := by
    have := ir hh
    rw [it] at h0
    exact i_sub (by simp at h0 ⊢; omega) (by simp at h0 ⊢; omega)
  simp [e2] at e
  refine ⟨a1, by grind, by omega, by omega⟩
theorem WA_mark (w : WA c V vis o st hh 0) (hc : cnt (fun i => V i == vis) c.toNatClampNeg ≤ 5000) (h0 : 0 < hh) (h1 : st (hh - 1).toNatClampNeg < 0) : WA c V vis (o + 1) st (hh - 1) 0 := by
  obtain ⟨a1, a2, a3, a4⟩ := w
  have e := cnt_pre (p := fun i => decide (st i < 0)) h0
  have e3 : (hh - 1).toInt = hh.toInt - 1 := by
    have := ir hh
    rw [it] at h0
    exact i_sub (by simp at h0 ⊢; omega) (by simp at h0 ⊢; omega)
  have e4 : o < 10000 := by rw [it, show (10000 : Int32).toInt = 10000 from rfl]; omega
  have e5 := i_inc e4
  simp [h1] at e
  refine ⟨by grind, by grind, by omega, by omega⟩
theorem WA_visit (w : WA c V vis o st hh 0) (h0 : 0 < hh) (h1 : 0 ≤ st (hh - 1).toNatClampNeg) (h2 : st (hh - 1).toNatClampNeg < c) (h3 : ¬ V (st (hh - 1).toNatClampNeg).toNatClampNeg = vis) : WA c (upd V (st (hh - 1).toNatClampNeg).toNatClampNeg vis) vis o (upd st (hh - 1).toNatClampNeg (-1 - st (hh - 1).toNatClampNeg)) hh 2 := by
  obtain ⟨a1, a2, a3, a4⟩ := w
  have e := cnt_pre (p := fun i => decide (st i < 0)) h0
  have e1 := cnt_pre (p := fun i => decide (upd st (hh - 1).toNatClampNeg (-1 - st (hh - 1).toNatClampNeg) i < 0)) h0
  have e2 : ¬ st (hh - 1).toNatClampNeg < 0 := by grind
  have e3 : -1 - st (hh - 1).toNatClampNeg < 0 := by grind
  have e4 : cnt (fun i => decide (upd st (hh - 1).toNatClampNeg (-1 - st (hh - 1).toNatClampNeg) i < 0)) (hh - 1).toNatClampNeg = cnt (fun i => decide (st i < 0)) (hh - 1).toNatClampNeg := by
    refine cnt_congr (fun i hi => ?_)
    rw [pk_un (by omega)]
  have e5 : cnt (fun i => upd V (st (hh - 1).toNatClampNeg).toNatClampNeg vis i == vis) c.toNatClampNeg = cnt (fun i => V i == vis) c.toNatClampNeg + 1 := by
    refine cnt_more (i := (st (hh - 1).toNatClampNeg).toNatClampNeg) ?_ (by simp [h3]) (by simp [pk_us]) (fun j _ hj => by rw [pk_un hj])
    have k1 := i_nat h1
    have k2 : 0 ≤ c := by grind
    have k3 := i_nat k2
    rw [it] at h2
    omega
  simp only [pk_us, e3, e2, decide_true, decide_false, if_true, reduceIte] at e e1
  unfold WA
  simp at e
  refine ⟨a1, a2, by omega, by omega⟩
theorem WA_skip {d : Nat} (w : WA c V vis o st hh (d + 1)) : WA c V vis o st hh d := by
  obtain ⟨a1, a2, a3, a4⟩ := w
  exact ⟨a1, a2, by omega, a4⟩
theorem WA_push {d : Nat} {y : Int32} (w : WA c V vis o st hh (d + 1)) (hc : cnt (fun i => V i == vis) c.toNatClampNeg ≤ 5000) (h1 : 0 ≤ y) : WA c V vis o (upd st hh.toNatClampNeg y) (hh + 1) d := by
  obtain ⟨a1, a2, a3, a4⟩ := w
  have e4 : hh < 20000 := by rw [it, show (20000 : Int32).toInt = 20000 from rfl]; omega
  have e5 := i_inc e4
  have e := cnt_suc (p := fun i => decide (upd st hh.toNatClampNeg y i < 0)) a2 e4
  have e2 : ¬ y < 0 := by grind
  have e6 : cnt (fun i => decide (upd st hh.toNatClampNeg y i < 0)) hh.toNatClampNeg = cnt (fun i => decide (st i < 0)) hh.toNatClampNeg := by
    refine cnt_congr (fun i hi => ?_)
    rw [pk_un (by omega)]
  simp [pk_us, e2] at e
  refine ⟨a1, by grind, by omega, by omega⟩
theorem WB_pop (w : WB c h V vis ord o st hh) (h0 : 0 < hh) : WB c h V vis ord o st (hh - 1) := ⟨w.1, fun k k1 k2 => w.2 k k1 (by grind)⟩
theorem WB_mark (w : WB c h V vis ord o st hh) (h0 : 0 < hh) (ho : 0 ≤ o) (ho2 : o < 10000) (h1 : st (hh - 1).toNatClampNeg < 0) : WB c h V vis (upd ord o.toNatClampNeg (-1 - st (hh - 1).toNatClampNeg)) (o + 1) st (hh - 1) := by
  have w3 := w.2 (hh - 1) (by grind) (by grind)
  refine ⟨fun k k1 k2 => ?_, fun k k1 k2 => w.2 k k1 (by grind)⟩
  rw [updI ord _ ho k1]
  by_cases e : k = o
  · simp only [e, if_true]
    exact w3.2 h1
  · simp only [e, if_false]
    exact w.1 k k1 (by grind)
theorem WB_visit (w : WB c h V vis ord o st hh) (h0 : 0 < hh) (h1 : 0 ≤ st (hh - 1).toNatClampNeg) : WB c h (upd V (st (hh - 1).toNatClampNeg).toNatClampNeg vis) vis ord o (upd st (hh - 1).toNatClampNeg (-1 - st (hh - 1).toNatClampNeg)) hh := by
  have w3 := w.2 (hh - 1) (by grind) (by grind)
  refine ⟨fun k k1 k2 => ?_, fun k k1 k2 => ?_⟩
  · have := w.1 k k1 k2
    rw [updI V _ h1 this.1]
    refine ⟨this.1, this.2.1, this.2.2.1, ?_⟩
    split
    · rfl
    · exact this.2.2.2
  · have := w.2 k k1 k2
    rw [updI st _ (by grind) k1]
    by_cases e : k = hh - 1
    · simp only [e, if_true]
      have e1 : -1 - (-1 - st (hh - 1).toNatClampNeg) = st (hh - 1).toNatClampNeg := by grind
      rw [e1, pk_us]
      exact ⟨fun g => absurd g (by clear w this; grind), fun _ => ⟨h1, (w3.1 h1).1, (w3.1 h1).2, rfl⟩⟩
    · simp only [e, if_false]
      refine ⟨this.1, fun g => ?_⟩
      have g2 := this.2 g
      rw [updI V _ h1 g2.1]
      refine ⟨g2.1, g2.2.1, g2.2.2.1, ?_⟩
      split
      · rfl
      · exact g2.2.2.2
theorem WB_push {y : Int32} (w : WB c h V vis ord o st hh) (h0 : 0 ≤ hh) (h9 : hh < 20000) (h1 : 0 ≤ y) (h2 : y < c) (h3 : ¬ h y.toNatClampNeg = -2) : WB c h V vis ord o (upd st hh.toNatClampNeg y) (hh + 1) := by
  refine ⟨w.1, fun k k1 k2 => ?_⟩
  rw [updI st _ h0 k1]
  by_cases e : k = hh
  · simp only [e, if_true]
    exact ⟨fun _ => ⟨h2, h3⟩, fun g => absurd g (by grind)⟩
  · simp only [e, if_false]
    exact w.2 k k1 (by grind)
end WALK
