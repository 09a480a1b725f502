/-! The reference: find, and a term more. -/
section ZMNEW
variable {a : L_} {r r' : S_} {rh ta : Int32 → Int32} {N : Int32}
theorem ws_mfind (w : MI a r rh ta N) {x : Int32} (h1 : 0 ≤ x) (h2 : x < fi r 28) {K : Int32 → Prop} (hK : K (rh x)) : wM_find a r K x :=
  wq_M_find (K := fun z => z = rh x) (K2 := fun _ => True) (fun z h _ => by rw [h]; exact hK) (find_ok w h1 h2 rfl) (wa_M_find (fun _ => trivial))
theorem VM_loc (w : MI a r rh ta N) {ρ ρ' : Int32 → Ut} (h : ∀ x, x < fi r 28 → ρ x = ρ' x) (v : VM r ρ) : VM r ρ' := by
  have c0 := w.2.2.1.1
  have m1 : (-1 : Int32) < fi r 28 := by clear w v h; grind
  refine ⟨by rw [← h _ m1]; exact v.1, fun x x0 x1 => ?_⟩
  have n := w.2.2.2.1 x x0 x1
  rw [← h x x1, ← h _ n.1.2, ← h _ n.2.2.1.2, ← h _ n.2.2.2.1.2]
  exact v.2 x x0 x1
theorem NT_VM {p0 p1 p2 : Int32} (h0 : 0 ≤ fi r 28) (h1 : (fi r 28).toInt < 40000) (h : NT r r' p0 p1 p2) {ρ : Int32 → Ut} : VM r' ρ ↔ VM r ρ ∧ (0 ≤ p0 → ρ (fi r 28) = Jn p0 (ρ p1) (ρ p2)) := by
  obtain ⟨e28, f, old, v64, v65, v66, v67, _⟩ := h
  have lt : fi r 28 < 40000 := by rw [it, show (40000 : Int32).toInt = 40000 from rfl]; exact h1
  have inc := i_inc lt
  have up : fi r 28 < fi r' 28 := by rw [e28, it, inc]; omega
  have lst : ∀ x : Int32, x < fi r' 28 → ¬ x < fi r 28 → x = fi r 28 := fun x h1 h2 => by
    rw [it, e28, inc] at h1
    rw [it] at h2
    apply Int32.toInt_inj.mp
    omega
  constructor
  · rintro ⟨v0, v⟩
    refine ⟨⟨v0, fun x x0 x1 => ?_⟩, fun q => ?_⟩
    · have k := v x x0 (ltt x1 up)
      rw [old x x0 x1 64, old x x0 x1 65, old x x0 x1 66, old x x0 x1 67] at k
      exact k
    · have k := (v (fi r 28) h0 up).2
      rw [v65, v66, v67] at k
      exact k q
  · rintro ⟨⟨v0, v⟩, hz⟩
    refine ⟨v0, fun x x0 x1 => ?_⟩
    by_cases q : x < fi r 28
    · rw [old x x0 q 64, old x x0 q 65, old x x0 q 66, old x x0 q 67]
      exact v x x0 q
    · rw [lst x x1 q, v64, v65, v66, v67]
      exact ⟨rfl, hz⟩
theorem ws_mnew (hM : ML a) (h0 : 0 ≤ fi r 28) (h1 : (fi r 28).toInt < 40000) {p0 p1 p2 : Int32} {K : Int32 → S_ → Prop} (hK : ∀ r', NT r r' p0 p1 p2 → K (fi r 28) r') : wM_newTerm a K r p0 p1 p2 :=
  wq_M_newTerm (K := fun z r' => z = fi r 28 ∧ NT r r' p0 p1 p2) (K2 := fun _ _ => True) (fun z r' h _ => by rw [h.1]; exact hK r' h.2) (newTerm_ok hM h0 h1 (fun r' h => ⟨rfl, h⟩)) (wa_M_newTerm (fun _ _ => trivial))
end ZMNEW
