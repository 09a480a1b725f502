/-! A walk by stack meets leaves from left to right. -/
section ZSTK
variable {a1 a2 : Int32 → Prop} {g : Gr} {ρ : Int32 → Ut} {D S : List Int32} {Vs : Int32 → Prop} {x : Int32}
def DFI (g : Gr) (ρ : Int32 → Ut) (D : List Int32) (Vs : Int32 → Prop) (S : List Int32) : Prop := (∀ x, x ∈ D → Vs x) ∧ ∀ y, Vs y → ∃ A B, S = A ++ B ∧ (∀ s, s ∈ A → (ρ s).length < (ρ y).length) ∧ ∀ u, u ∈ LVS g ρ y → u ∈ D ∨ ∃ s, s ∈ A ∧ u ∈ LVS g ρ s
def FFd (g : Gr) (ρ : Int32 → Ut) (D S : List Int32) : List Int32 := dd D (S.flatMap (LVS g ρ))
theorem FF_c : FFd g ρ D (x :: S) = dd (dd D (LVS g ρ x)) (S.flatMap (LVS g ρ)) := by
  unfold FFd
  rw [List.flatMap_cons, dd_app]
theorem DF_vis (h : DFI g ρ D Vs (x :: S)) (hv : Vs x) : DFI g ρ D Vs S ∧ FFd g ρ D (x :: S) = FFd g ρ D S := by
  have sub : ∀ u, u ∈ LVS g ρ x → u ∈ D := by
    obtain ⟨A, B, e, r, l⟩ := h.2 x hv
    intro u hu
    cases A with
    | nil => exact (l u hu).resolve_right (fun ⟨s, hs, _⟩ => absurd hs List.not_mem_nil)
    | cons b A =>
      have e1 : x = b := (List.cons.inj e).1
      have := r b List.mem_cons_self
      rw [e1] at this
      omega
  refine ⟨⟨h.1, fun y hy => ?_⟩, ?_⟩
  · obtain ⟨A, B, e, r, l⟩ := h.2 y hy
    cases A with
    | nil => exact ⟨[], S, rfl, fun s hs => absurd hs List.not_mem_nil, fun u hu => Or.inl ((l u hu).resolve_right (fun ⟨s, hs, _⟩ => absurd hs List.not_mem_nil))⟩
    | cons b A =>
      have e' := List.cons.inj e
      refine ⟨A, B, e'.2, fun s hs => r s (List.mem_cons_of_mem _ hs), fun u hu => ?_⟩
      rcases l u hu with q | ⟨s, s1, s2⟩
      · exact Or.inl q
      · rcases List.mem_cons.mp s1 with q | q
        · rw [q, ← e'.1] at s2
          exact Or.inl (sub u s2)
        · exact Or.inr ⟨s, q, s2⟩
  · rw [FF_c, dd_sub _ _ sub]
    rfl
def p1L (g : Gr) (p : Int32) : List Int32 := if p = -1 then [] else [gR g p]
theorem p1L_f {p : Int32} : (p1L g p).flatMap (LVS g ρ) = pL g ρ p := by
  unfold p1L pL
  by_cases q : p = -1
  · rw [if_pos q, if_pos q]; rfl
  · rw [if_neg q, if_neg q, List.flatMap_cons, List.flatMap_nil, List.append_nil]
theorem DF_built (w : zGW a1 a2 g) (v : zVal g ρ) (hx : zRn g x) (hb : 0 ≤ gH g x) (h : DFI g ρ D Vs (x :: S)) : DFI g ρ D (fun y => Vs y ∨ y = x) (p1L g (gF g x) ++ (p1L g (gS g x) ++ S)) ∧ FFd g ρ D (x :: S) = FFd g ρ D (p1L g (gF g x) ++ (p1L g (gS g x) ++ S)) := by
  obtain ⟨_, p1, p2⟩ := pt_len w v hx hb
  have lb := LVS_b w v hx hb
  have sm : ∀ s, s ∈ p1L g (gF g x) ++ p1L g (gS g x) → (ρ s).length < (ρ x).length := fun s hs => by
    unfold p1L at hs
    rcases List.mem_append.mp hs with q | q
    · by_cases z : gF g x = -1
      · rw [if_pos z] at q; exact absurd q List.not_mem_nil
      · rw [if_neg z] at q; rw [List.mem_singleton.mp q]; exact (p1 z).2.2
    · by_cases z : gS g x = -1
      · rw [if_pos z] at q; exact absurd q List.not_mem_nil
      · rw [if_neg z] at q; rw [List.mem_singleton.mp q]; exact (p2 z).2.2
  have inn : ∀ u, u ∈ LVS g ρ x → ∃ s, s ∈ p1L g (gF g x) ++ p1L g (gS g x) ∧ u ∈ LVS g ρ s := fun u hu => by
    rw [lb, ← p1L_f, ← p1L_f, ← List.flatMap_append] at hu
    exact List.mem_flatMap.mp hu
  refine ⟨⟨fun y hy => Or.inl (h.1 y hy), fun y hy => ?_⟩, ?_⟩
  · rcases hy with hy | hy
    · obtain ⟨A, B, e, r, l⟩ := h.2 y hy
      cases A with
      | nil => exact ⟨[], _, rfl, fun s hs => absurd hs List.not_mem_nil, fun u hu => Or.inl ((l u hu).resolve_right (fun ⟨s, hs, _⟩ => absurd hs List.not_mem_nil))⟩
      | cons b A =>
        have e' := List.cons.inj e
        have rb := r b List.mem_cons_self
        rw [← e'.1] at rb
        refine ⟨(p1L g (gF g x) ++ p1L g (gS g x)) ++ A, B, by rw [e'.2]; simp [List.append_assoc], fun s hs => ?_, fun u hu => ?_⟩
        · rcases List.mem_append.mp hs with q | q
          · have := sm s q
            omega
          · exact r s (List.mem_cons_of_mem _ q)
        · rcases l u hu with q | ⟨s, s1, s2⟩
          · exact Or.inl q
          · rcases List.mem_cons.mp s1 with q | q
            · rw [q, ← e'.1] at s2
              obtain ⟨s', t1, t2⟩ := inn u s2
              exact Or.inr ⟨s', List.mem_append.mpr (Or.inl t1), t2⟩
            · exact Or.inr ⟨s, List.mem_append.mpr (Or.inr q), s2⟩
    · subst hy
      exact ⟨p1L g (gF g y) ++ p1L g (gS g y), S, by simp [List.append_assoc], sm, fun u hu => Or.inr (inn u hu)⟩
  · unfold FFd
    rw [List.flatMap_cons, List.flatMap_append, List.flatMap_append, p1L_f, p1L_f, lb, List.append_assoc]
theorem DF_var (hb : ¬ 0 ≤ gH g x) (nv : ¬ Vs x) (h : DFI g ρ D Vs (x :: S)) : DFI g ρ (D ++ [x]) (fun y => Vs y ∨ y = x) S ∧ FFd g ρ D (x :: S) = FFd g ρ (D ++ [x]) S := by
  have lx : LVS g ρ x = [x] := LVS_v hb
  have xd : x ∈ D ++ [x] := List.mem_append.mpr (Or.inr (List.mem_singleton.mpr rfl))
  have nd : ¬ x ∈ D := fun q => nv (h.1 x q)
  refine ⟨⟨fun y hy => ?_, fun y hy => ?_⟩, ?_⟩
  · rcases List.mem_append.mp hy with q | q
    · exact Or.inl (h.1 y q)
    · exact Or.inr (List.mem_singleton.mp q)
  · rcases hy with hy | hy
    · obtain ⟨A, B, e, r, l⟩ := h.2 y hy
      cases A with
      | nil => exact ⟨[], S, rfl, fun s hs => absurd hs List.not_mem_nil, fun u hu => Or.inl (List.mem_append.mpr (Or.inl ((l u hu).resolve_right (fun ⟨s, hs, _⟩ => absurd hs List.not_mem_nil))))⟩
      | cons b A =>
        have e' := List.cons.inj e
        refine ⟨A, B, e'.2, fun s hs => r s (List.mem_cons_of_mem _ hs), fun u hu => ?_⟩
        rcases l u hu with q | ⟨s, s1, s2⟩
        · exact Or.inl (List.mem_append.mpr (Or.inl q))
        · rcases List.mem_cons.mp s1 with q | q
          · rw [q, ← e'.1, lx, List.mem_singleton] at s2
            rw [s2]
            exact Or.inl xd
          · exact Or.inr ⟨s, q, s2⟩
    · subst hy
      refine ⟨[], S, rfl, fun s hs => absurd hs List.not_mem_nil, fun u hu => ?_⟩
      rw [lx, List.mem_singleton] at hu
      rw [hu]
      exact Or.inl xd
  · rw [FF_c, lx, dd, dd, if_neg nd]
    rfl
theorem DF_start : DFI g ρ [] (fun _ => False) [x] := ⟨fun y hy => absurd hy List.not_mem_nil, fun y hy => hy.elim⟩
theorem DF_end (h : FFd g ρ D [] = FFd g ρ [] [x]) : D = dd [] (LVS g ρ x) := by
  unfold FFd at h
  rw [List.flatMap_nil, List.flatMap_cons, List.flatMap_nil, List.append_nil] at h
  exact h
end ZSTK
