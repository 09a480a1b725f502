/-! The reference: what is around, as a list; steps. -/
section ZMCTX
variable {a : L_} {rI r r' r1 r2 : S_} {rh ta : Int32 → Int32} {N : Int32}
theorem VM_Fr {F A : List Nat} (h : Fr F A r r') (h1 : 28 ∉ F) (h2 : 64 ∉ A ∧ 65 ∉ A ∧ 66 ∉ A ∧ 67 ∉ A) : VM r' = VM r := by
  unfold VM
  rw [h.1 28 h1, h.2.1 64 h2.1, h.2.1 65 h2.2.1, h.2.1 66 h2.2.2.1, h.2.1 67 h2.2.2.2]
theorem mW_Fr {F A : List Nat} (h : Fr F A r r') (h1 : 31 ∉ F) (h2 : 75 ∉ A ∧ 76 ∉ A) {p : Int32} : mW r' p = mW r p := by
  unfold mW
  rw [h.1 31 h1, h.2.1 75 h2.1, h.2.1 76 h2.2]
theorem SIm_Fr {F A : List Nat} (si : SIm a rI r rh ta N) (h : Fr F A r r') (hF : ∀ k, k ∈ F → k ∈ FFl) (hA : ∀ k, k ∈ A → k ∈ AAl) (h1 : 21 ∉ F ∧ 27 ∉ F ∧ 28 ∉ F ∧ 29 ∉ F ∧ 31 ∉ F ∧ 32 ∉ F) (h2 : 36 ∉ A ∧ 64 ∉ A ∧ 65 ∉ A ∧ 66 ∉ A ∧ 67 ∉ A ∧ 68 ∉ A ∧ 70 ∉ A ∧ 71 ∉ A ∧ 75 ∉ A ∧ 76 ∉ A) : SIm a rI r' rh ta N := by
  obtain ⟨qF, w, cg, f32, ⟨qm, qm0, qm1⟩, z0, ⟨q31, q75⟩, q27⟩ := si
  obtain ⟨i21, i27, i28, i29, i31, i32⟩ := h1
  obtain ⟨j36, j64, j65, j66, j67, j68, j70, j71, j75, j76⟩ := h2
  have e28 := h.1 28 i28
  have vv : ∀ x, vt r' x ↔ vt r x := fun x => vt_eq e28
  refine ⟨Fr_trans qF (Fr_mono h hF hA), MI_Fr w h ⟨i21, i28⟩ ⟨j36, j64, j65, j66, j67⟩, CGr_eq cg e28 (h.2.1 65 j65) (h.2.1 66 j66) (h.2.1 67 j67), by rw [h.1 32 i32]; exact f32, ⟨fun x vx => ?_, by rw [h.1 29 i29]; exact qm0, by rw [h.1 29 i29]; exact qm1⟩, fun x vx => ?_, ⟨by rw [h.1 31 i31]; exact q31, fun i hi => ?_⟩, by rw [h.1 27 i27]; exact q27⟩
  · rw [h.1 29 i29, h.2.1 68 j68]; exact qm x ((vv x).mp vx)
  · rw [h.2.1 70 j70, h.2.1 71 j71]; exact z0 x ((vv x).mp vx)
  · rw [h.1 31 i31] at hi
    rw [h.2.1 75 j75, h.2.1 76 j76]
    exact ⟨(vv _).mpr (q75 i hi).1, (q75 i hi).2⟩
theorem OS_refl (r : S_) : OS r r := ⟨Int32.le_refl _, fun _ _ => ⟨Or.inl rfl, rfl, rfl, rfl⟩⟩
theorem OS_Fr {F A : List Nat} (h : Fr F A r r') (h1 : 28 ∉ F) (h2 : 64 ∉ A ∧ 65 ∉ A ∧ 66 ∉ A ∧ 67 ∉ A) : OS r r' := ⟨by rw [h.1 28 h1]; exact Int32.le_refl _, fun x _ => ⟨Or.inl (by rw [h.2.1 64 h2.1]), by rw [h.2.1 65 h2.2.1], by rw [h.2.1 66 h2.2.2.1], by rw [h.2.1 67 h2.2.2.2]⟩⟩
theorem OS_trans (h : OS r r1) (h2 : OS r1 r2) : OS r r2 := ⟨zo2 h.1 h2.1, fun x vx => by
  have a1 := h.2 x vx
  have a2 := h2.2 x (OS_vt h vx)
  refine ⟨?_, a2.2.1.trans a1.2.1, a2.2.2.1.trans a1.2.2.1, a2.2.2.2.trans a1.2.2.2⟩
  rcases a2.1 with e | e
  · rw [e]; exact a1.1
  · rcases a1.1 with e1 | e1
    · rw [e1] at e; exact Or.inr e
    · exact Or.inr e1⟩
/-- a step, nodes of S touched -/
def SRm (r r' : S_) (S : List Int32) : Prop := NFr r r' S ∧ OS r r' ∧ (fi r 27 ≤ fi r' 27 ∧ ∀ i, i < (fi r 27).toNatClampNeg → ar r' 62 i = ar r 62 i ∧ ar r' 63 i = ar r 63 i) ∧ ∀ ρ, VM r' ρ → VM r ρ
theorem SRm_trans {S1 S2 S : List Int32} (q0 : 0 ≤ fi r 27) (h : SRm r r1 S1) (h2 : SRm r1 r2 S2) (s1 : ∀ x, x ∈ S1 → x ∈ S) (s2 : ∀ x, x ∈ S2 → x ∈ S) : SRm r r2 S := ⟨NFr_trans h.1 h2.1 s1 s2, OS_trans h.2.1 h2.2.1, ⟨zo2 h.2.2.1.1 h2.2.2.1.1, fun i hi => by
  have l : i < (fi r1 27).toNatClampNeg := by
    have a1 := i_nat q0
    have a2 := i_nat (zo2 q0 h.2.2.1.1)
    have a3 := h.2.2.1.1
    rw [il] at a3
    omega
  have k1 := h.2.2.1.2 i hi
  have k2 := h2.2.2.1.2 i l
  exact ⟨k2.1.trans k1.1, k2.2.trans k1.2⟩⟩, fun ρ v => h.2.2.2 ρ (h2.2.2.2 ρ v)⟩
theorem SRm_Fr {F A : List Nat} {S : List Int32} (n : NFr r r' S) (h : Fr F A r r') (h1 : 28 ∉ F ∧ 27 ∉ F) (h2 : 64 ∉ A ∧ 65 ∉ A ∧ 66 ∉ A ∧ 67 ∉ A) (h3 : 62 ∉ A ∧ 63 ∉ A) : SRm r r' S := ⟨n, OS_Fr h h1.1 h2, ⟨by rw [h.1 27 h1.2]; exact Int32.le_refl _, fun i _ => ⟨by rw [h.2.1 62 h3.1], by rw [h.2.1 63 h3.2]⟩⟩, fun ρ v => by rw [VM_Fr h h1.1 h2] at v; exact v⟩
theorem SRm_row {k : Nat} {n z : Int32} {S : List Int32} (n0 : 0 ≤ n) (hn : n ∈ S) (hk : nda k) (e : r' = sA r k (upd (ar r k) n.toNatClampNeg z)) : SRm r r' S := by
  have hA : k ∈ ATl := by unfold nda at hk; rcases hk with e | e | e | e | e | e <;> rw [e] <;> decide
  rw [e]
  refine SRm_Fr (F := []) (A := [k]) (NFr_sA hA n0 hn) (Fr_sA (by simp)) (by decide) ?_ ?_
  · unfold nda at hk; rcases hk with e | e | e | e | e | e <;> rw [e] <;> decide
  · unfold nda at hk; rcases hk with e | e | e | e | e | e <;> rw [e] <;> decide
theorem SIm_row {k : Nat} {n z : Int32} (si : SIm a rI r rh ta N) (hk : nda k) (e : r' = sA r k (upd (ar r k) n.toNatClampNeg z)) : SIm a rI r' rh ta N := by
  rw [e]
  refine SIm_Fr (F := []) (A := [k]) si (Fr_sA (by simp)) (by decide) ?_ (by decide) ?_
  · unfold nda at hk; rcases hk with e | e | e | e | e | e <;> rw [e] <;> decide
  · unfold nda at hk; rcases hk with e | e | e | e | e | e <;> rw [e] <;> decide
def LetM (rI r : S_) (p s e : Int32) : Prop := (0 ≤ ar r 53 p.toNatClampNeg ∧ ar r 53 p.toNatClampNeg < 25) ∧ vt r (ar r 55 (ar r 53 p.toNatClampNeg).toNatClampNeg) ∧ (ar r 57 p.toNatClampNeg = s ∧ ar r 58 p.toNatClampNeg = e - s) ∧ (0 ≤ s ∧ s ≤ e ∧ e ≤ fi r 27) ∧ ∀ i, s.toNatClampNeg ≤ i → i < e.toNatClampNeg → vt r (ar r 62 i) ∧ DM r (fun x => x = ar r 55 (ar r 53 p.toNatClampNeg).toNatClampNeg) (ar r 62 i) ∧ (∃ c, gb (ar r 63 i) c = true) ∧ ∀ c, gb (ar r 63 i) c = true → c < (fi rI 2).toNatClampNeg
def nmE (r : S_) (p : Int32) : Int32 := ar r 46 (ar r 50 p.toNatClampNeg).toNatClampNeg
def lamE (r : S_) (p : Int32) : En := (nmE r p, false, ar r 56 p.toNatClampNeg, fun _ _ => False, 0)
def letE (r : S_) (p s e : Int32) : En := (nmE r p, true, ar r 55 (ar r 53 p.toNatClampNeg).toNatClampNeg, Own r s.toNatClampNeg e.toNatClampNeg, ((sB (ar r 63) s.toNatClampNeg (e.toNatClampNeg - s.toNatClampNeg) : Nat) : Int))
def EM (rI r : S_) : List (Int32 × Nat) → List En → Prop
  | [], Γ => Γ = []
  | (p, t) :: L, Γ => (t = 0 → ∃ Γ', Γ = lamE r p :: Γ' ∧ vt r (ar r 56 p.toNatClampNeg) ∧ EM rI r L Γ') ∧ (t = 1 → ∃ Γ' s e, Γ = letE r p s e :: Γ' ∧ LetM rI r p s e ∧ EM rI r L Γ') ∧ (t = 2 → EM rI r L Γ)
theorem sB_cg {f g : Nat → Int32} {s : Nat} : ∀ n, (∀ i, s ≤ i → i < s + n → f i = g i) → sB f s n = sB g s n := by
  intro n
  induction n with
  | zero => intro _; rfl
  | succ n ih =>
    intro h
    rw [sB, sB, ih (fun i h1 h2 => h i h1 (by omega)), h (s + n) (by omega) (by omega)]
theorem EM_step (q0 : 0 ≤ fi r 27) (os : OS r r') (h27 : fi r 27 ≤ fi r' 27) (h62 : ∀ i, i < (fi r 27).toNatClampNeg → ar r' 62 i = ar r 62 i ∧ ar r' 63 i = ar r 63 i) (e46 : ar r' 46 = ar r 46) (e50 : ar r' 50 = ar r 50) (e53 : ar r' 53 = ar r 53) : ∀ (L : List (Int32 × Nat)) (Γ : List En), (∀ p t, (p, t) ∈ L → (t = 0 ∨ t = 1 ∨ t = 2) ∧ ar r' 56 p.toNatClampNeg = ar r 56 p.toNatClampNeg ∧ ar r' 57 p.toNatClampNeg = ar r 57 p.toNatClampNeg ∧ ar r' 58 p.toNatClampNeg = ar r 58 p.toNatClampNeg ∧ (t = 1 → 0 ≤ ar r 53 p.toNatClampNeg → ar r' 55 (ar r 53 p.toNatClampNeg).toNatClampNeg = ar r 55 (ar r 53 p.toNatClampNeg).toNatClampNeg)) → EM rI r L Γ → EM rI r' L Γ := by
  intro L
  induction L with
  | nil => intro Γ _ h; exact h
  | cons pt L ih =>
    obtain ⟨p, t⟩ := pt
    intro Γ hp h
    have k := hp p t List.mem_cons_self
    have hp' : ∀ q u, (q, u) ∈ L → (u = 0 ∨ u = 1 ∨ u = 2) ∧ ar r' 56 q.toNatClampNeg = ar r 56 q.toNatClampNeg ∧ ar r' 57 q.toNatClampNeg = ar r 57 q.toNatClampNeg ∧ ar r' 58 q.toNatClampNeg = ar r 58 q.toNatClampNeg ∧ (u = 1 → 0 ≤ ar r 53 q.toNatClampNeg → ar r' 55 (ar r 53 q.toNatClampNeg).toNatClampNeg = ar r 55 (ar r 53 q.toNatClampNeg).toNatClampNeg) := fun q u hq => hp q u (List.mem_cons_of_mem _ hq)
    have nm : nmE r' p = nmE r p := by unfold nmE; rw [e46, e50]
    refine ⟨fun z => ?_, fun z => ?_, fun z => ih Γ hp' (h.2.2 z)⟩
    · obtain ⟨Γ', h1, h2, h3⟩ := h.1 z
      refine ⟨Γ', ?_, by rw [k.2.1]; exact OS_vt os h2, ih Γ' hp' h3⟩
      unfold lamE at h1 ⊢
      rw [nm, k.2.1]
      exact h1
    · obtain ⟨Γ', s, e, h1, ⟨l1, l2, l3, l4, l5⟩, h3⟩ := h.2.1 z
      have e55 : ar r' 55 (ar r' 53 p.toNatClampNeg).toNatClampNeg = ar r 55 (ar r 53 p.toNatClampNeg).toNatClampNeg := by rw [e53]; exact k.2.2.2.2 z l1.1
      have eb : e.toNatClampNeg ≤ (fi r 27).toNatClampNeg := by
        have a1 := i_nat q0
        have a2 := i_nat (zo2 l4.1 l4.2.1)
        have a3 := l4.2.2
        rw [il] at a3
        omega
      have ow : Own r' s.toNatClampNeg e.toNatClampNeg = Own r s.toNatClampNeg e.toNatClampNeg := funext (fun v => funext (fun c => propext ⟨fun ⟨i, i1, i2, i3, i4⟩ => by
        have := h62 i (by omega)
        exact ⟨i, i1, i2, by rw [← this.1]; exact i3, by rw [← this.2]; exact i4⟩, fun ⟨i, i1, i2, i3, i4⟩ => by
        have := h62 i (by omega)
        exact ⟨i, i1, i2, by rw [this.1]; exact i3, by rw [this.2]; exact i4⟩⟩))
      have se : s.toNatClampNeg ≤ e.toNatClampNeg := by
        have a1 := i_nat l4.1
        have a2 := i_nat (zo2 l4.1 l4.2.1)
        have a3 := l4.2.1
        rw [il] at a3
        omega
      have sb : sB (ar r' 63) s.toNatClampNeg (e.toNatClampNeg - s.toNatClampNeg) = sB (ar r 63) s.toNatClampNeg (e.toNatClampNeg - s.toNatClampNeg) := sB_cg _ (fun i h1 h2 => (h62 i (by omega)).2)
      refine ⟨Γ', s, e, ?_, ⟨by rw [e53]; exact l1, by rw [e55]; exact OS_vt os l2, by rw [k.2.2.1, k.2.2.2.1]; exact l3, ⟨l4.1, l4.2.1, zo2 l4.2.2 h27⟩, fun i i1 i2 => ?_⟩, ih Γ' hp' h3⟩
      · unfold letE at h1 ⊢
        rw [nm, e55, ow, sb]
        exact h1
      · have := h62 i (by omega)
        have k5 := l5 i i1 i2
        rw [this.1, this.2, e55]
        exact ⟨OS_vt os k5.1, DM_OS os k5.2.1, k5.2.2⟩
theorem CH_tag : ∀ (L : List (Int32 × Nat)) (c : Int32), CH r c L → ∀ p t, (p, t) ∈ L → t = 0 ∨ t = 1 ∨ t = 2 := by
  intro L
  induction L with
  | nil => intro c _ p t h; exact absurd h List.not_mem_nil
  | cons e L ih =>
    obtain ⟨q, u⟩ := e
    intro c h p t hp
    obtain ⟨_, _, h3, h4⟩ := h
    rcases List.mem_cons.mp hp with z | z
    · have tu : t = u := congrArg Prod.snd z
      rw [tu]
      rcases h3 with h3 | h3 | h3
      · exact Or.inl h3.1
      · exact Or.inr (Or.inl h3.1)
      · exact Or.inr (Or.inr h3.1)
    · exact ih q h4 p t z
theorem EM_SRm {S : List Int32} {L : List (Int32 × Nat)} {Γ : List En} {c : Int32} (q0 : 0 ≤ fi r 27) (s : SRm r r' S) (hc : CH r c L) (rd : ∀ x, RD r L x → x ∉ S) (h : EM rI r L Γ) : EM rI r' L Γ := by
  refine EM_step q0 s.2.1 s.2.2.1.1 s.2.2.1.2 ((tabs s.1).2 46 (by decide)) ((tabs s.1).2 50 (by decide)) ((tabs s.1).2 53 (by decide)) L Γ (fun p t hp => ?_) h
  have p0 := (CH_pos L c hc p t hp).1.1
  have np : p ∉ S := rd p ⟨p, t, hp, Or.inl rfl⟩
  exact ⟨CH_tag L c hc p t hp, s.1.2 56 (by unfold nda; decide) p p0 np, s.1.2 57 (by unfold nda; decide) p p0 np, s.1.2 58 (by unfold nda; decide) p p0 np, fun z z0 => s.1.2 55 (by unfold nda; decide) _ z0 (rd _ ⟨p, t, hp, Or.inr ⟨z, rfl⟩⟩)⟩
theorem EM_lams : ∀ (L : List (Int32 × Nat)) (Γ : List En) (c : Int32), CH r c L → EM rI r L Γ → ∀ x, zLams Γ x ↔ GC r L x := by
  intro L
  induction L with
  | nil =>
    intro Γ c _ h x
    have h' : Γ = [] := h
    rw [h']
    exact ⟨fun ⟨_, q, _⟩ => absurd q List.not_mem_nil, fun ⟨_, q, _⟩ => absurd q List.not_mem_nil⟩
  | cons pt L ih =>
    obtain ⟨p, t⟩ := pt
    intro Γ c hc h x
    have tg := CH_tag _ c hc p t List.mem_cons_self
    have hc' := hc.2.2.2
    have gc : (¬ t = 0) → (GC r ((p, t) :: L) x ↔ GC r L x) := fun tn => ⟨fun ⟨q, q1, q2⟩ => ⟨q, (List.mem_cons.mp q1).resolve_left (fun z => tn (congrArg Prod.snd z).symm), q2⟩, fun ⟨q, q1, q2⟩ => ⟨q, List.mem_cons_of_mem _ q1, q2⟩⟩
    rcases tg with e | e | e
    · obtain ⟨Γ', h1, h2, h3⟩ := h.1 e
      have k := ih Γ' p hc' h3 x
      rw [h1]
      constructor
      · rintro ⟨en, q1, q2, q3⟩
        rcases List.mem_cons.mp q1 with z | z
        · rw [z] at q3
          exact ⟨p, by rw [e]; exact List.mem_cons_self, q3⟩
        · obtain ⟨q, a1, a2⟩ := k.mp ⟨en, z, q2, q3⟩
          exact ⟨q, List.mem_cons_of_mem _ a1, a2⟩
      · rintro ⟨q, q1, q2⟩
        rcases List.mem_cons.mp q1 with z | z
        · have qp : q = p := congrArg Prod.fst z
          exact ⟨lamE r p, List.mem_cons_self, rfl, by rw [q2, qp]; rfl⟩
        · obtain ⟨en, a1, a2⟩ := k.mpr ⟨q, z, q2⟩
          exact ⟨en, List.mem_cons_of_mem _ a1, a2⟩
    · obtain ⟨Γ', s, e', h1, h2, h3⟩ := h.2.1 e
      rw [gc (by omega), ← ih Γ' p hc' h3 x, h1]
      constructor
      · rintro ⟨en, q1, q2, q3⟩
        rcases List.mem_cons.mp q1 with z | z
        · rw [z] at q2
          exact absurd (show (true : Bool) = false from q2) (by decide)
        · exact ⟨en, z, q2, q3⟩
      · rintro ⟨en, q1, q2⟩
        exact ⟨en, List.mem_cons_of_mem _ q1, q2⟩
    · rw [gc (by omega)]
      exact ih Γ p hc' (h.2.2 e) x
theorem EM_vt : ∀ (L : List (Int32 × Nat)) (Γ : List En) (c : Int32), CH r c L → EM rI r L Γ → ∀ p, (p, 0) ∈ L → vt r (ar r 56 p.toNatClampNeg) := by
  intro L
  induction L with
  | nil => intro Γ c _ _ p h; exact absurd h List.not_mem_nil
  | cons pt L ih =>
    obtain ⟨q, t⟩ := pt
    intro Γ c hc h p hp
    have tg := CH_tag _ c hc q t List.mem_cons_self
    rcases List.mem_cons.mp hp with z | z
    · have qp : p = q := congrArg Prod.fst z
      have t0 : t = 0 := (congrArg Prod.snd z).symm
      obtain ⟨Γ', h1, h2, h3⟩ := h.1 t0
      rw [qp]; exact h2
    · rcases tg with e | e | e
      · obtain ⟨Γ', h1, h2, h3⟩ := h.1 e
        exact ih Γ' q hc.2.2.2 h3 p z
      · obtain ⟨Γ', s, e', h1, h2, h3⟩ := h.2.1 e
        exact ih Γ' q hc.2.2.2 h3 p z
      · exact ih Γ q hc.2.2.2 (h.2.2 e) p z
/-- the binder of a name: the first entry of that name -/
theorem ws_bind (x : Int32) {K : Int32 → Prop} : ∀ (L : List (Int32 × Nat)) (Γ : List En) (n : Nat) (c v4 : Int32), CH r c L → v4 = ar r 51 c.toNatClampNeg → EM rI r L Γ → (zLook Γ x = none → K (-1)) → (∀ b L2 Γ2, nodeOK r b → CH r b L2 → (kd r b = 1 → ∃ Γ', zLook Γ x = some (lamE r b, Γ') ∧ vt r (ar r 56 b.toNatClampNeg) ∧ EM rI r L2 Γ') → (¬ kd r b = 1 → ∃ Γ' s e, zLook Γ x = some (letE r b s e, Γ') ∧ LetM rI r b s e ∧ EM rI r L2 Γ') → (∃ p, (b, p) ∈ L) → Γ2 = Γ → K b) → wM_binder_L22 a r (fun v4 => K v4) (K (-1)) n x c v4 := by
  intro L
  induction L with
  | nil =>
    intro Γ n c v4 hc e4 h hn _
    cases n with
    | zero => trivial
    | succ n =>
      have hc' : ar r 51 c.toNatClampNeg = -1 := hc
      have h' : Γ = [] := h
      rw [wM_binder_L22, e4, hc']
      exact ⟨fun _ => hn (by rw [h']; rfl), fun z => absurd (by decide) z⟩
  | cons pt L ih =>
    obtain ⟨p, t⟩ := pt
    intro Γ n c v4 hc e4 h hn hb
    cases n with
    | zero => trivial
    | succ n =>
      obtain ⟨c1, c2, c3, c4⟩ := hc
      rw [c1] at e4
      subst e4
      have up : ∀ Γ', (zLook Γ x = zLook Γ' x) → EM rI r L Γ' → wM_binder_J88 a r (wM_binder_L22 a r (fun v4 => K v4) (K (-1)) n) (fun v4 => K v4) (K (-1)) x v4 := fun Γ' el h' => by
        unfold wM_binder_J88
        exact fun _ => ih Γ' n v4 _ c4 rfl h' (fun z => hn (by rw [el]; exact z)) (fun b L2 Γ2 b1 b2 b3 b4 b5 b6 => hb b L2 Γ b1 b2 (fun q => by rw [el]; exact b3 q) (fun q => by rw [el]; exact b4 q) (b5.imp (fun _ q => List.mem_cons_of_mem _ q)) rfl)
      rw [wM_binder_L22]
      unfold wM_kindOf
      refine ⟨fun z => absurd z (Int32.not_lt.mpr c2.1.1), fun _ _ _ => ⟨fun k1 => ?_, fun k1 _ _ => ⟨fun k3 => ?_, fun k3 _ => ⟨fun sd => ?_, fun sd => ?_⟩⟩⟩⟩
      · have t0 : t = 0 := by
          rcases c3 with ⟨z, _⟩ | ⟨_, z, _⟩ | ⟨_, z, _⟩
          · exact z
          · unfold kd at z; rw [k1] at z; exact absurd z (by decide)
          · exact absurd k1 z
        obtain ⟨Γ', h1, h2, h3⟩ := h.1 t0
        unfold wM_binder_J57 wM_binder_J62
        refine ⟨fun z => absurd z (by decide), fun _ _ _ => ⟨fun ne => up Γ' (by rw [h1, zLook]; exact if_neg ne) h3, fun eq => ?_⟩⟩
        have el : zLook Γ x = some (lamE r v4, Γ') := by rw [h1, zLook]; exact if_pos eq
        exact hb v4 L Γ c2 c4 (fun _ => ⟨Γ', el, h2, h3⟩) (fun z => absurd k1 z) ⟨t, List.mem_cons_self⟩ rfl
      · have t2 : t = 2 := by
          rcases c3 with ⟨_, z⟩ | ⟨_, z, _⟩ | ⟨z, _⟩
          · exact absurd z k1
          · exact absurd z k3
          · exact z
        unfold wM_binder_J61 wM_binder_J62
        exact ⟨fun _ => up Γ rfl (h.2.2 t2), fun z => absurd rfl z⟩
      · have t2 : t = 2 := by
          rcases c3 with ⟨_, z⟩ | ⟨_, _, z⟩ | ⟨z, _⟩
          · exact absurd z k1
          · exact absurd z sd
          · exact z
        unfold wM_binder_J61 wM_binder_J62
        exact ⟨fun _ => up Γ rfl (h.2.2 t2), fun z => absurd rfl z⟩
      · have t1 : t = 1 := by
          rcases c3 with ⟨_, z⟩ | ⟨z, _⟩ | ⟨_, _, z⟩
          · exact absurd z k1
          · exact z
          · exact absurd ⟨k3, sd⟩ z
        obtain ⟨Γ', s, e, h1, h2, h3⟩ := h.2.1 t1
        unfold wM_binder_J57 wM_binder_J62
        refine ⟨fun z => absurd z (by decide), fun _ _ _ => ⟨fun ne => up Γ' (by rw [h1, zLook]; exact if_neg ne) h3, fun eq => ?_⟩⟩
        have el : zLook Γ x = some (letE r v4 s e, Γ') := by rw [h1, zLook]; exact if_pos eq
        exact hb v4 L Γ c2 c4 (fun z => absurd z k1) (fun _ => ⟨Γ', s, e, el, h2, h3⟩) ⟨t, List.mem_cons_self⟩ rfl
end ZMCTX
