/-! The reference's typing: nodes, what is around, steps. -/
section TREE
variable {a : L_} {r : S_} {rh ta : Int32 → Int32} {N : Int32}
/-- the nodes under n, m of them: S -/
def TrR (r : S_) : Nat → Int32 → Nat → List Int32 → Prop
  | 0, _, _, _ => False
  | d + 1, n, m, S => nodeOK r n ∧ ((m = 1 ∧ S = [n] ∧ (kd r n = 0 ∨ (kd r n = 4 ∧ (0 ≤ ar r 46 (ar r 50 n.toNatClampNeg).toNatClampNeg ∧ ar r 46 (ar r 50 n.toNatClampNeg).toNatClampNeg < 8) ∧ 0 ≤ ar r 42 (ar r 46 (ar r 50 n.toNatClampNeg).toNatClampNeg).toNatClampNeg ∧ ar r 42 (ar r 46 (ar r 50 n.toNatClampNeg).toNatClampNeg).toNatClampNeg < fi r 1) ∨ (kd r n = 5 ∧ 0 ≤ ar r 46 (ar r 50 n.toNatClampNeg).toNatClampNeg ∧ ar r 46 (ar r 50 n.toNatClampNeg).toNatClampNeg < fi r 1))) ∨ (kd r n = 1 ∧ ∃ m1 S1, m = m1 + 1 ∧ S = n :: S1 ∧ ar r 51 (ar r 53 n.toNatClampNeg).toNatClampNeg = n ∧ TrR r d (ar r 53 n.toNatClampNeg) m1 S1) ∨ ((kd r n = 2 ∨ kd r n = 3) ∧ ∃ m1 m2 S1 S2, m = m1 + m2 + 1 ∧ S = n :: (S1 ++ S2) ∧ (ar r 51 (ar r 53 n.toNatClampNeg).toNatClampNeg = n ∧ ar r 51 (ar r 54 n.toNatClampNeg).toNatClampNeg = n) ∧ (ar r 52 (ar r 53 n.toNatClampNeg).toNatClampNeg = 0 ∧ ar r 52 (ar r 54 n.toNatClampNeg).toNatClampNeg = 1) ∧ TrR r d (ar r 53 n.toNatClampNeg) m1 S1 ∧ TrR r d (ar r 54 n.toNatClampNeg) m2 S2))
theorem TrR_eq {r' : S_} (f1 : fi r' 1 = fi r 1) (h : ∀ k, k = 42 ∨ k = 45 ∨ k = 46 ∨ k = 50 ∨ k = 51 ∨ k = 52 ∨ k = 53 ∨ k = 54 → ar r' k = ar r k) : ∀ (d : Nat) (n : Int32) (m : Nat) (S : List Int32), TrR r d n m S → TrR r' d n m S := by
  have e42 := h 42 (by decide)
  have e45 := h 45 (by decide)
  have e46 := h 46 (by decide)
  have e50 := h 50 (by decide)
  have e51 := h 51 (by decide)
  have e52 := h 52 (by decide)
  have e53 := h 53 (by decide)
  have e54 := h 54 (by decide)
  intro d
  induction d with
  | zero => intro n m S w; exact w.elim
  | succ d ih =>
    intro n m S w
    unfold TrR nodeOK kd at w ⊢
    rw [e42, e45, e46, e50, e51, e52, e53, e54, f1]
    refine ⟨w.1, w.2.imp id (fun k => k.imp (fun ⟨k1, m1, S1, k2, k3, k4, k5⟩ => ⟨k1, m1, S1, k2, k3, k4, ih _ _ _ k5⟩) (fun ⟨k1, m1, m2, S1, S2, k2, k3, k4, k5, k6, k7⟩ => ⟨k1, m1, m2, S1, S2, k2, k3, k4, k5, ih _ _ _ k6, ih _ _ _ k7⟩))⟩
theorem TrR_pos : ∀ (d : Nat) (n : Int32) (m : Nat) (S : List Int32), TrR r d n m S → 1 ≤ m ∧ n ∈ S ∧ nodeOK r n := by
  intro d
  cases d with
  | zero => intro n m S w; exact w.elim
  | succ d =>
    intro n m S w
    rcases w.2 with ⟨k1, k2, _⟩ | ⟨_, m1, S1, k1, k2, _⟩ | ⟨_, m1, m2, S1, S2, k1, k2, _⟩
    · exact ⟨by omega, by rw [k2]; exact List.mem_singleton.mpr rfl, w.1⟩
    · exact ⟨by omega, by rw [k2]; exact List.mem_cons_self, w.1⟩
    · exact ⟨by omega, by rw [k2]; exact List.mem_cons_self, w.1⟩
def FTl : List Nat := [27, 28, 29, 30, 31, 32, 33, 34, 35, 40]
def ATl : List Nat := [55, 56, 57, 58, 59, 60, 61, 62, 63, 64, 65, 66, 67, 68, 69, 70, 71, 72, 73, 74, 75, 76, 84, 85, 87, 88]
def nda (k : Nat) : Prop := k = 55 ∨ k = 56 ∨ k = 57 ∨ k = 58 ∨ k = 59 ∨ k = 61
/-- only nodes of S are touched -/
def NFr (r r' : S_) (S : List Int32) : Prop := Fr FTl ATl r r' ∧ ∀ k, nda k → ∀ m : Int32, 0 ≤ m → m ∉ S → ar r' k m.toNatClampNeg = ar r k m.toNatClampNeg
theorem NFr_refl (r : S_) (S : List Int32) : NFr r r S := ⟨Fr_refl r, fun _ _ _ _ _ => rfl⟩
theorem NFr_trans {r1 r2 r3 : S_} {S1 S2 S : List Int32} (h1 : NFr r1 r2 S1) (h2 : NFr r2 r3 S2) (s1 : ∀ x, x ∈ S1 → x ∈ S) (s2 : ∀ x, x ∈ S2 → x ∈ S) : NFr r1 r3 S := ⟨Fr_trans h1.1 h2.1, fun k hk m m0 hm => (h2.2 k hk m m0 (fun z => hm (s2 m z))).trans (h1.2 k hk m m0 (fun z => hm (s1 m z)))⟩
theorem NFr_of {r1 r2 : S_} {F A : List Nat} (h : Fr F A r1 r2) (hF : ∀ k, k ∈ F → k ∈ FTl) (hA : ∀ k, k ∈ A → k ∈ ATl ∧ ¬ nda k) (S : List Int32) : NFr r1 r2 S := ⟨Fr_mono h hF (fun k hk => (hA k hk).1), fun k hk m _ _ => by rw [h.2.1 k (fun z => (hA k z).2 hk)]⟩
theorem NFr_sA {k : Nat} {n v : Int32} (hk : k ∈ ATl) (n0 : 0 ≤ n) {S : List Int32} (hn : n ∈ S) : NFr r (sA r k (upd (ar r k) n.toNatClampNeg v)) S := ⟨Fr_sA hk, fun j _ m m0 hm => by
  rw [ar_sA]
  split
  · rename_i e
    rw [updI _ _ n0 m0, if_neg (fun z => hm (by rw [z]; exact hn)), e]
  · rfl⟩
/-- a LET around: what is copied of it -/
def LetOK (r : S_) (b : Int32) (L : List (Int32 × Nat)) (Gc : Int32 → Prop) (E : Nat) : Prop := (0 ≤ ar r 53 b.toNatClampNeg ∧ ar r 53 b.toNatClampNeg < 25) ∧ vt r (ar r 55 (ar r 53 b.toNatClampNeg).toNatClampNeg) ∧ (0 ≤ ar r 57 b.toNatClampNeg ∧ 0 ≤ (ar r 58 b.toNatClampNeg).toInt ∧ (ar r 58 b.toNatClampNeg).toInt ≤ 1510 ∧ (ar r 57 b.toNatClampNeg).toInt + (ar r 58 b.toNatClampNeg).toInt ≤ (fi r 27).toInt) ∧ ∃ U : List Int32, U.length ≤ E ∧ LU r (GC r L) Gc (ar r 55 (ar r 53 b.toNatClampNeg).toNatClampNeg) U
def CX (r : S_) (Gc : Int32 → Prop) (E : Nat) : List (Int32 × Nat) → Prop
  | [] => True
  | (p, t) :: L => (t = 0 → vt r (ar r 56 p.toNatClampNeg)) ∧ (t = 1 → LetOK r p L Gc E) ∧ CX r Gc E L
/-- the nodes that what is around reads -/
def RD (r : S_) (L : List (Int32 × Nat)) (m : Int32) : Prop := ∃ p t, (p, t) ∈ L ∧ (m = p ∨ (t = 1 ∧ m = ar r 53 p.toNatClampNeg))
theorem CH_pos : ∀ (L : List (Int32 × Nat)) (c : Int32), CH r c L → ∀ p t, (p, t) ∈ L → nodeOK r p := by
  intro L
  induction L with
  | nil => intro c _ p t h; exact absurd h List.not_mem_nil
  | cons e L ih =>
    obtain ⟨q, u⟩ := e
    intro c h p t hp
    obtain ⟨_, h2, _, h4⟩ := h
    rcases List.mem_cons.mp hp with z | z
    · have pq : p = q := congrArg Prod.fst z
      rw [pq]; exact h2
    · exact ih q h4 p t z
theorem GC_eq {r' : S_} {L : List (Int32 × Nat)} (h : ∀ p t, (p, t) ∈ L → ar r' 56 p.toNatClampNeg = ar r 56 p.toNatClampNeg) {x : Int32} : GC r' L x ↔ GC r L x := by
  constructor
  · intro ⟨p, p1, p2⟩
    exact ⟨p, p1, by rw [p2, h p 0 p1]⟩
  · intro ⟨p, p1, p2⟩
    exact ⟨p, p1, by rw [p2, h p 0 p1]⟩
theorem LU_G {G2 G2' Gc : Int32 → Prop} {t : Int32} {U : List Int32} (h : LU r G2 Gc t U) (e : ∀ x, G2' x ↔ G2 x) : LU r G2' Gc t U := by
  have : G2' = G2 := funext (fun x => propext (e x))
  rw [this]
  exact h
theorem CX_step {r' : S_} {Gc Gc' : Int32 → Prop} {E E' : Nat} {R : List Int32} (s : TS r r' Gc R) (hG : ∀ x, Gc' x → Gc x ∨ x ∈ R) (hE : E ≤ E') (h27 : fi r 27 ≤ fi r' 27) (e53 : ar r' 53 = ar r 53) : ∀ (L : List (Int32 × Nat)), (∀ p t, (p, t) ∈ L → ar r' 56 p.toNatClampNeg = ar r 56 p.toNatClampNeg ∧ ar r' 57 p.toNatClampNeg = ar r 57 p.toNatClampNeg ∧ ar r' 58 p.toNatClampNeg = ar r 58 p.toNatClampNeg ∧ (t = 1 → ar r' 55 (ar r 53 p.toNatClampNeg).toNatClampNeg = ar r 55 (ar r 53 p.toNatClampNeg).toNatClampNeg)) → CX r Gc E L → CX r' Gc' E' L := by
  intro L
  induction L with
  | nil => intro _ _; trivial
  | cons e L ih =>
    obtain ⟨p, t⟩ := e
    intro hp h
    have k := hp p t List.mem_cons_self
    refine ⟨fun z => ?_, fun z => ?_, ih (fun q u hq => hp q u (List.mem_cons_of_mem _ hq)) h.2.2⟩
    · rw [k.1]
      exact vt_up s (h.1 z)
    · obtain ⟨l1, l2, l3, U, u1, u2⟩ := h.2.1 z
      unfold LetOK
      rw [e53, k.2.2.2 z, k.2.1, k.2.2.1]
      refine ⟨l1, vt_up s l2, ⟨l3.1, l3.2.1, l3.2.2.1, ?_⟩, U, Nat.le_trans u1 hE, LU_G (LU_TS u2 s hG) (fun x => GC_eq (fun q u hq => (hp q u (List.mem_cons_of_mem _ hq)).1))⟩
      have := l3.2.2.2
      rw [il] at h27
      omega
theorem CX_app {Gc : Int32 → Prop} {E : Nat} {L2 : List (Int32 × Nat)} : ∀ (L1 : List (Int32 × Nat)), CX r Gc E (L1 ++ L2) → CX r Gc E L2 := by
  intro L1
  induction L1 with
  | nil => intro h; exact h
  | cons e L1 ih => obtain ⟨p, t⟩ := e; intro h; exact ih h.2.2
theorem CX_vt {Gc : Int32 → Prop} {E : Nat} : ∀ (L : List (Int32 × Nat)), CX r Gc E L → ∀ p, (p, 0) ∈ L → vt r (ar r 56 p.toNatClampNeg) := by
  intro L
  induction L with
  | nil => intro _ p h; exact absurd h List.not_mem_nil
  | cons e L ih =>
    obtain ⟨q, t⟩ := e
    intro h p hp
    rcases List.mem_cons.mp hp with z | z
    · have pq : p = q := congrArg Prod.fst z
      rw [pq]
      exact h.1 (congrArg Prod.snd z).symm
    · exact ih h.2.2 p z
theorem bind_L (hM : ML a) {K : Int32 → Prop} (L0 : List (Int32 × Nat)) (hn : K (-1)) (hK : ∀ b t L1 L2, L0 = L1 ++ (b, t) :: L2 → ((t = 0 ∧ kd r b = 1) ∨ (t = 1 ∧ kd r b = 3)) → nodeOK r b → CH r b L2 → K b) : ∀ (L L1 : List (Int32 × Nat)) (n : Nat) (v2 c v4 : Int32), L0 = L1 ++ L → CH r c L → nodeOK r c → v4 = ar r 51 c.toNatClampNeg → L.length < n → qM_binder_L22 a r (fun v4 => K v4) (K (-1)) n v2 c v4 := by
  intro L
  induction L with
  | nil =>
    intro L1 n v2 c v4 _ hc _ e4 hl
    obtain ⟨n, rfl⟩ : ∃ m, n = m + 1 := ⟨n - 1, by simp at hl; omega⟩
    have hc' : ar r 51 c.toNatClampNeg = -1 := hc
    rw [qM_binder_L22]
    rw [e4, hc']
    exact ⟨fun _ => hn, fun z => absurd (by decide) z⟩
  | cons e L ih =>
    obtain ⟨p, t⟩ := e
    intro L1 n v2 c v4 e0 hc nc e4 hl
    obtain ⟨n, rfl⟩ : ∃ m, n = m + 1 := ⟨n - 1, by simp at hl; omega⟩
    obtain ⟨c1, c2, c3, c4⟩ := hc
    rw [c1] at e4
    subst e4
    have i25 := nd25 (k := 51) hM c2 (by decide) (by decide) rfl
    have j88 : qM_binder_J88 a r (qM_binder_L22 a r (fun v4 => K v4) (K (-1)) n) (fun v4 => K v4) (K (-1)) v2 v4 := by
      unfold qM_binder_J88
      exact ⟨i25, ih (L1 ++ [(v4, t)]) n v2 v4 _ (by rw [e0]; simp) c4 c2 rfl (by simp at hl; omega)⟩
    have j61 : qM_binder_J61 a r (qM_binder_L22 a r (fun v4 => K v4) (K (-1)) n) (fun v4 => K v4) (K (-1)) v2 v4 := by
      unfold qM_binder_J61 qM_binder_J62
      exact ⟨fun _ => j88, fun z => absurd rfl z⟩
    have j57 : ((t = 0 ∧ kd r v4 = 1) ∨ (t = 1 ∧ kd r v4 = 3)) → qM_binder_J57 a r (qM_binder_L22 a r (fun v4 => K v4) (K (-1)) n) (fun v4 => K v4) (K (-1)) v2 v4 := fun ht => by
      unfold qM_binder_J57 qM_binder_J62
      refine ⟨fun z => absurd z (by decide), fun _ => ⟨nd25 hM c2 (by decide) (by decide) rfl, vi2 c2.2.1 c2.2.2 (by rw [ml (n := 120) hM (by decide) (by decide) rfl]; decide), fun _ => j88, fun _ => hK v4 t L1 L e0 ht c2 c4⟩⟩
    rw [qM_binder_L22]
    refine ⟨fun z => absurd z (Int32.not_lt.mpr c2.1.1), fun _ => kindOf_ok hM c2 ⟨fun g => ?_, fun g => kindOf_ok hM c2 ⟨fun _ => j61, fun g2 => ⟨nd25 hM nc (by decide) (by decide) rfl, fun _ => j61, fun g3 => ?_⟩⟩⟩⟩
    · refine j57 (Or.inl ⟨?_, g⟩)
      rcases c3 with ⟨k, _⟩ | ⟨k, k2, _⟩ | ⟨k, k2, _⟩
      · exact k
      · rw [g] at k2; exact absurd k2 (by decide)
      · exact absurd g k2
    · refine j57 (Or.inr ⟨?_, g2⟩)
      rcases c3 with ⟨k, k2⟩ | ⟨k, _⟩ | ⟨k, _, k2⟩
      · exact absurd k2 g
      · exact k
      · exact absurd ⟨g2, g3⟩ k2
theorem binder_ok (hM : ML a) {K : Int32 → Prop} {L0 : List (Int32 × Nat)} {c : Int32} (nc : nodeOK r c) (hc : CH r c L0) (hn : K (-1)) (hK : ∀ b t L1 L2, L0 = L1 ++ (b, t) :: L2 → ((t = 0 ∧ kd r b = 1) ∨ (t = 1 ∧ kd r b = 3)) → nodeOK r b → CH r b L2 → K b) : qM_binder a r K c := by
  unfold qM_binder
  exact ⟨nd25 hM nc (by decide) (by decide) rfl, vi2 nc.2.1 nc.2.2 (by rw [ml (n := 120) hM (by decide) (by decide) rfl]; decide), nd25 hM nc (by decide) (by decide) rfl, L0.length + 1, bind_L hM L0 hn hK L0 [] _ _ c _ rfl hc nc rfl (Nat.lt_succ_self _)⟩
end TREE
