/-! The reference's typing: the nodes are a tree; all is typed. -/
section TREE2
variable {a : L_} {r : S_} {l ad : Nat → Nat} {rI : S_}
theorem nodup_le : ∀ (S L : List Int32), S.Nodup → (∀ x, x ∈ S → x ∈ L) → S.length ≤ L.length := by
  intro S
  induction S with
  | nil => intro L _ _; exact Nat.zero_le _
  | cons x S ih =>
    intro L h1 h2
    have n := List.nodup_cons.mp h1
    have m := h2 x List.mem_cons_self
    have k := ih (L.erase x) n.2 (fun y hy => (List.mem_erase_of_ne (fun e => n.1 (by rw [← e]; exact hy))).mpr (h2 y (List.mem_cons_of_mem _ hy)))
    rw [List.length_erase_of_mem m] at k
    have := List.length_pos_of_mem m
    rw [List.length_cons]
    omega
/-- what is under k: S -/
def UN (r : S_) (c k : Int32) (S : List Int32) : Prop := ∀ x, x ∈ S → (k ≤ x ∧ x < c) ∧ (x = k ∨ ar r 51 x.toNatClampNeg ∈ S)
theorem UN_dis {c k f g : Int32} {S1 S2 : List Int32} (hp : ∀ x : Int32, 0 ≤ x → x < c → x = 0 ∨ (0 ≤ ar r 51 x.toNatClampNeg ∧ ar r 51 x.toNatClampNeg < x)) (k0 : 0 ≤ k) (kf : k < f) (kg : k < g) (fg : ¬ f = g) (pf : ar r 51 f.toNatClampNeg = k) (pg : ar r 51 g.toNatClampNeg = k) (u1 : UN r c f S1) (u2 : UN r c g S2) : ∀ x, x ∈ S1 → x ∈ S2 → False := by
  have key : ∀ (n : Nat) (x : Int32), x.toNatClampNeg ≤ n → x ∈ S1 → x ∈ S2 → False := by
    intro n
    induction n with
    | zero =>
      intro x hx x1 x2
      have b := (u1 x x1).1.1
      have x0 : 0 ≤ x := Int32.le_trans (Int32.le_trans k0 (Int32.le_of_lt kf)) b
      have e := i_nat x0
      rw [il] at b k0
      rw [it] at kf
      simp at k0
      omega
    | succ n ih =>
      intro x hx x1 x2
      have b1 := u1 x x1
      have b2 := u2 x x2
      have x0 : 0 ≤ x := Int32.le_trans (Int32.le_trans k0 (Int32.le_of_lt kf)) b1.1.1
      rcases b1.2 with e | m1
      · rcases b2.2 with e2 | m2
        · exact fg (e.symm.trans e2)
        · rw [e, pf] at m2
          have z := (u2 k m2).1.1
          rw [il] at z
          rw [it] at kg
          omega
      · rcases b2.2 with e2 | m2
        · rw [e2, pg] at m1
          have z := (u1 k m1).1.1
          rw [il] at z
          rw [it] at kf
          omega
        · rcases hp x x0 b1.1.2 with e | ⟨q1, q2⟩
          · have z := b1.1.1
            rw [e, il] at z
            rw [it] at kf
            rw [il] at k0
            simp at z k0
            omega
          · refine ih _ ?_ m1 m2
            have e1 := i_nat x0
            have e2 := i_nat q1
            rw [it] at q2
            omega
  exact fun x => key x.toNatClampNeg x (Nat.le_refl _)
theorem mk_tree {r0 : S_} {M : Int} (h : SPI r0 r M (fi r 26)) (hM24 : M ≤ 24) : ∀ (d : Nat) (k : Int32), 0 ≤ k → k < fi r 26 → (fi r 26).toNatClampNeg - k.toNatClampNeg ≤ d → ∃ m S, TrR r d k m S ∧ S.Nodup ∧ UN r (fi r 26) k S ∧ S.length = m := by
  have hlen := SPI_len h
  obtain ⟨g1, g2, g3, g4, g5, g6, g7⟩ := h
  have c0 : 0 ≤ fi r 26 := g3.1
  have ec := i_nat c0
  have hp : ∀ x : Int32, 0 ≤ x → x < fi r 26 → x = 0 ∨ (0 ≤ ar r 51 x.toNatClampNeg ∧ ar r 51 x.toNatClampNeg < x) := fun x x0 x1 => (g4 x x0 x1).2.2
  intro d
  induction d with
  | zero =>
    intro k k0 k1 hd
    have e := i_nat k0
    rw [it] at k1
    omega
  | succ d ih =>
    intro k k0 k1 hd
    have ek := i_nat k0
    have x0 := g4 k k0 k1
    have x1 := g2.2 _ x0.1.1 x0.1.2
    have f120 := g2.1.2
    have nk : nodeOK r k := ⟨⟨k0, by rw [it] at k1 ⊢; have := hlen.1; simp; omega⟩, x0.1.1, by have := x0.1.2; rw [it] at this ⊢; rw [il] at f120; simp at f120 ⊢; omega⟩
    have b := g5 k k0 k1
    have kid : ∀ f : Int32, (k < f ∧ f < fi r 26) → ∃ m S, TrR r d f m S ∧ S.Nodup ∧ UN r (fi r 26) f S ∧ S.length = m := fun f hf => by
      have f0 : 0 ≤ f := Int32.le_trans k0 (Int32.le_of_lt hf.1)
      refine ih f f0 hf.2 ?_
      have e1 := i_nat f0
      have z := hf.1
      rw [it] at z
      omega
    have leaf : (kd r k = 0 ∨ (kd r k = 4 ∧ (0 ≤ ar r 46 (ar r 50 k.toNatClampNeg).toNatClampNeg ∧ ar r 46 (ar r 50 k.toNatClampNeg).toNatClampNeg < 8) ∧ 0 ≤ ar r 42 (ar r 46 (ar r 50 k.toNatClampNeg).toNatClampNeg).toNatClampNeg ∧ ar r 42 (ar r 46 (ar r 50 k.toNatClampNeg).toNatClampNeg).toNatClampNeg < fi r 1) ∨ (kd r k = 5 ∧ 0 ≤ ar r 46 (ar r 50 k.toNatClampNeg).toNatClampNeg ∧ ar r 46 (ar r 50 k.toNatClampNeg).toNatClampNeg < fi r 1)) → ∃ m S, TrR r (d + 1) k m S ∧ S.Nodup ∧ UN r (fi r 26) k S ∧ S.length = m := fun hl => ⟨1, [k], ⟨nk, Or.inl ⟨rfl, rfl, hl⟩⟩, by simp, fun x hx => by rw [List.mem_singleton.mp hx]; exact ⟨⟨Int32.le_refl _, k1⟩, Or.inl rfl⟩, rfl⟩
    have two : (kd r k = 2 ∨ kd r k = 3) → ∃ m S, TrR r (d + 1) k m S ∧ S.Nodup ∧ UN r (fi r 26) k S ∧ S.length = m := fun hk => by
      obtain ⟨q1, q2, q3, q4, q5⟩ := b.2 hk
      obtain ⟨m1, S1, t1, n1, u1, l1⟩ := kid _ q1
      obtain ⟨m2, S2, t2, n2, u2, l2⟩ := kid _ q2
      have dis := UN_dis hp k0 q1.1 q2.1 q3 q4.1 q4.2 u1 u2
      have nm : ∀ (f : Int32) (S : List Int32), k < f → UN r (fi r 26) f S → k ∉ S := fun f S hf u z => by
        have y := (u k z).1.1
        rw [il] at y
        rw [it] at hf
        omega
      refine ⟨m1 + m2 + 1, k :: (S1 ++ S2), ⟨nk, Or.inr (Or.inr ⟨hk, m1, m2, S1, S2, rfl, rfl, q4, q5, t1, t2⟩)⟩, ?_, fun x hx => ?_, by simp [l1, l2]⟩
      · refine List.nodup_cons.mpr ⟨fun z => ?_, List.nodup_append.mpr ⟨n1, n2, fun x hx y hy e => dis x hx (by rw [e]; exact hy)⟩⟩
        rcases List.mem_append.mp z with z | z
        · exact nm _ _ q1.1 u1 z
        · exact nm _ _ q2.1 u2 z
      · rcases List.mem_cons.mp hx with z | z
        · rw [z]; exact ⟨⟨Int32.le_refl _, k1⟩, Or.inl rfl⟩
        · rcases List.mem_append.mp z with z | z
          · have y := u1 x z
            refine ⟨⟨Int32.le_trans (Int32.le_of_lt q1.1) y.1.1, y.1.2⟩, Or.inr ?_⟩
            rcases y.2 with e | e
            · rw [e, q4.1]; exact List.mem_cons_self
            · exact List.mem_cons_of_mem _ (List.mem_append.mpr (Or.inl e))
          · have y := u2 x z
            refine ⟨⟨Int32.le_trans (Int32.le_of_lt q2.1) y.1.1, y.1.2⟩, Or.inr ?_⟩
            rcases y.2 with e | e
            · rw [e, q4.2]; exact List.mem_cons_self
            · exact List.mem_cons_of_mem _ (List.mem_append.mpr (Or.inr e))
    rcases x1.2.1 with hk | hk | hk | hk | hk | hk
    · exact leaf (Or.inl hk)
    · have q := b.1 hk
      obtain ⟨m1, S1, t1, n1, u1, l1⟩ := kid _ q.1
      refine ⟨m1 + 1, k :: S1, ⟨nk, Or.inr (Or.inl ⟨hk, m1, S1, rfl, rfl, q.2, t1⟩)⟩, List.nodup_cons.mpr ⟨fun z => ?_, n1⟩, fun x hx => ?_, by simp [l1]⟩
      · have y := (u1 k z).1.1
        have z2 := q.1.1
        rw [il] at y
        rw [it] at z2
        omega
      · rcases List.mem_cons.mp hx with z | z
        · rw [z]; exact ⟨⟨Int32.le_refl _, k1⟩, Or.inl rfl⟩
        · have y := u1 x z
          refine ⟨⟨Int32.le_trans (Int32.le_of_lt q.1.1) y.1.1, y.1.2⟩, Or.inr ?_⟩
          rcases y.2 with e | e
          · rw [e, q.2]; exact List.mem_cons_self
          · exact List.mem_cons_of_mem _ e
    · exact two (Or.inl hk)
    · exact two (Or.inr hk)
    · exact leaf (Or.inr (Or.inl ⟨hk, x1.2.2.2.2.2.1 hk⟩))
    · exact leaf (Or.inr (Or.inr ⟨hk, x1.2.2.2.2.2.2 hk⟩))
/-- a spread expression -/
def SPD (r0 r : S_) : Prop := Fr [26] [50, 51, 52, 53, 54, 59] r0 r ∧ ∃ d m S, TrR r d 0 m S ∧ S.Nodup ∧ m ≤ 24 ∧ (∀ x, x ∈ S → ar r 59 x.toNatClampNeg = 0) ∧ ar r 51 ((0 : Int32)).toNatClampNeg = -1
theorem spread_ok {e : Int32} (hM : ML a) (et : ETr r) (e0 : 0 ≤ e) (e1 : e < fi r 25) (es : (ar r 49 e.toNatClampNeg).toInt ≤ 24) {K : S_ → Prop} (hK : ∀ r', SPD r r' → K r') : qM_spread a K r e := by
  unfold qM_spread
  intro r1 er1
  subst er1
  refine addNode_ok hM (by show (0 : Int32) ≤ 0; decide) (by show (0 : Int32).toInt < 25; decide) (fun r3 h3 => ?_)
  obtain ⟨n1, n2, n3, n4, n5, n6, n7⟩ := h3
  have f0 : fi (sF r 26 0) 26 = 0 := rfl
  rw [f0] at n2 n3 n4 n5 n6 n7 ⊢
  have f26 : fi r3 26 = 1 := n2
  have F3 : Fr [26] [50, 51, 52, 53, 54, 59] r r3 := Fr_trans (Fr_sF (by decide)) n1
  have et3 : ETr r3 := ETr_eq et (F3.1 1 (by decide)) (F3.1 25 (by decide)) (F3.2.1 42 (by decide)) (F3.2.1 45 (by decide)) (F3.2.1 46 (by decide)) (F3.2.1 47 (by decide)) (F3.2.1 48 (by decide)) (F3.2.1 49 (by decide))
  have s3 : SPI r r3 (ar r 49 e.toNatClampNeg).toInt 0 := by
    refine ⟨F3, et3, ⟨by decide, by rw [f26]; decide, by rw [f26]; decide⟩, fun k k0 k1 => ?_, fun k k0 k1 => ?_, ?_, n5⟩
    · have ek : k = 0 := by
        rw [f26, it] at k1
        rw [il] at k0
        rw [ie]
        simp at k0 k1 ⊢
        omega
      rw [ek, n4, n7, F3.1 25 (by decide)]
      exact ⟨⟨e0, e1⟩, rfl, Or.inl rfl⟩
    · rw [it] at k1
      rw [il] at k0
      simp at k0 k1
      omega
    · rw [f26]
      have z : ((1 : Int32)).toNatClampNeg = 0 + 1 := by decide
      have z0 : ((0 : Int32)).toNatClampNeg = 0 := by decide
      rw [z, sm, sm, z0]
      unfold gv szn
      rw [if_neg (by omega)]
      rw [z0] at n4
      rw [n4, F3.2.1 49 (by decide)]
      omega
  refine ⟨(ar r 49 e.toNatClampNeg).toInt.toNat + 1, spread_L hM es (fun r4 h4 => hK r4 ?_) _ r3 0 s3 ?_⟩
  · have hlen := SPI_len h4
    have c1 := h4.2.2.1.2.2
    have z0 : (0 : Int32) < fi r4 26 := by rw [it]; simp; omega
    obtain ⟨m, S, t1, t2, t3, t4⟩ := mk_tree h4 es ((fi r4 26).toNatClampNeg - ((0 : Int32)).toNatClampNeg) 0 (by decide) z0 (Nat.le_refl _)
    have c0 : 0 ≤ fi r4 26 := h4.2.2.1.1
    have ec := i_nat c0
    refine ⟨h4.1, _, m, S, t1, t2, ?_, fun x hx => (h4.2.2.2.1 x (t3 x hx).1.1 (t3 x hx).1.2).2.1, h4.2.2.2.2.2.2⟩
    have k := nodup_le S ((List.range (fi r4 26).toNatClampNeg).map Int32.ofNat) t2 (fun x hx => List.mem_map.mpr ⟨x.toNatClampNeg, List.mem_range.mpr (nl (t3 x hx).1.1 (t3 x hx).1.2), ?_⟩)
    · rw [List.length_map, List.length_range] at k
      omega
    · have y := i_nat (t3 x hx).1.1
      rw [ie, i_ofn (by have := ir x; omega)]
      omega
  · have z : (0 : Int32).toInt = 0 := rfl
    rw [z]
    omega
end TREE2
