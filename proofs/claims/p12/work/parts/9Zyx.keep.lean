/-! The reference: the last type is kept. -/
section KEEP
variable {a : L_} {r : S_} {rh ta : Int32 → Int32} {N : Int32}
def pr (rh : Int32 → Int32) (t : Int32) : Int32 := if 0 ≤ t then rh t else -1
def KL (r0 r : S_) (rh : Int32 → Int32) (v : Nat) : Prop := Fr [] [77, 78, 79, 80] r0 r ∧ ∀ i, i < v → ar r 77 (ar r0 73 i).toNatClampNeg = ar r0 65 (ar r0 73 i).toNatClampNeg ∧ ar r 78 (ar r0 73 i).toNatClampNeg = pr rh (ar r0 66 (ar r0 73 i).toNatClampNeg) ∧ ar r 79 (ar r0 73 i).toNatClampNeg = pr rh (ar r0 67 (ar r0 73 i).toNatClampNeg) ∧ ar r 80 (ar r0 73 i).toNatClampNeg = 0
theorem keep_L16 {r0 : S_} (w : MI a r0 rh ta N) (h0 : 0 ≤ fi r0 30) (h30 : (fi r0 30).toInt ≤ 40000) (hv : ∀ i, i < (fi r0 30).toNatClampNeg → vt r0 (ar r0 73 i)) {KX : S_ → Prop} (hK : ∀ r, KL r0 r rh (fi r0 30).toNatClampNeg → KX r) : ∀ (n : Nat) (r : S_) (v : Int32), KL r0 r rh v.toNatClampNeg → 0 ≤ v → v ≤ fi r0 30 → (fi r0 30).toInt - v.toInt < n → qM_keep_L16 a KX n r v := by
  intro n
  induction n with
  | zero =>
    intro r v _ _ h1 h
    rw [il] at h1
    omega
  | succ n ih =>
    intro r v hq v0 h1 h
    obtain ⟨F, hq⟩ := hq
    have aE : ∀ k, ¬ k = 77 → ¬ k = 78 → ¬ k = 79 → ¬ k = 80 → ar r k = ar r0 k := fun k k1 k2 k3 k4 => F.2.1 k (by simp [k1, k2, k3, k4])
    have e30 : fi r 30 = fi r0 30 := F.1 30 List.not_mem_nil
    rw [qM_keep_L16, e30, aE 73 (by decide) (by decide) (by decide) (by decide), aE 65 (by decide) (by decide) (by decide) (by decide)]
    refine ⟨fun g => hK r ⟨F, ?_⟩, fun g => ?_⟩
    · have e : v = fi r0 30 := by
        rw [il] at g h1
        rw [ie]
        omega
      rw [← e]
      exact hq
    · have g' := Int32.not_le.mp g
      obtain ⟨p1, p2, p3⟩ := inc_le v0 g'
      have sv : (v + 1).toNatClampNeg = v.toNatClampNeg + 1 := by
        have e1 := i_nat v0
        have e2 := i_nat p1
        omega
      obtain ⟨x, ex⟩ : ∃ x, x = ar r0 73 v.toNatClampNeg := ⟨_, rfl⟩
      have vx : vt r0 x := by rw [ex]; exact hv _ (nl v0 g')
      rw [← ex]
      have t40 : ∀ k, 36 ≤ k → k < 89 → ln0 k = 40000 → vp_in x (ln a k) := fun k k1 k2 k3 => tin w vx.1 vx.2 k1 k2 k3
      have nb := w.2.2.2.1 x vx.1 vx.2
      refine ⟨vi2 v0 g' (by rw [ml (n := 40000) w.1 (by decide) (by decide) rfl]; exact h30), t40 65 (by decide) (by decide) rfl, t40 77 (by decide) (by decide) rfl, fun r8 e8 => ?_⟩
      have F8 : Fr [] [77, 78, 79, 80] r0 r8 := by rw [e8]; exact Fr_trans F (Fr_sA (by decide))
      have w8 : MI a r8 rh ta N := MI_Fr w F8 (by decide) (by decide)
      have e66 : ar r8 66 = ar r0 66 := F8.2.1 66 (by decide)
      rw [e66]
      -- the rest, with both parts given
      have j100 : ∀ (r14 : S_) (x2 : Int32), r14 = sA r8 78 (upd (ar r8 78) x.toNatClampNeg (pr rh (ar r0 66 x.toNatClampNeg))) → x2 = pr rh (ar r0 67 x.toNatClampNeg) → qM_keep_J100 a (qM_keep_L16 a KX n) KX r14 v x x2 x := fun r14 x2 e14 ex2 => by
        unfold qM_keep_J100
        refine ⟨t40 79 (by decide) (by decide) rfl, fun r20 e20 => ⟨t40 80 (by decide) (by decide) rfl, fun r22 e22 => ?_⟩⟩
        have a77 : ar r22 77 = upd (ar r 77) x.toNatClampNeg (ar r0 65 x.toNatClampNeg) := by rw [e22, e20, e14, e8]; rfl
        have a78 : ar r22 78 = upd (ar r 78) x.toNatClampNeg (pr rh (ar r0 66 x.toNatClampNeg)) := by rw [e22, e20, e14, e8]; rfl
        have a79 : ar r22 79 = upd (ar r 79) x.toNatClampNeg x2 := by rw [e22, e20, e14, e8]; rfl
        have a80 : ar r22 80 = upd (ar r 80) x.toNatClampNeg 0 := by rw [e22, e20, e14, e8]; rfl
        refine ih r22 _ ⟨?_, fun i hi => ?_⟩ p1 p2 (by omega)
        · rw [e22, e20, e14]
          exact Fr_trans F8 (Fr_trans (Fr_sA (by decide)) (Fr_trans (Fr_sA (by decide)) (Fr_sA (by decide))))
        · rw [sv] at hi
          rw [a77, a78, a79, a80]
          have vi' : vt r0 (ar r0 73 i) := hv i (by have := nl v0 g'; omega)
          rw [updI _ _ vx.1 vi'.1, updI _ _ vx.1 vi'.1, updI _ _ vx.1 vi'.1, updI _ _ vx.1 vi'.1]
          by_cases e : ar r0 73 i = x
          · rw [if_pos e, if_pos e, if_pos e, if_pos e, e, ex2]
            exact ⟨rfl, rfl, rfl, rfl⟩
          · rw [if_neg e, if_neg e, if_neg e, if_neg e]
            refine hq i ?_
            by_cases e2 : i = v.toNatClampNeg
            · rw [e2] at e
              exact absurd ex.symm e
            · omega
      have j71 : ∀ x1 : Int32, x1 = pr rh (ar r0 66 x.toNatClampNeg) → qM_keep_J71 a (qM_keep_L16 a KX n) KX r8 v x x1 x := fun x1 e1 => by
        unfold qM_keep_J71
        refine ⟨t40 78 (by decide) (by decide) rfl, fun r14 e14 => ?_⟩
        rw [e1] at e14
        have F14 : Fr [] [77, 78, 79, 80] r0 r14 := by rw [e14]; exact Fr_trans F8 (Fr_sA (by decide))
        have w14 : MI a r14 rh ta N := MI_Fr w F14 (by decide) (by decide)
        rw [F14.2.1 67 (by decide)]
        refine ⟨t40 67 (by decide) (by decide) rfl, fun g1 => ⟨t40 67 (by decide) (by decide) rfl, find_ok w14 g1 (by rw [F14.1 28 List.not_mem_nil]; exact nb.2.2.2.1.2) (j100 r14 _ e14 (by unfold pr; rw [if_pos g1]))⟩, fun g1 => j100 r14 _ e14 (by unfold pr; rw [if_neg g1])⟩
      exact ⟨t40 66 (by decide) (by decide) rfl, fun g1 => ⟨t40 66 (by decide) (by decide) rfl, find_ok w8 g1 (by rw [F8.1 28 List.not_mem_nil]; exact nb.2.2.1.2) (j71 _ (by unfold pr; rw [if_pos g1]))⟩, fun g1 => j71 _ (by unfold pr; rw [if_neg g1])⟩
/-- a set of terms that the last type's parts don't leave -/
def CC (r : S_) (C : Int32 → Prop) : Prop := ∀ x, C x → (0 ≤ x ∧ x < 40000) ∧ (-1 ≤ ar r 78 x.toNatClampNeg ∧ (0 ≤ ar r 78 x.toNatClampNeg → C (ar r 78 x.toNatClampNeg))) ∧ (-1 ≤ ar r 79 x.toNatClampNeg ∧ (0 ≤ ar r 79 x.toNatClampNeg → C (ar r 79 x.toNatClampNeg))) ∧ (ar r 78 x.toNatClampNeg = -1 → ar r 79 x.toNatClampNeg = -1)
def zz (r : S_) (x : Int32) : Int := if x = -1 then 0 else (ar r 80 x.toNatClampNeg).toInt
def LZs (r : S_) (C : Int32 → Prop) : Prop := ∀ x, C x → (0 ≤ (ar r 80 x.toNatClampNeg).toInt ∧ (ar r 80 x.toNatClampNeg).toInt ≤ 1000000000) ∧ (ar r 80 x.toNatClampNeg).toInt ≤ 1 + zz r (ar r 78 x.toNatClampNeg) + zz r (ar r 79 x.toNatClampNeg)
def zc (r : S_) : Nat := cnt (fun i => decide (ar r 80 (ar r 73 i).toNatClampNeg = 0)) (fi r 30).toNatClampNeg
theorem neg1 {x : Int32} (h1 : -1 ≤ x) : (x = -1 ↔ ¬ 0 ≤ x) := by
  rw [il] at h1
  rw [ie, il]
  simp at h1 ⊢
  omega
theorem sum_ok {p q : Int32} (p0 : 0 ≤ p.toInt) (p1 : p.toInt ≤ 1000000000) (q0 : 0 ≤ q.toInt) (q1 : q.toInt ≤ 1000000000) {K : Int32 → Prop} (hK : ∀ z : Int32, 0 ≤ z.toInt → z.toInt ≤ 1000000000 → z.toInt ≤ p.toInt + q.toInt → (1 ≤ p.toInt → 1 ≤ z.toInt) → K z) : qM_sum a r K p q := by
  have e : (p + q).toInt = p.toInt + q.toInt := i_add (by omega) (by omega)
  unfold qM_sum
  refine ⟨fun g => ?_, fun g => ?_⟩
  · rw [il, e] at g
    simp at g
    exact hK _ (by omega) (by omega) (by omega) (by omega)
  · rw [il, e] at g
    simp at g
    exact hK _ (by decide) (by decide) (by show (1000000000 : Int) ≤ _; omega) (fun _ => by decide)
theorem keep_L124 {r0 : S_} {C : Int32 → Prop} {z0 : Nat} (hM : ML a) (h0 : 0 ≤ fi r0 30) (h30 : (fi r0 30).toInt ≤ 40000) (hv : ∀ i, i < (fi r0 30).toNatClampNeg → C (ar r0 73 i)) (cc : CC r0 C) {KX : S_ → Int32 → Prop} (hK : ∀ r v1, Fr [] [80] r0 r → LZs r C → (v1 = 0 ∨ zc r < z0) → KX r v1) : ∀ (n : Nat) (r : S_) (v1 v2 : Int32), Fr [] [80] r0 r → LZs r C → zc r ≤ z0 → (v1 = 0 ∨ zc r < z0) → 0 ≤ v2 → v2 ≤ fi r0 30 → (fi r0 30).toInt - v2.toInt < n → qM_keep_L124 a KX n r v1 v2 := by
  intro n
  induction n with
  | zero =>
    intro r v1 v2 _ _ _ _ _ h1 h
    rw [il] at h1
    omega
  | succ n ih =>
    intro r v1 v2 F ls hz hz' v0 h1 h
    have aE : ∀ k, ¬ k = 80 → ar r k = ar r0 k := fun k hk => F.2.1 k (by simpa using hk)
    have e30 : fi r 30 = fi r0 30 := F.1 30 List.not_mem_nil
    rw [qM_keep_L124, e30, aE 73 (by decide), aE 78 (by decide)]
    refine ⟨fun _ => hK r v1 F ls hz', fun g => ?_⟩
    have g' := Int32.not_le.mp g
    obtain ⟨p1, p2, p3⟩ := inc_le v0 g'
    have vn := nl v0 g'
    obtain ⟨x, ex⟩ : ∃ x, x = ar r0 73 v2.toNatClampNeg := ⟨_, rfl⟩
    have Cx : C x := by rw [ex]; exact hv _ vn
    rw [← ex]
    have c := cc x Cx
    have i40 : ∀ (y : Int32), C y → ∀ k, 36 ≤ k → k < 89 → ln0 k = 40000 → vp_in y (ln a k) := fun y hy k k1 k2 k3 => vi2 (cc y hy).1.1 (cc y hy).1.2 (by rw [ml hM k1 k2 k3]; decide)
    have tx := i40 x Cx
    have nx : ∀ (q : S_) (u : Int32), Fr [] [80] r0 q → LZs q C → zc q ≤ z0 → (u = 0 ∨ zc q < z0) → qM_keep_L124 a KX n q u (v2 + 1) := fun q u F2 l2 k1 k2 => ih q u _ F2 l2 k1 k2 p1 p2 (by omega)
    have zb' : ∀ t : Int32, (-1 ≤ t ∧ (0 ≤ t → C t)) → 0 ≤ zz r t ∧ zz r t ≤ 1000000000 := fun t ht => by
      unfold zz
      by_cases e : t = -1
      · rw [if_pos e]; omega
      · rw [if_neg e]
        have t0 : 0 ≤ t := by
          by_cases g : 0 ≤ t
          · exact g
          · exact absurd ((neg1 ht.1).mpr g) e
        exact (ls t (ht.2 t0)).1
    have j224 : ∀ (p q u0 : Int32), p.toInt = zz r (ar r0 78 x.toNatClampNeg) → q.toInt = zz r (ar r0 79 x.toNatClampNeg) → qM_keep_J224 a (qM_keep_L124 a KX n) KX r v1 v2 x p q u0 := fun p q u0 ep eq => by
      have b1 := zb' _ c.2.1
      have b2 := zb' _ c.2.2.1
      unfold qM_keep_J224 qM_keep_J259
      refine ⟨tx 80 (by decide) (by decide) rfl, fun _ => nx r v1 F ls hz hz', fun gz => ⟨fun _ => nx r v1 F ls hz hz', fun _ => ?_⟩⟩
      refine sum_ok (by omega) (by omega) (by omega) (by omega) (fun s s0 s1 s2 _ => sum_ok (by decide) (by decide) s0 s1 (fun t t0 t1 t2 t3 => ⟨tx 80 (by decide) (by decide) rfl, fun r44 e44 => ?_⟩))
      have t3' := t3 (by decide)
      have t2' : t.toInt ≤ 1 + s.toInt := t2
      have F44 : Fr [] [80] r0 r44 := by rw [e44]; exact Fr_trans F (Fr_sA (by decide))
      have a44 : ar r44 80 = upd (ar r 80) x.toNatClampNeg t := by rw [e44, ar_sA, if_pos rfl]
      have b44 : ∀ k, ¬ k = 80 → ar r44 k = ar r k := fun k hk => by rw [e44, ar_sA, if_neg hk]
      have zx : (ar r 80 x.toNatClampNeg).toInt = 0 := by rw [gz]; rfl
      have rd : ∀ y, C y → ar r44 80 y.toNatClampNeg = if y = x then t else ar r 80 y.toNatClampNeg := fun y hy => by rw [a44, updI _ _ c.1.1 (cc y hy).1.1]
      have ge : ∀ u : Int32, (-1 ≤ u ∧ (0 ≤ u → C u)) → zz r u ≤ zz r44 u := fun u hu => by
        unfold zz
        by_cases e : u = -1
        · rw [if_pos e, if_pos e]; exact Int.le_refl _
        · rw [if_neg e, if_neg e]
          have u0 : 0 ≤ u := by
            by_cases g : 0 ≤ u
            · exact g
            · exact absurd ((neg1 hu.1).mpr g) e
          rw [rd u (hu.2 u0)]
          split
          · rename_i e2
            rw [e2, zx]
            omega
          · exact Int.le_refl _
      have ls44 : LZs r44 C := fun y hy => by
        have cy := cc y hy
        have k := ls y hy
        have g1 := ge _ cy.2.1
        have g2 := ge _ cy.2.2.1
        rw [b44 78 (by decide), b44 79 (by decide), aE 78 (by decide), aE 79 (by decide), rd y hy]
        rw [aE 78 (by decide), aE 79 (by decide)] at k
        split
        · rename_i e
          rw [e] at g1 g2 ⊢
          exact ⟨⟨t0, t1⟩, by omega⟩
        · exact ⟨k.1, by omega⟩
      have zl : zc r44 < zc r := by
        unfold zc
        have e30' : fi r44 30 = fi r 30 := by rw [e44]; rfl
        have e73 : ar r44 73 = ar r0 73 := (b44 73 (by decide)).trans (aE 73 (by decide))
        rw [e30', e73, aE 73 (by decide), e30]
        refine cnt_slt (fun i hi hp => ?_) (i := v2.toNatClampNeg) vn ?_ ?_
        · have hp' := of_decide_eq_true hp
          rw [rd _ (hv i hi)] at hp'
          split at hp'
          · rw [hp'] at t3'
            simp at t3'
          · exact decide_eq_true hp'
        · rw [← ex]
          refine decide_eq_false (fun z => ?_)
          rw [rd x Cx, if_pos rfl] at z
          rw [z] at t3'
          simp at t3'
        · rw [← ex]
          exact decide_eq_true gz
      exact nx r44 1 F44 ls44 (by omega) (Or.inr (by omega))
    have j189 : ∀ (p q : Int32), p.toInt = zz r (ar r0 78 x.toNatClampNeg) → q.toInt = zz r (ar r0 79 x.toNatClampNeg) → qM_keep_J189 a (qM_keep_L124 a KX n) KX r v1 v2 x p q := fun p q ep eq => by
      unfold qM_keep_J189 qM_keep_J205 qM_keep_J219 qM_keep_J223
      have k1 := j224 p q 1 ep eq
      have k0 := j224 p q 0 ep eq
      exact ⟨tx 78 (by decide) (by decide) rfl, fun _ => ⟨tx 79 (by decide) (by decide) rfl, fun _ => k1, fun _ => ⟨fun _ => k0, fun _ => k1⟩⟩, fun _ => ⟨fun _ => k0, fun _ => ⟨tx 79 (by decide) (by decide) rfl, fun _ => k1, fun _ => ⟨fun _ => k0, fun _ => k1⟩⟩⟩⟩
    have j163 : ∀ p : Int32, p.toInt = zz r (ar r0 78 x.toNatClampNeg) → qM_keep_J163 a (qM_keep_L124 a KX n) KX r v1 v2 x p := fun p ep => by
      unfold qM_keep_J163
      rw [aE 79 (by decide)]
      refine ⟨tx 79 (by decide) (by decide) rfl, fun g1 => ⟨tx 79 (by decide) (by decide) rfl, i40 _ (c.2.2.1.2 g1) 80 (by decide) (by decide) rfl, j189 p _ ep ?_⟩, fun g1 => j189 p 0 ep ?_⟩
      · unfold zz
        rw [if_neg (fun e => by rw [e] at g1; exact absurd g1 (by decide))]
      · unfold zz
        rw [if_pos ((neg1 c.2.2.1.1).mpr g1)]
        rfl
    refine ⟨vi2 v0 g' (by rw [ml (n := 40000) hM (by decide) (by decide) rfl]; exact h30), tx 78 (by decide) (by decide) rfl, fun g1 => ⟨tx 78 (by decide) (by decide) rfl, i40 _ (c.2.1.2 g1) 80 (by decide) (by decide) rfl, j163 _ ?_⟩, fun g1 => j163 0 ?_⟩
    · unfold zz
      rw [if_neg (fun e => by rw [e] at g1; exact absurd g1 (by decide))]
    · unfold zz
      rw [if_pos ((neg1 c.2.1.1).mpr g1)]
      rfl
theorem keep_L116 {r0 : S_} {C : Int32 → Prop} (hM : ML a) (h0 : 0 ≤ fi r0 30) (h30 : (fi r0 30).toInt ≤ 40000) (hv : ∀ i, i < (fi r0 30).toNatClampNeg → C (ar r0 73 i)) (cc : CC r0 C) {KX : S_ → Prop} (hK : ∀ r, Fr [] [80] r0 r → LZs r C → KX r) : ∀ (n : Nat) (r : S_) (v1 : Int32), Fr [] [80] r0 r → LZs r C → 1 ≤ n → (v1 = 0 ∨ zc r + 1 < n) → qM_keep_L116 a KX n r v1 := by
  intro n
  induction n with
  | zero =>
    intro r v1 _ _ h _
    omega
  | succ n ih =>
    intro r v1 F ls _ h
    rw [qM_keep_L116]
    refine ⟨fun _ => hK r F ls, fun g => ⟨(fi r0 30).toInt.toNat + 1, keep_L124 (z0 := zc r) hM h0 h30 hv cc (fun r2 u F2 l2 k => ih r2 u F2 l2 (by rcases h with z | z; exact absurd z g; omega) (k.imp id (fun y => by rcases h with z | z; exact absurd z g; omega))) _ r 0 0 F ls (Nat.le_refl _) (Or.inl rfl) (Int32.le_refl _) h0 (fu h0)⟩⟩
end KEEP
