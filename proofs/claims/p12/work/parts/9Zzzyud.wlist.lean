/-! The reference keeps wants: as a list. -/
section ZWLIST
variable {a : L_} {r0 r : S_}
def blk (b : Nat → Bool) (v : Int32) : Nat → Nat → List (Nat × Int32)
  | _, 0 => []
  | c, k + 1 => (if b c = true then [(c, v)] else []) ++ blk b v (c + 1) k
theorem blk_no {v : Int32} : ∀ k c, blk (fun _ => false) v c k = [] := by
  intro k
  induction k with
  | zero => intro c; rfl
  | succ k ih => intro c; rw [blk, ih]; rfl
def WLi (r0 r : S_) (L : List (Nat × Int32)) : Prop := Fr [38] [81, 82] r0 r ∧ L.length ≤ 100000 ∧ fi r 38 = Int32.ofNat L.length ∧ ∀ (i : Nat) (h : i < L.length), ar r 81 i = Int32.ofNat (L[i]).1 ∧ ar r 82 i = (L[i]).2
theorem ix_o {v : Int32} (h : 0 ≤ v) : Int32.ofNat v.toNatClampNeg = v := by
  have b := i_nat h
  have mx : v.toInt ≤ 2147483647 := Int32.toInt_le _
  rw [ie, (ofNs (n := v.toNatClampNeg) (by omega)).1]
  exact b
theorem ws_k339 (l81 : ln a 81 ≤ 100000) (n8 : fi r0 23 ≤ 8) {KX : S_ → Int32 → Int32 → Prop} {v2 v3 v4 : Int32} {b : Nat → Bool} (hb : ∀ c, c < (fi r0 23).toNatClampNeg → (gb v4 c = true ↔ b c = true)) {L0 : List (Nat × Int32)} (hK : ∀ r, WLi r0 r L0 → KX r v2 v3) : ∀ (n : Nat) (r : S_) (v5 : Int32) (L : List (Nat × Int32)), WLi r0 r L → 0 ≤ v5 → v5 ≤ fi r0 23 → L ++ blk b v2 v5.toNatClampNeg ((fi r0 23).toNatClampNeg - v5.toNatClampNeg) = L0 → wM_keep_L339 a KX n r v2 v3 v4 v5 := by
  intro n
  induction n with
  | zero => intro r v5 L _ _ _ _; trivial
  | succ n ih =>
    intro r v5 L h v0 v1 e
    have h' := h
    obtain ⟨F, lb, h38, hL⟩ := h
    rw [wM_keep_L339, F.1 23 (by decide)]
    unfold wM_keep_J390
    refine ⟨fun q => ?_, fun q => ?_⟩
    · have ev : v5 = fi r0 23 := by
        rw [il] at v1 q
        rw [ie]
        omega
      rw [ev, Nat.sub_self, blk, List.append_nil] at e
      rw [← e] at hK
      exact hK r h'
    have q' := Int32.not_le.mp q
    obtain ⟨c0, c1, c2⟩ := inc_le v0 q'
    have v8' : v5 < 8 := by rw [il] at n8; rw [it] at q' ⊢; omega
    have n1 := i_nat v0
    have n2 := i_nat c0
    have n3 := i_nat (zo2 v0 v1)
    have sn : (v5 + 1).toNatClampNeg = v5.toNatClampNeg + 1 := by omega
    have qi := q'
    rw [it] at qi
    have k : (fi r0 23).toNatClampNeg - v5.toNatClampNeg = ((fi r0 23).toNatClampNeg - (v5 + 1).toNatClampNeg) + 1 := by omega
    rw [k, blk, ← sn] at e
    have bm := bt_m (v := v4) v0 v8'
    have hbv := hb v5.toNatClampNeg (by omega)
    refine ⟨fun nb => ih r (v5 + 1) L h' c0 c1 ?_, fun yb hv r59 e59 _ r61 e61 r62 e62 => ih r62 (v5 + 1) (L ++ [(v5.toNatClampNeg, v2)]) ?_ c0 c1 ?_⟩
    · rw [if_neg (fun z => nb (bm.mpr (hbv.mpr z))), List.nil_append] at e
      exact e
    · have o := ofNs (n := L.length) (by omega)
      have e38 : (fi r 38).toNatClampNeg = L.length := by rw [h38]; exact o.2.2
      have hl : L.length < ln a 81 := Nat.lt_of_not_le (fun z => hv (Or.inr (by rw [e38]; exact z)))
      have er : r62 = sF (sA (sA r 81 (upd (ar r 81) (fi r 38).toNatClampNeg v5)) 82 (upd (ar r 82) (fi r 38).toNatClampNeg v2)) 38 (fi r 38 + 1) := by rw [e62, e61, e59]; rfl
      refine ⟨by rw [er]; exact Fr_trans F (Fr_trans (Fr_sA (by decide)) (Fr_trans (Fr_sA (by decide)) (Fr_sF (by decide)))), by rw [List.length_append]; show L.length + 1 ≤ 100000; omega, ?_, fun i hi => ?_⟩
      · rw [er, fi_sF, if_pos rfl, h38, List.length_append, Int32.ofNat_add]
        rfl
      · have x81 : ar r62 81 = upd (ar r 81) L.length v5 := by rw [er, ar_sF, ar_sA, if_neg (by decide), ar_sA, if_pos rfl, e38]
        have x82 : ar r62 82 = upd (ar r 82) L.length v2 := by rw [er, ar_sF, ar_sA, if_pos rfl, e38]
        rw [x81, x82]
        by_cases z : i < L.length
        · have e1 : (L ++ [(v5.toNatClampNeg, v2)])[i] = L[i] := List.getElem_append_left z
          rw [e1, pk_un (by omega), pk_un (by omega)]
          exact hL i z
        · have ez : i = L.length := by
            rw [List.length_append] at hi
            simp at hi
            omega
          have e1 : (L ++ [(v5.toNatClampNeg, v2)])[i] = (v5.toNatClampNeg, v2) := by simp [ez]
          rw [e1, ez, pk_us, pk_us]
          exact ⟨(ix_o v0).symm, rfl⟩
    · rw [if_pos (hbv.mp (bm.mp yb)), ← List.append_assoc] at e
      exact e
/-- found ones from j on, k of them -/
def fl (r0 : S_) (f : Nat → Nat → Bool) (v2 : Int32) (nc : Nat) : Nat → Nat → List (Nat × Int32)
  | _, 0 => []
  | j, k + 1 => (if ar r0 83 (ar r0 84 j).toNatClampNeg = v2 then blk (f j) v2 0 nc else []) ++ fl r0 f v2 nc (j + 1) k
theorem ws_k297 {f : Nat → Nat → Bool} (l81 : ln a 81 ≤ 100000) (n0 : 0 ≤ fi r0 23) (n8 : fi r0 23 ≤ 8) (hl : ∀ r j, Fr [38] [81, 82] r0 r → j < (fi r0 40).toNatClampNeg → ∀ K : Int32 → Prop, (∀ z, (∀ c, gb z c = true ↔ f j c = true) → K z) → wM_least a r K (ar r0 85 j)) {KX : S_ → Int32 → Prop} {v2 : Int32} {L0 : List (Nat × Int32)} (hK : ∀ r, WLi r0 r L0 → KX r v2) : ∀ (n : Nat) (r : S_) (v3 : Int32) (L : List (Nat × Int32)), WLi r0 r L → 0 ≤ v3 → v3 ≤ fi r0 40 → L ++ fl r0 f v2 (fi r0 23).toNatClampNeg v3.toNatClampNeg ((fi r0 40).toNatClampNeg - v3.toNatClampNeg) = L0 → wM_keep_L297 a KX n r v2 v3 := by
  intro n
  induction n with
  | zero => intro r v3 L _ _ _ _; trivial
  | succ n ih =>
    intro r v3 L h v0 v1 e
    have h' := h
    obtain ⟨F, lb, h38, hL⟩ := h
    rw [wM_keep_L297, F.1 40 (by decide), F.2.1 84 (by decide), F.2.1 83 (by decide), F.2.1 85 (by decide)]
    refine ⟨fun q => ?_, fun q _ _ => ?_⟩
    · have ev : v3 = fi r0 40 := by
        rw [il] at v1 q
        rw [ie]
        omega
      rw [ev, Nat.sub_self, fl, List.append_nil] at e
      rw [← e] at hK
      exact hK r h'
    have q' := Int32.not_le.mp q
    obtain ⟨c0, c1, c2⟩ := inc_le v0 q'
    have n1 := i_nat v0
    have n2 := i_nat c0
    have n3 := i_nat (zo2 v0 v1)
    have sn : (v3 + 1).toNatClampNeg = v3.toNatClampNeg + 1 := by omega
    have qi := q'
    rw [it] at qi
    have k : (fi r0 40).toNatClampNeg - v3.toNatClampNeg = ((fi r0 40).toNatClampNeg - (v3 + 1).toNatClampNeg) + 1 := by omega
    rw [k, fl, ← sn, ← List.append_assoc] at e
    have z0 : ((0 : Int32)).toNatClampNeg = 0 := by decide
    unfold wM_keep_J334
    refine ⟨fun nb m => ?_, fun yb _ => hl r v3.toNatClampNeg F (by omega) _ (fun z hz m => ?_)⟩
    · rw [if_neg nb, List.append_nil] at e
      refine ws_k339 (KX := fun r v2 v3 => wM_keep_L297 a KX n r v2 (v3 + 1)) (v3 := v3) (b := fun _ => false) (L0 := L) l81 n8 (fun c _ => ?_) (fun r2 h2 => ih r2 (v3 + 1) L h2 c0 c1 e) m r 0 L h' (Int32.le_refl _) n0 (by rw [blk_no, List.append_nil])
      rw [gb_0]
    · rw [if_pos yb] at e
      exact ws_k339 (KX := fun r v2 v3 => wM_keep_L297 a KX n r v2 (v3 + 1)) (v3 := v3) (b := f v3.toNatClampNeg) (L0 := L ++ blk (f v3.toNatClampNeg) v2 0 (fi r0 23).toNatClampNeg) l81 n8 (fun c _ => hz c) (fun r2 h2 => ih r2 (v3 + 1) _ h2 c0 c1 e) m r 0 L h' (Int32.le_refl _) n0 (by rw [z0, Nat.sub_zero])
/-- numbers from j on, k of them -/
def nl2 (r0 : S_) (f : Nat → Nat → Bool) (nc : Nat) : Nat → Nat → List (Nat × Int32)
  | _, 0 => []
  | j, k + 1 => fl r0 f (Int32.ofNat j) nc 0 (fi r0 40).toNatClampNeg ++ nl2 r0 f nc (j + 1) k
theorem ws_k287 {f : Nat → Nat → Bool} (l81 : ln a 81 ≤ 100000) (n0 : 0 ≤ fi r0 23) (n8 : fi r0 23 ≤ 8) (f40 : 0 ≤ fi r0 40) (hl : ∀ r j, Fr [38] [81, 82] r0 r → j < (fi r0 40).toNatClampNeg → ∀ K : Int32 → Prop, (∀ z, (∀ c, gb z c = true ↔ f j c = true) → K z) → wM_least a r K (ar r0 85 j)) {KX : S_ → Prop} {L0 : List (Nat × Int32)} (hK : ∀ r, WLi r0 r L0 → KX r) : ∀ (n : Nat) (r : S_) (v2 : Int32) (L : List (Nat × Int32)), WLi r0 r L → 0 ≤ v2 → v2 ≤ fi r0 36 → L ++ nl2 r0 f (fi r0 23).toNatClampNeg v2.toNatClampNeg ((fi r0 36).toNatClampNeg - v2.toNatClampNeg) = L0 → wM_keep_L287 a KX n r v2 := by
  intro n
  induction n with
  | zero => intro r v2 L _ _ _ _; trivial
  | succ n ih =>
    intro r v2 L h v0 v1 e
    have h' := h
    obtain ⟨F, lb, h38, hL⟩ := h
    rw [wM_keep_L287, F.1 36 (by decide)]
    refine ⟨fun q => ?_, fun q m => ?_⟩
    · have ev : v2 = fi r0 36 := by
        rw [il] at v1 q
        rw [ie]
        omega
      rw [ev, Nat.sub_self, nl2, List.append_nil] at e
      rw [← e] at hK
      exact hK r h'
    have q' := Int32.not_le.mp q
    obtain ⟨c0, c1, c2⟩ := inc_le v0 q'
    have n1 := i_nat v0
    have n2 := i_nat c0
    have n3 := i_nat (zo2 v0 v1)
    have sn : (v2 + 1).toNatClampNeg = v2.toNatClampNeg + 1 := by omega
    have qi := q'
    rw [it] at qi
    have k : (fi r0 36).toNatClampNeg - v2.toNatClampNeg = ((fi r0 36).toNatClampNeg - (v2 + 1).toNatClampNeg) + 1 := by omega
    rw [k, nl2, ← sn, ix_o v0, ← List.append_assoc] at e
    have z0 : ((0 : Int32)).toNatClampNeg = 0 := by decide
    exact ws_k297 (KX := fun r v2 => wM_keep_L287 a KX n r (v2 + 1)) (L0 := L ++ fl r0 f v2 (fi r0 23).toNatClampNeg 0 (fi r0 40).toNatClampNeg) l81 n0 n8 hl (fun r2 h2 => ih r2 (v2 + 1) _ h2 c0 c1 e) m r 0 L h' (Int32.le_refl _) f40 (by rw [z0, Nat.sub_zero])
end ZWLIST
