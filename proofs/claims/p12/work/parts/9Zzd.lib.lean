/-! Liberal versions: if it comes to an end without a fault, then. -/
section LIB
def wK_methodOf (a : L_) (r : S_) (K : Int32 → Prop) (p0 : Int32) : Prop :=
  vp_in p0 (ln a 8) → K (ar r 8 p0.toNatClampNeg)
def wK_slot (a : L_) (r : S_) (K : Int32 → Prop) (p0 : Int32) (p1 : Int32) : Prop :=
  K ((p0 * 8) + p1)
def wE_has (a : L_) (r : S_) (K : Int32 → Prop) (p0 : Int32) : Prop :=
  ((p0 < 0) → zb 0 → K 0) ∧ ((¬ p0 < 0) → (((fi r 4) ≤ p0) → zb 0 → K 0) ∧ ((¬ (fi r 4) ≤ p0) → zb 1 → K 1))
def wD_sizeOf (a : L_) (r : S_) (K : Int64 → Prop) (p0 : Int32) : Prop :=
  ((¬ p0 = (-1)) → vp_in p0 (ln a 89) → K (la r 0 p0.toNatClampNeg)) ∧ ((p0 = (-1)) → K 0)
def wK_lowest_J35 (a : L_) (r : S_) (KB4 : Int32 → Int32 → Int32 → Prop) (KX41 : Int32 → Int32 → Prop) (v1 : Int32) (v2 : Int32) (v3 : Int32) : Prop :=
  KB4 v1 v2 (v3 + 1)
def wK_lowest_L4 (a : L_) (r : S_) (KX41 : Int32 → Int32 → Prop) : Nat → Int32 → Int32 → Int32 → Prop
  | 0, _, _, _ => True
  | n + 1, v1, v2, v3 => (((fi r 2) ≤ v3) → KX41 v1 v2) ∧ ((¬ (fi r 2) ≤ v3) → (((v1 &&& (1 <<< (v3 &&& 31))) = 0) → wK_lowest_J35 a r (wK_lowest_L4 a r KX41 n) KX41 v1 v2 v3) ∧ ((¬ (v1 &&& (1 <<< (v3 &&& 31))) = 0) → vp_in v3 (ln a 7) → ∀ z4 : Int32, z4 = v2 ||| ((ar r 7 v3.toNatClampNeg) &&& ((1 <<< (v3 &&& 31)) ^^^ (-1))) → wK_lowest_J35 a r (wK_lowest_L4 a r KX41 n) KX41 v1 z4 v3))
def wK_lowest (a : L_) (r : S_) (K : Int32 → Prop) (p0 : Int32) : Prop :=
  ∀ n5 : Nat, wK_lowest_L4 a r (fun v1 v2 => K (v1 &&& (v2 ^^^ (-1)))) n5 p0 0 0
def wK_haveInstances_J34 (a : L_) (r : S_) (KB2 : Int32 → Int32 → Int32 → Prop) (KX32 : Prop) (KX40 : Prop) (v1 : Int32) (v2 : Int32) (v3 : Int32) : Prop :=
  KB2 v1 v2 (v3 + 1)
def wK_haveInstances_L2 (a : L_) (r : S_) (KX32 : Prop) (KX40 : Prop) : Nat → Int32 → Int32 → Int32 → Prop
  | 0, _, _, _ => True
  | n + 1, v1, v2, v3 => (((fi r 2) ≤ v3) → KX40) ∧ ((¬ (fi r 2) ≤ v3) → (((v1 &&& (1 <<< (v3 &&& 31))) = 0) → wK_haveInstances_J34 a r (wK_haveInstances_L2 a r KX32 KX40 n) KX32 KX40 v1 v2 v3) ∧ ((¬ (v1 &&& (1 <<< (v3 &&& 31))) = 0) → wK_slot a r (fun z3 => vp_in z3 (ln a 9) → ((¬ (ar r 9 z3.toNatClampNeg) = (-1)) → wK_haveInstances_J34 a r (wK_haveInstances_L2 a r KX32 KX40 n) KX32 KX40 v1 v2 v3) ∧ (((ar r 9 z3.toNatClampNeg) = (-1)) → KX32)) v3 v2))
def wK_haveInstances (a : L_) (r : S_) (K : Int32 → Prop) (p0 : Int32) (p1 : Int32) : Prop :=
  ∀ n8 : Nat, wK_haveInstances_L2 a r (zb 0 → K 0) (zb 1 → K 1) n8 p0 p1 0
def wK_joined_J37 (a : L_) (r : S_) (m0 : Nat) (KB6 : Int32 → Int32 → Int32 → Int32 → Prop) (KX43 : Int32 → Prop) (v2 : Int32) (v3 : Int32) (v4 : Int32) (v5 : Int32) : Prop :=
  KB6 v2 v3 v4 (v5 + 1)
def wK_joined_L6 (a : L_) (r : S_) (m0 : Nat) (KX43 : Int32 → Prop) : Nat → Int32 → Int32 → Int32 → Int32 → Prop
  | 0, _, _, _, _ => True
  | n + 1, v2, v3, v4, v5 => (((fi r 2) ≤ v5) → KX43 v4) ∧ ((¬ (fi r 2) ≤ v5) → (((v2 &&& (1 <<< (v5 &&& 31))) = 0) → wK_joined_J37 a r m0 (wK_joined_L6 a r m0 KX43 n) KX43 v2 v3 v4 v5) ∧ ((¬ (v2 &&& (1 <<< (v5 &&& 31))) = 0) → wK_slot a r (fun z3 => vp_in z3 (ln a m0) → wK_joined_J37 a r m0 (wK_joined_L6 a r m0 KX43 n) KX43 v2 v3 (v4 ||| (ar r m0 z3.toNatClampNeg)) v5) v5 v3))
def wK_joined (a : L_) (r : S_) (m0 : Nat) (K : Int32 → Prop) (p1 : Int32) (p2 : Int32) : Prop :=
  ∀ n5 : Nat, wK_joined_L6 a r m0 (fun v4 => K v4) n5 p1 p2 0 0
def wE_nodesOf (a : L_) (r : S_) (K : Int32 → Prop) (p0 : Int32) : Prop :=
  vp_in p0 (ln a 16) → K (ar r 16 p0.toNatClampNeg)
def wY_enter (a : L_) (K : S_ → Prop) (r : S_) (p0 : Int32) (p1 : Int32) (p2 : Int32) : Prop :=
  ((24 ≤ (fi r 5)) → K r) ∧ ((¬ 24 ≤ (fi r 5)) → vp_in (fi r 5) (ln a 17) → ∀ r3 : S_, r3 = sA r 17 (upd (ar r 17) (fi r 5).toNatClampNeg p0) → vp_in (fi r3 5) (ln a 18) → ∀ r5 : S_, r5 = sA r3 18 (upd (ar r3 18) (fi r3 5).toNatClampNeg p1) → vp_in (fi r5 5) (ln a 19) → ∀ r7 : S_, r7 = sA r5 19 (upd (ar r5 19) (fi r5 5).toNatClampNeg p2) → ∀ r8 : S_, r8 = sF r7 5 ((fi r7 5) + 1) → K r8)
def wY_leave (a : L_) (K : S_ → Prop) (r : S_) : Prop :=
  (((fi r 5) ≤ 0) → K r) ∧ ((¬ (fi r 5) ≤ 0) → ∀ r2 : S_, r2 = sF r 5 ((fi r 5) - 1) → K r2)
def wG_startWalk (a : L_) (K : S_ → Prop) (r : S_) : Prop :=
  ∀ r1 : S_, r1 = sF r 13 ((fi r 13) + 1) → ∀ r2 : S_, r2 = sF r1 12 0 → K r2
def wG_settled_L4 (a : L_) (KX36 : S_ → Int32 → Int32 → Prop) : Nat → S_ → Int32 → Int32 → Int32 → Prop
  | 0, _, _, _, _ => True
  | n + 1, r, v1, v2, v3 => vp_in v2 (ln a 21) → ((¬ (ar r 21 v2.toNatClampNeg) = (-2)) → KX36 r v1 v2) ∧ (((ar r 21 v2.toNatClampNeg) = (-2)) → (((fi r 11) ≤ v3) → KX36 r v1 v2) ∧ ((¬ (fi r 11) ≤ v3) → vp_in v2 (ln a 22) → (wG_settled_L4 a KX36 n) r v1 (ar r 22 v2.toNatClampNeg) (v3 + 1)))
def wG_settled_J36 (a : L_) (K : Int32 → S_ → Prop) (r : S_) (v1 : Int32) (v2 : Int32) : Prop :=
  ((v2 = v1) → K v2 r) ∧ ((¬ v2 = v1) → vp_in v1 (ln a 22) → ∀ r7 : S_, r7 = sA r 22 (upd (ar r 22) v1.toNatClampNeg v2) → K v2 r7)
def wG_settled (a : L_) (K : Int32 → S_ → Prop) (r : S_) (p0 : Int32) : Prop :=
  ∀ n8 : Nat, wG_settled_L4 a (fun r v1 v2 => wG_settled_J36 a K r v1 v2) n8 r p0 p0 0
def wG_push (a : L_) (K : S_ → Prop) (r : S_) (p0 : Int32) : Prop :=
  (((Int32.ofNat (ln a 31)) ≤ (fi r 14)) → K r) ∧ ((¬ (Int32.ofNat (ln a 31)) ≤ (fi r 14)) → vp_in (fi r 14) (ln a 31) → ∀ r3 : S_, r3 = sA r 31 (upd (ar r 31) (fi r 14).toNatClampNeg p0) → ∀ r4 : S_, r4 = sF r3 14 ((fi r3 14) + 1) → K r4)
def wG_walk_J166 (a : L_) (KB16 : S_ → Int32 → Prop) (KX172 : S_ → Prop) (r : S_) (v2 : Int32) : Prop :=
  KB16 r (v2 + 1)
def wG_walk_J142 (a : L_) (KB16 : S_ → Int32 → Prop) (KX172 : S_ → Prop) (r : S_) (v2 : Int32) (v3 : Int32) : Prop :=
  vp_in v3 (ln a 22) → (((ar r 22 v3.toNatClampNeg) = (-1)) → wG_walk_J166 a KB16 KX172 r v2) ∧ ((¬ (ar r 22 v3.toNatClampNeg) = (-1)) → vp_in v3 (ln a 22) → wG_settled a (fun z22 r23 => wG_push a (fun r24 => wG_walk_J166 a KB16 KX172 r24 v2) r23 z22) r (ar r 22 v3.toNatClampNeg))
def wG_walk_L16 (a : L_) (KX172 : S_ → Prop) : Nat → S_ → Int32 → Prop
  | 0, _, _ => True
  | n + 1, r, v2 => (((fi r 14) ≤ 0) → KX172 r) ∧ ((¬ (fi r 14) ≤ 0) → ((1000000 ≤ v2) → KX172 r) ∧ ((¬ 1000000 ≤ v2) → ∀ r7 : S_, r7 = sF r 14 ((fi r 14) - 1) → vp_in (fi r7 14) (ln a 31) → ((0 ≤ (ar r7 31 (fi r7 14).toNatClampNeg)) → vp_in (ar r7 31 (fi r7 14).toNatClampNeg) (ln a 28) → ((¬ (ar r7 28 (ar r7 31 (fi r7 14).toNatClampNeg).toNatClampNeg) = (fi r7 13)) → vp_in (ar r7 31 (fi r7 14).toNatClampNeg) (ln a 28) → ∀ r13 : S_, r13 = sA r7 28 (upd (ar r7 28) (ar r7 31 (fi r7 14).toNatClampNeg).toNatClampNeg (fi r7 13)) → vp_in (ar r7 31 (fi r7 14).toNatClampNeg) (ln a 29) → ∀ r15 : S_, r15 = sA r13 29 (upd (ar r13 29) (ar r7 31 (fi r7 14).toNatClampNeg).toNatClampNeg (ar r7 31 (fi r7 14).toNatClampNeg)) → wG_push a (fun r16 => vp_in (ar r7 31 (fi r7 14).toNatClampNeg) (ln a 23) → (((ar r16 23 (ar r7 31 (fi r7 14).toNatClampNeg).toNatClampNeg) = (-1)) → wG_walk_J142 a (wG_walk_L16 a KX172 n) KX172 r16 v2 (ar r7 31 (fi r7 14).toNatClampNeg)) ∧ ((¬ (ar r16 23 (ar r7 31 (fi r7 14).toNatClampNeg).toNatClampNeg) = (-1)) → vp_in (ar r7 31 (fi r7 14).toNatClampNeg) (ln a 23) → wG_settled a (fun z26 r27 => wG_push a (fun r28 => wG_walk_J142 a (wG_walk_L16 a KX172 n) KX172 r28 v2 (ar r7 31 (fi r7 14).toNatClampNeg)) r27 z26) r16 (ar r16 23 (ar r7 31 (fi r7 14).toNatClampNeg).toNatClampNeg))) r15 ((-1) - (ar r7 31 (fi r7 14).toNatClampNeg))) ∧ (((ar r7 28 (ar r7 31 (fi r7 14).toNatClampNeg).toNatClampNeg) = (fi r7 13)) → wG_walk_J166 a (wG_walk_L16 a KX172 n) KX172 r7 v2)) ∧ ((¬ 0 ≤ (ar r7 31 (fi r7 14).toNatClampNeg)) → vp_in (fi r7 12) (ln a 30) → ∀ r30 : S_, r30 = sA r7 30 (upd (ar r7 30) (fi r7 12).toNatClampNeg ((-1) - (ar r7 31 (fi r7 14).toNatClampNeg))) → ∀ r31 : S_, r31 = sF r30 12 ((fi r30 12) + 1) → wG_walk_J166 a (wG_walk_L16 a KX172 n) KX172 r31 v2)))
def wG_walk (a : L_) (K : S_ → Prop) (r : S_) (p0 : Int32) : Prop :=
  ∀ r1 : S_, r1 = sF r 14 0 → wG_settled a (fun z2 r3 => wG_push a (fun r4 => ∀ n32 : Nat, wG_walk_L16 a (fun r => K r) n32 r4 0) r3 z2) r1 p0
def wY_markBound_J40 (a : L_) (KB9 : S_ → Int32 → Prop) (KX46 : S_ → Prop) (r : S_) (v1 : Int32) : Prop :=
  KB9 r (v1 + 1)
def wY_markBound_L9 (a : L_) (KX46 : S_ → Prop) : Nat → S_ → Int32 → Prop
  | 0, _, _ => True
  | n + 1, r, v1 => (((fi r 5) ≤ v1) → KX46 r) ∧ ((¬ (fi r 5) ≤ v1) → vp_in v1 (ln a 19) → ((¬ (ar r 19 v1.toNatClampNeg) = (-1)) → wY_markBound_J40 a (wY_markBound_L9 a KX46 n) KX46 r v1) ∧ (((ar r 19 v1.toNatClampNeg) = (-1)) → vp_in v1 (ln a 18) → wG_walk a (fun r6 => wY_markBound_J40 a (wY_markBound_L9 a KX46 n) KX46 r6 v1) r (ar r 18 v1.toNatClampNeg)))
def wY_markBound_L48 (a : L_) (KX86 : S_ → Prop) : Nat → S_ → Int32 → Prop
  | 0, _, _ => True
  | n + 1, r, v1 => (((fi r 12) ≤ v1) → KX86 r) ∧ ((¬ (fi r 12) ≤ v1) → vp_in v1 (ln a 30) → vp_in (ar r 30 v1.toNatClampNeg) (ln a 27) → ∀ r10 : S_, r10 = sA r 27 (upd (ar r 27) (ar r 30 v1.toNatClampNeg).toNatClampNeg (fi r 6)) → (wY_markBound_L48 a KX86 n) r10 (v1 + 1))
def wY_markBound (a : L_) (K : S_ → Prop) (r : S_) : Prop :=
  wG_startWalk a (fun r1 => ∀ n12 : Nat, wY_markBound_L9 a (fun r => ∀ n11 : Nat, wY_markBound_L48 a (fun r => K r) n11 r 0) n12 r1 0) r
def wG_isVariable (a : L_) (r : S_) (K : Int32 → Prop) (p0 : Int32) : Prop :=
  vp_in p0 (ln a 21) → ((¬ (ar r 21 p0.toNatClampNeg) = (-1)) → zb 0 → K 0) ∧ (((ar r 21 p0.toNatClampNeg) = (-1)) → zb 1 → K 1)
def wG_firstOf (a : L_) (K : Int32 → S_ → Prop) (r : S_) (p0 : Int32) : Prop :=
  vp_in p0 (ln a 22) → ((¬ (ar r 22 p0.toNatClampNeg) = (-1)) → vp_in p0 (ln a 22) → wG_settled a (fun z4 r5 => K z4 r5) r (ar r 22 p0.toNatClampNeg)) ∧ (((ar r 22 p0.toNatClampNeg) = (-1)) → K (-1) r)
def wY_holdsOpen (a : L_) (r : S_) (K : Int32 → Prop) (p0 : Int32) : Prop :=
  ((p0 = (-1)) → zb 0 → K 0) ∧ ((¬ p0 = (-1)) → vp_in p0 (ln a 26) → ((¬ (ar r 26 p0.toNatClampNeg) = 1) → zb 0 → K 0) ∧ (((ar r 26 p0.toNatClampNeg) = 1) → zb 1 → K 1))
def wG_secondOf (a : L_) (K : Int32 → S_ → Prop) (r : S_) (p0 : Int32) : Prop :=
  vp_in p0 (ln a 23) → ((¬ (ar r 23 p0.toNatClampNeg) = (-1)) → vp_in p0 (ln a 23) → wG_settled a (fun z4 r5 => K z4 r5) r (ar r 23 p0.toNatClampNeg)) ∧ (((ar r 23 p0.toNatClampNeg) = (-1)) → K (-1) r)
def wY_markOpen_J128 (a : L_) (KB17 : S_ → Int32 → Prop) (KX135 : S_ → Prop) (r : S_) (v2 : Int32) (u0 : Int32) (u1 : Int32) : Prop :=
  vp_in u1 (ln a 26) → ∀ r13 : S_, r13 = sA r 26 (upd (ar r 26) u1.toNatClampNeg u0) → KB17 r13 (v2 + 1)
def wY_markOpen_J108 (a : L_) (KB17 : S_ → Int32 → Prop) (KX135 : S_ → Prop) (r : S_) (v2 : Int32) (v3 : Int32) (u0 : Int32) : Prop :=
  ((u0 = 0) → wY_markOpen_J128 a KB17 KX135 r v2 0 v3) ∧ ((¬ u0 = 0) → wY_markOpen_J128 a KB17 KX135 r v2 1 v3)
def wY_markOpen_J103 (a : L_) (KB17 : S_ → Int32 → Prop) (KX135 : S_ → Prop) (r : S_) (v2 : Int32) (v3 : Int32) : Prop :=
  wY_markOpen_J108 a KB17 KX135 r v2 v3 1
def wY_markOpen_L17 (a : L_) (KX135 : S_ → Prop) : Nat → S_ → Int32 → Prop
  | 0, _, _ => True
  | n + 1, r, v2 => (((fi r 12) ≤ v2) → KX135 r) ∧ ((¬ (fi r 12) ≤ v2) → vp_in v2 (ln a 30) → wG_isVariable a r (fun z5 => zb z5 → ((z5 = 0) → wG_firstOf a (fun z7 r8 => wY_holdsOpen a r8 (fun z9 => zb z9 → ((¬ z9 = 0) → wY_markOpen_J103 a (wY_markOpen_L17 a KX135 n) KX135 r8 v2 (ar r 30 v2.toNatClampNeg)) ∧ ((z9 = 0) → wG_secondOf a (fun z14 r15 => wY_holdsOpen a r15 (fun z16 => zb z16 → ((z16 = 0) → wY_markOpen_J108 a (wY_markOpen_L17 a KX135 n) KX135 r15 v2 (ar r 30 v2.toNatClampNeg) 0) ∧ ((¬ z16 = 0) → wY_markOpen_J103 a (wY_markOpen_L17 a KX135 n) KX135 r15 v2 (ar r 30 v2.toNatClampNeg))) z14) r8 (ar r 30 v2.toNatClampNeg))) z7) r (ar r 30 v2.toNatClampNeg)) ∧ ((¬ z5 = 0) → vp_in (ar r 30 v2.toNatClampNeg) (ln a 27) → (((ar r 27 (ar r 30 v2.toNatClampNeg).toNatClampNeg) = (fi r 6)) → wY_markOpen_J108 a (wY_markOpen_L17 a KX135 n) KX135 r v2 (ar r 30 v2.toNatClampNeg) 0) ∧ ((¬ (ar r 27 (ar r 30 v2.toNatClampNeg).toNatClampNeg) = (fi r 6)) → wY_markOpen_J108 a (wY_markOpen_L17 a KX135 n) KX135 r v2 (ar r 30 v2.toNatClampNeg) 1))) (ar r 30 v2.toNatClampNeg))
def wY_markOpen (a : L_) (K : S_ → Prop) (r : S_) (p0 : Int32) : Prop :=
  wG_startWalk a (fun r1 => wG_walk a (fun r2 => ∀ n20 : Nat, wY_markOpen_L17 a (fun r => K r) n20 r2 0) r1 p0) r
def wY_gatherAsked_J40 (a : L_) (KB9 : S_ → Int32 → Int32 → Prop) (KX46 : S_ → Int32 → Prop) (r : S_) (v1 : Int32) (v2 : Int32) : Prop :=
  KB9 r v1 (v2 + 1)
def wY_gatherAsked_L9 (a : L_) (KX46 : S_ → Int32 → Prop) : Nat → S_ → Int32 → Int32 → Prop
  | 0, _, _, _ => True
  | n + 1, r, v1, v2 => (((fi r 11) ≤ v2) → KX46 r v1) ∧ ((¬ (fi r 11) ≤ v2) → vp_in v2 (ln a 24) → (((ar r 24 v2.toNatClampNeg) = 0) → wY_gatherAsked_J40 a (wY_gatherAsked_L9 a KX46 n) KX46 r v1 v2) ∧ ((¬ (ar r 24 v2.toNatClampNeg) = 0) → wG_walk a (fun r5 => wY_gatherAsked_J40 a (wY_gatherAsked_L9 a KX46 n) KX46 r5 v1 v2) r v2))
def wY_gatherAsked_L48 (a : L_) (KX83 : S_ → Int32 → Prop) : Nat → S_ → Int32 → Int32 → Prop
  | 0, _, _, _ => True
  | n + 1, r, v1, v2 => (((fi r 12) ≤ v2) → KX83 r v1) ∧ ((¬ (fi r 12) ≤ v2) → vp_in v2 (ln a 30) → vp_in (ar r 30 v2.toNatClampNeg) (ln a 29) → ∀ r9 : S_, r9 = sA r 29 (upd (ar r 29) (ar r 30 v2.toNatClampNeg).toNatClampNeg 0) → (wY_gatherAsked_L48 a KX83 n) r9 v1 (v2 + 1))
def wY_gatherAsked_J146 (a : L_) (KB85 : S_ → Int32 → Prop) (KX152 : S_ → Prop) (r : S_) (v2 : Int32) : Prop :=
  KB85 r (v2 + 1)
def wY_gatherAsked_L85 (a : L_) (KX152 : S_ → Prop) : Nat → S_ → Int32 → Prop
  | 0, _, _ => True
  | n + 1, r, v2 => (((fi r 11) ≤ v2) → KX152 r) ∧ ((¬ (fi r 11) ≤ v2) → vp_in v2 (ln a 24) → (((ar r 24 v2.toNatClampNeg) = 0) → wY_gatherAsked_J146 a (wY_gatherAsked_L85 a KX152 n) KX152 r v2) ∧ ((¬ (ar r 24 v2.toNatClampNeg) = 0) → wG_settled a (fun z13 r14 => vp_in z13 (ln a 29) → vp_in v2 (ln a 24) → vp_in z13 (ln a 29) → ∀ r18 : S_, r18 = sA r14 29 (upd (ar r14 29) z13.toNatClampNeg ((ar r14 29 z13.toNatClampNeg) ||| (ar r14 24 v2.toNatClampNeg))) → vp_in v2 (ln a 24) → ∀ r20 : S_, r20 = sA r18 24 (upd (ar r18 24) v2.toNatClampNeg 0) → wY_gatherAsked_J146 a (wY_gatherAsked_L85 a KX152 n) KX152 r20 v2) r v2))
def wY_gatherAsked (a : L_) (K : S_ → Prop) (r : S_) (p0 : Int32) : Prop :=
  wG_startWalk a (fun r1 => ∀ n23 : Nat, wY_gatherAsked_L9 a (fun r v1 => ∀ n22 : Nat, wY_gatherAsked_L48 a (fun r v1 => ∀ n21 : Nat, wY_gatherAsked_L85 a (fun r => K r) n21 r v1) n22 r v1 0) n23 r1 p0 p0) r
def wJ_bitCount (a : L_) (r : S_) (K : Int32 → Prop) (p0 : Int32) : Prop :=
  ∀ z1 : Int32, z1 = p0 - (((p0.toUInt32 >>> ((1 : Int32).toUInt32 &&& Int32.toUInt32 31)).toInt32) &&& 1431655765) → ∀ z2 : Int32, z2 = (z1 &&& 858993459) + (((z1.toUInt32 >>> ((2 : Int32).toUInt32 &&& Int32.toUInt32 31)).toInt32) &&& 858993459) → ∀ z3 : Int32, z3 = (z2 + ((z2.toUInt32 >>> ((4 : Int32).toUInt32 &&& Int32.toUInt32 31)).toInt32)) &&& 252645135 → ∀ z4 : Int32, z4 = z3 + ((z3.toUInt32 >>> ((8 : Int32).toUInt32 &&& Int32.toUInt32 31)).toInt32) → ∀ z5 : Int32, z5 = z4 + ((z4.toUInt32 >>> ((16 : Int32).toUInt32 &&& Int32.toUInt32 31)).toInt32) → K (z5 &&& 63)
def wY_settleVariable (a : L_) (K : Int32 → S_ → Prop) (r : S_) (p0 : Int32) (p1 : Int32) : Prop :=
  vp_in p0 (ln a 26) → ((¬ (ar r 26 p0.toNatClampNeg) = 1) → vp_in p0 (ln a 27) → ((¬ (ar r 27 p0.toNatClampNeg) = (fi r 6)) → zb 1 → ∀ r5 : S_, r5 = sF r 10 1 → K 0 r5) ∧ (((ar r 27 p0.toNatClampNeg) = (fi r 6)) → vp_in p0 (ln a 24) → vp_in p0 (ln a 24) → ∀ r9 : S_, r9 = sA r 24 (upd (ar r 24) p0.toNatClampNeg ((ar r 24 p0.toNatClampNeg) ||| p1)) → K 0 r9)) ∧ (((ar r 26 p0.toNatClampNeg) = 1) → wK_lowest a r (fun z10 => vp_in p0 (ln a 25) → ∀ r12 : S_, r12 = sA r 25 (upd (ar r 25) p0.toNatClampNeg z10) → vp_in p0 (ln a 25) → wJ_bitCount a r12 (fun z14 => K z14 r12) (ar r12 25 p0.toNatClampNeg)) p1)
def wY_handDown_J82 (a : L_) (K : S_ → Prop) (r : S_) (v2 : Int32) (v3 : Int32) (v5 : Int32) : Prop :=
  ((v5 = (-1)) → K r) ∧ ((¬ v5 = (-1)) → vp_in v5 (ln a 29) → wK_joined a r 11 (fun z11 => vp_in v5 (ln a 29) → ∀ r13 : S_, r13 = sA r 29 (upd (ar r 29) v5.toNatClampNeg ((ar r 29 v5.toNatClampNeg) ||| z11)) → K r13) v2 v3)
def wY_handDown_J27 (a : L_) (K : S_ → Prop) (r : S_) (v1 : Int32) (v2 : Int32) (v3 : Int32) : Prop :=
  wG_firstOf a (fun z4 r5 => wG_secondOf a (fun z6 r7 => ((z4 = (-1)) → wY_handDown_J82 a K r7 v2 v3 z6) ∧ ((¬ z4 = (-1)) → vp_in z4 (ln a 29) → wK_joined a r7 10 (fun z15 => vp_in z4 (ln a 29) → ∀ r17 : S_, r17 = sA r7 29 (upd (ar r7 29) z4.toNatClampNeg ((ar r7 29 z4.toNatClampNeg) ||| z15)) → wY_handDown_J82 a K r17 v2 v3 z6) v2 v3)) r5 v1) r v1
def wY_handDown (a : L_) (K : S_ → Prop) (r : S_) (p0 : Int32) (p1 : Int32) : Prop :=
  vp_in p0 (ln a 21) → wK_haveInstances a r (fun z2 => zb z2 → ((¬ z2 = 0) → wY_handDown_J27 a K r p0 p1 (ar r 21 p0.toNatClampNeg)) ∧ ((z2 = 0) → zb 1 → ∀ r18 : S_, r18 = sF r 9 1 → wY_handDown_J27 a K r18 p0 p1 (ar r 21 p0.toNatClampNeg))) p1 (ar r 21 p0.toNatClampNeg)
def wY_settle_J120 (a : L_) (KB37 : S_ → Int32 → Int32 → Prop) (KX126 : S_ → Int32 → Prop) (r : S_) (v3 : Int32) (v4 : Int32) : Prop :=
  KB37 r v3 (v4 + (-1))
def wY_settle_L37 (a : L_) (KX126 : S_ → Int32 → Prop) : Nat → S_ → Int32 → Int32 → Prop
  | 0, _, _, _ => True
  | n + 1, r, v3, v4 => ((v4 < 0) → KX126 r v3) ∧ ((¬ v4 < 0) → vp_in v4 (ln a 30) → vp_in (ar r 30 v4.toNatClampNeg) (ln a 29) → ((¬ (ar r 29 (ar r 30 v4.toNatClampNeg).toNatClampNeg) = 0) → wG_isVariable a r (fun z9 => zb z9 → ((z9 = 0) → vp_in (ar r 30 v4.toNatClampNeg) (ln a 29) → wY_handDown a (fun r12 => wY_settle_J120 a (wY_settle_L37 a KX126 n) KX126 r12 v3 v4) r (ar r 30 v4.toNatClampNeg) (ar r 29 (ar r 30 v4.toNatClampNeg).toNatClampNeg)) ∧ ((¬ z9 = 0) → vp_in (ar r 30 v4.toNatClampNeg) (ln a 29) → wY_settleVariable a (fun z14 r15 => wY_settle_J120 a (wY_settle_L37 a KX126 n) KX126 r15 (v3 + z14) v4) r (ar r 30 v4.toNatClampNeg) (ar r 29 (ar r 30 v4.toNatClampNeg).toNatClampNeg))) (ar r 30 v4.toNatClampNeg)) ∧ (((ar r 29 (ar r 30 v4.toNatClampNeg).toNatClampNeg) = 0) → wY_settle_J120 a (wY_settle_L37 a KX126 n) KX126 r v3 v4))
def wY_settle (a : L_) (K : Int32 → S_ → Prop) (r : S_) (p0 : Int32) (p1 : Int32) : Prop :=
  ∀ r1 : S_, r1 = sF r 6 ((fi r 6) + 1) → wY_markBound a (fun r2 => wY_markOpen a (fun r3 => wY_gatherAsked a (fun r4 => ∀ n16 : Nat, wY_settle_L37 a (fun r v3 => K v3 r) n16 r4 0 ((fi r4 12) - 1)) r3 p0) r2 p1) r1
def wG_clear (a : L_) (K : S_ → Prop) (r : S_) : Prop :=
  ∀ r1 : S_, r1 = sF r 11 0 → zb 0 → ∀ r2 : S_, r2 = sF r1 15 0 → K r2
def wG_pushPair (a : L_) (K : S_ → Prop) (r : S_) (p0 : Int32) (p1 : Int32) : Prop :=
  ((p0 = (-1)) → K r) ∧ ((¬ p0 = (-1)) → ((p1 = (-1)) → K r) ∧ ((¬ p1 = (-1)) → wG_push a (fun r3 => wG_push a (fun r4 => K r4) r3 p1) r p0))
def wG_move (a : L_) (K : S_ → Prop) (r : S_) (p0 : Int32) (p1 : Int32) : Prop :=
  vp_in p0 (ln a 21) → ∀ r2 : S_, r2 = sA r 21 (upd (ar r 21) p0.toNatClampNeg (-2)) → vp_in p0 (ln a 22) → ∀ r4 : S_, r4 = sA r2 22 (upd (ar r2 22) p0.toNatClampNeg p1) → K r4
def wG_unifyTops (a : L_) (K : S_ → Prop) (r : S_) (p0 : Int32) (p1 : Int32) : Prop :=
  ((¬ p0 = p1) → wG_isVariable a r (fun z2 => zb z2 → ((z2 = 0) → wG_isVariable a r (fun z4 => zb z4 → ((z4 = 0) → vp_in p0 (ln a 21) → vp_in p1 (ln a 21) → (((ar r 21 p0.toNatClampNeg) = (ar r 21 p1.toNatClampNeg)) → vp_in p0 (ln a 23) → vp_in p1 (ln a 23) → wG_pushPair a (fun r11 => vp_in p0 (ln a 22) → vp_in p1 (ln a 22) → wG_pushPair a (fun r14 => wG_move a (fun r15 => K r15) r14 p0 p1) r11 (ar r11 22 p0.toNatClampNeg) (ar r11 22 p1.toNatClampNeg)) r (ar r 23 p0.toNatClampNeg) (ar r 23 p1.toNatClampNeg)) ∧ ((¬ (ar r 21 p0.toNatClampNeg) = (ar r 21 p1.toNatClampNeg)) → zb 1 → ∀ r16 : S_, r16 = sF r 15 1 → K r16)) ∧ ((¬ z4 = 0) → wG_move a (fun r18 => K r18) r p1 p0)) p1) ∧ ((¬ z2 = 0) → wG_move a (fun r19 => K r19) r p0 p1)) p0) ∧ ((p0 = p1) → K r)
def wG_unify_L13 (a : L_) (KX75 : S_ → Prop) : Nat → S_ → Int32 → Prop
  | 0, _, _ => True
  | n + 1, r, v3 => (((fi r 14) ≤ 1) → KX75 r) ∧ ((¬ (fi r 14) ≤ 1) → ((1000000 ≤ v3) → KX75 r) ∧ ((¬ 1000000 ≤ v3) → ∀ r5 : S_, r5 = sF r 14 ((fi r 14) - 2) → vp_in (fi r5 14) (ln a 31) → wG_settled a (fun z7 r8 => vp_in ((fi r8 14) + 1) (ln a 31) → wG_settled a (fun z10 r11 => wG_unifyTops a (fun r12 => (wG_unify_L13 a KX75 n) r12 (v3 + 1)) r11 z7 z10) r8 (ar r8 31 ((fi r8 14) + 1).toNatClampNeg)) r5 (ar r5 31 (fi r5 14).toNatClampNeg)))
def wG_unify (a : L_) (K : S_ → Prop) (r : S_) (p0 : Int32) (p1 : Int32) : Prop :=
  ∀ r1 : S_, r1 = sF r 14 0 → wG_pushPair a (fun r2 => ∀ n13 : Nat, wG_unify_L13 a (fun r => K r) n13 r2 0) r1 p0 p1
def wG_valueOf (a : L_) (K : Int32 → S_ → Prop) (r : S_) (p0 : Int32) : Prop :=
  ((¬ p0 = (-1)) → wG_settled a (fun z2 r3 => vp_in z2 (ln a 29) → K (ar r3 29 z2.toNatClampNeg) r3) r p0) ∧ ((p0 = (-1)) → K (-1) r)
def wG_comesLater (a : L_) (r : S_) (K : Int32 → Prop) (p0 : Int32) (p1 : Int32) : Prop :=
  ((p0 = (-1)) → zb 0 → K 0) ∧ ((¬ p0 = (-1)) → vp_in p0 (ln a 29) → (((ar r 29 p0.toNatClampNeg) < p1) → zb 0 → K 0) ∧ ((¬ (ar r 29 p0.toNatClampNeg) < p1) → zb 1 → K 1))
def wG_isCircular_L6 (a : L_) (KX25 : S_ → Prop) : Nat → S_ → Int32 → Prop
  | 0, _, _ => True
  | n + 1, r, v1 => (((fi r 11) ≤ v1) → KX25 r) ∧ ((¬ (fi r 11) ≤ v1) → wG_walk a (fun r3 => (wG_isCircular_L6 a KX25 n) r3 (v1 + 1)) r v1)
def wG_isCircular_L27 (a : L_) (KX53 : S_ → Prop) : Nat → S_ → Int32 → Prop
  | 0, _, _ => True
  | n + 1, r, v1 => (((fi r 12) ≤ v1) → KX53 r) ∧ ((¬ (fi r 12) ≤ v1) → vp_in v1 (ln a 30) → vp_in (ar r 30 v1.toNatClampNeg) (ln a 29) → ∀ r7 : S_, r7 = sA r 29 (upd (ar r 29) (ar r 30 v1.toNatClampNeg).toNatClampNeg v1) → (wG_isCircular_L27 a KX53 n) r7 (v1 + 1))
def wG_isCircular_L55 (a : L_) (KX99 : S_ → Prop) (KX107 : S_ → Prop) : Nat → S_ → Int32 → Prop
  | 0, _, _ => True
  | n + 1, r, v1 => (((fi r 12) ≤ v1) → KX107 r) ∧ ((¬ (fi r 12) ≤ v1) → vp_in v1 (ln a 30) → wG_firstOf a (fun z10 r11 => wG_comesLater a r11 (fun z12 => zb z12 → ((¬ z12 = 0) → KX99 r11) ∧ ((z12 = 0) → vp_in v1 (ln a 30) → wG_secondOf a (fun z15 r16 => wG_comesLater a r16 (fun z17 => zb z17 → ((z17 = 0) → (wG_isCircular_L55 a KX99 KX107 n) r16 (v1 + 1)) ∧ ((¬ z17 = 0) → KX99 r16)) z15 v1) r11 (ar r11 30 v1.toNatClampNeg))) z10 v1) r (ar r 30 v1.toNatClampNeg))
def wG_isCircular (a : L_) (K : Int32 → S_ → Prop) (r : S_) : Prop :=
  wG_startWalk a (fun r1 => ∀ n23 : Nat, wG_isCircular_L6 a (fun r => ∀ n22 : Nat, wG_isCircular_L27 a (fun r => ∀ n21 : Nat, wG_isCircular_L55 a (fun r => zb 1 → K 1 r) (fun r => zb 0 → K 0 r) n21 r 0) n22 r 0) n23 r1 0) r
def wD_addBuilt (a : L_) (K : S_ → Prop) (r : S_) (p0 : Int32) (p1 : Int32) (p2 : Int32) : Prop :=
  (((Int32.ofNat (ln a 32)) ≤ (fi r 16)) → K r) ∧ ((¬ (Int32.ofNat (ln a 32)) ≤ (fi r 16)) → vp_in (fi r 16) (ln a 32) → ∀ r3 : S_, r3 = sA r 32 (upd (ar r 32) (fi r 16).toNatClampNeg p0) → vp_in (fi r3 16) (ln a 33) → ∀ r5 : S_, r5 = sA r3 33 (upd (ar r3 33) (fi r3 16).toNatClampNeg p1) → vp_in (fi r5 16) (ln a 34) → ∀ r7 : S_, r7 = sA r5 34 (upd (ar r5 34) (fi r5 16).toNatClampNeg p2) → wD_sizeOf a r7 (fun z8 => wD_sizeOf a r7 (fun z9 => vp_in (fi r7 16) (ln a 89) → ∀ r11 : S_, r11 = sL r7 0 (vp_updL (la r7 0) (fi r7 16).toNatClampNeg (if 1099511627776 < ((1 + z8) + z9) then 1099511627776 else ((1 + z8) + z9))) → ∀ r12 : S_, r12 = sF r11 16 ((fi r11 16) + 1) → K r12) p2) p1)
def wD_addVariable (a : L_) (K : S_ → Prop) (r : S_) (p0 : Int32) : Prop :=
  (((Int32.ofNat (ln a 35)) ≤ (fi r 17)) → K r) ∧ ((¬ (Int32.ofNat (ln a 35)) ≤ (fi r 17)) → vp_in (fi r 17) (ln a 35) → ∀ r3 : S_, r3 = sA r 35 (upd (ar r 35) (fi r 17).toNatClampNeg p0) → ∀ r4 : S_, r4 = sF r3 17 ((fi r3 17) + 1) → wJ_bitCount a r4 (fun z5 => ∀ r6 : S_, r6 = sF r4 18 ((fi r4 18) + z5) → wD_addBuilt a (fun r7 => K r7) r6 (-(fi r6 17)) (-1) (-1)) p0)
def wD_nodes (a : L_) (r : S_) (K : Int32 → Prop) : Prop :=
  ((¬ (fi r 16) = 0) → vp_in ((fi r 16) - 1) (ln a 89) → K ((if 1000000000 < (la r 0 ((fi r 16) - 1).toNatClampNeg) then 1000000000 else (la r 0 ((fi r 16) - 1).toNatClampNeg)).toInt32)) ∧ (((fi r 16) = 0) → K 0)
def wM_markStatic_J23 (a : L_) (KB2 : S_ → Int32 → Int32 → Prop) (KX30 : S_ → Int32 → Prop) (r : S_) (v1 : Int32) (v2 : Int32) (u0 : Int32) (u1 : Int32) : Prop :=
  vp_in u1 (ln a 88) → ∀ r4 : S_, r4 = sA r 88 (upd (ar r 88) u1.toNatClampNeg (vp_nar .boolean u0)) → KB2 r4 v1 (v2 + 1)
def wM_markStatic_L2 (a : L_) (KX30 : S_ → Int32 → Prop) : Nat → S_ → Int32 → Int32 → Prop
  | 0, _, _, _ => True
  | n + 1, r, v1, v2 => ((60 ≤ v2) → KX30 r v1) ∧ ((¬ 60 ≤ v2) → ((¬ v2 = v1) → wM_markStatic_J23 a (wM_markStatic_L2 a KX30 n) KX30 r v1 v2 0 v2) ∧ ((v2 = v1) → wM_markStatic_J23 a (wM_markStatic_L2 a KX30 n) KX30 r v1 v2 1 v2))
def wM_markStatic_J96 (a : L_) (KB32 : S_ → Int32 → Prop) (KX102 : S_ → Prop) (r : S_) (v2 : Int32) : Prop :=
  KB32 r (v2 + (-1))
def wM_markStatic_J66 (a : L_) (KB32 : S_ → Int32 → Prop) (KX102 : S_ → Prop) (r : S_) (v2 : Int32) : Prop :=
  vp_in v2 (ln a 88) → (((ar r 88 v2.toNatClampNeg) = 0) → wM_markStatic_J96 a KB32 KX102 r v2) ∧ ((¬ (ar r 88 v2.toNatClampNeg) = 0) → vp_in v2 (ln a 39) → (((ar r 39 v2.toNatClampNeg) < 0) → wM_markStatic_J96 a KB32 KX102 r v2) ∧ ((¬ (ar r 39 v2.toNatClampNeg) < 0) → vp_in v2 (ln a 39) → vp_in (ar r 39 v2.toNatClampNeg) (ln a 88) → ∀ r14 : S_, r14 = sA r 88 (upd (ar r 88) (ar r 39 v2.toNatClampNeg).toNatClampNeg (vp_nar .boolean 1)) → wM_markStatic_J96 a KB32 KX102 r14 v2))
def wM_markStatic_L32 (a : L_) (KX102 : S_ → Prop) : Nat → S_ → Int32 → Prop
  | 0, _, _ => True
  | n + 1, r, v2 => ((v2 < 0) → KX102 r) ∧ ((¬ v2 < 0) → vp_in v2 (ln a 88) → (((ar r 88 v2.toNatClampNeg) = 0) → wM_markStatic_J66 a (wM_markStatic_L32 a KX102 n) KX102 r v2) ∧ ((¬ (ar r 88 v2.toNatClampNeg) = 0) → vp_in v2 (ln a 38) → (((ar r 38 v2.toNatClampNeg) < 0) → wM_markStatic_J66 a (wM_markStatic_L32 a KX102 n) KX102 r v2) ∧ ((¬ (ar r 38 v2.toNatClampNeg) < 0) → vp_in v2 (ln a 38) → vp_in (ar r 38 v2.toNatClampNeg) (ln a 88) → ∀ r19 : S_, r19 = sA r 88 (upd (ar r 88) (ar r 38 v2.toNatClampNeg).toNatClampNeg (vp_nar .boolean 1)) → wM_markStatic_J66 a (wM_markStatic_L32 a KX102 n) KX102 r19 v2)))
def wM_markStatic (a : L_) (K : S_ → Prop) (r : S_) (p0 : Int32) : Prop :=
  ∀ n21 : Nat, wM_markStatic_L2 a (fun r v1 => ∀ n20 : Nat, wM_markStatic_L32 a (fun r => K r) n20 r v1) n21 r p0 0
def wM_isUnder_L2 (a : L_) (r : S_) (KX21 : Int32 → Int32 → Prop) : Nat → Int32 → Int32 → Prop
  | 0, _, _ => True
  | n + 1, v2, v3 => ((v3 < 0) → KX21 v2 v3) ∧ ((¬ v3 < 0) → ((v3 = v2) → KX21 v2 v3) ∧ ((¬ v3 = v2) → vp_in v3 (ln a 41) → (wM_isUnder_L2 a r KX21 n) v2 (ar r 41 v3.toNatClampNeg)))
def wM_isUnder_J21 (a : L_) (r : S_) (K : Int32 → Prop) (v2 : Int32) (v3 : Int32) : Prop :=
  ((¬ v3 = v2) → zb 0 → K 0) ∧ ((v3 = v2) → zb 1 → K 1)
def wM_isUnder (a : L_) (r : S_) (K : Int32 → Prop) (p0 : Int32) (p1 : Int32) : Prop :=
  ∀ n7 : Nat, wM_isUnder_L2 a r (fun v2 v3 => wM_isUnder_J21 a r K v2 v3) n7 p1 p0
def wM_isExpression (a : L_) (r : S_) (K : Int32 → Prop) (p0 : Int32) : Prop :=
  ((p0 < 0) → zb 0 → K 0) ∧ ((¬ p0 < 0) → (((fi r 25) ≤ p0) → zb 0 → K 0) ∧ ((¬ (fi r 25) ≤ p0) → zb 1 → K 1))
def wM_addNode (a : L_) (K : Int32 → S_ → Prop) (r : S_) (p0 : Int32) (p1 : Int32) (p2 : Int32) : Prop :=
  vp_in (fi r 26) (ln a 50) → ∀ r2 : S_, r2 = sA r 50 (upd (ar r 50) (fi r 26).toNatClampNeg p0) → vp_in (fi r2 26) (ln a 51) → ∀ r4 : S_, r4 = sA r2 51 (upd (ar r2 51) (fi r2 26).toNatClampNeg p1) → vp_in (fi r4 26) (ln a 52) → ∀ r6 : S_, r6 = sA r4 52 (upd (ar r4 52) (fi r4 26).toNatClampNeg p2) → vp_in (fi r6 26) (ln a 53) → ∀ r8 : S_, r8 = sA r6 53 (upd (ar r6 53) (fi r6 26).toNatClampNeg (-1)) → vp_in (fi r8 26) (ln a 54) → ∀ r10 : S_, r10 = sA r8 54 (upd (ar r8 54) (fi r8 26).toNatClampNeg (-1)) → vp_in (fi r10 26) (ln a 59) → ∀ r12 : S_, r12 = sA r10 59 (upd (ar r10 59) (fi r10 26).toNatClampNeg 0) → ∀ r13 : S_, r13 = sF r12 26 ((fi r12 26) + 1) → K ((fi r13 26) - 1) r13
def wM_kindOf (a : L_) (r : S_) (K : Int32 → Prop) (p0 : Int32) : Prop :=
  vp_in p0 (ln a 50) → vp_in (ar r 50 p0.toNatClampNeg) (ln a 45) → K (ar r 45 (ar r 50 p0.toNatClampNeg).toNatClampNeg)
def wM_spread_J165 (a : L_) (KB15 : S_ → Int32 → Prop) (KX171 : S_ → Prop) (r : S_) (v3 : Int32) : Prop :=
  KB15 r (v3 + 1)
def wM_spread_L15 (a : L_) (KX171 : S_ → Prop) : Nat → S_ → Int32 → Prop
  | 0, _, _ => True
  | n + 1, r, v3 => (((fi r 26) ≤ v3) → KX171 r) ∧ ((¬ (fi r 26) ≤ v3) → vp_in v3 (ln a 50) → vp_in (ar r 50 v3.toNatClampNeg) (ln a 45) → ((¬ (ar r 45 (ar r 50 v3.toNatClampNeg).toNatClampNeg) = 1) → vp_in (ar r 50 v3.toNatClampNeg) (ln a 45) → ((¬ (ar r 45 (ar r 50 v3.toNatClampNeg).toNatClampNeg) = 2) → vp_in (ar r 50 v3.toNatClampNeg) (ln a 45) → ((¬ (ar r 45 (ar r 50 v3.toNatClampNeg).toNatClampNeg) = 3) → wM_spread_J165 a (wM_spread_L15 a KX171 n) KX171 r v3) ∧ (((ar r 45 (ar r 50 v3.toNatClampNeg).toNatClampNeg) = 3) → vp_in (ar r 50 v3.toNatClampNeg) (ln a 47) → wM_addNode a (fun z13 r14 => vp_in v3 (ln a 53) → ∀ r16 : S_, r16 = sA r14 53 (upd (ar r14 53) v3.toNatClampNeg z13) → vp_in (ar r 50 v3.toNatClampNeg) (ln a 48) → wM_addNode a (fun z18 r19 => vp_in v3 (ln a 54) → ∀ r21 : S_, r21 = sA r19 54 (upd (ar r19 54) v3.toNatClampNeg z18) → wM_spread_J165 a (wM_spread_L15 a KX171 n) KX171 r21 v3) r16 (ar r16 48 (ar r 50 v3.toNatClampNeg).toNatClampNeg) v3 1) r (ar r 47 (ar r 50 v3.toNatClampNeg).toNatClampNeg) v3 0)) ∧ (((ar r 45 (ar r 50 v3.toNatClampNeg).toNatClampNeg) = 2) → vp_in (ar r 50 v3.toNatClampNeg) (ln a 46) → wM_addNode a (fun z23 r24 => vp_in v3 (ln a 53) → ∀ r26 : S_, r26 = sA r24 53 (upd (ar r24 53) v3.toNatClampNeg z23) → vp_in (ar r 50 v3.toNatClampNeg) (ln a 47) → wM_addNode a (fun z28 r29 => vp_in v3 (ln a 54) → ∀ r31 : S_, r31 = sA r29 54 (upd (ar r29 54) v3.toNatClampNeg z28) → wM_spread_J165 a (wM_spread_L15 a KX171 n) KX171 r31 v3) r26 (ar r26 47 (ar r 50 v3.toNatClampNeg).toNatClampNeg) v3 1) r (ar r 46 (ar r 50 v3.toNatClampNeg).toNatClampNeg) v3 0)) ∧ (((ar r 45 (ar r 50 v3.toNatClampNeg).toNatClampNeg) = 1) → vp_in (ar r 50 v3.toNatClampNeg) (ln a 47) → wM_addNode a (fun z33 r34 => vp_in v3 (ln a 53) → ∀ r36 : S_, r36 = sA r34 53 (upd (ar r34 53) v3.toNatClampNeg z33) → wM_spread_J165 a (wM_spread_L15 a KX171 n) KX171 r36 v3) r (ar r 47 (ar r 50 v3.toNatClampNeg).toNatClampNeg) v3 0))
def wM_spread (a : L_) (K : S_ → Prop) (r : S_) (p0 : Int32) : Prop :=
  ∀ r1 : S_, r1 = sF r 26 0 → wM_addNode a (fun z2 r3 => ∀ n37 : Nat, wM_spread_L15 a (fun r => K r) n37 r3 z2) r1 p0 (-1) 0
def wM_binder_J88 (a : L_) (r : S_) (KB22 : Int32 → Int32 → Int32 → Prop) (KX85 : Int32 → Prop) (KX103 : Prop) (v2 : Int32) (v4 : Int32) : Prop :=
  vp_in v4 (ln a 51) → KB22 v2 v4 (ar r 51 v4.toNatClampNeg)
def wM_binder_J62 (a : L_) (r : S_) (KB22 : Int32 → Int32 → Int32 → Prop) (KX85 : Int32 → Prop) (KX103 : Prop) (v2 : Int32) (v4 : Int32) (u0 : Int32) : Prop :=
  ((u0 = 0) → wM_binder_J88 a r KB22 KX85 KX103 v2 v4) ∧ ((¬ u0 = 0) → vp_in v4 (ln a 50) → vp_in (ar r 50 v4.toNatClampNeg) (ln a 46) → ((¬ (ar r 46 (ar r 50 v4.toNatClampNeg).toNatClampNeg) = v2) → wM_binder_J88 a r KB22 KX85 KX103 v2 v4) ∧ (((ar r 46 (ar r 50 v4.toNatClampNeg).toNatClampNeg) = v2) → KX85 v4))
def wM_binder_J57 (a : L_) (r : S_) (KB22 : Int32 → Int32 → Int32 → Prop) (KX85 : Int32 → Prop) (KX103 : Prop) (v2 : Int32) (v4 : Int32) : Prop :=
  wM_binder_J62 a r KB22 KX85 KX103 v2 v4 1
def wM_binder_J61 (a : L_) (r : S_) (KB22 : Int32 → Int32 → Int32 → Prop) (KX85 : Int32 → Prop) (KX103 : Prop) (v2 : Int32) (v4 : Int32) : Prop :=
  wM_binder_J62 a r KB22 KX85 KX103 v2 v4 0
def wM_binder_L22 (a : L_) (r : S_) (KX85 : Int32 → Prop) (KX103 : Prop) : Nat → Int32 → Int32 → Int32 → Prop
  | 0, _, _, _ => True
  | n + 1, v2, v3, v4 => ((v4 < 0) → KX103) ∧ ((¬ v4 < 0) → wM_kindOf a r (fun z5 => ((z5 = 1) → wM_binder_J57 a r (wM_binder_L22 a r KX85 KX103 n) KX85 KX103 v2 v4) ∧ ((¬ z5 = 1) → wM_kindOf a r (fun z12 => ((¬ z12 = 3) → wM_binder_J61 a r (wM_binder_L22 a r KX85 KX103 n) KX85 KX103 v2 v4) ∧ ((z12 = 3) → vp_in v3 (ln a 52) → ((¬ (ar r 52 v3.toNatClampNeg) = 1) → wM_binder_J61 a r (wM_binder_L22 a r KX85 KX103 n) KX85 KX103 v2 v4) ∧ (((ar r 52 v3.toNatClampNeg) = 1) → wM_binder_J57 a r (wM_binder_L22 a r KX85 KX103 n) KX85 KX103 v2 v4))) v4)) v4)
def wM_binder (a : L_) (r : S_) (K : Int32 → Prop) (p0 : Int32) : Prop :=
  vp_in p0 (ln a 50) → vp_in (ar r 50 p0.toNatClampNeg) (ln a 46) → vp_in p0 (ln a 51) → ∀ n16 : Nat, wM_binder_L22 a r (fun v4 => K v4) (K (-1)) n16 (ar r 46 (ar r 50 p0.toNatClampNeg).toNatClampNeg) p0 (ar r 51 p0.toNatClampNeg)
def wM_newTerm (a : L_) (K : Int32 → S_ → Prop) (r : S_) (p0 : Int32) (p1 : Int32) (p2 : Int32) : Prop :=
  vp_in (fi r 28) (ln a 64) → ∀ r2 : S_, r2 = sA r 64 (upd (ar r 64) (fi r 28).toNatClampNeg (fi r 28)) → vp_in (fi r2 28) (ln a 65) → ∀ r4 : S_, r4 = sA r2 65 (upd (ar r2 65) (fi r2 28).toNatClampNeg p0) → vp_in (fi r4 28) (ln a 66) → ∀ r6 : S_, r6 = sA r4 66 (upd (ar r4 66) (fi r4 28).toNatClampNeg p1) → vp_in (fi r6 28) (ln a 67) → ∀ r8 : S_, r8 = sA r6 67 (upd (ar r6 67) (fi r6 28).toNatClampNeg p2) → vp_in (fi r8 28) (ln a 68) → ∀ r10 : S_, r10 = sA r8 68 (upd (ar r8 68) (fi r8 28).toNatClampNeg 0) → vp_in (fi r10 28) (ln a 70) → ∀ r12 : S_, r12 = sA r10 70 (upd (ar r10 70) (fi r10 28).toNatClampNeg 0) → vp_in (fi r12 28) (ln a 71) → ∀ r14 : S_, r14 = sA r12 71 (upd (ar r12 71) (fi r12 28).toNatClampNeg 0) → ∀ r15 : S_, r15 = sF r14 28 ((fi r14 28) + 1) → K ((fi r15 28) - 1) r15
def wM_fresh (a : L_) (K : Int32 → S_ → Prop) (r : S_) : Prop :=
  wM_newTerm a (fun z1 r2 => K z1 r2) r (-1) (-1) (-1)
def wM_arrow (a : L_) (K : Int32 → S_ → Prop) (r : S_) (p0 : Int32) (p1 : Int32) : Prop :=
  wM_newTerm a (fun z1 r2 => K z1 r2) r 0 p0 p1
def wM_find_L2 (a : L_) (r : S_) (KX22 : Int32 → Prop) : Nat → Int32 → Prop
  | 0, _ => True
  | n + 1, v2 => vp_in v2 (ln a 64) → (((ar r 64 v2.toNatClampNeg) = v2) → KX22 v2) ∧ ((¬ (ar r 64 v2.toNatClampNeg) = v2) → vp_in v2 (ln a 64) → (wM_find_L2 a r KX22 n) (ar r 64 v2.toNatClampNeg))
def wM_find (a : L_) (r : S_) (K : Int32 → Prop) (p0 : Int32) : Prop :=
  ∀ n4 : Nat, wM_find_L2 a r (fun v2 => K v2) n4 p0
def wM_unify_J257 (a : L_) (KB16 : S_ → Int32 → Prop) (KX260 : S_ → Prop) (r : S_) (v3 : Int32) : Prop :=
  KB16 r v3
def wM_unify_J219 (a : L_) (KB16 : S_ → Int32 → Prop) (KX260 : S_ → Prop) (r : S_) (v3 : Int32) (v4 : Int32) (v5 : Int32) (v6 : Int32) : Prop :=
  ((v6 ≤ 1) → wM_unify_J257 a KB16 KX260 r v3) ∧ ((¬ v6 ≤ 1) → vp_in v4 (ln a 67) → vp_in v3 (ln a 72) → ∀ r28 : S_, r28 = sA r 72 (upd (ar r 72) v3.toNatClampNeg (ar r 67 v4.toNatClampNeg)) → vp_in v5 (ln a 67) → vp_in (v3 + 1) (ln a 72) → ∀ r31 : S_, r31 = sA r28 72 (upd (ar r28 72) (v3 + 1).toNatClampNeg (ar r28 67 v5.toNatClampNeg)) → wM_unify_J257 a KB16 KX260 r31 (v3 + 2))
def wM_unify_J180 (a : L_) (KB16 : S_ → Int32 → Prop) (KX260 : S_ → Prop) (r : S_) (v3 : Int32) (v4 : Int32) (v5 : Int32) (u0 : Int32) : Prop :=
  ((u0 ≤ 0) → wM_unify_J219 a KB16 KX260 r v3 v4 v5 u0) ∧ ((¬ u0 ≤ 0) → vp_in v4 (ln a 66) → vp_in v3 (ln a 72) → ∀ r34 : S_, r34 = sA r 72 (upd (ar r 72) v3.toNatClampNeg (ar r 66 v4.toNatClampNeg)) → vp_in v5 (ln a 66) → vp_in (v3 + 1) (ln a 72) → ∀ r37 : S_, r37 = sA r34 72 (upd (ar r34 72) (v3 + 1).toNatClampNeg (ar r34 66 v5.toNatClampNeg)) → wM_unify_J219 a KB16 KX260 r37 (v3 + 2) v4 v5 u0)
def wM_unify_J145 (a : L_) (KB16 : S_ → Int32 → Prop) (KX260 : S_ → Prop) (r : S_) (v3 : Int32) (v4 : Int32) (v5 : Int32) (u0 : Int32) : Prop :=
  zb u0 → ∀ r17 : S_, r17 = sF r 32 u0 → vp_in v4 (ln a 64) → ∀ r20 : S_, r20 = sA r17 64 (upd (ar r17 64) v4.toNatClampNeg v5) → (((fi r20 32) = 0) → vp_in v4 (ln a 65) → vp_in (ar r20 65 v4.toNatClampNeg) (ln a 36) → wM_unify_J180 a KB16 KX260 r20 v3 v4 v5 (ar r20 36 (ar r20 65 v4.toNatClampNeg).toNatClampNeg)) ∧ ((¬ (fi r20 32) = 0) → wM_unify_J180 a KB16 KX260 r20 v3 v4 v5 0)
def wM_unify_J115 (a : L_) (KB16 : S_ → Int32 → Prop) (KX260 : S_ → Prop) (r : S_) (v3 : Int32) (v4 : Int32) (v5 : Int32) : Prop :=
  ((v4 = v5) → wM_unify_J257 a KB16 KX260 r v3) ∧ ((¬ v4 = v5) → vp_in v4 (ln a 65) → vp_in v5 (ln a 65) → (((ar r 65 v4.toNatClampNeg) = (ar r 65 v5.toNatClampNeg)) → wM_unify_J145 a KB16 KX260 r v3 v4 v5 0) ∧ ((¬ (ar r 65 v4.toNatClampNeg) = (ar r 65 v5.toNatClampNeg)) → wM_unify_J145 a KB16 KX260 r v3 v4 v5 1))
def wM_unify_J86 (a : L_) (KB16 : S_ → Int32 → Prop) (KX260 : S_ → Prop) (r : S_) (v3 : Int32) (v4 : Int32) (v5 : Int32) : Prop :=
  ((v4 = v5) → wM_unify_J115 a KB16 KX260 r v3 v4 v5) ∧ ((¬ v4 = v5) → vp_in v5 (ln a 65) → ((0 ≤ (ar r 65 v5.toNatClampNeg)) → wM_unify_J115 a KB16 KX260 r v3 v4 v5) ∧ ((¬ 0 ≤ (ar r 65 v5.toNatClampNeg)) → vp_in v5 (ln a 64) → ∀ r41 : S_, r41 = sA r 64 (upd (ar r 64) v5.toNatClampNeg v4) → wM_unify_J257 a KB16 KX260 r41 v3))
def wM_unify_L16 (a : L_) (KX260 : S_ → Prop) : Nat → S_ → Int32 → Prop
  | 0, _, _ => True
  | n + 1, r, v3 => ((v3 ≤ 0) → KX260 r) ∧ ((¬ v3 ≤ 0) → ((¬ (fi r 32) = 0) → KX260 r) ∧ (((fi r 32) = 0) → vp_in (v3 - 2) (ln a 72) → wM_find a r (fun z8 => vp_in ((v3 - 2) + 1) (ln a 72) → wM_find a r (fun z10 => ((z8 = z10) → wM_unify_J86 a (wM_unify_L16 a KX260 n) KX260 r (v3 - 2) z8 z10) ∧ ((¬ z8 = z10) → vp_in z8 (ln a 65) → ((0 ≤ (ar r 65 z8.toNatClampNeg)) → wM_unify_J86 a (wM_unify_L16 a KX260 n) KX260 r (v3 - 2) z8 z10) ∧ ((¬ 0 ≤ (ar r 65 z8.toNatClampNeg)) → vp_in z8 (ln a 64) → ∀ r45 : S_, r45 = sA r 64 (upd (ar r 64) z8.toNatClampNeg z10) → wM_unify_J257 a (wM_unify_L16 a KX260 n) KX260 r45 (v3 - 2)))) (ar r 72 ((v3 - 2) + 1).toNatClampNeg)) (ar r 72 (v3 - 2).toNatClampNeg)))
def wM_unify (a : L_) (K : S_ → Prop) (r : S_) (p0 : Int32) (p1 : Int32) : Prop :=
  vp_in 0 (ln a 72) → ∀ r2 : S_, r2 = sA r 72 (upd (ar r 72) (0 : Int32).toNatClampNeg p0) → vp_in 1 (ln a 72) → ∀ r4 : S_, r4 = sA r2 72 (upd (ar r2 72) (1 : Int32).toNatClampNeg p1) → ∀ n46 : Nat, wM_unify_L16 a (fun r => K r) n46 r4 2
def wM_isTold_J17 (a : L_) (r : S_) (K : Int32 → Prop) : Prop :=
  zb 1 → K 1
def wM_isTold (a : L_) (r : S_) (K : Int32 → Prop) (p0 : Int32) : Prop :=
  ((p0 < 0) → wM_isTold_J17 a r K) ∧ ((¬ p0 < 0) → wM_find a r (fun z3 => vp_in z3 (ln a 87) → (((ar r 87 z3.toNatClampNeg) = 0) → zb 0 → K 0) ∧ ((¬ (ar r 87 z3.toNatClampNeg) = 0) → wM_isTold_J17 a r K)) p0)
def wM_needNoRing_L2 (a : L_) (KX23 : S_ → Prop) : Nat → S_ → Int32 → Prop
  | 0, _, _ => True
  | n + 1, r, v1 => (((fi r 28) ≤ v1) → KX23 r) ∧ ((¬ (fi r 28) ≤ v1) → vp_in v1 (ln a 87) → ∀ r3 : S_, r3 = sA r 87 (upd (ar r 87) v1.toNatClampNeg (vp_nar .boolean 0)) → (wM_needNoRing_L2 a KX23 n) r3 (v1 + 1))
def wM_needNoRing_J146 (a : L_) (KB44 : S_ → Int32 → Int32 → Int32 → Prop) (KX152 : S_ → Int32 → Int32 → Prop) (r : S_) (v1 : Int32) (v2 : Int32) (v3 : Int32) : Prop :=
  KB44 r v1 v2 (v3 + 1)
def wM_needNoRing_J145 (a : L_) (KB44 : S_ → Int32 → Int32 → Int32 → Prop) (KX152 : S_ → Int32 → Int32 → Prop) (r : S_) (v1 : Int32) (v3 : Int32) (u0 : Int32) : Prop :=
  wM_needNoRing_J146 a KB44 KX152 r v1 u0 v3
def wM_needNoRing_J144 (a : L_) (KB44 : S_ → Int32 → Int32 → Int32 → Prop) (KX152 : S_ → Int32 → Int32 → Prop) (r : S_) (v1 : Int32) (v3 : Int32) : Prop :=
  wM_needNoRing_J145 a KB44 KX152 r v1 v3 0
def wM_needNoRing_J126 (a : L_) (KB44 : S_ → Int32 → Int32 → Int32 → Prop) (KX152 : S_ → Int32 → Int32 → Prop) (r : S_) (v2 : Int32) (v3 : Int32) (u0 : Int32) : Prop :=
  ((v2 = 0) → wM_needNoRing_J144 a KB44 KX152 r u0 v3) ∧ ((¬ v2 = 0) → vp_in v3 (ln a 87) → (((ar r 87 v3.toNatClampNeg) = 0) → wM_needNoRing_J144 a KB44 KX152 r u0 v3) ∧ ((¬ (ar r 87 v3.toNatClampNeg) = 0) → wM_needNoRing_J145 a KB44 KX152 r u0 v3 1))
def wM_needNoRing_J121 (a : L_) (KB44 : S_ → Int32 → Int32 → Int32 → Prop) (KX152 : S_ → Int32 → Int32 → Prop) (r : S_) (v2 : Int32) (v3 : Int32) : Prop :=
  wM_needNoRing_J126 a KB44 KX152 r v2 v3 1
def wM_needNoRing_J107 (a : L_) (KB44 : S_ → Int32 → Int32 → Int32 → Prop) (KX152 : S_ → Int32 → Int32 → Prop) (r : S_) (v1 : Int32) (v2 : Int32) (v3 : Int32) (u0 : Int32) (u1 : Int32) : Prop :=
  vp_in u1 (ln a 87) → ∀ r15 : S_, r15 = sA r 87 (upd (ar r 87) u1.toNatClampNeg (vp_nar .boolean u0)) → ((¬ v1 = 0) → wM_needNoRing_J121 a KB44 KX152 r15 v2 v3) ∧ ((v1 = 0) → vp_in v3 (ln a 87) → (((ar r15 87 v3.toNatClampNeg) = 0) → wM_needNoRing_J126 a KB44 KX152 r15 v2 v3 0) ∧ ((¬ (ar r15 87 v3.toNatClampNeg) = 0) → wM_needNoRing_J121 a KB44 KX152 r15 v2 v3))
def wM_needNoRing_J106 (a : L_) (KB44 : S_ → Int32 → Int32 → Int32 → Prop) (KX152 : S_ → Int32 → Int32 → Prop) (r : S_) (v1 : Int32) (v2 : Int32) (v3 : Int32) (u0 : Int32) : Prop :=
  wM_needNoRing_J107 a KB44 KX152 r v1 v2 v3 0 u0
def wM_needNoRing_L44 (a : L_) (KX152 : S_ → Int32 → Int32 → Prop) : Nat → S_ → Int32 → Int32 → Int32 → Prop
  | 0, _, _, _, _ => True
  | n + 1, r, v1, v2, v3 => (((fi r 28) ≤ v3) → KX152 r v1 v2) ∧ ((¬ (fi r 28) ≤ v3) → vp_in v3 (ln a 64) → ((¬ (ar r 64 v3.toNatClampNeg) = v3) → wM_needNoRing_J146 a (wM_needNoRing_L44 a KX152 n) KX152 r v1 v2 v3) ∧ (((ar r 64 v3.toNatClampNeg) = v3) → vp_in v3 (ln a 87) → ((¬ (ar r 87 v3.toNatClampNeg) = 0) → wM_needNoRing_J146 a (wM_needNoRing_L44 a KX152 n) KX152 r v1 v2 v3) ∧ (((ar r 87 v3.toNatClampNeg) = 0) → vp_in v3 (ln a 66) → wM_isTold a r (fun z12 => zb z12 → ((z12 = 0) → wM_needNoRing_J106 a (wM_needNoRing_L44 a KX152 n) KX152 r v1 v2 v3 v3) ∧ ((¬ z12 = 0) → vp_in v3 (ln a 67) → wM_isTold a r (fun z23 => zb z23 → ((z23 = 0) → wM_needNoRing_J106 a (wM_needNoRing_L44 a KX152 n) KX152 r v1 v2 v3 v3) ∧ ((¬ z23 = 0) → wM_needNoRing_J107 a (wM_needNoRing_L44 a KX152 n) KX152 r v1 v2 v3 1 v3)) (ar r 67 v3.toNatClampNeg))) (ar r 66 v3.toNatClampNeg))))
def wM_needNoRing_L27 (a : L_) (KX155 : S_ → Int32 → Prop) : Nat → S_ → Int32 → Int32 → Prop
  | 0, _, _, _ => True
  | n + 1, r, v1, v2 => ((v1 = 0) → KX155 r v2) ∧ ((¬ v1 = 0) → ((¬ (fi r 32) = 0) → KX155 r v2) ∧ (((fi r 32) = 0) → ∀ n25 : Nat, wM_needNoRing_L44 a (fun r v1 v2 => (wM_needNoRing_L27 a KX155 n) r v1 v2) n25 r 0 1 0))
def wM_needNoRing_J172 (a : L_) (K : S_ → Prop) (r : S_) (u0 : Int32) : Prop :=
  zb u0 → ∀ r27 : S_, r27 = sF r 32 u0 → K r27
def wM_needNoRing_J167 (a : L_) (K : S_ → Prop) (r : S_) : Prop :=
  wM_needNoRing_J172 a K r 1
def wM_needNoRing_J155 (a : L_) (K : S_ → Prop) (r : S_) (v2 : Int32) : Prop :=
  ((¬ (fi r 32) = 0) → wM_needNoRing_J167 a K r) ∧ (((fi r 32) = 0) → ((¬ v2 = 0) → wM_needNoRing_J172 a K r 0) ∧ ((v2 = 0) → wM_needNoRing_J167 a K r))
def wM_needNoRing (a : L_) (K : S_ → Prop) (r : S_) : Prop :=
  ∀ n31 : Nat, wM_needNoRing_L2 a (fun r => ∀ n30 : Nat, wM_needNoRing_L27 a (fun r v2 => wM_needNoRing_J155 a K r v2) n30 r 1 1) n31 r 0
def wM_reach_J118 (a : L_) (KB9 : S_ → Int32 → Prop) (KX121 : S_ → Prop) (r : S_) (v2 : Int32) : Prop :=
  KB9 r v2
def wM_reach_J94 (a : L_) (KB9 : S_ → Int32 → Prop) (KX121 : S_ → Prop) (r : S_) (v2 : Int32) (v3 : Int32) : Prop :=
  vp_in v3 (ln a 67) → (((ar r 67 v3.toNatClampNeg) < 0) → wM_reach_J118 a KB9 KX121 r v2) ∧ ((¬ (ar r 67 v3.toNatClampNeg) < 0) → vp_in v3 (ln a 67) → vp_in v2 (ln a 72) → ∀ r19 : S_, r19 = sA r 72 (upd (ar r 72) v2.toNatClampNeg (ar r 67 v3.toNatClampNeg)) → wM_reach_J118 a KB9 KX121 r19 (v2 + 1))
def wM_reach_L9 (a : L_) (KX121 : S_ → Prop) : Nat → S_ → Int32 → Prop
  | 0, _, _ => True
  | n + 1, r, v2 => ((v2 ≤ 0) → KX121 r) ∧ ((¬ v2 ≤ 0) → vp_in (v2 + (-1)) (ln a 72) → wM_find a r (fun z5 => vp_in z5 (ln a 68) → (((ar r 68 z5.toNatClampNeg) = (fi r 29)) → wM_reach_J118 a (wM_reach_L9 a KX121 n) KX121 r (v2 + (-1))) ∧ ((¬ (ar r 68 z5.toNatClampNeg) = (fi r 29)) → vp_in z5 (ln a 68) → ∀ r9 : S_, r9 = sA r 68 (upd (ar r 68) z5.toNatClampNeg (fi r 29)) → vp_in (fi r9 30) (ln a 73) → ∀ r11 : S_, r11 = sA r9 73 (upd (ar r9 73) (fi r9 30).toNatClampNeg z5) → ∀ r12 : S_, r12 = sF r11 30 ((fi r11 30) + 1) → vp_in z5 (ln a 66) → (((ar r12 66 z5.toNatClampNeg) < 0) → wM_reach_J94 a (wM_reach_L9 a KX121 n) KX121 r12 (v2 + (-1)) z5) ∧ ((¬ (ar r12 66 z5.toNatClampNeg) < 0) → vp_in z5 (ln a 66) → vp_in (v2 + (-1)) (ln a 72) → ∀ r22 : S_, r22 = sA r12 72 (upd (ar r12 72) (v2 + (-1)).toNatClampNeg (ar r12 66 z5.toNatClampNeg)) → wM_reach_J94 a (wM_reach_L9 a KX121 n) KX121 r22 ((v2 + (-1)) + 1) z5))) (ar r 72 (v2 + (-1)).toNatClampNeg))
def wM_reach (a : L_) (K : S_ → Prop) (r : S_) (p0 : Int32) : Prop :=
  vp_in 0 (ln a 72) → ∀ r2 : S_, r2 = sA r 72 (upd (ar r 72) (0 : Int32).toNatClampNeg p0) → ∀ n23 : Nat, wM_reach_L9 a (fun r => K r) n23 r2 1
def wM_copyStatic_J107 (a : L_) (KB7 : S_ → Int32 → Int32 → Prop) (KX113 : S_ → Int32 → Prop) (r : S_) (v1 : Int32) (v2 : Int32) : Prop :=
  KB7 r v1 (v2 + 1)
def wM_copyStatic_J106 (a : L_) (KB7 : S_ → Int32 → Int32 → Prop) (KX113 : S_ → Int32 → Prop) (r : S_) (v1 : Int32) (v2 : Int32) (u0 : Int32) (u1 : Int32) : Prop :=
  vp_in u1 (ln a 74) → ∀ r19 : S_, r19 = sA r 74 (upd (ar r 74) u1.toNatClampNeg u0) → wM_copyStatic_J107 a KB7 KX113 r19 v1 v2
def wM_copyStatic_J70 (a : L_) (KB7 : S_ → Int32 → Int32 → Prop) (KX113 : S_ → Int32 → Prop) (r : S_) (v1 : Int32) (v2 : Int32) (v3 : Int32) (u0 : Int32) : Prop :=
  vp_in v2 (ln a 37) → ((0 ≤ (ar r 37 v2.toNatClampNeg)) → vp_in v2 (ln a 37) → wM_newTerm a (fun z16 r17 => wM_copyStatic_J106 a KB7 KX113 r17 v1 v2 z16 v2) r (ar r 37 v2.toNatClampNeg) v3 u0) ∧ ((¬ 0 ≤ (ar r 37 v2.toNatClampNeg)) → wM_fresh a (fun z20 r21 => wM_copyStatic_J106 a KB7 KX113 r21 v1 v2 z20 v2) r)
def wM_copyStatic_J45 (a : L_) (KB7 : S_ → Int32 → Int32 → Prop) (KX113 : S_ → Int32 → Prop) (r : S_) (v1 : Int32) (v2 : Int32) (u0 : Int32) : Prop :=
  vp_in v2 (ln a 39) → ((0 ≤ (ar r 39 v2.toNatClampNeg)) → vp_in v2 (ln a 39) → vp_in (ar r 39 v2.toNatClampNeg) (ln a 74) → wM_copyStatic_J70 a KB7 KX113 r v1 v2 u0 (ar r 74 (ar r 39 v2.toNatClampNeg).toNatClampNeg)) ∧ ((¬ 0 ≤ (ar r 39 v2.toNatClampNeg)) → wM_copyStatic_J70 a KB7 KX113 r v1 v2 u0 (-1))
def wM_copyStatic_L7 (a : L_) (KX113 : S_ → Int32 → Prop) : Nat → S_ → Int32 → Int32 → Prop
  | 0, _, _, _ => True
  | n + 1, r, v1, v2 => ((v1 < v2) → KX113 r v1) ∧ ((¬ v1 < v2) → vp_in v2 (ln a 88) → (((ar r 88 v2.toNatClampNeg) = 0) → wM_copyStatic_J107 a (wM_copyStatic_L7 a KX113 n) KX113 r v1 v2) ∧ ((¬ (ar r 88 v2.toNatClampNeg) = 0) → vp_in v2 (ln a 38) → ((0 ≤ (ar r 38 v2.toNatClampNeg)) → vp_in v2 (ln a 38) → vp_in (ar r 38 v2.toNatClampNeg) (ln a 74) → wM_copyStatic_J45 a (wM_copyStatic_L7 a KX113 n) KX113 r v1 v2 (ar r 74 (ar r 38 v2.toNatClampNeg).toNatClampNeg)) ∧ ((¬ 0 ≤ (ar r 38 v2.toNatClampNeg)) → wM_copyStatic_J45 a (wM_copyStatic_L7 a KX113 n) KX113 r v1 v2 (-1))))
def wM_copyStatic (a : L_) (K : Int32 → S_ → Prop) (r : S_) (p0 : Int32) : Prop :=
  wM_markStatic a (fun r1 => ∀ n23 : Nat, wM_copyStatic_L7 a (fun r v1 => vp_in v1 (ln a 74) → K (ar r 74 v1.toNatClampNeg) r) n23 r1 p0 0) r p0
def wM_addWant (a : L_) (K : S_ → Prop) (r : S_) (p0 : Int32) (p1 : Int32) : Prop :=
  vp_in (fi r 31) (ln a 75) → ∀ r2 : S_, r2 = sA r 75 (upd (ar r 75) (fi r 31).toNatClampNeg p0) → vp_in (fi r2 31) (ln a 76) → ∀ r4 : S_, r4 = sA r2 76 (upd (ar r2 76) (fi r2 31).toNatClampNeg p1) → ∀ r5 : S_, r5 = sF r4 31 ((fi r4 31) + 1) → K r5
def wM_drive_L19 (a : L_) (KX77 : S_ → Int32 → Prop) : Nat → S_ → Int32 → Int32 → Prop
  | 0, _, _, _ => True
  | n + 1, r, v2, v3 => (((fi r 31) ≤ v3) → KX77 r v2) ∧ ((¬ (fi r 31) ≤ v3) → vp_in v3 (ln a 75) → wM_find a r (fun z5 => vp_in z5 (ln a 70) → vp_in v3 (ln a 76) → vp_in z5 (ln a 70) → ∀ r9 : S_, r9 = sA r 70 (upd (ar r 70) z5.toNatClampNeg ((ar r 70 z5.toNatClampNeg) ||| (ar r 76 v3.toNatClampNeg))) → vp_in v2 (ln a 72) → ∀ r11 : S_, r11 = sA r9 72 (upd (ar r9 72) v2.toNatClampNeg z5) → (wM_drive_L19 a KX77 n) r11 (v2 + 1) (v3 + 1)) (ar r 75 v3.toNatClampNeg))
def wM_drive_J295 (a : L_) (KB172 : S_ → Int32 → Int32 → Int32 → Int32 → Int32 → Int32 → Prop) (KX301 : S_ → Int32 → Int32 → Int32 → Int32 → Prop) (r : S_) (v2 : Int32) (v3 : Int32) (v4 : Int32) (v5 : Int32) (v6 : Int32) (v7 : Int32) : Prop :=
  KB172 r v2 v3 v4 v5 v6 (v7 + 1)
def wM_drive_J293 (a : L_) (KB172 : S_ → Int32 → Int32 → Int32 → Int32 → Int32 → Int32 → Prop) (KX301 : S_ → Int32 → Int32 → Int32 → Int32 → Prop) (r : S_) (v2 : Int32) (v3 : Int32) (v4 : Int32) (v5 : Int32) (v7 : Int32) (u0 : Int32) : Prop :=
  wM_drive_J295 a KB172 KX301 r v2 v3 v4 v5 u0 v7
def wM_drive_J266 (a : L_) (KB172 : S_ → Int32 → Int32 → Int32 → Int32 → Int32 → Int32 → Prop) (KX301 : S_ → Int32 → Int32 → Int32 → Int32 → Prop) (r : S_) (v2 : Int32) (v3 : Int32) (v4 : Int32) (v6 : Int32) (v7 : Int32) (v8 : Int32) (u0 : Int32) : Prop :=
  vp_in v8 (ln a 86) → (((ar r 86 v8.toNatClampNeg) = 0) → wM_drive_J293 a KB172 KX301 r v2 v3 v4 u0 v7 v6) ∧ ((¬ (ar r 86 v8.toNatClampNeg) = 0) → vp_in v8 (ln a 44) → wM_drive_J293 a KB172 KX301 r v2 v3 v4 u0 v7 (v6 ||| (ar r 44 v8.toNatClampNeg)))
def wM_drive_J238 (a : L_) (KB172 : S_ → Int32 → Int32 → Int32 → Int32 → Int32 → Int32 → Prop) (KX301 : S_ → Int32 → Int32 → Int32 → Int32 → Prop) (r : S_) (v2 : Int32) (v3 : Int32) (v4 : Int32) (v5 : Int32) (v6 : Int32) (v7 : Int32) (v8 : Int32) (u0 : Int32) : Prop :=
  zb u0 → ∀ r28 : S_, r28 = sF r 33 u0 → vp_in v8 (ln a 86) → (((ar r28 86 v8.toNatClampNeg) = 0) → wM_drive_J266 a KB172 KX301 r28 v2 v3 v4 v6 v7 v8 v5) ∧ ((¬ (ar r28 86 v8.toNatClampNeg) = 0) → vp_in v8 (ln a 43) → wM_drive_J266 a KB172 KX301 r28 v2 v3 v4 v6 v7 v8 (v5 ||| (ar r28 43 v8.toNatClampNeg)))
def wM_drive_J233 (a : L_) (KB172 : S_ → Int32 → Int32 → Int32 → Int32 → Int32 → Int32 → Prop) (KX301 : S_ → Int32 → Int32 → Int32 → Int32 → Prop) (r : S_) (v2 : Int32) (v3 : Int32) (v4 : Int32) (v5 : Int32) (v6 : Int32) (v7 : Int32) (v8 : Int32) : Prop :=
  wM_drive_J238 a KB172 KX301 r v2 v3 v4 v5 v6 v7 v8 1
def wM_drive_L172 (a : L_) (KX301 : S_ → Int32 → Int32 → Int32 → Int32 → Prop) : Nat → S_ → Int32 → Int32 → Int32 → Int32 → Int32 → Int32 → Prop
  | 0, _, _, _, _, _, _, _ => True
  | n + 1, r, v2, v3, v4, v5, v6, v7 => (((fi r 23) ≤ v7) → KX301 r v2 v3 v5 v6) ∧ ((¬ (fi r 23) ≤ v7) → vp_in v3 (ln a 65) → (((ar r 65 v3.toNatClampNeg) < 0) → KX301 r v2 v3 v5 v6) ∧ ((¬ (ar r 65 v3.toNatClampNeg) < 0) → ((¬ ((v4 >>> (v7 &&& 31)) &&& 1) = 1) → wM_drive_J295 a (wM_drive_L172 a KX301 n) KX301 r v2 v3 v4 v5 v6 v7) ∧ ((((v4 >>> (v7 &&& 31)) &&& 1) = 1) → vp_in v3 (ln a 65) → ((¬ (fi r 33) = 0) → wM_drive_J233 a (wM_drive_L172 a KX301 n) KX301 r v2 v3 v4 v5 v6 v7 ((8 * v7) + (ar r 65 v3.toNatClampNeg))) ∧ (((fi r 33) = 0) → vp_in ((8 * v7) + (ar r 65 v3.toNatClampNeg)) (ln a 86) → ((¬ (ar r 86 ((8 * v7) + (ar r 65 v3.toNatClampNeg)).toNatClampNeg) = 0) → wM_drive_J238 a (wM_drive_L172 a KX301 n) KX301 r v2 v3 v4 v5 v6 v7 ((8 * v7) + (ar r 65 v3.toNatClampNeg)) 0) ∧ (((ar r 86 ((8 * v7) + (ar r 65 v3.toNatClampNeg)).toNatClampNeg) = 0) → wM_drive_J233 a (wM_drive_L172 a KX301 n) KX301 r v2 v3 v4 v5 v6 v7 ((8 * v7) + (ar r 65 v3.toNatClampNeg)))))))
def wM_drive_J391 (a : L_) (KB77 : S_ → Int32 → Prop) (KX394 : S_ → Prop) (r : S_) (v2 : Int32) : Prop :=
  KB77 r v2
def wM_drive_J346 (a : L_) (KB77 : S_ → Int32 → Prop) (KX394 : S_ → Prop) (r : S_) (v2 : Int32) (v3 : Int32) (v6 : Int32) : Prop :=
  ((v6 = 0) → wM_drive_J391 a KB77 KX394 r v2) ∧ ((¬ v6 = 0) → vp_in v3 (ln a 67) → wM_find a r (fun z41 => vp_in z41 (ln a 70) → vp_in z41 (ln a 70) → ∀ r44 : S_, r44 = sA r 70 (upd (ar r 70) z41.toNatClampNeg ((ar r 70 z41.toNatClampNeg) ||| v6)) → vp_in v2 (ln a 72) → ∀ r46 : S_, r46 = sA r44 72 (upd (ar r44 72) v2.toNatClampNeg z41) → wM_drive_J391 a KB77 KX394 r46 (v2 + 1)) (ar r 67 v3.toNatClampNeg))
def wM_drive_J301 (a : L_) (KB77 : S_ → Int32 → Prop) (KX394 : S_ → Prop) (r : S_) (v2 : Int32) (v3 : Int32) (v5 : Int32) (v6 : Int32) : Prop :=
  ((v5 = 0) → wM_drive_J346 a KB77 KX394 r v2 v3 v6) ∧ ((¬ v5 = 0) → vp_in v3 (ln a 66) → wM_find a r (fun z48 => vp_in z48 (ln a 70) → vp_in z48 (ln a 70) → ∀ r51 : S_, r51 = sA r 70 (upd (ar r 70) z48.toNatClampNeg ((ar r 70 z48.toNatClampNeg) ||| v5)) → vp_in v2 (ln a 72) → ∀ r53 : S_, r53 = sA r51 72 (upd (ar r51 72) v2.toNatClampNeg z48) → wM_drive_J346 a KB77 KX394 r53 (v2 + 1) v3 v6) (ar r 66 v3.toNatClampNeg))
def wM_drive_J134 (a : L_) (KB77 : S_ → Int32 → Prop) (KX394 : S_ → Prop) (r : S_) (v2 : Int32) (v3 : Int32) : Prop :=
  vp_in v3 (ln a 70) → vp_in v3 (ln a 71) → ∀ z18 : Int32, z18 = (ar r 70 v3.toNatClampNeg) &&& ((ar r 71 v3.toNatClampNeg) ^^^ (-1)) → vp_in v3 (ln a 70) → vp_in v3 (ln a 71) → ∀ r21 : S_, r21 = sA r 71 (upd (ar r 71) v3.toNatClampNeg (ar r 70 v3.toNatClampNeg)) → ∀ n54 : Nat, wM_drive_L172 a (fun r v2 v3 v5 v6 => wM_drive_J301 a KB77 KX394 r v2 v3 v5 v6) n54 r21 v2 v3 z18 0 0 0
def wM_drive_L77 (a : L_) (KX394 : S_ → Prop) : Nat → S_ → Int32 → Prop
  | 0, _, _ => True
  | n + 1, r, v2 => ((v2 ≤ 0) → KX394 r) ∧ ((¬ v2 ≤ 0) → vp_in (v2 + (-1)) (ln a 72) → vp_in (ar r 72 (v2 + (-1)).toNatClampNeg) (ln a 68) → (((ar r 68 (ar r 72 (v2 + (-1)).toNatClampNeg).toNatClampNeg) = (fi r 29)) → wM_drive_J134 a (wM_drive_L77 a KX394 n) KX394 r (v2 + (-1)) (ar r 72 (v2 + (-1)).toNatClampNeg)) ∧ ((¬ (ar r 68 (ar r 72 (v2 + (-1)).toNatClampNeg).toNatClampNeg) = (fi r 29)) → vp_in (ar r 72 (v2 + (-1)).toNatClampNeg) (ln a 68) → ∀ r56 : S_, r56 = sA r 68 (upd (ar r 68) (ar r 72 (v2 + (-1)).toNatClampNeg).toNatClampNeg (fi r 29)) → vp_in (fi r56 30) (ln a 73) → ∀ r58 : S_, r58 = sA r56 73 (upd (ar r56 73) (fi r56 30).toNatClampNeg (ar r 72 (v2 + (-1)).toNatClampNeg)) → ∀ r59 : S_, r59 = sF r58 30 ((fi r58 30) + 1) → wM_drive_J134 a (wM_drive_L77 a KX394 n) KX394 r59 (v2 + (-1)) (ar r 72 (v2 + (-1)).toNatClampNeg)))
def wM_drive (a : L_) (K : S_ → Prop) (r : S_) (p0 : Int32) : Prop :=
  ∀ r1 : S_, r1 = sF r 30 0 → ∀ r2 : S_, r2 = sF r1 29 ((fi r1 29) + 1) → ∀ n61 : Nat, wM_drive_L19 a (fun r v2 => ∀ n60 : Nat, wM_drive_L77 a (fun r => K r) n60 r v2) n61 r2 0 p0
def wM_least_J75 (a : L_) (r : S_) (KB31 : Int32 → Int32 → Int32 → Int32 → Int32 → Prop) (KX83 : Int32 → Int32 → Int32 → Int32 → Prop) (v1 : Int32) (v2 : Int32) (v3 : Int32) (v5 : Int32) (u0 : Int32) : Prop :=
  KB31 v1 v2 v3 u0 (v5 + 1)
def wM_least_J74 (a : L_) (r : S_) (KB31 : Int32 → Int32 → Int32 → Int32 → Int32 → Prop) (KX83 : Int32 → Int32 → Int32 → Int32 → Prop) (v1 : Int32) (v2 : Int32) (v3 : Int32) (v5 : Int32) : Prop :=
  wM_least_J75 a r KB31 KX83 v1 v2 v3 v5 0
def wM_least_J70 (a : L_) (r : S_) (KB31 : Int32 → Int32 → Int32 → Int32 → Int32 → Prop) (KX83 : Int32 → Int32 → Int32 → Int32 → Prop) (v1 : Int32) (v2 : Int32) (v3 : Int32) (v5 : Int32) : Prop :=
  wM_least_J75 a r KB31 KX83 v1 v2 v3 v5 1
def wM_least_L31 (a : L_) (r : S_) (KX83 : Int32 → Int32 → Int32 → Int32 → Prop) : Nat → Int32 → Int32 → Int32 → Int32 → Int32 → Prop
  | 0, _, _, _, _, _ => True
  | n + 1, v1, v2, v3, v4, v5 => (((fi r 23) ≤ v5) → KX83 v1 v2 v3 v4) ∧ ((¬ (fi r 23) ≤ v5) → ((v4 = 0) → wM_least_J74 a r (wM_least_L31 a r KX83 n) KX83 v1 v2 v3 v5) ∧ ((¬ v4 = 0) → ((v5 = v3) → wM_least_J70 a r (wM_least_L31 a r KX83 n) KX83 v1 v2 v3 v5) ∧ ((¬ v5 = v3) → ((((v1 >>> (v5 &&& 31)) &&& 1) = 0) → wM_least_J70 a r (wM_least_L31 a r KX83 n) KX83 v1 v2 v3 v5) ∧ ((¬ ((v1 >>> (v5 &&& 31)) &&& 1) = 0) → wM_isUnder a r (fun z7 => zb z7 → ((¬ z7 = 0) → wM_least_J74 a r (wM_least_L31 a r KX83 n) KX83 v1 v2 v3 v5) ∧ ((z7 = 0) → wM_least_J70 a r (wM_least_L31 a r KX83 n) KX83 v1 v2 v3 v5)) v5 v3))))
def wM_least_J97 (a : L_) (r : S_) (KB4 : Int32 → Int32 → Int32 → Prop) (KX104 : Int32 → Prop) (v1 : Int32) (v3 : Int32) (u0 : Int32) : Prop :=
  KB4 v1 u0 (v3 + 1)
def wM_least_J26 (a : L_) (r : S_) (KB4 : Int32 → Int32 → Int32 → Prop) (KX104 : Int32 → Prop) (v1 : Int32) (v2 : Int32) (v3 : Int32) (u0 : Int32) : Prop :=
  ∀ n10 : Nat, wM_least_L31 a r (fun v1 v2 v3 v4 => ((v4 = 0) → wM_least_J97 a r KB4 KX104 v1 v3 v2) ∧ ((¬ v4 = 0) → wM_least_J97 a r KB4 KX104 v1 v3 (v2 ||| (1 <<< (v3 &&& 31))))) n10 v1 v2 v3 u0 0
def wM_least_L4 (a : L_) (r : S_) (KX104 : Int32 → Prop) : Nat → Int32 → Int32 → Int32 → Prop
  | 0, _, _, _ => True
  | n + 1, v1, v2, v3 => (((fi r 23) ≤ v3) → KX104 v2) ∧ ((¬ (fi r 23) ≤ v3) → ((¬ ((v1 >>> (v3 &&& 31)) &&& 1) = 1) → wM_least_J26 a r (wM_least_L4 a r KX104 n) KX104 v1 v2 v3 0) ∧ ((((v1 >>> (v3 &&& 31)) &&& 1) = 1) → wM_least_J26 a r (wM_least_L4 a r KX104 n) KX104 v1 v2 v3 1))
def wM_least (a : L_) (r : S_) (K : Int32 → Prop) (p0 : Int32) : Prop :=
  ∀ n11 : Nat, wM_least_L4 a r (fun v2 => K v2) n11 p0 0 0
def wM_ones_L4 (a : L_) (r : S_) (KX24 : Int32 → Prop) : Nat → Int32 → Int32 → Int32 → Prop
  | 0, _, _, _ => True
  | n + 1, v0, v1, v2 => ((8 ≤ v2) → KX24 v1) ∧ ((¬ 8 ≤ v2) → (wM_ones_L4 a r KX24 n) v0 (v1 + ((v0 >>> (v2 &&& 31)) &&& 1)) (v2 + 1))
def wM_ones (a : L_) (r : S_) (K : Int32 → Prop) (p0 : Int32) : Prop :=
  ∀ n2 : Nat, wM_ones_L4 a r (fun v1 => K v1) n2 p0 0 0
def wM_takeNeeds_J66 (a : L_) (KB7 : S_ → Int32 → Prop) (KX86 : S_ → Prop) (r : S_) (v1 : Int32) (v2 : Int32) : Prop :=
  vp_in v2 (ln a 70) → ∀ r7 : S_, r7 = sA r 70 (upd (ar r 70) v2.toNatClampNeg 0) → vp_in v2 (ln a 71) → ∀ r9 : S_, r9 = sA r7 71 (upd (ar r7 71) v2.toNatClampNeg 0) → KB7 r9 (v1 + 1)
def wM_takeNeeds_L7 (a : L_) (KX86 : S_ → Prop) : Nat → S_ → Int32 → Prop
  | 0, _, _ => True
  | n + 1, r, v1 => (((fi r 30) ≤ v1) → KX86 r) ∧ ((¬ (fi r 30) ≤ v1) → vp_in v1 (ln a 73) → vp_in (ar r 73 v1.toNatClampNeg) (ln a 65) → ((0 ≤ (ar r 65 (ar r 73 v1.toNatClampNeg).toNatClampNeg)) → wM_takeNeeds_J66 a (wM_takeNeeds_L7 a KX86 n) KX86 r v1 (ar r 73 v1.toNatClampNeg)) ∧ ((¬ 0 ≤ (ar r 65 (ar r 73 v1.toNatClampNeg).toNatClampNeg)) → vp_in (fi r 40) (ln a 84) → ∀ r11 : S_, r11 = sA r 84 (upd (ar r 84) (fi r 40).toNatClampNeg (ar r 73 v1.toNatClampNeg)) → vp_in (ar r 73 v1.toNatClampNeg) (ln a 70) → vp_in (fi r11 40) (ln a 85) → ∀ r14 : S_, r14 = sA r11 85 (upd (ar r11 85) (fi r11 40).toNatClampNeg (ar r11 70 (ar r 73 v1.toNatClampNeg).toNatClampNeg)) → ∀ r15 : S_, r15 = sF r14 40 ((fi r14 40) + 1) → wM_takeNeeds_J66 a (wM_takeNeeds_L7 a KX86 n) KX86 r15 v1 (ar r 73 v1.toNatClampNeg)))
def wM_takeNeeds (a : L_) (K : S_ → Prop) (r : S_) : Prop :=
  ∀ r1 : S_, r1 = sF r 40 0 → ∀ n16 : Nat, wM_takeNeeds_L7 a (fun r => K r) n16 r1 0
def wM_generalise_J86 (a : L_) (KB63 : S_ → Int32 → Int32 → Int32 → Prop) (KX96 : S_ → Int32 → Int32 → Prop) (r : S_) (v1 : Int32) (v2 : Int32) (v3 : Int32) : Prop :=
  vp_in v3 (ln a 51) → KB63 r v1 v2 (ar r 51 v3.toNatClampNeg)
def wM_generalise_L63 (a : L_) (KX96 : S_ → Int32 → Int32 → Prop) : Nat → S_ → Int32 → Int32 → Int32 → Prop
  | 0, _, _, _, _ => True
  | n + 1, r, v1, v2, v3 => ((v3 < 0) → KX96 r v1 v2) ∧ ((¬ v3 < 0) → wM_kindOf a r (fun z12 => ((¬ z12 = 1) → wM_generalise_J86 a (wM_generalise_L63 a KX96 n) KX96 r v1 v2 v3) ∧ ((z12 = 1) → vp_in v3 (ln a 56) → wM_reach a (fun r16 => wM_generalise_J86 a (wM_generalise_L63 a KX96 n) KX96 r16 v1 v2 v3) r (ar r 56 v3.toNatClampNeg))) v3)
def wM_generalise_J144 (a : L_) (KB98 : S_ → Int32 → Int32 → Int32 → Prop) (KX150 : S_ → Int32 → Prop) (r : S_) (v1 : Int32) (v2 : Int32) (v3 : Int32) : Prop :=
  KB98 r v1 v2 (v3 + 1)
def wM_generalise_L98 (a : L_) (KX150 : S_ → Int32 → Prop) : Nat → S_ → Int32 → Int32 → Int32 → Prop
  | 0, _, _, _, _ => True
  | n + 1, r, v1, v2, v3 => (((fi r 40) ≤ v3) → KX150 r v1) ∧ ((¬ (fi r 40) ≤ v3) → vp_in v3 (ln a 84) → vp_in (ar r 84 v3.toNatClampNeg) (ln a 68) → ((¬ (ar r 68 (ar r 84 v3.toNatClampNeg).toNatClampNeg) = v2) → wM_generalise_J144 a (wM_generalise_L98 a KX150 n) KX150 r v1 v2 v3) ∧ (((ar r 68 (ar r 84 v3.toNatClampNeg).toNatClampNeg) = v2) → vp_in v3 (ln a 84) → vp_in v3 (ln a 85) → wM_addWant a (fun r23 => vp_in v3 (ln a 85) → ∀ r25 : S_, r25 = sA r23 85 (upd (ar r23 85) v3.toNatClampNeg 0) → wM_generalise_J144 a (wM_generalise_L98 a KX150 n) KX150 r25 v1 v2 v3) r (ar r 84 v3.toNatClampNeg) (ar r 85 v3.toNatClampNeg)))
def wM_generalise_J294 (a : L_) (KB187 : S_ → Int32 → Int32 → Prop) (KX300 : S_ → Int32 → Prop) (r : S_) (v1 : Int32) (v3 : Int32) : Prop :=
  KB187 r v1 (v3 + 1)
def wM_generalise_J291 (a : L_) (KB187 : S_ → Int32 → Int32 → Prop) (KX300 : S_ → Int32 → Prop) (r : S_) (v1 : Int32) (v3 : Int32) (u0 : Int32) : Prop :=
  zb u0 → ∀ r36 : S_, r36 = sF r 34 u0 → wM_generalise_J294 a KB187 KX300 r36 v1 v3
def wM_generalise_J286 (a : L_) (KB187 : S_ → Int32 → Int32 → Prop) (KX300 : S_ → Int32 → Prop) (r : S_) (v1 : Int32) (v3 : Int32) : Prop :=
  wM_generalise_J291 a KB187 KX300 r v1 v3 1
def wM_generalise_J269 (a : L_) (KB187 : S_ → Int32 → Int32 → Prop) (KX300 : S_ → Int32 → Prop) (r : S_) (v1 : Int32) (v3 : Int32) : Prop :=
  ((¬ (fi r 34) = 0) → wM_generalise_J286 a KB187 KX300 r v1 v3) ∧ (((fi r 34) = 0) → vp_in v3 (ln a 85) → (((ar r 85 v3.toNatClampNeg) = 0) → wM_generalise_J291 a KB187 KX300 r v1 v3 0) ∧ ((¬ (ar r 85 v3.toNatClampNeg) = 0) → wM_generalise_J286 a KB187 KX300 r v1 v3))
def wM_generalise_L187 (a : L_) (KX300 : S_ → Int32 → Prop) : Nat → S_ → Int32 → Int32 → Prop
  | 0, _, _, _ => True
  | n + 1, r, v1, v3 => (((fi r 40) ≤ v3) → KX300 r v1) ∧ ((¬ (fi r 40) ≤ v3) → vp_in v3 (ln a 85) → (((ar r 85 v3.toNatClampNeg) = 0) → wM_generalise_J269 a (wM_generalise_L187 a KX300 n) KX300 r v1 v3) ∧ ((¬ (ar r 85 v3.toNatClampNeg) = 0) → vp_in v3 (ln a 84) → vp_in (ar r 84 v3.toNatClampNeg) (ln a 68) → ((¬ (ar r 68 (ar r 84 v3.toNatClampNeg).toNatClampNeg) = (fi r 29)) → wM_generalise_J269 a (wM_generalise_L187 a KX300 n) KX300 r v1 v3) ∧ (((ar r 68 (ar r 84 v3.toNatClampNeg).toNatClampNeg) = (fi r 29)) → vp_in v3 (ln a 84) → vp_in (fi r 27) (ln a 62) → ∀ r45 : S_, r45 = sA r 62 (upd (ar r 62) (fi r 27).toNatClampNeg (ar r 84 v3.toNatClampNeg)) → vp_in v3 (ln a 85) → wM_least a r45 (fun z47 => vp_in (fi r45 27) (ln a 63) → ∀ r49 : S_, r49 = sA r45 63 (upd (ar r45 63) (fi r45 27).toNatClampNeg z47) → ∀ r50 : S_, r50 = sF r49 27 ((fi r49 27) + 1) → wM_generalise_J294 a (wM_generalise_L187 a KX300 n) KX300 r50 v1 v3) (ar r45 85 v3.toNatClampNeg))))
def wM_generalise (a : L_) (K : S_ → Prop) (r : S_) (p0 : Int32) : Prop :=
  wM_needNoRing a (fun r1 => (((fi r1 32) = 0) → vp_in p0 (ln a 61) → wM_drive a (fun r4 => wM_takeNeeds a (fun r5 => vp_in p0 (ln a 61) → ∀ r7 : S_, r7 = sF r5 31 (ar r5 61 p0.toNatClampNeg) → ∀ r8 : S_, r8 = sF r7 30 0 → ∀ r9 : S_, r9 = sF r8 29 ((fi r8 29) + 1) → vp_in p0 (ln a 51) → ∀ n56 : Nat, wM_generalise_L63 a (fun r v1 v2 => ∀ n55 : Nat, wM_generalise_L98 a (fun r v1 => ∀ r26 : S_, r26 = sF r 29 ((fi r 29) + 1) → vp_in v1 (ln a 53) → vp_in (ar r26 53 v1.toNatClampNeg) (ln a 55) → wM_reach a (fun r29 => vp_in v1 (ln a 57) → ∀ r31 : S_, r31 = sA r29 57 (upd (ar r29 57) v1.toNatClampNeg (fi r29 27)) → ∀ n54 : Nat, wM_generalise_L187 a (fun r v1 => vp_in v1 (ln a 57) → vp_in v1 (ln a 58) → ∀ r53 : S_, r53 = sA r 58 (upd (ar r 58) v1.toNatClampNeg ((fi r 27) - (ar r 57 v1.toNatClampNeg))) → K r53) n54 r31 v1 0) r26 (ar r26 55 (ar r26 53 v1.toNatClampNeg).toNatClampNeg)) n55 r v1 v2 0) n56 r9 p0 (fi r9 29) (ar r9 51 p0.toNatClampNeg)) r4) r1 (ar r1 61 p0.toNatClampNeg)) ∧ ((¬ (fi r1 32) = 0) → K r1)) r
def wM_copied (a : L_) (r : S_) (K : Int32 → Prop) (p0 : Int32) : Prop :=
  ((0 ≤ p0) → wM_find a r (fun z2 => vp_in z2 (ln a 68) → ((¬ (ar r 68 z2.toNatClampNeg) = (fi r 29)) → wM_find a r (fun z5 => K z5) p0) ∧ (((ar r 68 z2.toNatClampNeg) = (fi r 29)) → wM_find a r (fun z6 => vp_in z6 (ln a 69) → K (ar r 69 z6.toNatClampNeg)) p0)) p0) ∧ ((¬ 0 ≤ p0) → K (-1))
def wM_copyOf_J50 (a : L_) (KB27 : S_ → Int32 → Int32 → Int32 → Prop) (KX60 : S_ → Int32 → Int32 → Prop) (r : S_) (v1 : Int32) (v2 : Int32) (v3 : Int32) : Prop :=
  vp_in v3 (ln a 51) → KB27 r v1 v2 (ar r 51 v3.toNatClampNeg)
def wM_copyOf_L27 (a : L_) (KX60 : S_ → Int32 → Int32 → Prop) : Nat → S_ → Int32 → Int32 → Int32 → Prop
  | 0, _, _, _, _ => True
  | n + 1, r, v1, v2, v3 => ((v3 < 0) → KX60 r v1 v2) ∧ ((¬ v3 < 0) → wM_kindOf a r (fun z5 => ((¬ z5 = 1) → wM_copyOf_J50 a (wM_copyOf_L27 a KX60 n) KX60 r v1 v2 v3) ∧ ((z5 = 1) → vp_in v3 (ln a 56) → wM_reach a (fun r9 => wM_copyOf_J50 a (wM_copyOf_L27 a KX60 n) KX60 r9 v1 v2 v3) r (ar r 56 v3.toNatClampNeg))) v3)
def wM_copyOf_J253 (a : L_) (KB101 : S_ → Int32 → Int32 → Int32 → Int32 → Prop) (KX256 : S_ → Int32 → Int32 → Prop) (r : S_) (v1 : Int32) (v2 : Int32) (v3 : Int32) (v4 : Int32) : Prop :=
  KB101 r v1 v2 v3 v4
def wM_copyOf_J226 (a : L_) (KB101 : S_ → Int32 → Int32 → Int32 → Int32 → Prop) (KX256 : S_ → Int32 → Int32 → Prop) (r : S_) (v1 : Int32) (v2 : Int32) (v3 : Int32) (v4 : Int32) (v5 : Int32) : Prop :=
  vp_in v5 (ln a 67) → (((ar r 67 v5.toNatClampNeg) < 0) → wM_copyOf_J253 a KB101 KX256 r v1 v2 v3 v4) ∧ ((¬ (ar r 67 v5.toNatClampNeg) < 0) → vp_in v5 (ln a 67) → vp_in v4 (ln a 72) → ∀ r40 : S_, r40 = sA r 72 (upd (ar r 72) v4.toNatClampNeg (ar r 67 v5.toNatClampNeg)) → wM_copyOf_J253 a KB101 KX256 r40 v1 v2 v3 (v4 + 1))
def wM_copyOf_L101 (a : L_) (KX256 : S_ → Int32 → Int32 → Prop) : Nat → S_ → Int32 → Int32 → Int32 → Int32 → Prop
  | 0, _, _, _, _, _ => True
  | n + 1, r, v1, v2, v3, v4 => ((v4 ≤ 0) → KX256 r v1 v3) ∧ ((¬ v4 ≤ 0) → vp_in (v4 + (-1)) (ln a 72) → wM_find a r (fun z19 => vp_in z19 (ln a 68) → (((ar r 68 z19.toNatClampNeg) = (fi r 29)) → wM_copyOf_J253 a (wM_copyOf_L101 a KX256 n) KX256 r v1 v2 v3 (v4 + (-1))) ∧ ((¬ (ar r 68 z19.toNatClampNeg) = (fi r 29)) → vp_in z19 (ln a 68) → (((ar r 68 z19.toNatClampNeg) = v2) → wM_copyOf_J253 a (wM_copyOf_L101 a KX256 n) KX256 r v1 v2 v3 (v4 + (-1))) ∧ ((¬ (ar r 68 z19.toNatClampNeg) = v2) → vp_in z19 (ln a 68) → ∀ r25 : S_, r25 = sA r 68 (upd (ar r 68) z19.toNatClampNeg (fi r 29)) → vp_in (fi r25 30) (ln a 73) → ∀ r27 : S_, r27 = sA r25 73 (upd (ar r25 73) (fi r25 30).toNatClampNeg z19) → ∀ r28 : S_, r28 = sF r27 30 ((fi r27 30) + 1) → vp_in z19 (ln a 65) → wM_newTerm a (fun z30 r31 => vp_in z19 (ln a 69) → ∀ r33 : S_, r33 = sA r31 69 (upd (ar r31 69) z19.toNatClampNeg z30) → vp_in z19 (ln a 66) → (((ar r33 66 z19.toNatClampNeg) < 0) → wM_copyOf_J226 a (wM_copyOf_L101 a KX256 n) KX256 r33 v1 v2 v3 (v4 + (-1)) z19) ∧ ((¬ (ar r33 66 z19.toNatClampNeg) < 0) → vp_in z19 (ln a 66) → vp_in (v4 + (-1)) (ln a 72) → ∀ r43 : S_, r43 = sA r33 72 (upd (ar r33 72) (v4 + (-1)).toNatClampNeg (ar r33 66 z19.toNatClampNeg)) → wM_copyOf_J226 a (wM_copyOf_L101 a KX256 n) KX256 r43 v1 v2 v3 ((v4 + (-1)) + 1) z19)) r28 (ar r28 65 z19.toNatClampNeg) (-1) (-1)))) (ar r 72 (v4 + (-1)).toNatClampNeg))
def wM_copyOf_L259 (a : L_) (KX329 : S_ → Int32 → Int32 → Prop) : Nat → S_ → Int32 → Int32 → Int32 → Prop
  | 0, _, _, _, _ => True
  | n + 1, r, v1, v3, v5 => (((fi r 30) ≤ v5) → KX329 r v1 v3) ∧ ((¬ (fi r 30) ≤ v5) → vp_in v5 (ln a 73) → vp_in (ar r 73 v5.toNatClampNeg) (ln a 69) → vp_in (ar r 73 v5.toNatClampNeg) (ln a 66) → wM_copied a r (fun z48 => vp_in (ar r 69 (ar r 73 v5.toNatClampNeg).toNatClampNeg) (ln a 66) → ∀ r50 : S_, r50 = sA r 66 (upd (ar r 66) (ar r 69 (ar r 73 v5.toNatClampNeg).toNatClampNeg).toNatClampNeg z48) → vp_in (ar r 73 v5.toNatClampNeg) (ln a 69) → vp_in (ar r 73 v5.toNatClampNeg) (ln a 67) → wM_copied a r50 (fun z53 => vp_in (ar r50 69 (ar r 73 v5.toNatClampNeg).toNatClampNeg) (ln a 67) → ∀ r55 : S_, r55 = sA r50 67 (upd (ar r50 67) (ar r50 69 (ar r 73 v5.toNatClampNeg).toNatClampNeg).toNatClampNeg z53) → (wM_copyOf_L259 a KX329 n) r55 v1 v3 (v5 + 1)) (ar r50 67 (ar r 73 v5.toNatClampNeg).toNatClampNeg)) (ar r 66 (ar r 73 v5.toNatClampNeg).toNatClampNeg))
def wM_copyOf_L337 (a : L_) (KX402 : S_ → Int32 → Prop) : Nat → S_ → Int32 → Int32 → Int32 → Prop
  | 0, _, _, _, _ => True
  | n + 1, r, v1, v3, v5 => vp_in v1 (ln a 57) → vp_in v1 (ln a 58) → ((((ar r 57 v1.toNatClampNeg) + (ar r 58 v1.toNatClampNeg)) ≤ v5) → KX402 r v3) ∧ ((¬ ((ar r 57 v1.toNatClampNeg) + (ar r 58 v1.toNatClampNeg)) ≤ v5) → vp_in v5 (ln a 62) → wM_copied a r (fun z61 => vp_in v5 (ln a 63) → wM_addWant a (fun r63 => vp_in v5 (ln a 63) → wM_ones a r63 (fun z65 => ∀ r66 : S_, r66 = sF r63 35 ((fi r63 35) + z65) → (wM_copyOf_L337 a KX402 n) r66 v1 v3 (v5 + 1)) (ar r63 63 v5.toNatClampNeg)) r z61 (ar r 63 v5.toNatClampNeg)) (ar r 62 v5.toNatClampNeg))
def wM_copyOf (a : L_) (K : Int32 → S_ → Prop) (r : S_) (p0 : Int32) : Prop :=
  ∀ r1 : S_, r1 = sF r 30 0 → ∀ r2 : S_, r2 = sF r1 29 ((fi r1 29) + 1) → vp_in p0 (ln a 51) → ∀ n71 : Nat, wM_copyOf_L27 a (fun r v1 v2 => ∀ r10 : S_, r10 = sF r 30 0 → vp_in v1 (ln a 53) → vp_in (ar r10 53 v1.toNatClampNeg) (ln a 55) → wM_find a r10 (fun z13 => vp_in 0 (ln a 72) → ∀ r15 : S_, r15 = sA r10 72 (upd (ar r10 72) (0 : Int32).toNatClampNeg z13) → ∀ r16 : S_, r16 = sF r15 29 ((fi r15 29) + 1) → ∀ n70 : Nat, wM_copyOf_L101 a (fun r v1 v3 => ∀ n69 : Nat, wM_copyOf_L259 a (fun r v1 v3 => vp_in v1 (ln a 57) → ∀ n68 : Nat, wM_copyOf_L337 a (fun r v3 => wM_copied a r (fun z67 => K z67 r) v3) n68 r v1 v3 (ar r 57 v1.toNatClampNeg)) n69 r v1 v3 0) n70 r16 v1 v2 z13 1) (ar r10 55 (ar r10 53 v1.toNatClampNeg).toNatClampNeg)) n71 r2 p0 (fi r2 29) (ar r2 51 p0.toNatClampNeg)
def wM_typeName_J46 (a : L_) (K : S_ → Prop) (r : S_) (u0 : Int32) (u1 : Int32) : Prop :=
  vp_in u1 (ln a 55) → ∀ r8 : S_, r8 = sA r 55 (upd (ar r 55) u1.toNatClampNeg u0) → K r8
def wM_typeName (a : L_) (K : S_ → Prop) (r : S_) (p0 : Int32) : Prop :=
  wM_binder a r (fun z1 => ((0 ≤ z1) → wM_kindOf a r (fun z3 => ((¬ z3 = 1) → wM_copyOf a (fun z5 r6 => wM_typeName_J46 a K r6 z5 p0) r z1) ∧ ((z3 = 1) → vp_in z1 (ln a 56) → wM_typeName_J46 a K r (ar r 56 z1.toNatClampNeg) p0)) z1) ∧ ((¬ 0 ≤ z1) → zb 1 → ∀ r10 : S_, r10 = sF r 32 1 → K r10)) p0
def wM_visit_J265 (a : L_) (K : Int32 → S_ → Prop) (r : S_) (v1 : Int32) : Prop :=
  vp_in v1 (ln a 54) → K (ar r 54 v1.toNatClampNeg) r
def wM_visit_J194 (a : L_) (K : Int32 → S_ → Prop) (r : S_) (v1 : Int32) (v2 : Int32) (v3 : Int32) : Prop :=
  ((¬ v2 = 1) → ((¬ v3 = 0) → ((¬ v3 = 1) → ((¬ v2 = 2) → vp_in v1 (ln a 54) → vp_in (ar r 54 v1.toNatClampNeg) (ln a 55) → vp_in v1 (ln a 55) → ∀ r16 : S_, r16 = sA r 55 (upd (ar r 55) v1.toNatClampNeg (ar r 55 (ar r 54 v1.toNatClampNeg).toNatClampNeg)) → K (-1) r16) ∧ ((v2 = 2) → wM_fresh a (fun z17 r18 => vp_in v1 (ln a 55) → ∀ r20 : S_, r20 = sA r18 55 (upd (ar r18 55) v1.toNatClampNeg z17) → vp_in v1 (ln a 53) → vp_in (ar r20 53 v1.toNatClampNeg) (ln a 55) → vp_in v1 (ln a 54) → vp_in (ar r20 54 v1.toNatClampNeg) (ln a 55) → vp_in v1 (ln a 55) → wM_arrow a (fun z26 r27 => wM_unify a (fun r28 => K (-1) r28) r27 (ar r20 55 (ar r20 53 v1.toNatClampNeg).toNatClampNeg) z26) r20 (ar r20 55 (ar r20 54 v1.toNatClampNeg).toNatClampNeg) (ar r20 55 v1.toNatClampNeg)) r)) ∧ ((v3 = 1) → ((¬ v2 = 3) → wM_visit_J265 a K r v1) ∧ ((v2 = 3) → wM_generalise a (fun r31 => wM_visit_J265 a K r31 v1) r v1))) ∧ ((v3 = 0) → vp_in v1 (ln a 61) → ∀ r33 : S_, r33 = sA r 61 (upd (ar r 61) v1.toNatClampNeg (fi r 31)) → vp_in v1 (ln a 53) → K (ar r33 53 v1.toNatClampNeg) r33)) ∧ ((v2 = 1) → vp_in v1 (ln a 56) → vp_in v1 (ln a 53) → vp_in (ar r 53 v1.toNatClampNeg) (ln a 55) → wM_arrow a (fun z38 r39 => vp_in v1 (ln a 55) → ∀ r41 : S_, r41 = sA r39 55 (upd (ar r39 55) v1.toNatClampNeg z38) → K (-1) r41) r (ar r 56 v1.toNatClampNeg) (ar r 55 (ar r 53 v1.toNatClampNeg).toNatClampNeg))
def wM_visit_J120 (a : L_) (KB72 : S_ → Int32 → Int32 → Prop) (KX126 : S_ → Prop) (r : S_) (v4 : Int32) (v5 : Int32) : Prop :=
  KB72 r v4 (v5 + 1)
def wM_visit_L72 (a : L_) (KX126 : S_ → Prop) : Nat → S_ → Int32 → Int32 → Prop
  | 0, _, _, _ => True
  | n + 1, r, v4, v5 => vp_in v4 (ln a 42) → (((ar r 42 v4.toNatClampNeg) < v5) → KX126 r) ∧ ((¬ (ar r 42 v4.toNatClampNeg) < v5) → vp_in v5 (ln a 88) → (((ar r 88 v5.toNatClampNeg) = 0) → wM_visit_J120 a (wM_visit_L72 a KX126 n) KX126 r v4 v5) ∧ ((¬ (ar r 88 v5.toNatClampNeg) = 0) → vp_in v5 (ln a 37) → ((¬ (ar r 37 v5.toNatClampNeg) = (-1)) → wM_visit_J120 a (wM_visit_L72 a KX126 n) KX126 r v4 v5) ∧ (((ar r 37 v5.toNatClampNeg) = (-1)) → vp_in v5 (ln a 74) → wM_addWant a (fun r69 => wM_visit_J120 a (wM_visit_L72 a KX126 n) KX126 r69 v4 v5) r (ar r 74 v5.toNatClampNeg) (1 <<< (v4 &&& 31)))))
def wM_visit (a : L_) (K : Int32 → S_ → Prop) (r : S_) (p0 : Int32) : Prop :=
  wM_kindOf a r (fun z1 => vp_in p0 (ln a 59) → vp_in p0 (ln a 59) → ∀ r4 : S_, r4 = sA r 59 (upd (ar r 59) p0.toNatClampNeg ((ar r 59 p0.toNatClampNeg) + 1)) → ((¬ z1 = 0) → ((¬ z1 = 4) → ((¬ z1 = 5) → ((¬ z1 = 1) → wM_visit_J194 a K r4 p0 z1 (ar r 59 p0.toNatClampNeg)) ∧ ((z1 = 1) → ((¬ (ar r 59 p0.toNatClampNeg) = 0) → wM_visit_J194 a K r4 p0 z1 (ar r 59 p0.toNatClampNeg)) ∧ (((ar r 59 p0.toNatClampNeg) = 0) → wM_fresh a (fun z43 r44 => vp_in p0 (ln a 56) → ∀ r46 : S_, r46 = sA r44 56 (upd (ar r44 56) p0.toNatClampNeg z43) → vp_in p0 (ln a 53) → K (ar r46 53 p0.toNatClampNeg) r46) r4))) ∧ ((z1 = 5) → vp_in p0 (ln a 50) → vp_in (ar r4 50 p0.toNatClampNeg) (ln a 46) → wM_copyStatic a (fun z50 r51 => vp_in p0 (ln a 55) → ∀ r53 : S_, r53 = sA r51 55 (upd (ar r51 55) p0.toNatClampNeg z50) → K (-1) r53) r4 (ar r4 46 (ar r4 50 p0.toNatClampNeg).toNatClampNeg))) ∧ ((z1 = 4) → vp_in p0 (ln a 50) → vp_in (ar r4 50 p0.toNatClampNeg) (ln a 46) → ∀ z56 : Int32, z56 = ar r4 46 (ar r4 50 p0.toNatClampNeg).toNatClampNeg → vp_in z56 (ln a 42) → wM_copyStatic a (fun z58 r59 => vp_in p0 (ln a 55) → ∀ r61 : S_, r61 = sA r59 55 (upd (ar r59 55) p0.toNatClampNeg z58) → ∀ n71 : Nat, wM_visit_L72 a (fun r => ∀ r70 : S_, r70 = sF r 35 ((fi r 35) + 1) → K (-1) r70) n71 r61 z56 0) r4 (ar r4 42 z56.toNatClampNeg))) ∧ ((z1 = 0) → wM_typeName a (fun r72 => K (-1) r72) r4 p0)) p0
def wM_typeAll_J53 (a : L_) (KB9 : S_ → Int32 → Prop) (KX56 : S_ → Prop) (r : S_) (v1 : Int32) : Prop :=
  KB9 r v1
def wM_typeAll_L9 (a : L_) (KX56 : S_ → Prop) : Nat → S_ → Int32 → Prop
  | 0, _, _ => True
  | n + 1, r, v1 => ((v1 ≤ 0) → KX56 r) ∧ ((¬ v1 ≤ 0) → ((¬ (fi r 32) = 0) → KX56 r) ∧ (((fi r 32) = 0) → vp_in (v1 - 1) (ln a 60) → wM_visit a (fun z6 r7 => ((0 ≤ z6) → vp_in v1 (ln a 60) → ∀ r10 : S_, r10 = sA r7 60 (upd (ar r7 60) v1.toNatClampNeg z6) → wM_typeAll_J53 a (wM_typeAll_L9 a KX56 n) KX56 r10 (v1 + 1)) ∧ ((¬ 0 ≤ z6) → wM_typeAll_J53 a (wM_typeAll_L9 a KX56 n) KX56 r7 (v1 + (-1)))) r (ar r 60 (v1 - 1).toNatClampNeg)))
def wM_typeAll (a : L_) (K : S_ → Prop) (r : S_) : Prop :=
  vp_in 0 (ln a 60) → ∀ r2 : S_, r2 = sA r 60 (upd (ar r 60) (0 : Int32).toNatClampNeg 0) → ∀ n11 : Nat, wM_typeAll_L9 a (fun r => K r) n11 r2 1
def wM_sum (a : L_) (r : S_) (K : Int32 → Prop) (p0 : Int32) (p1 : Int32) : Prop :=
  (((p0 + p1) ≤ 1000000000) → K (p0 + p1)) ∧ ((¬ (p0 + p1) ≤ 1000000000) → K 1000000000)
def wM_number_J141 (a : L_) (KB27 : S_ → Int32 → Prop) (KX144 : S_ → Prop) (r : S_) (v1 : Int32) : Prop :=
  KB27 r v1
def wM_number_J117 (a : L_) (KB27 : S_ → Int32 → Prop) (KX144 : S_ → Prop) (r : S_) (v1 : Int32) (v2 : Int32) : Prop :=
  vp_in v2 (ln a 78) → (((ar r 78 v2.toNatClampNeg) < 0) → wM_number_J141 a KB27 KX144 r v1) ∧ ((¬ (ar r 78 v2.toNatClampNeg) < 0) → vp_in v2 (ln a 78) → vp_in v1 (ln a 72) → ∀ r19 : S_, r19 = sA r 72 (upd (ar r 72) v1.toNatClampNeg (ar r 78 v2.toNatClampNeg)) → wM_number_J141 a KB27 KX144 r19 (v1 + 1))
def wM_number_J93 (a : L_) (KB27 : S_ → Int32 → Prop) (KX144 : S_ → Prop) (r : S_) (v1 : Int32) (v2 : Int32) : Prop :=
  vp_in v2 (ln a 79) → (((ar r 79 v2.toNatClampNeg) < 0) → wM_number_J117 a KB27 KX144 r v1 v2) ∧ ((¬ (ar r 79 v2.toNatClampNeg) < 0) → vp_in v2 (ln a 79) → vp_in v1 (ln a 72) → ∀ r22 : S_, r22 = sA r 72 (upd (ar r 72) v1.toNatClampNeg (ar r 79 v2.toNatClampNeg)) → wM_number_J117 a KB27 KX144 r22 (v1 + 1) v2)
def wM_number_L27 (a : L_) (KX144 : S_ → Prop) : Nat → S_ → Int32 → Prop
  | 0, _, _ => True
  | n + 1, r, v1 => ((v1 ≤ 0) → KX144 r) ∧ ((¬ v1 ≤ 0) → vp_in (v1 + (-1)) (ln a 72) → vp_in (ar r 72 (v1 + (-1)).toNatClampNeg) (ln a 68) → (((ar r 68 (ar r 72 (v1 + (-1)).toNatClampNeg).toNatClampNeg) = (fi r 29)) → wM_number_J141 a (wM_number_L27 a KX144 n) KX144 r (v1 + (-1))) ∧ ((¬ (ar r 68 (ar r 72 (v1 + (-1)).toNatClampNeg).toNatClampNeg) = (fi r 29)) → vp_in (ar r 72 (v1 + (-1)).toNatClampNeg) (ln a 68) → ∀ r10 : S_, r10 = sA r 68 (upd (ar r 68) (ar r 72 (v1 + (-1)).toNatClampNeg).toNatClampNeg (fi r 29)) → vp_in (ar r 72 (v1 + (-1)).toNatClampNeg) (ln a 77) → ((0 ≤ (ar r10 77 (ar r 72 (v1 + (-1)).toNatClampNeg).toNatClampNeg)) → wM_number_J93 a (wM_number_L27 a KX144 n) KX144 r10 (v1 + (-1)) (ar r 72 (v1 + (-1)).toNatClampNeg)) ∧ ((¬ 0 ≤ (ar r10 77 (ar r 72 (v1 + (-1)).toNatClampNeg).toNatClampNeg)) → vp_in (ar r 72 (v1 + (-1)).toNatClampNeg) (ln a 83) → ∀ r24 : S_, r24 = sA r10 83 (upd (ar r10 83) (ar r 72 (v1 + (-1)).toNatClampNeg).toNatClampNeg (fi r10 36)) → ∀ r25 : S_, r25 = sF r24 36 ((fi r24 36) + 1) → wM_number_J93 a (wM_number_L27 a KX144 n) KX144 r25 (v1 + (-1)) (ar r 72 (v1 + (-1)).toNatClampNeg))))
def wM_number_J205 (a : L_) (KB146 : S_ → Int32 → Prop) (KX212 : S_ → Prop) (r : S_) (v2 : Int32) (u0 : Int32) (u1 : Int32) : Prop :=
  vp_in u1 (ln a 77) → ∀ r34 : S_, r34 = sA r 77 (upd (ar r 77) u1.toNatClampNeg u0) → KB146 r34 (v2 + 1)
def wM_number_L146 (a : L_) (KX212 : S_ → Prop) : Nat → S_ → Int32 → Prop
  | 0, _, _ => True
  | n + 1, r, v2 => (((fi r 30) ≤ v2) → KX212 r) ∧ ((¬ (fi r 30) ≤ v2) → vp_in v2 (ln a 73) → vp_in v2 (ln a 73) → vp_in (ar r 73 v2.toNatClampNeg) (ln a 77) → ((0 ≤ (ar r 77 (ar r 73 v2.toNatClampNeg).toNatClampNeg)) → vp_in v2 (ln a 73) → vp_in (ar r 73 v2.toNatClampNeg) (ln a 77) → wM_number_J205 a (wM_number_L146 a KX212 n) KX212 r v2 (ar r 77 (ar r 73 v2.toNatClampNeg).toNatClampNeg) (ar r 73 v2.toNatClampNeg)) ∧ ((¬ 0 ≤ (ar r 77 (ar r 73 v2.toNatClampNeg).toNatClampNeg)) → vp_in v2 (ln a 73) → vp_in (ar r 73 v2.toNatClampNeg) (ln a 83) → wM_number_J205 a (wM_number_L146 a KX212 n) KX212 r v2 ((-1) - (ar r 83 (ar r 73 v2.toNatClampNeg).toNatClampNeg)) (ar r 73 v2.toNatClampNeg)))
def wM_number (a : L_) (K : S_ → Prop) (r : S_) : Prop :=
  ∀ r1 : S_, r1 = sF r 36 0 → ∀ r2 : S_, r2 = sF r1 29 ((fi r1 29) + 1) → vp_in 0 (ln a 72) → ∀ r4 : S_, r4 = sA r2 72 (upd (ar r2 72) (0 : Int32).toNatClampNeg (fi r2 37)) → ∀ n38 : Nat, wM_number_L27 a (fun r => ∀ n37 : Nat, wM_number_L146 a (fun r => K r) n37 r 0) n38 r4 1
def wM_keep_J100 (a : L_) (KB16 : S_ → Int32 → Prop) (KX114 : S_ → Prop) (r : S_) (v1 : Int32) (v2 : Int32) (u0 : Int32) (u1 : Int32) : Prop :=
  vp_in u1 (ln a 79) → ∀ r20 : S_, r20 = sA r 79 (upd (ar r 79) u1.toNatClampNeg u0) → vp_in v2 (ln a 80) → ∀ r22 : S_, r22 = sA r20 80 (upd (ar r20 80) v2.toNatClampNeg 0) → KB16 r22 (v1 + 1)
def wM_keep_J71 (a : L_) (KB16 : S_ → Int32 → Prop) (KX114 : S_ → Prop) (r : S_) (v1 : Int32) (v2 : Int32) (u0 : Int32) (u1 : Int32) : Prop :=
  vp_in u1 (ln a 78) → ∀ r14 : S_, r14 = sA r 78 (upd (ar r 78) u1.toNatClampNeg u0) → vp_in v2 (ln a 67) → ((0 ≤ (ar r14 67 v2.toNatClampNeg)) → vp_in v2 (ln a 67) → wM_find a r14 (fun z18 => wM_keep_J100 a KB16 KX114 r14 v1 v2 z18 v2) (ar r14 67 v2.toNatClampNeg)) ∧ ((¬ 0 ≤ (ar r14 67 v2.toNatClampNeg)) → wM_keep_J100 a KB16 KX114 r14 v1 v2 (-1) v2)
def wM_keep_L16 (a : L_) (KX114 : S_ → Prop) : Nat → S_ → Int32 → Prop
  | 0, _, _ => True
  | n + 1, r, v1 => (((fi r 30) ≤ v1) → KX114 r) ∧ ((¬ (fi r 30) ≤ v1) → vp_in v1 (ln a 73) → vp_in (ar r 73 v1.toNatClampNeg) (ln a 65) → vp_in (ar r 73 v1.toNatClampNeg) (ln a 77) → ∀ r8 : S_, r8 = sA r 77 (upd (ar r 77) (ar r 73 v1.toNatClampNeg).toNatClampNeg (ar r 65 (ar r 73 v1.toNatClampNeg).toNatClampNeg)) → vp_in (ar r 73 v1.toNatClampNeg) (ln a 66) → ((0 ≤ (ar r8 66 (ar r 73 v1.toNatClampNeg).toNatClampNeg)) → vp_in (ar r 73 v1.toNatClampNeg) (ln a 66) → wM_find a r8 (fun z12 => wM_keep_J71 a (wM_keep_L16 a KX114 n) KX114 r8 v1 (ar r 73 v1.toNatClampNeg) z12 (ar r 73 v1.toNatClampNeg)) (ar r8 66 (ar r 73 v1.toNatClampNeg).toNatClampNeg)) ∧ ((¬ 0 ≤ (ar r8 66 (ar r 73 v1.toNatClampNeg).toNatClampNeg)) → wM_keep_J71 a (wM_keep_L16 a KX114 n) KX114 r8 v1 (ar r 73 v1.toNatClampNeg) (-1) (ar r 73 v1.toNatClampNeg)))
def wM_keep_J259 (a : L_) (KB124 : S_ → Int32 → Int32 → Prop) (KX265 : S_ → Int32 → Prop) (r : S_) (v1 : Int32) (v2 : Int32) : Prop :=
  KB124 r v1 (v2 + 1)
def wM_keep_J224 (a : L_) (KB124 : S_ → Int32 → Int32 → Prop) (KX265 : S_ → Int32 → Prop) (r : S_) (v1 : Int32) (v2 : Int32) (v3 : Int32) (v4 : Int32) (v5 : Int32) (u0 : Int32) : Prop :=
  vp_in v3 (ln a 80) → ((¬ (ar r 80 v3.toNatClampNeg) = 0) → wM_keep_J259 a KB124 KX265 r v1 v2) ∧ (((ar r 80 v3.toNatClampNeg) = 0) → ((u0 = 0) → wM_keep_J259 a KB124 KX265 r v1 v2) ∧ ((¬ u0 = 0) → wM_sum a r (fun z41 => wM_sum a r (fun z42 => vp_in v3 (ln a 80) → ∀ r44 : S_, r44 = sA r 80 (upd (ar r 80) v3.toNatClampNeg z42) → wM_keep_J259 a KB124 KX265 r44 1 v2) 1 z41) v4 v5))
def wM_keep_J219 (a : L_) (KB124 : S_ → Int32 → Int32 → Prop) (KX265 : S_ → Int32 → Prop) (r : S_) (v1 : Int32) (v2 : Int32) (v3 : Int32) (v4 : Int32) (v5 : Int32) : Prop :=
  wM_keep_J224 a KB124 KX265 r v1 v2 v3 v4 v5 1
def wM_keep_J223 (a : L_) (KB124 : S_ → Int32 → Int32 → Prop) (KX265 : S_ → Int32 → Prop) (r : S_) (v1 : Int32) (v2 : Int32) (v3 : Int32) (v4 : Int32) (v5 : Int32) : Prop :=
  wM_keep_J224 a KB124 KX265 r v1 v2 v3 v4 v5 0
def wM_keep_J205 (a : L_) (KB124 : S_ → Int32 → Int32 → Prop) (KX265 : S_ → Int32 → Prop) (r : S_) (v1 : Int32) (v2 : Int32) (v3 : Int32) (v4 : Int32) (v5 : Int32) : Prop :=
  vp_in v3 (ln a 79) → (((ar r 79 v3.toNatClampNeg) < 0) → wM_keep_J219 a KB124 KX265 r v1 v2 v3 v4 v5) ∧ ((¬ (ar r 79 v3.toNatClampNeg) < 0) → ((v5 ≤ 0) → wM_keep_J223 a KB124 KX265 r v1 v2 v3 v4 v5) ∧ ((¬ v5 ≤ 0) → wM_keep_J219 a KB124 KX265 r v1 v2 v3 v4 v5))
def wM_keep_J189 (a : L_) (KB124 : S_ → Int32 → Int32 → Prop) (KX265 : S_ → Int32 → Prop) (r : S_) (v1 : Int32) (v2 : Int32) (v3 : Int32) (v4 : Int32) (u0 : Int32) : Prop :=
  vp_in v3 (ln a 78) → (((ar r 78 v3.toNatClampNeg) < 0) → wM_keep_J205 a KB124 KX265 r v1 v2 v3 v4 u0) ∧ ((¬ (ar r 78 v3.toNatClampNeg) < 0) → ((v4 ≤ 0) → wM_keep_J223 a KB124 KX265 r v1 v2 v3 v4 u0) ∧ ((¬ v4 ≤ 0) → wM_keep_J205 a KB124 KX265 r v1 v2 v3 v4 u0))
def wM_keep_J163 (a : L_) (KB124 : S_ → Int32 → Int32 → Prop) (KX265 : S_ → Int32 → Prop) (r : S_) (v1 : Int32) (v2 : Int32) (v3 : Int32) (u0 : Int32) : Prop :=
  vp_in v3 (ln a 79) → ((0 ≤ (ar r 79 v3.toNatClampNeg)) → vp_in v3 (ln a 79) → vp_in (ar r 79 v3.toNatClampNeg) (ln a 80) → wM_keep_J189 a KB124 KX265 r v1 v2 v3 u0 (ar r 80 (ar r 79 v3.toNatClampNeg).toNatClampNeg)) ∧ ((¬ 0 ≤ (ar r 79 v3.toNatClampNeg)) → wM_keep_J189 a KB124 KX265 r v1 v2 v3 u0 0)
def wM_keep_L124 (a : L_) (KX265 : S_ → Int32 → Prop) : Nat → S_ → Int32 → Int32 → Prop
  | 0, _, _, _ => True
  | n + 1, r, v1, v2 => (((fi r 30) ≤ v2) → KX265 r v1) ∧ ((¬ (fi r 30) ≤ v2) → vp_in v2 (ln a 73) → vp_in (ar r 73 v2.toNatClampNeg) (ln a 78) → ((0 ≤ (ar r 78 (ar r 73 v2.toNatClampNeg).toNatClampNeg)) → vp_in (ar r 73 v2.toNatClampNeg) (ln a 78) → vp_in (ar r 78 (ar r 73 v2.toNatClampNeg).toNatClampNeg) (ln a 80) → wM_keep_J163 a (wM_keep_L124 a KX265 n) KX265 r v1 v2 (ar r 73 v2.toNatClampNeg) (ar r 80 (ar r 78 (ar r 73 v2.toNatClampNeg).toNatClampNeg).toNatClampNeg)) ∧ ((¬ 0 ≤ (ar r 78 (ar r 73 v2.toNatClampNeg).toNatClampNeg)) → wM_keep_J163 a (wM_keep_L124 a KX265 n) KX265 r v1 v2 (ar r 73 v2.toNatClampNeg) 0))
def wM_keep_L116 (a : L_) (KX268 : S_ → Prop) : Nat → S_ → Int32 → Prop
  | 0, _, _ => True
  | n + 1, r, v1 => ((v1 = 0) → KX268 r) ∧ ((¬ v1 = 0) → ∀ n47 : Nat, wM_keep_L124 a (fun r v1 => (wM_keep_L116 a KX268 n) r v1) n47 r 0 0)
def wM_keep_J390 (a : L_) (KB339 : S_ → Int32 → Int32 → Int32 → Int32 → Prop) (KX396 : S_ → Int32 → Int32 → Prop) (r : S_) (v2 : Int32) (v3 : Int32) (v4 : Int32) (v5 : Int32) : Prop :=
  KB339 r v2 v3 v4 (v5 + 1)
def wM_keep_L339 (a : L_) (KX396 : S_ → Int32 → Int32 → Prop) : Nat → S_ → Int32 → Int32 → Int32 → Int32 → Prop
  | 0, _, _, _, _, _ => True
  | n + 1, r, v2, v3, v4, v5 => (((fi r 23) ≤ v5) → KX396 r v2 v3) ∧ ((¬ (fi r 23) ≤ v5) → ((¬ ((v4 >>> (v5 &&& 31)) &&& 1) = 1) → wM_keep_J390 a (wM_keep_L339 a KX396 n) KX396 r v2 v3 v4 v5) ∧ ((((v4 >>> (v5 &&& 31)) &&& 1) = 1) → vp_in (fi r 38) (ln a 81) → ∀ r59 : S_, r59 = sA r 81 (upd (ar r 81) (fi r 38).toNatClampNeg v5) → vp_in (fi r59 38) (ln a 82) → ∀ r61 : S_, r61 = sA r59 82 (upd (ar r59 82) (fi r59 38).toNatClampNeg v2) → ∀ r62 : S_, r62 = sF r61 38 ((fi r61 38) + 1) → wM_keep_J390 a (wM_keep_L339 a KX396 n) KX396 r62 v2 v3 v4 v5))
def wM_keep_J334 (a : L_) (KB297 : S_ → Int32 → Int32 → Prop) (KX402 : S_ → Int32 → Prop) (r : S_) (v2 : Int32) (v3 : Int32) (u0 : Int32) : Prop :=
  ∀ n63 : Nat, wM_keep_L339 a (fun r v2 v3 => KB297 r v2 (v3 + 1)) n63 r v2 v3 u0 0
def wM_keep_L297 (a : L_) (KX402 : S_ → Int32 → Prop) : Nat → S_ → Int32 → Int32 → Prop
  | 0, _, _, _ => True
  | n + 1, r, v2, v3 => (((fi r 40) ≤ v3) → KX402 r v2) ∧ ((¬ (fi r 40) ≤ v3) → vp_in v3 (ln a 84) → vp_in (ar r 84 v3.toNatClampNeg) (ln a 83) → ((¬ (ar r 83 (ar r 84 v3.toNatClampNeg).toNatClampNeg) = v2) → wM_keep_J334 a (wM_keep_L297 a KX402 n) KX402 r v2 v3 0) ∧ (((ar r 83 (ar r 84 v3.toNatClampNeg).toNatClampNeg) = v2) → vp_in v3 (ln a 85) → wM_least a r (fun z65 => wM_keep_J334 a (wM_keep_L297 a KX402 n) KX402 r v2 v3 z65) (ar r 85 v3.toNatClampNeg)))
def wM_keep_L287 (a : L_) (KX408 : S_ → Prop) : Nat → S_ → Int32 → Prop
  | 0, _, _ => True
  | n + 1, r, v2 => (((fi r 36) ≤ v2) → KX408 r) ∧ ((¬ (fi r 36) ≤ v2) → ∀ n66 : Nat, wM_keep_L297 a (fun r v2 => (wM_keep_L287 a KX408 n) r (v2 + 1)) n66 r v2 0)
def wM_keep (a : L_) (K : S_ → Prop) (r : S_) : Prop :=
  vp_in 0 (ln a 55) → wM_find a r (fun z2 => ∀ r3 : S_, r3 = sF r 37 z2 → ∀ n69 : Nat, wM_keep_L16 a (fun r => ∀ n68 : Nat, wM_keep_L116 a (fun r => wM_number a (fun r48 => ∀ r49 : S_, r49 = sF r48 39 (fi r48 35) → ∀ r50 : S_, r50 = sF r49 38 0 → ∀ n67 : Nat, wM_keep_L287 a (fun r => K r) n67 r50 0) r) n68 r 1) n69 r3 0) (ar r 55 (0 : Int32).toNatClampNeg)
def wM_infer_J167 (a : L_) (KB128 : S_ → Int32 → Prop) (KX176 : S_ → Prop) (r : S_) (v2 : Int32) (u0 : Int32) : Prop :=
  zb u0 → ∀ r29 : S_, r29 = sF r 34 u0 → KB128 r29 (v2 + 1)
def wM_infer_J162 (a : L_) (KB128 : S_ → Int32 → Prop) (KX176 : S_ → Prop) (r : S_) (v2 : Int32) : Prop :=
  wM_infer_J167 a KB128 KX176 r v2 1
def wM_infer_L128 (a : L_) (KX176 : S_ → Prop) : Nat → S_ → Int32 → Prop
  | 0, _, _ => True
  | n + 1, r, v2 => (((fi r 40) ≤ v2) → KX176 r) ∧ ((¬ (fi r 40) ≤ v2) → ((¬ (fi r 34) = 0) → wM_infer_J162 a (wM_infer_L128 a KX176 n) KX176 r v2) ∧ (((fi r 34) = 0) → vp_in v2 (ln a 84) → vp_in (ar r 84 v2.toNatClampNeg) (ln a 68) → (((ar r 68 (ar r 84 v2.toNatClampNeg).toNatClampNeg) = (fi r 29)) → wM_infer_J167 a (wM_infer_L128 a KX176 n) KX176 r v2 0) ∧ ((¬ (ar r 68 (ar r 84 v2.toNatClampNeg).toNatClampNeg) = (fi r 29)) → wM_infer_J162 a (wM_infer_L128 a KX176 n) KX176 r v2)))
def wM_infer (a : L_) (K : Int32 → S_ → Prop) (r : S_) (p0 : Int32) : Prop :=
  ∀ r1 : S_, r1 = sF r 20 0 → wM_isExpression a r1 (fun z2 => zb z2 → ((¬ z2 = 0) → vp_in p0 (ln a 49) → (((ar r1 49 p0.toNatClampNeg) ≤ 24) → ∀ r6 : S_, r6 = sF r1 28 0 → ∀ r7 : S_, r7 = sF r6 29 0 → ∀ r8 : S_, r8 = sF r7 31 0 → ∀ r9 : S_, r9 = sF r8 27 0 → zb 0 → ∀ r10 : S_, r10 = sF r9 32 0 → zb 0 → ∀ r12 : S_, r12 = sF r10 33 0 → zb 0 → ∀ r14 : S_, r14 = sF r12 34 0 → ∀ r16 : S_, r16 = sF r14 35 0 → wM_spread a (fun r17 => wM_typeAll a (fun r18 => wM_needNoRing a (fun r19 => (((fi r19 32) = 0) → wM_drive a (fun r21 => wM_takeNeeds a (fun r22 => ∀ r23 : S_, r23 = sF r22 30 0 → ∀ r24 : S_, r24 = sF r23 29 ((fi r23 29) + 1) → vp_in 0 (ln a 55) → wM_reach a (fun r26 => ∀ n38 : Nat, wM_infer_L128 a (fun r => (((fi r 33) = 0) → (((fi r 34) = 0) → wM_keep a (fun r36 => vp_in (fi r36 37) (ln a 80) → K (ar r36 80 (fi r36 37).toNatClampNeg) r36) r) ∧ ((¬ (fi r 34) = 0) → K (-5) r)) ∧ ((¬ (fi r 33) = 0) → K (-4) r)) n38 r26 0) r24 (ar r24 55 (0 : Int32).toNatClampNeg)) r21) r19 0) ∧ ((¬ (fi r19 32) = 0) → K (-2) r19)) r18) r17) r16 p0) ∧ ((¬ (ar r1 49 p0.toNatClampNeg) ≤ 24) → K (-3) r1)) ∧ ((z2 = 0) → K (-1) r1)) p0
def wJ_fill_L5 (a : L_) (m0 : Nat) (KX20 : S_ → Prop) : Nat → S_ → Int32 → Int32 → Int32 → Prop
  | 0, _, _, _, _ => True
  | n + 1, r, v1, v2, v3 => ((v3 ≤ v2) → KX20 r) ∧ ((¬ v3 ≤ v2) → vp_in v2 (ln a m0) → ∀ r3 : S_, r3 = sA r m0 (upd (ar r m0) v2.toNatClampNeg v1) → (wJ_fill_L5 a m0 KX20 n) r3 v1 (v2 + 1) v3)
def wJ_fill (a : L_) (m0 : Nat) (K : S_ → Prop) (r : S_) (p1 : Int32) : Prop :=
  ∀ n4 : Nat, wJ_fill_L5 a m0 (fun r => K r) n4 r p1 0 (Int32.ofNat (ln a m0))
def wG_grow (K : L_ → S_ → Prop) (a0 : L_) (r : S_) (p0 : Int32) : Prop :=
  ln a0 21 < 2 ^ 31 → ¬ p0 < 0 → ¬ p0 = Int32.ofNat (ln a0 21) → p0.toNatClampNeg * 4 ≤ 536870912 → ∀ (q9 : Nat) (a10 : L_) (r11 : S_), a10 = sAd a0 21 q9 p0.toNatClampNeg → r11 = sA r 21 (va_cpy (ar r 21) (fun _ => 0) 0 0 (cp_n p0 (ln a0 21)).toNatClampNeg) → ln a10 22 < 2 ^ 31 → ¬ p0 < 0 → ¬ p0 = Int32.ofNat (ln a10 22) → p0.toNatClampNeg * 4 ≤ 536870912 → ∀ (q20 : Nat) (a21 : L_) (r22 : S_), a21 = sAd a10 22 q20 p0.toNatClampNeg → r22 = sA r11 22 (va_cpy (ar r11 22) (fun _ => 0) 0 0 (cp_n p0 (ln a10 22)).toNatClampNeg) → ln a21 23 < 2 ^ 31 → ¬ p0 < 0 → ¬ p0 = Int32.ofNat (ln a21 23) → p0.toNatClampNeg * 4 ≤ 536870912 → ∀ (q31 : Nat) (a32 : L_) (r33 : S_), a32 = sAd a21 23 q31 p0.toNatClampNeg → r33 = sA r22 23 (va_cpy (ar r22 23) (fun _ => 0) 0 0 (cp_n p0 (ln a21 23)).toNatClampNeg) → ln a32 24 < 2 ^ 31 → ¬ p0 < 0 → ¬ p0 = Int32.ofNat (ln a32 24) → p0.toNatClampNeg * 4 ≤ 536870912 → ∀ (q42 : Nat) (a43 : L_) (r44 : S_), a43 = sAd a32 24 q42 p0.toNatClampNeg → r44 = sA r33 24 (va_cpy (ar r33 24) (fun _ => 0) 0 0 (cp_n p0 (ln a32 24)).toNatClampNeg) → ln a43 25 < 2 ^ 31 → ¬ p0 < 0 → ¬ p0 = Int32.ofNat (ln a43 25) → p0.toNatClampNeg * 4 ≤ 536870912 → ∀ (q53 : Nat) (a54 : L_) (r55 : S_), a54 = sAd a43 25 q53 p0.toNatClampNeg → r55 = sA r44 25 (va_cpy (ar r44 25) (fun _ => 0) 0 0 (cp_n p0 (ln a43 25)).toNatClampNeg) → ln a54 26 < 2 ^ 31 → ¬ p0 < 0 → ¬ p0 = Int32.ofNat (ln a54 26) → p0.toNatClampNeg * 4 ≤ 536870912 → ∀ (q64 : Nat) (a65 : L_) (r66 : S_), a65 = sAd a54 26 q64 p0.toNatClampNeg → r66 = sA r55 26 (va_cpy (ar r55 26) (fun _ => 0) 0 0 (cp_n p0 (ln a54 26)).toNatClampNeg) → ln a65 27 < 2 ^ 31 → ¬ p0 < 0 → ¬ p0 = Int32.ofNat (ln a65 27) → p0.toNatClampNeg * 4 ≤ 536870912 → ∀ (q75 : Nat) (a76 : L_) (r77 : S_), a76 = sAd a65 27 q75 p0.toNatClampNeg → r77 = sA r66 27 (va_cpy (ar r66 27) (fun _ => 0) 0 0 (cp_n p0 (ln a65 27)).toNatClampNeg) → ln a76 28 < 2 ^ 31 → ¬ p0 < 0 → ¬ p0 = Int32.ofNat (ln a76 28) → p0.toNatClampNeg * 4 ≤ 536870912 → ∀ (q86 : Nat) (a87 : L_) (r88 : S_), a87 = sAd a76 28 q86 p0.toNatClampNeg → r88 = sA r77 28 (va_cpy (ar r77 28) (fun _ => 0) 0 0 (cp_n p0 (ln a76 28)).toNatClampNeg) → ln a87 29 < 2 ^ 31 → ¬ p0 < 0 → ¬ p0 = Int32.ofNat (ln a87 29) → p0.toNatClampNeg * 4 ≤ 536870912 → ∀ (q97 : Nat) (a98 : L_) (r99 : S_), a98 = sAd a87 29 q97 p0.toNatClampNeg → r99 = sA r88 29 (va_cpy (ar r88 29) (fun _ => 0) 0 0 (cp_n p0 (ln a87 29)).toNatClampNeg) → ln a98 30 < 2 ^ 31 → ¬ p0 < 0 → ¬ p0 = Int32.ofNat (ln a98 30) → p0.toNatClampNeg * 4 ≤ 536870912 → ∀ (q108 : Nat) (a109 : L_) (r110 : S_), a109 = sAd a98 30 q108 p0.toNatClampNeg → r110 = sA r99 30 (va_cpy (ar r99 30) (fun _ => 0) 0 0 (cp_n p0 (ln a98 30)).toNatClampNeg) → ln a109 31 < 2 ^ 31 → ¬ ((2 * p0) + 4) < 0 → ¬ ((2 * p0) + 4) = Int32.ofNat (ln a109 31) → ((2 * p0) + 4).toNatClampNeg * 4 ≤ 536870912 → ∀ (q119 : Nat) (a120 : L_) (r121 : S_), a120 = sAd a109 31 q119 ((2 * p0) + 4).toNatClampNeg → r121 = sA r110 31 (va_cpy (ar r110 31) (fun _ => 0) 0 0 (cp_n ((2 * p0) + 4) (ln a109 31)).toNatClampNeg) → K a120 r121
def wG_newNode_J40 (K : Int32 → L_ → S_ → Prop) (a : L_) (r : S_) (v1 : Int32) (v2 : Int32) (v3 : Int32) : Prop :=
  vp_in (fi r 11) (ln a 21) → ∀ r4 : S_, r4 = sA r 21 (upd (ar r 21) (fi r 11).toNatClampNeg v1) → vp_in (fi r4 11) (ln a 22) → ∀ r6 : S_, r6 = sA r4 22 (upd (ar r4 22) (fi r4 11).toNatClampNeg v2) → vp_in (fi r6 11) (ln a 23) → ∀ r8 : S_, r8 = sA r6 23 (upd (ar r6 23) (fi r6 11).toNatClampNeg v3) → vp_in (fi r8 11) (ln a 24) → ∀ r10 : S_, r10 = sA r8 24 (upd (ar r8 24) (fi r8 11).toNatClampNeg 0) → vp_in (fi r10 11) (ln a 25) → ∀ r12 : S_, r12 = sA r10 25 (upd (ar r10 25) (fi r10 11).toNatClampNeg 0) → vp_in (fi r12 11) (ln a 26) → ∀ r14 : S_, r14 = sA r12 26 (upd (ar r12 26) (fi r12 11).toNatClampNeg 0) → vp_in (fi r14 11) (ln a 27) → ∀ r16 : S_, r16 = sA r14 27 (upd (ar r14 27) (fi r14 11).toNatClampNeg 0) → ∀ r17 : S_, r17 = sF r16 11 ((fi r16 11) + 1) → K ((fi r17 11) - 1) a r17
def wG_newNode (K : Int32 → L_ → S_ → Prop) (a0 : L_) (r : S_) (p0 : Int32) (p1 : Int32) (p2 : Int32) : Prop :=
  (((fi r 11) < 4096) → (((fi r 11) < (Int32.ofNat (ln a0 21))) → wG_newNode_J40 K a0 r p0 p1 p2) ∧ ((¬ (fi r 11) < (Int32.ofNat (ln a0 21))) → wG_grow (fun a19 r18 => fx a0 a19 → wG_newNode_J40 K a19 r18 p0 p1 p2) a0 r (2 * (Int32.ofNat (ln a0 21))))) ∧ ((¬ (fi r 11) < 4096) → zb 1 → ∀ r26 : S_, r26 = sF r 15 1 → K 0 a0 r26)
def wG_copyOf_J92 (KB11 : L_ → S_ → Int32 → Int32 → Prop) (KX98 : L_ → S_ → Int32 → Prop) (a : L_) (r : S_) (v1 : Int32) (v2 : Int32) : Prop :=
  KB11 a r v1 (v2 + 1)
def wG_copyOf_L11 (KX98 : L_ → S_ → Int32 → Prop) : Nat → L_ → S_ → Int32 → Int32 → Prop
  | 0, _, _, _, _ => True
  | n + 1, a, r, v1, v2 => (((fi r 12) ≤ v2) → KX98 a r v1) ∧ ((¬ (fi r 12) ≤ v2) → vp_in v2 (ln a 30) → vp_in (ar r 30 v2.toNatClampNeg) (ln a 26) → ((¬ (ar r 26 (ar r 30 v2.toNatClampNeg).toNatClampNeg) = 1) → wG_copyOf_J92 (wG_copyOf_L11 KX98 n) KX98 a r v1 v2) ∧ (((ar r 26 (ar r 30 v2.toNatClampNeg).toNatClampNeg) = 1) → vp_in (ar r 30 v2.toNatClampNeg) (ln a 21) → vp_in (ar r 30 v2.toNatClampNeg) (ln a 22) → wG_valueOf a (fun z9 r10 => vp_in (ar r 30 v2.toNatClampNeg) (ln a 23) → wG_valueOf a (fun z12 r13 => wG_newNode (fun z14 a16 r15 => fx a a16 → vp_in (ar r 30 v2.toNatClampNeg) (ln a16 29) → ∀ r22 : S_, r22 = sA r15 29 (upd (ar r15 29) (ar r 30 v2.toNatClampNeg).toNatClampNeg z14) → vp_in z14 (ln a16 24) → vp_in (ar r 30 v2.toNatClampNeg) (ln a16 25) → vp_in z14 (ln a16 24) → ∀ r26 : S_, r26 = sA r22 24 (upd (ar r22 24) z14.toNatClampNeg ((ar r22 24 z14.toNatClampNeg) ||| (ar r22 25 (ar r 30 v2.toNatClampNeg).toNatClampNeg))) → wG_copyOf_J92 (wG_copyOf_L11 KX98 n) KX98 a16 r26 v1 v2) a r13 (ar r 21 (ar r 30 v2.toNatClampNeg).toNatClampNeg) z9 z12) r10 (ar r10 23 (ar r 30 v2.toNatClampNeg).toNatClampNeg)) r (ar r 22 (ar r 30 v2.toNatClampNeg).toNatClampNeg)))
def wG_copyOf (K : Int32 → L_ → S_ → Prop) (a0 : L_) (r : S_) (p0 : Int32) : Prop :=
  wG_startWalk a0 (fun r1 => wG_walk a0 (fun r2 => ∀ n31 : Nat, wG_copyOf_L11 (fun a r v1 => wG_valueOf a (fun z29 r30 => K z29 a r30) r v1) n31 a0 r2 p0 0) r1 p0) r
def wD_restart_J54 (K : L_ → S_ → Prop) (a : L_) (r : S_) (v2 : Int32) : Prop :=
  ∀ r2 : S_, r2 = sF r 16 0 → ∀ r3 : S_, r3 = sF r2 17 0 → ∀ r4 : S_, r4 = sF r3 18 0 → ∀ r5 : S_, r5 = sF r4 19 v2 → K a r5
def wD_restart (K : L_ → S_ → Prop) (a0 : L_) (r : S_) (p0 : Int32) (p1 : Int32) : Prop :=
  ((p0 ≤ (Int32.ofNat (ln a0 32))) → wD_restart_J54 K a0 r p1) ∧ ((¬ p0 ≤ (Int32.ofNat (ln a0 32))) → ¬ (2 * p0) < 0 → (2 * p0).toNatClampNeg * 4 ≤ 536870912 → ∀ (q12 : Nat) (a13 : L_) (r14 : S_), a13 = sAd a0 32 q12 (2 * p0).toNatClampNeg → r14 = sA r 32 (fun _ => 0) → ¬ (2 * p0) < 0 → (2 * p0).toNatClampNeg * 4 ≤ 536870912 → ∀ (q21 : Nat) (a22 : L_) (r23 : S_), a22 = sAd a13 33 q21 (2 * p0).toNatClampNeg → r23 = sA r14 33 (fun _ => 0) → ¬ (2 * p0) < 0 → (2 * p0).toNatClampNeg * 4 ≤ 536870912 → ∀ (q30 : Nat) (a31 : L_) (r32 : S_), a31 = sAd a22 34 q30 (2 * p0).toNatClampNeg → r32 = sA r23 34 (fun _ => 0) → ¬ (2 * p0) < 0 → (2 * p0).toNatClampNeg * 8 ≤ 536870912 → ∀ (q39 : Nat) (a40 : L_) (r41 : S_), a40 = sAd a31 89 q39 (2 * p0).toNatClampNeg → r41 = sL r32 0 (fun _ => 0) → ¬ (2 * p0) < 0 → (2 * p0).toNatClampNeg * 4 ≤ 536870912 → ∀ (q48 : Nat) (a49 : L_) (r50 : S_), a49 = sAd a40 35 q48 (2 * p0).toNatClampNeg → r50 = sA r41 35 (fun _ => 0) → wD_restart_J54 K a49 r50 p1)
def wY_typeOfName_L7 (KX24 : L_ → S_ → Int32 → Prop) (KX76 : L_ → S_ → Prop) : Nat → L_ → S_ → Int32 → Int32 → Prop
  | 0, _, _, _, _ => True
  | n + 1, a, r, v1, v2 => ((v2 < 0) → KX76 a r) ∧ ((¬ v2 < 0) → vp_in v2 (ln a 17) → (((ar r 17 v2.toNatClampNeg) = v1) → KX24 a r v2) ∧ ((¬ (ar r 17 v2.toNatClampNeg) = v1) → (wY_typeOfName_L7 KX24 KX76 n) a r v1 (v2 + (-1))))
def wY_typeOfName (K : Int32 → L_ → S_ → Prop) (a0 : L_) (r : S_) (p0 : Int32) : Prop :=
  ∀ n30 : Nat, wY_typeOfName_L7  (fun a r v2 => vp_in v2 (ln a 19) → ((¬ (ar r 19 v2.toNatClampNeg) = (-1)) → vp_in v2 (ln a 19) → ∀ r7 : S_, r7 = sF r 8 ((fi r 8) + (ar r 19 v2.toNatClampNeg)) → vp_in v2 (ln a 18) → wG_copyOf (fun z9 a11 r10 => fx a a11 → K z9 a11 r10) a r7 (ar r7 18 v2.toNatClampNeg)) ∧ (((ar r 19 v2.toNatClampNeg) = (-1)) → vp_in v2 (ln a 18) → K (ar r 18 v2.toNatClampNeg) a r)) (fun a r => zb 1 → ∀ r19 : S_, r19 = sF r 15 1 → wG_newNode (fun z21 a23 r22 => fx a a23 → K z21 a23 r22) a r19 (-1) (-1) (-1)) n30 a0 r p0 ((fi r 5) - 1)
def wY_tell_J136 (KB35 : L_ → S_ → Int32 → Prop) (KX152 : L_ → S_ → Prop) (a : L_) (r : S_) (v2 : Int32) (v3 : Int32) : Prop :=
  vp_in v3 (ln a 29) → ∀ r22 : S_, r22 = sA r 29 (upd (ar r 29) v3.toNatClampNeg v2) → KB35 a r22 (v2 + 1)
def wY_tell_L35 (KX152 : L_ → S_ → Prop) : Nat → L_ → S_ → Int32 → Prop
  | 0, _, _, _ => True
  | n + 1, a, r, v2 => (((fi r 12) ≤ v2) → KX152 a r) ∧ ((¬ (fi r 12) ≤ v2) → vp_in v2 (ln a 30) → wG_isVariable a r (fun z11 => zb z11 → ((z11 = 0) → vp_in (ar r 30 v2.toNatClampNeg) (ln a 22) → wG_valueOf a (fun z14 r15 => vp_in (ar r 30 v2.toNatClampNeg) (ln a 23) → wG_valueOf a (fun z17 r18 => vp_in (ar r 30 v2.toNatClampNeg) (ln a 21) → wD_addBuilt a (fun r20 => wY_tell_J136 (wY_tell_L35 KX152 n) KX152 a r20 v2 (ar r 30 v2.toNatClampNeg)) r18 (ar r18 21 (ar r 30 v2.toNatClampNeg).toNatClampNeg) z14 z17) r15 (ar r15 23 (ar r 30 v2.toNatClampNeg).toNatClampNeg)) r (ar r 22 (ar r 30 v2.toNatClampNeg).toNatClampNeg)) ∧ ((¬ z11 = 0) → vp_in (ar r 30 v2.toNatClampNeg) (ln a 25) → wD_addVariable a (fun r24 => wY_tell_J136 (wY_tell_L35 KX152 n) KX152 a r24 v2 (ar r 30 v2.toNatClampNeg)) r (ar r 25 (ar r 30 v2.toNatClampNeg).toNatClampNeg))) (ar r 30 v2.toNatClampNeg))
def wY_tell (K : L_ → S_ → Prop) (a0 : L_) (r : S_) : Prop :=
  wG_startWalk a0 (fun r1 => wG_walk a0 (fun r2 => wD_restart (fun a4 r3 => fx a0 a4 → ∀ n25 : Nat, wY_tell_L35 (fun a r => K a r) n25 a4 r3 0) a0 r2 (fi r2 12) (fi r2 8)) r1 (fi r1 7)) r
def wY_writeOut_B_J113 (T : (Int32 → L_ → S_ → Prop) → L_ → S_ → Int32 → Prop) (K : Int32 → L_ → S_ → Prop) (a : L_) (r : S_) (v2 : Int32) (v5 : Int32) (u0 : Int32) : Prop :=
  wG_newNode (fun z21 a23 r22 => fx a a23 → K z21 a23 r22) a r v2 v5 u0
def wY_writeOut_B_J95 (T : (Int32 → L_ → S_ → Prop) → L_ → S_ → Int32 → Prop) (K : Int32 → L_ → S_ → Prop) (a : L_) (r : S_) (v2 : Int32) (v4 : Int32) (u0 : Int32) : Prop :=
  ((¬ v4 = (-1)) → T (fun z14 a16 r15 => fx a a16 → wY_writeOut_B_J113 T K a16 r15 v2 u0 z14) a r v4) ∧ ((v4 = (-1)) → wY_writeOut_B_J113 T K a r v2 u0 (-1))
def wY_writeOut_B_J52 (T : (Int32 → L_ → S_ → Prop) → L_ → S_ → Int32 → Prop) (K : Int32 → L_ → S_ → Prop) (a : L_) (r : S_) (v3 : Int32) (u0 : Int32) (u1 : Int32) : Prop :=
  vp_in u1 (ln a 20) → ∀ r38 : S_, r38 = sA r 20 (upd (ar r 20) u1.toNatClampNeg u0) → vp_in v3 (ln a 20) → K (ar r38 20 v3.toNatClampNeg) a r38
def wY_writeOut_B (T : (Int32 → L_ → S_ → Prop) → L_ → S_ → Int32 → Prop) (K : Int32 → L_ → S_ → Prop) (a0 : L_) (r : S_) (p0 : Int32) : Prop :=
  vp_in p0 (ln a0 1) → ((0 ≤ (ar r 1 p0.toNatClampNeg)) → vp_in p0 (ln a0 2) → vp_in p0 (ln a0 3) → ((¬ (ar r 2 p0.toNatClampNeg) = (-1)) → T (fun z6 a8 r7 => fx a0 a8 → wY_writeOut_B_J95 T K a8 r7 (ar r 1 p0.toNatClampNeg) (ar r 3 p0.toNatClampNeg) z6) a0 r (ar r 2 p0.toNatClampNeg)) ∧ (((ar r 2 p0.toNatClampNeg) = (-1)) → wY_writeOut_B_J95 T K a0 r (ar r 1 p0.toNatClampNeg) (ar r 3 p0.toNatClampNeg) (-1))) ∧ ((¬ 0 ≤ (ar r 1 p0.toNatClampNeg)) → vp_in ((-1) - (ar r 1 p0.toNatClampNeg)) (ln a0 20) → ((¬ (ar r 20 ((-1) - (ar r 1 p0.toNatClampNeg)).toNatClampNeg) = (-1)) → vp_in ((-1) - (ar r 1 p0.toNatClampNeg)) (ln a0 20) → wY_writeOut_B_J52 T K a0 r ((-1) - (ar r 1 p0.toNatClampNeg)) (ar r 20 ((-1) - (ar r 1 p0.toNatClampNeg)).toNatClampNeg) ((-1) - (ar r 1 p0.toNatClampNeg))) ∧ (((ar r 20 ((-1) - (ar r 1 p0.toNatClampNeg)).toNatClampNeg) = (-1)) → wG_newNode (fun z40 a42 r41 => fx a0 a42 → wY_writeOut_B_J52 T K a42 r41 ((-1) - (ar r 1 p0.toNatClampNeg)) z40 ((-1) - (ar r 1 p0.toNatClampNeg))) a0 r (-1) (-1) (-1)))
def wY_writeOut  : Nat → (Int32 → L_ → S_ → Prop) → L_ → S_ → Int32 → Prop
  | 0, _, _, _, _ => True
  | d + 1, K, a, r, p0 => wY_writeOut_B (wY_writeOut d) K a r p0
def wY_freshCopy (K : Int32 → L_ → S_ → Prop) (a0 : L_) (r : S_) (p0 : Int32) : Prop :=
  wJ_fill a0 20 (fun r1 => wY_writeOut 18 (fun z2 a4 r3 => fx a0 a4 → K z2 a4 r3) a0 r1 p0) r (-1)
def wY_typeOfMethod_J43 (K : Int32 → L_ → S_ → Prop) (a : L_) (r : S_) (v2 : Int32) : Prop :=
  ∀ r11 : S_, r11 = sF r 8 ((fi r 8) + 1) → K v2 a r11
def wY_typeOfMethod (K : Int32 → L_ → S_ → Prop) (a0 : L_) (r : S_) (p0 : Int32) : Prop :=
  wK_methodOf a0 r (fun z1 => wY_freshCopy (fun z2 a4 r3 => fx a0 a4 → vp_in 0 (ln a4 20) → (((ar r3 20 (0 : Int32).toNatClampNeg) = (-1)) → wY_typeOfMethod_J43 K a4 r3 z2) ∧ ((¬ (ar r3 20 (0 : Int32).toNatClampNeg) = (-1)) → vp_in 0 (ln a4 20) → vp_in (ar r3 20 (0 : Int32).toNatClampNeg) (ln a4 24) → vp_in (ar r3 20 (0 : Int32).toNatClampNeg) (ln a4 24) → ∀ r15 : S_, r15 = sA r3 24 (upd (ar r3 24) (ar r3 20 (0 : Int32).toNatClampNeg).toNatClampNeg ((ar r3 24 (ar r3 20 (0 : Int32).toNatClampNeg).toNatClampNeg) ||| (1 <<< (p0 &&& 31)))) → wY_typeOfMethod_J43 K a4 r15 z2)) a0 r z1) p0
def wY_typeOfLambda (T : (Int32 → L_ → S_ → Prop) → L_ → S_ → Int32 → Prop) (K : Int32 → L_ → S_ → Prop) (a0 : L_) (r : S_) (p0 : Int32) (p1 : Int32) : Prop :=
  wG_newNode (fun z1 a3 r2 => fx a0 a3 → wY_enter a3 (fun r8 => T (fun z9 a11 r10 => fx a3 a11 → wY_leave a11 (fun r16 => wG_newNode (fun z17 a19 r18 => fx a11 a19 → K z17 a19 r18) a11 r16 0 z1 z9) r10) a3 r8 p1) r2 p0 z1 (-1)) a0 r (-1) (-1) (-1)
def wY_typeOfApply (T : (Int32 → L_ → S_ → Prop) → L_ → S_ → Int32 → Prop) (K : Int32 → L_ → S_ → Prop) (a0 : L_) (r : S_) (p0 : Int32) (p1 : Int32) : Prop :=
  T (fun z1 a3 r2 => fx a0 a3 → T (fun z8 a10 r9 => fx a3 a10 → wG_newNode (fun z15 a17 r16 => fx a10 a17 → wG_newNode (fun z22 a24 r23 => fx a17 a24 → wG_unify a24 (fun r29 => K z15 a24 r29) r23 z1 z22) a17 r16 0 z8 z15) a10 r9 (-1) (-1) (-1)) a3 r2 p1) a0 r p0
def wY_typeOfLet (T : (Int32 → L_ → S_ → Prop) → L_ → S_ → Int32 → Prop) (K : Int32 → L_ → S_ → Prop) (a0 : L_) (r : S_) (p0 : Int32) (p1 : Int32) (p2 : Int32) : Prop :=
  T (fun z1 a3 r2 => fx a0 a3 → wY_settle a3 (fun z8 r9 => wY_enter a3 (fun r10 => T (fun z11 a13 r12 => fx a3 a13 → wY_leave a13 (fun r18 => K z11 a13 r18) r12) a3 r10 p2) r9 p0 z1 z8) r2 (fi r 11) z1) a0 r p1
def wY_typeOf_B (T : (Int32 → L_ → S_ → Prop) → L_ → S_ → Int32 → Prop) (K : Int32 → L_ → S_ → Prop) (a0 : L_) (r : S_) (p0 : Int32) : Prop :=
  vp_in p0 (ln a0 13) → vp_in p0 (ln a0 14) → vp_in p0 (ln a0 12) → ((ar r 12 p0.toNatClampNeg) = 1 → wY_typeOfLambda T (fun z4 a6 r5 => fx a0 a6 → K z4 a6 r5) a0 r (ar r 13 p0.toNatClampNeg) (ar r 14 p0.toNatClampNeg)) ∧ ((ar r 12 p0.toNatClampNeg) = 2 → wY_typeOfApply T (fun z13 a15 r14 => fx a0 a15 → K z13 a15 r14) a0 r (ar r 13 p0.toNatClampNeg) (ar r 14 p0.toNatClampNeg)) ∧ ((ar r 12 p0.toNatClampNeg) = 3 → vp_in p0 (ln a0 15) → wY_typeOfLet T (fun z23 a25 r24 => fx a0 a25 → K z23 a25 r24) a0 r (ar r 13 p0.toNatClampNeg) (ar r 14 p0.toNatClampNeg) (ar r 15 p0.toNatClampNeg)) ∧ ((ar r 12 p0.toNatClampNeg) = 4 → wY_typeOfMethod (fun z32 a34 r33 => fx a0 a34 → K z32 a34 r33) a0 r (ar r 13 p0.toNatClampNeg)) ∧ ((ar r 12 p0.toNatClampNeg) = 5 → wY_freshCopy (fun z41 a43 r42 => fx a0 a43 → K z41 a43 r42) a0 r (ar r 13 p0.toNatClampNeg)) ∧ (((ar r 12 p0.toNatClampNeg).toInt < 1 ∨ 5 < (ar r 12 p0.toNatClampNeg).toInt) → wY_typeOfName (fun z50 a52 r51 => fx a0 a52 → K z50 a52 r51) a0 r (ar r 13 p0.toNatClampNeg))
def wY_typeOf  : Nat → (Int32 → L_ → S_ → Prop) → L_ → S_ → Int32 → Prop
  | 0, _, _, _, _ => True
  | d + 1, K, a, r, p0 => wY_typeOf_B (wY_typeOf d) K a r p0
def wY_run (K : Int32 → L_ → S_ → Prop) (a0 : L_) (r : S_) (p0 : Int32) : Prop :=
  wG_clear a0 (fun r1 => ∀ r2 : S_, r2 = sF r1 5 0 → ∀ r3 : S_, r3 = sF r2 8 0 → zb 0 → ∀ r4 : S_, r4 = sF r3 9 0 → zb 0 → ∀ r6 : S_, r6 = sF r4 10 0 → wY_typeOf 26 (fun z8 a10 r9 => fx a0 a10 → ∀ r15 : S_, r15 = sF r9 7 z8 → wY_settle a10 (fun z16 r17 => ((¬ (fi r17 15) = 0) → K (-2) a10 r17) ∧ (((fi r17 15) = 0) → wG_isCircular a10 (fun z19 r20 => zb z19 → ((z19 = 0) → (((fi r20 9) = 0) → (((fi r20 10) = 0) → K 0 a10 r20) ∧ ((¬ (fi r20 10) = 0) → K (-5) a10 r20)) ∧ ((¬ (fi r20 9) = 0) → K (-4) a10 r20)) ∧ ((¬ z19 = 0) → K (-2) a10 r20)) r17)) r15 0 (fi r15 7)) a0 r6 p0) r
def wI_infer (K : Int32 → L_ → S_ → Prop) (a0 : L_) (r : S_) (p0 : Int32) : Prop :=
  wE_has a0 r (fun z1 => zb z1 → ((¬ z1 = 0) → wE_nodesOf a0 r (fun z3 => ((z3 ≤ 24) → wY_run (fun z5 a7 r6 => fx a0 a7 → ((z5 = 0) → wY_tell (fun a14 r13 => fx a7 a14 → wD_nodes a14 r13 (fun z19 => K z19 a14 r13)) a7 r6) ∧ ((¬ z5 = 0) → K z5 a7 r6)) a0 r p0) ∧ ((¬ z3 ≤ 24) → K (-3) a0 r)) p0) ∧ ((z1 = 0) → K (-1) a0 r)) p0
end LIB
