/-! Infer on both sides: what was passed agrees. -/
section ZBOTH
variable {l : Nat → Nat} {r : S_} {e : Int32}
def INFc (r : S_) (e z : Int32) (r' : S_) : Prop := (¬ (0 ≤ e ∧ e < fi r 4) ∧ fi r' 19 = fi r 19) ∨ ((0 ≤ e ∧ e < fi r 4) ∧ ¬ ar r 16 e.toNatClampNeg ≤ 24 ∧ fi r' 19 = fi r 19) ∨ ((0 ≤ e ∧ e < fi r 4) ∧ ar r 16 e.toNatClampNeg ≤ 24 ∧ COU r e z r')
theorem ws_INFc {ad : Nat → Nat} (h : INV l r) (h13 : (fi r 13).toInt ≤ 1800000000) (h6 : 0 ≤ (fi r 6).toInt ∧ (fi r 6).toInt ≤ 1800000000) : wI_infer (fun z _ r' => INFc r e z r') (ad, l) r e := by
  refine ws_cinfer h.1 (TYz_of h) (TBX_of h) (two_of h).1 h13 h6 (fun q => Or.inl ⟨q, rfl⟩) (fun q1 q2 q3 => Or.inr (Or.inl ⟨⟨q1, q2⟩, q3, rfl⟩)) (fun q1 q2 q3 m z z' a' r' hm nz c ez => Or.inr (Or.inr ⟨⟨q1, q2⟩, q3, ?_⟩)) (fun q1 q2 q3 m z a' r' l' rk hm f e19 => Or.inr (Or.inr ⟨⟨q1, q2⟩, q3, Or.inr ⟨m, l', rk, f, e19⟩⟩))
  subst ez
  rcases c with ⟨c1, c2, c3⟩ | ⟨l', rk, c1, c2, c3⟩ | ⟨l', rk, c1, c2⟩
  · exact Or.inl ⟨c3, Or.inl ⟨c1, c2⟩⟩
  · exact Or.inl ⟨c3, Or.inr ⟨m, l', rk, c1, c2⟩⟩
  · exact Or.inr ⟨m, l', rk, c1, c2⟩
theorem infer_pair (h : INV l r) (h13 : (fi r 13).toInt ≤ 1800000000) (h6 : 0 ≤ (fi r 6).toInt ∧ (fi r 6).toInt ≤ 1800000000) (h19 : fi r 19 = fi r 39) : ∃ (l2 : Nat → Nat) (r2 : S_) (k s : Nat), k + pC l2 ≤ pC l ∧ s + pS l2 ≤ pS l ∧ ∀ (ad : Nat → Nat) (K : Int32 → L_ → S_ → Prop), (∀ (z : Int32) (ad2 : Nat → Nat), fx (ad, l) (ad2, l2) → (∀ Q : Int32 → S_ → Prop, (∀ z2 r3, INV l2 r3 → (fi r3 13).toInt ≤ (fi r 13).toInt + 110 → 0 ≤ (fi r3 6).toInt → (fi r3 6).toInt ≤ (fi r 6).toInt + 25 → fi r3 19 = fi r3 39 → Q z2 r3) → qM_infer (ad2, l2) Q r2 e) → K z (ad2, l2) r2) → qI_infer K (ad, l) r k s e := by
  obtain ⟨z, l2, r2, k, s, ⟨p1, p2, p3, p4, p5⟩, q1, q2, hq⟩ := infer_D (e := e) h.1 (by omega)
  have i2 : INV l2 r2 := INV_inf h p1 p2 p3 p4
  have tab := TAB_of i2
  refine ⟨l2, r2, k, s, q1, q2, fun ad K hK => ?_⟩
  have base := hq ad (fun z' a' r' => z' = z ∧ r' = r2 ∧ ∃ ad2, fx (ad, l) (ad2, l2) ∧ a' = (ad2, l2)) (fun ad2 f => ⟨rfl, rfl, ad2, f, rfl⟩)
  refine qw_I_infer (fun z' a' r' x1 x2 => ?_) (qw_I_infer (K3 := fun z' a' r' => (z' = z ∧ r' = r2 ∧ ∃ ad2, fx (ad, l) (ad2, l2) ∧ a' = (ad2, l2)) ∧ INFc r e z' r') (fun _ _ _ x y => ⟨x, y⟩) base (ws_INFc h h13 h6)) (ws_cinfer6 (K := fun _ _ r' => 0 ≤ (fi r' 6).toInt ∧ (fi r' 6).toInt ≤ (fi r 6).toInt + 25) h.1 (TYz_of h) (TBX_of h) (two_of h).1 h13 h6 (fun _ _ _ x y => ⟨x, y⟩))
  obtain ⟨⟨ez, er, ad2, f, ea⟩, inf⟩ := x1
  subst ez er ea
  refine hK _ ad2 f (fun Q hQ => ?_)
  have e4 : fi r' 25 = fi r 4 := i2.2.1.2.2.2.2.1.trans (p2.1 4 (by decide))
  have e49 : ar r' 49 = ar r 16 := i2.2.1.2.2.2.2.2.2.2.2.2.trans (p2.2 16 (by decide))
  have e39 : fi r' 39 = fi r 39 := p3.1 39 (by decide)
  have ct : ctb (clr r) = ctb r' := (ctb_Tb (Tb_Fr clr_Fr (by decide) (by decide))).trans (ctb_Tb p2).symm
  refine qw_M_infer (K := fun _ r3 => INV l2 r3 ∧ fi r3 13 = fi r' 13) (K2 := fun _ r3 => (∀ k, k < 20 → fi r3 k = fi r' k) ∧ fi r3 19 = fi r3 39) (fun z2 r3 y1 y2 => ?_) (minfer_ok i2 (fun _ _ x y => ⟨x, y⟩)) (ws_minfer i2 tab (two_of i2).2 (fun g r3 g1 g2 => ⟨g1, ?_⟩) (fun g0 g4 g24 r3 g1 g2 => ⟨g1, ?_⟩) (fun g0 g4 g24 z2 r3 an => ⟨an.1, ?_⟩))
  · exact hQ z2 r3 y1.1 (by rw [y1.2]; exact p5) (by rw [y2.1 6 (by decide)]; exact x2.1) (by rw [y2.1 6 (by decide)]; exact x2.2) y2.2
  · rw [e4] at g
    rcases inf with ⟨_, i⟩ | ⟨i, _⟩ | ⟨i, _⟩
    · rw [g1 19 (by decide), g2.1, i, e39, h19]
    · exact absurd i g
    · exact absurd i g
  · rw [e4] at g4
    rw [e49] at g24
    rcases inf with ⟨i, _⟩ | ⟨_, _, i⟩ | ⟨_, i, _⟩
    · exact absurd ⟨g0, g4⟩ i
    · rw [g1 19 (by decide), g2.1, i, e39, h19]
    · exact absurd i g24
  · rw [e4] at g4
    rw [e49] at g24
    rcases inf with ⟨i, _⟩ | ⟨_, i, _⟩ | ⟨_, _, i⟩
    · exact absurd ⟨g0, g4⟩ i
    · exact absurd g24 i
    · exact (ag_pass i ct tab.1 (by rw [h19, e39]) an).1
theorem passes_pair {ad : Nat → Nat} (h : INV l r) (h19 : fi r 19 = fi r 39) {K : S_ → Prop} (hK : ∀ r', INV l r' → kp r' = kp r → K r') : qI_passes (ad, l) r (fun z => qM_passes (ad, l) (fun z2 r2 => z = z2 ∧ K r2) r) := by
  unfold qI_passes qM_passes qD_handedOver
  intro r1 e1
  rw [e1]
  exact ⟨h19, hK _ (INV_20 h) rfl⟩
end ZBOTH
