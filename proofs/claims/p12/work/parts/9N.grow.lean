/-! The class's graph grows: what making a node comes to. -/
section GROW
theorem i_dbl {x : Int32} (h1 : -1073741824 ≤ x.toInt) (h2 : x.toInt ≤ 1073741823) : (2 * x).toInt = 2 * x.toInt := by
  have e : 2 * x = x + x := by grind
  rw [e, i_add (by omega) (by omega)]
  omega
def A0 (l : Nat → Nat) : L_ := (fun _ => 0, l)
/-- what may still be made, in cells and in slots -/
def pC (l : Nat → Nat) : Nat := (4096 - l 21) + 5 * (8192 - l 32)
def pS (l : Nat → Nat) : Nat := 25 * (4096 - l 21) + 10 * (8192 - l 32)
def FL (l l' : Nat → Nat) : Prop := ∀ k, (k < 21 ∨ 36 ≤ k ∧ k < 89) → l' k = l k
theorem FL_refl (l : Nat → Nat) : FL l l := fun _ _ => rfl
theorem FL_trans {l l1 l2 : Nat → Nat} (h : FL l l1) (h2 : FL l1 l2) : FL l l2 := fun k hk => (h2 k hk).trans (h k hk)
/-- it comes to one thing, and makes no more than its room shrinks by -/
def D2 (q : (Int32 → L_ → S_ → Prop) → L_ → S_ → Nat → Nat → Prop) (l : Nat → Nat) (r : S_) (P : Int32 → (Nat → Nat) → S_ → Prop) : Prop := ∃ (z : Int32) (l' : Nat → Nat) (r' : S_) (k s : Nat), P z l' r' ∧ k + pC l' ≤ pC l ∧ s + pS l' ≤ pS l ∧ ∀ (ad : Nat → Nat) (K : Int32 → L_ → S_ → Prop), (∀ ad', fx (ad, l) (ad', l') → K z (ad', l') r') → q K (ad, l) r k s
/-- of a method that makes nothing -/
theorem D1 {Q : (Nat → Nat) → (Int32 × S_ → Prop) → Prop} (hd : Det Q) {P : Int32 → S_ → Prop} (h : Q (fun _ => 0) (fun x => P x.1 x.2)) : ∃ z r', P z r' ∧ ∀ ad (K : Int32 → S_ → Prop), K z r' → Q ad (fun x => K x.1 x.2) := by
  obtain ⟨x, h1, h2⟩ := hd _ _ h
  exact ⟨x.1, x.2, h1, fun ad K hk => h2 ad _ hk⟩
theorem D1r {Q : (Nat → Nat) → (S_ → Prop) → Prop} (hd : Det Q) {P : S_ → Prop} (h : Q (fun _ => 0) P) : ∃ r', P r' ∧ ∀ ad (K : S_ → Prop), K r' → Q ad K := by
  obtain ⟨x, h1, h2⟩ := hd _ _ h
  exact ⟨x, h1, fun ad K hk => h2 ad _ hk⟩
def gl (l : Nat → Nat) (m m2 : Nat) : Nat → Nat := fun j => if j = 31 then m2 else if j = 30 then m else if j = 29 then m else if j = 28 then m else if j = 27 then m else if j = 26 then m else if j = 25 then m else if j = 24 then m else if j = 23 then m else if j = 22 then m else if j = 21 then m else l j
def gr (l : Nat → Nat) (p0 : Int32) (r : S_) : S_ := (sA (sA (sA (sA (sA (sA (sA (sA (sA (sA (sA r 21 (va_cpy (ar r 21) (fun _ => 0) 0 0 (cp_n p0 (l 21)).toNatClampNeg)) 22 (va_cpy (ar r 22) (fun _ => 0) 0 0 (cp_n p0 (l 22)).toNatClampNeg)) 23 (va_cpy (ar r 23) (fun _ => 0) 0 0 (cp_n p0 (l 23)).toNatClampNeg)) 24 (va_cpy (ar r 24) (fun _ => 0) 0 0 (cp_n p0 (l 24)).toNatClampNeg)) 25 (va_cpy (ar r 25) (fun _ => 0) 0 0 (cp_n p0 (l 25)).toNatClampNeg)) 26 (va_cpy (ar r 26) (fun _ => 0) 0 0 (cp_n p0 (l 26)).toNatClampNeg)) 27 (va_cpy (ar r 27) (fun _ => 0) 0 0 (cp_n p0 (l 27)).toNatClampNeg)) 28 (va_cpy (ar r 28) (fun _ => 0) 0 0 (cp_n p0 (l 28)).toNatClampNeg)) 29 (va_cpy (ar r 29) (fun _ => 0) 0 0 (cp_n p0 (l 29)).toNatClampNeg)) 30 (va_cpy (ar r 30) (fun _ => 0) 0 0 (cp_n p0 (l 30)).toNatClampNeg)) 31 (va_cpy (ar r 31) (fun _ => 0) 0 0 (cp_n ((2 * p0) + 4) (l 31)).toNatClampNeg))
set_option maxRecDepth 100000 in
set_option maxHeartbeats 4000000 in
theorem grow_ok {l : Nat → Nat} {r : S_} {p0 : Int32} {n : Nat} (hl : l 21 = n ∧ l 22 = n ∧ l 23 = n ∧ l 24 = n ∧ l 25 = n ∧ l 26 = n ∧ l 27 = n ∧ l 28 = n ∧ l 29 = n ∧ l 30 = n) (h31 : l 31 = 2 * n + 4) (hn : n ≤ 4096) (hp : p0.toInt = 2 * n) (hn1 : 1 ≤ n) (ad : Nat → Nat) (K : L_ → S_ → Prop) (hK : ∀ ad', fx (ad, l) (ad', gl l (2 * n) (4 * n + 4)) → K (ad', gl l (2 * n) (4 * n + 4)) (gr l p0 r)) : qG_grow K (ad, l) r 11 (24 * n + 4) p0 := by
  have p1 : 0 ≤ p0 := by rw [il, hp]; simp; omega
  have p2 : p0.toNatClampNeg = 2 * n := by have := i_nat p1; omega
  have q0 : (2 * p0).toInt = 4 * n := by
    rw [i_dbl (by omega) (by omega)]
    omega
  have q1 : ((2 * p0) + 4).toInt = 4 * n + 4 := by
    rw [i_add (by rw [q0]; simp; omega) (by rw [q0]; simp; omega), q0]
    simp
  have q2 : 0 ≤ (2 * p0) + 4 := by rw [il, q1]; simp; omega
  have q3 : ((2 * p0) + 4).toNatClampNeg = 4 * n + 4 := by have := i_nat q2; omega
  have ng1 : ¬ p0 < 0 := fun z => nl0 p1 z
  have ng2 : ¬ (2 * p0) + 4 < 0 := fun z => nl0 q2 z
  have ne1 : ∀ k, l k = n → ¬ p0 = Int32.ofNat (l k) := fun k hk e => by
    have := congrArg Int32.toInt e
    rw [hk, i_ofn (by omega)] at this
    omega
  have ne2 : ¬ (2 * p0) + 4 = Int32.ofNat (l 31) := fun e => by
    have := congrArg Int32.toInt e
    rw [h31, i_ofn (by omega)] at this
    omega
  have hlen : p0.toNatClampNeg * 4 ≤ 536870912 := by omega
  have hlen2 : ((2 * p0) + 4).toNatClampNeg * 4 ≤ 536870912 := by omega
  have hs : ∀ k, l k = n → l k < 2 ^ 31 := fun k hk => by omega
  obtain ⟨h21, h22, h23, h24, h25, h26, h27, h28, h29, h30⟩ := hl
  unfold qG_grow
  refine ⟨hs 21 h21, ng1, ne1 21 h21, hlen, 10, 24 * n + 4 - 1 * (2 * n), by omega, by omega, fun q21 a21 r21 ea21 er21 => ?_⟩
  subst ea21
  subst er21
  refine ⟨hs 22 h22, ng1, ne1 22 h22, hlen, 9, 24 * n + 4 - 2 * (2 * n), by omega, by omega, fun q22 a22 r22 ea22 er22 => ?_⟩
  subst ea22
  subst er22
  refine ⟨hs 23 h23, ng1, ne1 23 h23, hlen, 8, 24 * n + 4 - 3 * (2 * n), by omega, by omega, fun q23 a23 r23 ea23 er23 => ?_⟩
  subst ea23
  subst er23
  refine ⟨hs 24 h24, ng1, ne1 24 h24, hlen, 7, 24 * n + 4 - 4 * (2 * n), by omega, by omega, fun q24 a24 r24 ea24 er24 => ?_⟩
  subst ea24
  subst er24
  refine ⟨hs 25 h25, ng1, ne1 25 h25, hlen, 6, 24 * n + 4 - 5 * (2 * n), by omega, by omega, fun q25 a25 r25 ea25 er25 => ?_⟩
  subst ea25
  subst er25
  refine ⟨hs 26 h26, ng1, ne1 26 h26, hlen, 5, 24 * n + 4 - 6 * (2 * n), by omega, by omega, fun q26 a26 r26 ea26 er26 => ?_⟩
  subst ea26
  subst er26
  refine ⟨hs 27 h27, ng1, ne1 27 h27, hlen, 4, 24 * n + 4 - 7 * (2 * n), by omega, by omega, fun q27 a27 r27 ea27 er27 => ?_⟩
  subst ea27
  subst er27
  refine ⟨hs 28 h28, ng1, ne1 28 h28, hlen, 3, 24 * n + 4 - 8 * (2 * n), by omega, by omega, fun q28 a28 r28 ea28 er28 => ?_⟩
  subst ea28
  subst er28
  refine ⟨hs 29 h29, ng1, ne1 29 h29, hlen, 2, 24 * n + 4 - 9 * (2 * n), by omega, by omega, fun q29 a29 r29 ea29 er29 => ?_⟩
  subst ea29
  subst er29
  refine ⟨hs 30 h30, ng1, ne1 30 h30, hlen, 1, 24 * n + 4 - 10 * (2 * n), by omega, by omega, fun q30 a30 r30 ea30 er30 => ?_⟩
  subst ea30
  subst er30
  refine ⟨by show l 31 < 2 ^ 31; omega, ng2, ne2, hlen2, 0, 0, by omega, by omega, fun q31 a31 r31 ea31 er31 => ?_⟩
  subst ea31
  subst er31
  have e1 : gl l (2 * n) (4 * n + 4) = gl l p0.toNatClampNeg ((2 * p0) + 4).toNatClampNeg := by rw [p2, q3]
  rw [e1] at hK
  exact hK _ (fx_trans (fx_trans (fx_trans (fx_trans (fx_trans (fx_trans (fx_trans (fx_trans (fx_trans (fx_trans (fx_sAd (by decide)) (fx_sAd (by decide))) (fx_sAd (by decide))) (fx_sAd (by decide))) (fx_sAd (by decide))) (fx_sAd (by decide))) (fx_sAd (by decide))) (fx_sAd (by decide))) (fx_sAd (by decide))) (fx_sAd (by decide))) (fx_sAd (by decide)))
theorem cpy_old {f : Nat → Int32} {n i : Nat} (h : i < n) : va_cpy f (fun _ => 0) 0 0 n i = f i := by
  unfold va_cpy
  rw [if_pos (by omega)]
  congr 1
  omega
theorem cpy_new {f : Nat → Int32} {n i : Nat} (h : ¬ i < n) : va_cpy f (fun _ => 0) 0 0 n i = 0 := by
  unfold va_cpy
  rw [if_neg (by omega)]
theorem cp_old {p0 : Int32} {n : Nat} (hp : (n : Int) ≤ p0.toInt) (hn : n ≤ 100000) : (cp_n p0 n).toNatClampNeg = n := by
  unfold cp_n
  have e := i_ofn (n := n) (by omega)
  rw [if_neg (by rw [it]; omega)]
  have h0 : 0 ≤ Int32.ofNat n := by rw [il, e]; simp
  have := i_nat h0
  omega
end GROW
