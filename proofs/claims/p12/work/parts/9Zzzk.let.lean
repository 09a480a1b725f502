/-! A LET's e, typed and settled, in the class. -/
section ZLETC
theorem gb_lt {v : Int32} {i : Nat} (h : gb v i = true) : i < 32 := BitVec.lt_of_getLsbD h
variable {a a1 a2 : L_} {r r1 r2 : S_} {rh rh1 ta ta1 ta2 : Int32 → Int32} {N N1 N2 : Int32} {A A1 : Int32 → Prop} {Γ : List En} {te s0 z : Int32}
theorem LV_det (hI : GI a r rh ta N) (ay : AYc r) (hA : LV r rh A) : LV r rh (fun x => A x ∧ DET (cV r) Γ x) := by
  refine ⟨fun z z0 z1 nm hz => ?_, fun x hx => hA.2 x hx.1⟩
  have c1 := hA.1 z z0 z1 nm hz.1
  have c2 := DET_cl hI ay z0 z1 nm hz.2
  exact ⟨fun e => ⟨c1.1 e, c2.1 e⟩, fun e => ⟨c1.2 e, c2.2 e⟩⟩
def LEA (A A1 : Int32 → Prop) (r r1 : S_) (Γ : List En) (x : Int32) : Prop := (A x ∧ ¬ DET (cV r) Γ x) ∨ (A1 x ∧ DET (cV r1) Γ x)
theorem LET_frm (hI : GI a r rh ta N) (hA : LV r rh A) (f : FRM r rh (fun x => A x ∧ DET (cV r) Γ x) r1 rh1 A1) (hI1 : GI a1 r1 rh1 ta1 N1) (ay1 : AYc r1) (hl : ∀ y, zLams Γ y → 0 ≤ y ∧ y < fi r1 11) (eg1 : EG r1 Γ) {ρ1 : Int32 → Ut} (v1 : cV r1 ρ1) (tA : A1 (rh1 te)) (hI2 : GI a2 r2 rh1 ta2 N2) (fs : FS (fi r1 11) (ar r1 21) (ar r1 22) (ar r2 22)) (fr : Fr [6, 9, 10, 12, 13, 14] [22, 24, 25, 26, 27, 28, 29, 30, 31] r1 r2) (stl : STL r1 r2 rh1 s0 te z) : FRM r rh A r2 rh1 (LEA A A1 r r1 Γ) := by
  obtain ⟨b1, b2, b3, b4, b5, b6⟩ := f
  have pz : ∀ y : Int32, -1 ≤ y → ¬ y = -1 → 0 ≤ y := fun y y0 y1 => by clear hI hI1 hI2 hA ay1 hl eg1 v1 fs fr stl b2 b3 b4 b5 b6; grind
  have e11 : fi r2 11 = fi r1 11 := fr.1 11 (by decide)
  have e15 : fi r2 15 = fi r1 15 := fr.1 15 (by decide)
  have e21 : ar r2 21 = ar r1 21 := fr.2.1 21 (by decide)
  have e23 : ar r2 23 = ar r1 23 := fr.2.1 23 (by decide)
  have v21 : ∀ ρ, cV r2 ρ → cV r1 ρ := fun ρ h => ⟨by rw [← e15]; exact h.1, VC_old hI1 hI2 (by rw [e11]; exact Int32.le_refl _) (fun _ _ _ => rfl) (fun x x0 x1 => ⟨by rw [e21], by rw [e23], fun e => fs x x0 x1 e⟩) h.2⟩
  have im : ∀ y : Int32, 0 ≤ y → y < fi r 11 → A (rh y) → LEA A A1 r r1 Γ (rh1 y) := by
    intro y y0 y1 hy
    by_cases d : DET (cV r) Γ (rh y)
    · refine Or.inr ⟨(b2 y y0 y1).1 ⟨hy, d⟩, fun ρ ρ' h1 h2 h3 => ?_⟩
      rw [← VC_rh hI1 h1.2 y0 (zo3 y1 b1), ← VC_rh hI1 h2.2 y0 (zo3 y1 b1), VC_rh hI (b5 ρ h1).2 y0 y1, VC_rh hI (b5 ρ' h2).2 y0 y1]
      exact d ρ ρ' (b5 ρ h1) (b5 ρ' h2) h3
    · rw [(b2 y y0 y1).2 (fun k => d k.2)]
      exact Or.inl ⟨hy, d⟩
  have nA1 : ∀ x : Int32, x < fi r 11 → ¬ (A x ∧ DET (cV r) Γ x) → ¬ A1 x := fun x x1 h k => (b6 x k).elim h (fun q => irr (zo3 x1 q))
  have nR : ∀ x : Int32, ¬ A1 x → ¬ Rq r1 rh1 te x := fun x h k => h (LV_Rq b4 tA k)
  have bd : ∀ x v : Int32, A1 x → DET (cV r1) Γ x → Rq r1 rh1 x v → ar r1 21 v.toNatClampNeg = -1 → BdR r1 rh1 v := fun x v h d h2 e => by
    have b := b4.2 x h
    exact (EG_Bd eg1).mpr (DETb hI1 ay1 v1 hl b.1.1 b.1.2 d h2 e)
  have st : ∀ x : Int32, 0 ≤ x → x < fi r 11 → ¬ ar r 21 x.toNatClampNeg = -2 → ¬ (A x ∧ DET (cV r) Γ x) → ar r2 21 x.toNatClampNeg = ar r 21 x.toNatClampNeg ∧ ar r2 22 x.toNatClampNeg = ar r 22 x.toNatClampNeg ∧ ar r2 23 x.toNatClampNeg = ar r 23 x.toNatClampNeg ∧ ar r2 25 x.toNatClampNeg = ar r 25 x.toNatClampNeg ∧ ar r2 26 x.toNatClampNeg = ar r 26 x.toNatClampNeg := by
    intro x x0 x1 nm na
    have q := b3 x x0 x1 nm na
    have nr := nR x (nA1 x x1 na)
    have x2 := zo3 x1 b1
    rw [e21, fs x x0 x2 (by rw [q.1]; exact nm), e23, stl.2.2.1 x x0 x2 (fun k => nr k.2.1), stl.2.1 x x0 x2 nr]
    exact q
  refine ⟨by rw [e11]; exact b1, fun y y0 y1 => ⟨im y y0 y1, fun q => (b2 y y0 y1).2 (fun k => q k.1)⟩, fun x x0 x1 nm na => st x x0 x1 nm (fun k => na k.1), ⟨fun x x0 x1 nm hx => ?_, fun x hx => ?_⟩, fun ρ h => b5 ρ (v21 ρ h), fun x hx => ?_⟩
  · rcases hx with ⟨h1, h2⟩ | ⟨h1, h2⟩
    · have b := hA.2 x h1
      have q := st x b.1.1 b.1.2 b.2.1 (fun k => h2 k.2)
      have n := hI.2.2.2.1 x b.1.1 b.1.2
      have c := hA.1 x b.1.1 b.1.2 b.2.1 h1
      rw [q.2.1, q.2.2.1]
      exact ⟨fun e => im _ (pz _ n.2.2.1 e) n.2.2.2.1 (c.1 e), fun e => im _ (pz _ n.2.2.2.2.1 e) n.2.2.2.2.2.1 (c.2 e)⟩
    · have b := b4.2 x h1
      have c1 := b4.1 x b.1.1 b.1.2 b.2.1 h1
      have c2 := DET_cl hI1 ay1 b.1.1 b.1.2 b.2.1 h2
      rw [fs x b.1.1 b.1.2 b.2.1, e23]
      exact ⟨fun e => Or.inr ⟨c1.1 e, c2.1 e⟩, fun e => Or.inr ⟨c1.2 e, c2.2 e⟩⟩
  · rcases hx with ⟨h1, h2⟩ | ⟨h1, h2⟩
    · have b := hA.2 x h1
      have q := st x b.1.1 b.1.2 b.2.1 (fun k => h2 k.2)
      rw [q.1, q.2.2.2.1, q.2.2.2.2, e11]
      exact ⟨⟨b.1.1, zo3 b.1.2 b1⟩, b.2⟩
    · have b := b4.2 x h1
      have rx : rh1 x = x := (hI1.2.2.2.2.1.2 x b.1.1 b.1.2).2.2.2.1 b.2.1
      have rxx : Rq r1 rh1 x x := by have := Rq_0 (r := r1) (rh := rh1) (x := x); rw [rx] at this; exact this
      rw [e11, e21, stl.2.2.1 x b.1.1 b.1.2 (fun k => k.2.2.1 (bd x x h1 h2 rxx k.1))]
      refine ⟨b.1, b.2.1, ?_, b.2.2.2⟩
      by_cases k : Rq r1 rh1 te x
      · rw [stl.1 x b.1.1 b.1.2 k]
        rintro ⟨v, u1, u2, u3⟩
        exact u3 (bd x v h1 h2 u1 u2)
      · rw [stl.2.1 x b.1.1 b.1.2 k]
        exact b.2.2.1
  · rcases hx with ⟨h1, _⟩ | ⟨h1, _⟩
    · exact Or.inl h1
    · exact (b6 x h1).elim (fun k => Or.inl k.1) Or.inr
def LEK (r2 : S_) (rh1 : Int32 → Int32) (te : Int32) (v : Int32) (c : Nat) : Prop := (Rq r2 rh1 te v ∧ ar r2 21 v.toNatClampNeg = -1 ∧ ar r2 26 v.toNatClampNeg = 1) ∧ gb (ar r2 25 v.toNatClampNeg) c = true
theorem LET_lto {E : Nat} (h4 : LV r1 rh1 A1) (hI1 : GI a1 r1 rh1 ta1 N1) (ay1 : AYc r1) (hl : ∀ y, zLams Γ y → 0 ≤ y ∧ y < fi r1 11) (eg1 : EG r1 Γ) {ρ1 : Int32 → Ut} (v1 : cV r1 ρ1) (t0 : 0 ≤ te) (t1 : te < fi r1 11) (tA : A1 (rh1 te)) (hI2 : GI a2 r2 rh1 ta2 N2) (fs : FS (fi r1 11) (ar r1 21) (ar r1 22) (ar r2 22)) (fr : Fr [6, 9, 10, 12, 13, 14] [22, 24, 25, 26, 27, 28, 29, 30, 31] r1 r2) (stl : STL r1 r2 rh1 s0 te z) (hE : ∀ L : List Int32, L.Nodup → (∀ y, y ∈ L → A1 y ∧ ¬ DET (cV r1) Γ y) → L.length ≤ E) : LTO r2 rh1 (LEA A A1 r r1 Γ) Γ te (LEK r2 rh1 te) E := by
  have e11 : fi r2 11 = fi r1 11 := fr.1 11 (by decide)
  have e15 : fi r2 15 = fi r1 15 := fr.1 15 (by decide)
  have e21 : ar r2 21 = ar r1 21 := fr.2.1 21 (by decide)
  have e23 : ar r2 23 = ar r1 23 := fr.2.1 23 (by decide)
  have v21 : ∀ ρ, cV r2 ρ → cV r1 ρ := fun ρ h => ⟨by rw [← e15]; exact h.1, VC_old hI1 hI2 (by rw [e11]; exact Int32.le_refl _) (fun _ _ _ => rfl) (fun x x0 x1 => ⟨by rw [e21], by rw [e23], fun e => fs x x0 x1 e⟩) h.2⟩
  have rq : ∀ x v : Int32, Rq r2 rh1 x v ↔ Rq r1 rh1 x v := fun x v => Rq_fs e11 e21 e23 fs
  have op : ∀ x : Int32, Rq r1 rh1 te x → (ar r2 26 x.toNatClampNeg = 1 ↔ ∃ v, Rq r1 rh1 x v ∧ ar r1 21 v.toNatClampNeg = -1 ∧ ¬ BdR r1 rh1 v) := fun x h => by
    have b := Rq_in hI1 t0 t1 h
    exact stl.1 x b.1.1 b.1.2 h
  refine ⟨⟨t0, by rw [e11]; exact t1⟩, fun x h1 h2 => ?_, fun x v h1 h2 h3 h5 => ?_, fun x h1 h2 h3 => ?_, fun v c => Iff.rfl, fun L l1 l2 => hE L l1 (fun y hy => ?_)⟩
  · have h1' := (rq te x).mp h1
    have b := Rq_in hI1 t0 t1 h1'
    have d : DET (cV r1) Γ x := DETi hI1 ay1 hl b.1.1 b.1.2 (fun v k1 k2 => (EG_Bd eg1).mp (Classical.byContradiction (fun q => h2 ((op x h1').mpr ⟨v, k1, k2, q⟩))))
    exact ⟨DET_sub v21 d, Or.inr ⟨LV_Rq h4 tA h1', d⟩⟩
  · have h1' := (rq te x).mp h1
    have h3' := (rq x v).mp h3
    have b := Rq_in hI1 t0 t1 h1'
    have bv := Rq_in hI1 b.1.1 b.1.2 h3'
    have hv : Rq r1 rh1 te v := Rq_trans h1' b.2.2 h3'
    obtain ⟨u, u1, u2, u3⟩ := (op v hv).mp h5
    exact h2 ((op x h1').mpr ⟨u, Rq_trans h3' bv.2.2 u1, u2, u3⟩)
  · have h1' := (rq te x).mp h1
    have b := Rq_in hI1 t0 t1 h1'
    rw [stl.2.2.1 x b.1.1 b.1.2 (fun k => h3 (by rw [e21]; exact k.1))]
    exact (h4.2 x (LV_Rq h4 tA h1')).2.2.2
  · have q := l2 y hy
    have h1' := (rq te y).mp q.1
    have b := Rq_in hI1 t0 t1 h1'
    obtain ⟨u, u1, u2, u3⟩ := (op y h1').mp q.2
    exact ⟨LV_Rq h4 tA h1', fun d => u3 ((EG_Bd eg1).mpr (DETb hI1 ay1 v1 hl b.1.1 b.1.2 d u1 u2))⟩
theorem LET_set {W : Int32 → Nat → Prop} {k am : Prop} (h4 : LV r1 rh1 A1) (hI1 : GI a1 r1 rh1 ta1 N1) (ay1 : AYc r1) (kt : KTz r1) (hl : ∀ y, zLams Γ y → 0 ≤ y ∧ y < fi r1 11) (eg1 : EG r1 Γ) {ρ1 : Int32 → Ut} (v1 : cV r1 ρ1) (t0 : 0 ≤ te) (t1 : te < fi r1 11) (tA : A1 (rh1 te)) (fs : FS (fi r1 11) (ar r1 21) (ar r1 22) (ar r2 22)) (fr : Fr [6, 9, 10, 12, 13, 14] [22, 24, 25, 26, 27, 28, 29, 30, 31] r1 r2) (stl : STL r1 r2 rh1 s0 te z) (w8 : ∀ x c, aW r1 s0 x c → c < 8) (hw : ∀ x c, W x c ↔ aW r1 s0 x c ∨ (W x c ∧ x < s0)) (hx : ∀ x c, W x c → 0 ≤ x ∧ x < fi r1 11) (hd : ∀ x c, W x c → x < s0 → DET (cV r1) Γ x) : zSet (kI r1) (kF r1 10) (kF r1 11) (kU r1) (cG r1) (zLams Γ) te W k am (LEK r2 rh1 te) z.toInt (fun x c => (W x c ∧ x < s0) ∨ (zVR (cG r1) x ∧ cNd r1 (aW r1 s0) x c ∧ zBd (cG r1) (zLams Γ) x)) (k ∨ zLK (kI r1) (kF r1 10) (kF r1 11) (cG r1) (aW r1 s0)) (am ∨ ∃ v c, zVR (cG r1) v ∧ cNd r1 (aW r1 s0) v c ∧ ¬ zBd (cG r1) (zLams Γ) v ∧ ¬ zRc (cG r1) te v) := by
  have e11 : fi r2 11 = fi r1 11 := fr.1 11 (by decide)
  have e21 : ar r2 21 = ar r1 21 := fr.2.1 21 (by decide)
  have e23 : ar r2 23 = ar r1 23 := fr.2.1 23 (by decide)
  have rq : ∀ x v : Int32, Rq r2 rh1 x v ↔ Rq r1 rh1 x v := fun x v => Rq_fs e11 e21 e23 fs
  have rc : ∀ v, zRc (cG r1) te v ↔ Rq r1 rh1 te v := fun v => cG_rc hI1 t0 t1
  have bd : ∀ v, zBd (cG r1) (zLams Γ) v ↔ BdR r1 rh1 v := fun v => cG_bd hI1 hl eg1
  have vq : ∀ v, zVR (cG r1) v ↔ vr r1 v := fun v => cG_vr hI1
  have slf : ∀ v, vr r1 v → rh1 v = v ∧ ∀ u, Rq r1 rh1 v u → u = v := fun v hv => by
    have nm : ¬ ar r1 21 v.toNatClampNeg = -2 := by rw [hv.2.2]; decide
    have rv := (hI1.2.2.2.2.1.2 v hv.1 hv.2.1).2.2.2.1 nm
    refine ⟨rv, fun u hu => ?_⟩
    have ary := (ay1 v hv.1 hv.2.1).2 hv.2.2
    rcases Rq_inv rv hu hv.1 hv.2.1 nm with k | k | k
    · exact k
    · exact absurd ary.1 k.1
    · exact absurd ary.2 k.1
  have hK : ∀ v c, LEK r2 rh1 te v c ↔ (vr r1 v ∧ ¬ BdR r1 rh1 v ∧ Rq r1 rh1 te v) ∧ zLow (kU r1) (cNd r1 (aW r1 s0) v) c := by
    intro v c
    constructor
    · rintro ⟨⟨h1, h2, h3⟩, h5⟩
      have h1' := (rq te v).mp h1
      have b := Rq_in hI1 t0 t1 h1'
      rw [e21] at h2
      have hv : vr r1 v := ⟨b.1.1, b.1.2, h2⟩
      obtain ⟨u, u1, u2, u3⟩ := (stl.1 v b.1.1 b.1.2 h1').mp h3
      rw [(slf v hv).2 u u1] at u3
      refine ⟨⟨hv, u3, h1'⟩, ?_⟩
      by_cases nd : ∃ c, cNd r1 (aW r1 s0) v c
      · have c32 : c < 32 := gb_lt h5
        exact (stl.2.2.2.1 v hv h1' u3 nd c c32).mp h5
      · rw [stl.2.2.1 v b.1.1 b.1.2 (fun k => nd k.2.2.2), (h4.2 v (LV_Rq h4 tA h1')).2.2.2, gb_0] at h5
        exact absurd h5 (by decide)
    · rintro ⟨⟨h1, h2, h3⟩, h5⟩
      have rvv : Rq r1 rh1 v v := by have := Rq_0 (r := r1) (rh := rh1) (x := v); rw [(slf v h1).1] at this; exact this
      have c8 := cNd8 kt w8 h5.1
      exact ⟨⟨(rq te v).mpr h3, by rw [e21]; exact h1.2.2, (stl.1 v h1.1 h1.2.1 h3).mpr ⟨v, rvv, h1.2.2, h2⟩⟩, (stl.2.2.2.1 v h1 h3 h2 ⟨c, h5.1⟩ c (by omega)).mpr h5⟩
  refine ⟨aW r1 s0, fun x c => W x c ∧ x < s0, hw, fun x c h v hv hr => ?_, fun x c => Iff.rfl, Iff.rfl, Iff.rfl, fun v c => ?_, ?_⟩
  · have b := hx x c h.1
    have hv' := (vq v).mp hv
    exact (bd v).mpr ((EG_Bd eg1).mpr (DETb hI1 ay1 v1 hl b.1 b.2 (hd x c h.1 h.2) ((cG_rc hI1 b.1 b.2).mp hr) hv'.2.2))
  · rw [hK v c, vq v, bd v, rc v]
    exact Iff.rfl
  · obtain ⟨l, l1, l2, l3⟩ := stl.2.2.2.2.2.2.2
    exact ⟨l, l1, fun v c => by rw [hK v c]; exact l3 v c, l2⟩
end ZLETC
