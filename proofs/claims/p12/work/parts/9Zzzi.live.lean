/-! What typing may touch in the class: live sets; what a LET left stays. -/
section ZLIVE
def DET (V : (Int32 → Ut) → Prop) (Γ : List En) (x : Int32) : Prop := ∀ ρ ρ', V ρ → V ρ' → (∀ y, zLams Γ y → ρ y = ρ' y) → ρ x = ρ' x
def LV (r : S_) (rh : Int32 → Int32) (A : Int32 → Prop) : Prop := Cr r rh A ∧ ∀ x, A x → (0 ≤ x ∧ x < fi r 11) ∧ ¬ ar r 21 x.toNatClampNeg = -2 ∧ ¬ ar r 26 x.toNatClampNeg = 1 ∧ ar r 25 x.toNatClampNeg = 0
def FRM (r : S_) (rh : Int32 → Int32) (A : Int32 → Prop) (r' : S_) (rh' : Int32 → Int32) (A' : Int32 → Prop) : Prop := fi r 11 ≤ fi r' 11 ∧ (∀ z : Int32, 0 ≤ z → z < fi r 11 → (A (rh z) → A' (rh' z)) ∧ (¬ A (rh z) → rh' z = rh z)) ∧ (∀ z : Int32, 0 ≤ z → z < fi r 11 → ¬ ar r 21 z.toNatClampNeg = -2 → ¬ A z → ar r' 21 z.toNatClampNeg = ar r 21 z.toNatClampNeg ∧ ar r' 22 z.toNatClampNeg = ar r 22 z.toNatClampNeg ∧ ar r' 23 z.toNatClampNeg = ar r 23 z.toNatClampNeg ∧ ar r' 25 z.toNatClampNeg = ar r 25 z.toNatClampNeg ∧ ar r' 26 z.toNatClampNeg = ar r 26 z.toNatClampNeg) ∧ LV r' rh' A' ∧ (∀ ρ, cV r' ρ → cV r ρ) ∧ ∀ x, A' x → A x ∨ fi r 11 ≤ x
/-- what stands of a LET's type: open nodes, what is bound below them -/
def LTO (r : S_) (rh : Int32 → Int32) (A : Int32 → Prop) (Γ : List En) (te : Int32) (K : Int32 → Nat → Prop) (E : Nat) : Prop := (0 ≤ te ∧ te < fi r 11) ∧ (∀ x, Rq r rh te x → ¬ ar r 26 x.toNatClampNeg = 1 → DET (cV r) Γ x ∧ A x) ∧ (∀ x v, Rq r rh te x → ¬ ar r 26 x.toNatClampNeg = 1 → Rq r rh x v → ¬ ar r 26 v.toNatClampNeg = 1) ∧ (∀ x, Rq r rh te x → ar r 26 x.toNatClampNeg = 1 → ¬ ar r 21 x.toNatClampNeg = -1 → ar r 25 x.toNatClampNeg = 0) ∧ (∀ v c, K v c ↔ (Rq r rh te v ∧ ar r 21 v.toNatClampNeg = -1 ∧ ar r 26 v.toNatClampNeg = 1) ∧ gb (ar r 25 v.toNatClampNeg) c = true) ∧ ∀ L : List Int32, L.Nodup → (∀ y, y ∈ L → Rq r rh te y ∧ ar r 26 y.toNatClampNeg = 1) → L.length ≤ E
def LTS (r : S_) (rh : Int32 → Int32) (A : Int32 → Prop) (E : Nat) : List En → Prop
  | [] => True
  | e :: Γ => (e.2.1 = true → LTO r rh A Γ e.2.2.1 e.2.2.2.1 E) ∧ LTS r rh A E Γ
variable {a a' a2 : L_} {r r' r1 r2 : S_} {rh rh' rh1 rh2 ta ta' ta1 : Int32 → Int32} {N N' N1 : Int32} {A A' A1 A2 : Int32 → Prop}
theorem FRM_trans (hI : GI a r rh ta N) (h : FRM r rh A r1 rh1 A1) (h2 : FRM r1 rh1 A1 r2 rh2 A2) : FRM r rh A r2 rh2 A2 := by
  obtain ⟨a1, a2, a3, a4, a5, a6⟩ := h
  obtain ⟨b1, b2, b3, b4, b5, b6⟩ := h2
  refine ⟨zo2 a1 b1, fun z z0 z1 => ⟨fun q => (b2 z z0 (zo3 z1 a1)).1 ((a2 z z0 z1).1 q), fun q => ?_⟩, fun z z0 z1 nm na => ?_, b4, fun ρ v => a5 ρ (b5 ρ v), fun x hx => ?_⟩
  · have e := (a2 z z0 z1).2 q
    have hr := (hI.2.2.2.2.1.2 z z0 z1).2.1
    rw [(b2 z z0 (zo3 z1 a1)).2 (fun k => ?_), e]
    rw [e] at k
    exact (a6 _ k).elim q (fun k2 => irr (zo3 hr k2))
  · have q := a3 z z0 z1 nm na
    have na1 : ¬ A1 z := fun k => (a6 z k).elim na (fun k2 => irr (zo3 z1 k2))
    have p := b3 z z0 (zo3 z1 a1) (by rw [q.1]; exact nm) na1
    rw [p.1, p.2.1, p.2.2.1, p.2.2.2.1, p.2.2.2.2]
    exact q
  · rcases b6 x hx with k | k
    · exact a6 x k
    · exact Or.inr (zo2 a1 k)
theorem DET_sub {V V' : (Int32 → Ut) → Prop} {Γ : List En} {x : Int32} (h : ∀ ρ, V' ρ → V ρ) (d : DET V Γ x) : DET V' Γ x := fun ρ ρ' h1 h2 h3 => d ρ ρ' (h ρ h1) (h ρ' h2) h3
theorem LV_Rq (hA : LV r rh A) {x v : Int32} (h : A (rh x)) (hv : Rq r rh x v) : A v := hv A hA.1 h
/-- parts of what is bound are bound -/
theorem DET_cl {Γ : List En} {z : Int32} (hI : GI a r rh ta N) (ay : AYc r) (z0 : 0 ≤ z) (z1 : z < fi r 11) (nm : ¬ ar r 21 z.toNatClampNeg = -2) (d : DET (cV r) Γ z) : (¬ ar r 22 z.toNatClampNeg = -1 → DET (cV r) Γ (rh (ar r 22 z.toNatClampNeg))) ∧ (¬ ar r 23 z.toNatClampNeg = -1 → DET (cV r) Γ (rh (ar r 23 z.toNatClampNeg))) := by
  have n := hI.2.2.2.1 z z0 z1
  have ary := ay z z0 z1
  have hd : (¬ ar r 22 z.toNatClampNeg = -1 ∨ ¬ ar r 23 z.toNatClampNeg = -1) → 0 ≤ ar r 21 z.toNatClampNeg := by
    intro h
    have q1 := n.1
    have q2 : ¬ ar r 21 z.toNatClampNeg = -1 := fun e => by
      have := ary.2 e
      rcases h with h | h
      · exact h this.1
      · exact h this.2
    clear hI ay d n ary h
    grind
  refine ⟨fun e ρ ρ' h1 h2 h3 => ?_, fun e ρ ρ' h1 h2 h3 => ?_⟩
  · have q := d ρ ρ' h1 h2 h3
    have f0 : 0 ≤ ar r 22 z.toNatClampNeg := by have := n.2.2.1; clear hI ay d n ary hd q; grind
    rw [(h1.2.2 z z0 z1).2 (hd (Or.inl e)), (h2.2.2 z z0 z1).2 (hd (Or.inl e))] at q
    rw [← VC_rh hI h1.2 f0 n.2.2.2.1, ← VC_rh hI h2.2 f0 n.2.2.2.1]
    exact (Jn_inj q).2.1
  · have q := d ρ ρ' h1 h2 h3
    have f0 : 0 ≤ ar r 23 z.toNatClampNeg := by have := n.2.2.2.2.1; clear hI ay d n ary hd q; grind
    rw [(h1.2.2 z z0 z1).2 (hd (Or.inr e)), (h2.2.2 z z0 z1).2 (hd (Or.inr e))] at q
    rw [← VC_rh hI h1.2 f0 n.2.2.2.2.2.1, ← VC_rh hI h2.2 f0 n.2.2.2.2.2.1]
    exact (Jn_inj q).2.2
/-- what a LET left stays, whatever the live ones come to -/
theorem LTO_frm {Γ : List En} {te : Int32} {K : Int32 → Nat → Prop} {E : Nat} (hI : GI a r rh ta N) (hI' : GI a' r' rh' ta' N') (ay' : AYc r') (hA : LV r rh A) (f : FRM r rh A r' rh' A') (h : LTO r rh A Γ te K E) : LTO r' rh' A' Γ te K E := by
  obtain ⟨t, k1, k2, k3, k4, k5⟩ := h
  obtain ⟨b1, b2, b3, b4, b5, b6⟩ := f
  have pz : ∀ y : Int32, -1 ≤ y → ¬ y = -1 → 0 ≤ y := fun y y0 y1 => by clear hI hI' ay' hA k1 k2 k3 k4 k5 b2 b3 b4 b5 b6; grind
  have op : ∀ x, ar r 26 x.toNatClampNeg = 1 → ¬ A x := fun x ox k => (hA.2 x k).2.2.1 ox
  -- what an old node that is reached comes to
  have img : ∀ y : Int32, 0 ≤ y → y < fi r 11 → Rq r rh te (rh y) → (ar r 26 (rh y).toNatClampNeg = 1 ∧ rh' y = rh y) ∨ (¬ ar r 26 (rh y).toNatClampNeg = 1 ∧ A' (rh' y) ∧ DET (cV r') Γ (rh' y)) := by
    intro y y0 y1 hy
    by_cases o : ar r 26 (rh y).toNatClampNeg = 1
    · exact Or.inl ⟨o, (b2 y y0 y1).2 (op _ o)⟩
    · have k := k1 _ hy o
      refine Or.inr ⟨o, (b2 y y0 y1).1 k.2, fun ρ ρ' h1 h2 h3 => ?_⟩
      rw [← VC_rh hI' h1.2 y0 (zo3 y1 b1), ← VC_rh hI' h2.2 y0 (zo3 y1 b1), VC_rh hI (b5 ρ h1).2 y0 y1, VC_rh hI (b5 ρ' h2).2 y0 y1]
      exact k.1 ρ ρ' (b5 ρ h1) (b5 ρ' h2) h3
  have same : ∀ x, Rq r rh te x → ar r 26 x.toNatClampNeg = 1 → ar r' 21 x.toNatClampNeg = ar r 21 x.toNatClampNeg ∧ ar r' 22 x.toNatClampNeg = ar r 22 x.toNatClampNeg ∧ ar r' 23 x.toNatClampNeg = ar r 23 x.toNatClampNeg ∧ ar r' 25 x.toNatClampNeg = ar r 25 x.toNatClampNeg ∧ ar r' 26 x.toNatClampNeg = ar r 26 x.toNatClampNeg := fun x hx ox => by
    have b := Rq_in hI t.1 t.2 hx
    exact b3 x b.1.1 b.1.2 b.2.1 (op x ox)
  -- reached then: an open one of before, or bound and live
  have fw : ∀ x, Rq r' rh' te x → (Rq r rh te x ∧ ar r 26 x.toNatClampNeg = 1) ∨ (A' x ∧ DET (cV r') Γ x) := by
    intro x hx
    refine hx (fun x => (Rq r rh te x ∧ ar r 26 x.toNatClampNeg = 1) ∨ (A' x ∧ DET (cV r') Γ x)) (fun z z0 z1 nm hz => ?_) ?_
    · rcases hz with ⟨q1, q2⟩ | ⟨q1, q2⟩
      · have s := same z q1 q2
        have b := Rq_in hI t.1 t.2 q1
        have n := hI.2.2.2.1 z b.1.1 b.1.2
        have cl := Rq_cl (r := r) (rh := rh) (x := te) z b.1.1 b.1.2 b.2.1 q1
        have go : ∀ y : Int32, -1 ≤ y → y < fi r 11 → ¬ y = -1 → Rq r rh te (rh y) → (Rq r rh te (rh' y) ∧ ar r 26 (rh' y).toNatClampNeg = 1) ∨ (A' (rh' y) ∧ DET (cV r') Γ (rh' y)) := by
          intro y y0 y1 y2 y3
          rcases img y (pz y y0 y2) y1 y3 with ⟨o, e⟩ | ⟨_, g1, g2⟩
          · rw [e]; exact Or.inl ⟨y3, o⟩
          · exact Or.inr ⟨g1, g2⟩
        rw [s.2.1, s.2.2.1]
        exact ⟨fun e => go _ n.2.2.1 n.2.2.2.1 e (cl.1 e), fun e => go _ n.2.2.2.2.1 n.2.2.2.2.2.1 e (cl.2 e)⟩
      · have c1 := b4.1 z z0 z1 nm q1
        have c2 := DET_cl hI' ay' z0 z1 nm q2
        exact ⟨fun e => Or.inr ⟨c1.1 e, c2.1 e⟩, fun e => Or.inr ⟨c1.2 e, c2.2 e⟩⟩
    · rcases img te t.1 t.2 Rq_0 with ⟨o, e⟩ | ⟨_, g1, g2⟩
      · show (Rq r rh te (rh' te) ∧ ar r 26 (rh' te).toNatClampNeg = 1) ∨ _
        rw [e]; exact Or.inl ⟨Rq_0, o⟩
      · exact Or.inr ⟨g1, g2⟩
  have bw : ∀ x, Rq r rh te x → ar r 26 x.toNatClampNeg = 1 → Rq r' rh' te x := by
    intro x hx
    have key : Rq r rh te x ∧ (ar r 26 x.toNatClampNeg = 1 → Rq r' rh' te x) := by
      refine hx (fun x => Rq r rh te x ∧ (ar r 26 x.toNatClampNeg = 1 → Rq r' rh' te x)) (fun z z0 z1 nm hz => ?_) ⟨Rq_0, fun o => ?_⟩
      · have n := hI.2.2.2.1 z z0 z1
        have cl := Rq_cl (r := r) (rh := rh) (x := te) z z0 z1 nm hz.1
        have cz := Rq_cl (r := r) (rh := rh) (x := z) z z0 z1 nm (by have := Rq_0 (r := r) (rh := rh) (x := z); rw [(hI.2.2.2.2.1.2 z z0 z1).2.2.2.1 nm] at this; exact this)
        refine ⟨fun e => ⟨cl.1 e, fun o => ?_⟩, fun e => ⟨cl.2 e, fun o => ?_⟩⟩
        · have oz : ar r 26 z.toNatClampNeg = 1 := Classical.byContradiction (fun k => k2 z _ hz.1 k (cz.1 e) o)
          have s := same z hz.1 oz
          have q := Rq_cl (r := r') (rh := rh') (x := te) z z0 (zo3 z1 b1) (by rw [s.1]; exact nm) (hz.2 oz)
          have y0 := pz _ n.2.2.1 e
          rw [s.2.1, (b2 _ y0 n.2.2.2.1).2 (op _ o)] at q
          exact q.1 e
        · have oz : ar r 26 z.toNatClampNeg = 1 := Classical.byContradiction (fun k => k2 z _ hz.1 k (cz.2 e) o)
          have s := same z hz.1 oz
          have q := Rq_cl (r := r') (rh := rh') (x := te) z z0 (zo3 z1 b1) (by rw [s.1]; exact nm) (hz.2 oz)
          have y0 := pz _ n.2.2.2.2.1 e
          rw [s.2.2.1, (b2 _ y0 n.2.2.2.2.2.1).2 (op _ o)] at q
          exact q.2 e
      · have q := (b2 te t.1 t.2).2 (op _ o)
        have := Rq_0 (r := r') (rh := rh') (x := te)
        rw [q] at this
        exact this
    exact key.2
  have eq : ∀ x, (Rq r' rh' te x ∧ ar r' 26 x.toNatClampNeg = 1) ↔ (Rq r rh te x ∧ ar r 26 x.toNatClampNeg = 1) := by
    intro x
    constructor
    · rintro ⟨h1, h2⟩
      exact (fw x h1).resolve_right (fun q => (b4.2 x q.1).2.2.1 h2)
    · rintro ⟨h1, h2⟩
      exact ⟨bw x h1 h2, by rw [(same x h1 h2).2.2.2.2]; exact h2⟩
  have nop : ∀ x, Rq r' rh' te x → ¬ ar r' 26 x.toNatClampNeg = 1 → A' x ∧ DET (cV r') Γ x := fun x h1 h2 => (fw x h1).resolve_left (fun q => h2 ((eq x).mpr q).2)
  refine ⟨⟨t.1, zo3 t.2 b1⟩, fun x h1 h2 => ⟨(nop x h1 h2).2, (nop x h1 h2).1⟩, fun x v h1 h2 h3 => ?_, fun x h1 h2 h3 => ?_, fun v c => ?_, fun L l1 l2 => k5 L l1 (fun y hy => (eq y).mp (l2 y hy))⟩
  · have ax := (nop x h1 h2).1
    have bx := b4.2 x ax
    have rx : rh' x = x := (hI'.2.2.2.2.1.2 x bx.1.1 bx.1.2).2.2.2.1 bx.2.1
    exact (b4.2 v (LV_Rq b4 (by rw [rx]; exact ax) h3)).2.2.1
  · have q := (eq x).mp ⟨h1, h2⟩
    have s := same x q.1 q.2
    rw [s.2.2.2.1]
    exact k3 x q.1 q.2 (by rw [← s.1]; exact h3)
  · rw [k4 v c]
    constructor
    · rintro ⟨⟨h1, h2, h3⟩, h4⟩
      have s := same v h1 h3
      exact ⟨⟨bw v h1 h3, by rw [s.1]; exact h2, by rw [s.2.2.2.2]; exact h3⟩, by rw [s.2.2.2.1]; exact h4⟩
    · rintro ⟨⟨h1, h2, h3⟩, h4⟩
      have q := (eq v).mp ⟨h1, h3⟩
      have s := same v q.1 q.2
      exact ⟨⟨q.1, by rw [← s.1]; exact h2, q.2⟩, by rw [← s.2.2.2.1]; exact h4⟩
theorem LTS_frm {E : Nat} (hI : GI a r rh ta N) (hI' : GI a' r' rh' ta' N') (ay' : AYc r') (hA : LV r rh A) (f : FRM r rh A r' rh' A') : ∀ Γ : List En, LTS r rh A E Γ → LTS r' rh' A' E Γ := by
  intro Γ
  induction Γ with
  | nil => exact id
  | cons e Γ ih => exact fun h => ⟨fun b => LTO_frm hI hI' ay' hA f (h.1 b), ih h.2⟩
theorem LTS_le {E E' : Nat} (h : E ≤ E') : ∀ Γ : List En, LTS r rh A E Γ → LTS r rh A E' Γ := by
  intro Γ
  induction Γ with
  | nil => exact id
  | cons e Γ ih => exact fun k => ⟨fun b => ⟨(k.1 b).1, (k.1 b).2.1, (k.1 b).2.2.1, (k.1 b).2.2.2.1, (k.1 b).2.2.2.2.1, fun L l1 l2 => Nat.le_trans ((k.1 b).2.2.2.2.2 L l1 l2) h⟩, ih k.2⟩
/-- nodes more -/
theorem FRM_ext {B : Int32 → Prop} (hI : GI a r rh ta N) (hA : LV r rh A) (le : fi r 11 ≤ fi r' 11) (hr : ∀ x : Int32, 0 ≤ x → x < fi r 11 → rh' x = rh x) (ho : ∀ x : Int32, 0 ≤ x → x < fi r 11 → (ar r' 21 x.toNatClampNeg = ar r 21 x.toNatClampNeg ∧ ar r' 23 x.toNatClampNeg = ar r 23 x.toNatClampNeg ∧ ar r' 25 x.toNatClampNeg = ar r 25 x.toNatClampNeg ∧ ar r' 26 x.toNatClampNeg = ar r 26 x.toNatClampNeg) ∧ (¬ ar r 21 x.toNatClampNeg = -2 → ar r' 22 x.toNatClampNeg = ar r 22 x.toNatClampNeg)) (hV : ∀ ρ, cV r' ρ → cV r ρ) (hB : ∀ x, B x → (fi r 11 ≤ x ∧ x < fi r' 11) ∧ (¬ ar r' 21 x.toNatClampNeg = -2 ∧ ¬ ar r' 26 x.toNatClampNeg = 1 ∧ ar r' 25 x.toNatClampNeg = 0) ∧ (¬ ar r' 22 x.toNatClampNeg = -1 → A (rh' (ar r' 22 x.toNatClampNeg)) ∨ B (rh' (ar r' 22 x.toNatClampNeg))) ∧ (¬ ar r' 23 x.toNatClampNeg = -1 → A (rh' (ar r' 23 x.toNatClampNeg)) ∨ B (rh' (ar r' 23 x.toNatClampNeg)))) : FRM r rh A r' rh' (fun x => A x ∨ B x) := by
  have pz : ∀ y : Int32, -1 ≤ y → ¬ y = -1 → 0 ≤ y := fun y y0 y1 => by clear hI hA hr ho hV hB; grind
  refine ⟨le, fun z z0 z1 => ⟨fun q => Or.inl (by rw [hr z z0 z1]; exact q), fun _ => hr z z0 z1⟩, fun z z0 z1 nm _ => ?_, ⟨fun z z0 z1 nm hz => ?_, fun x hx => ?_⟩, hV, fun x hx => hx.elim Or.inl (fun k => Or.inr (hB x k).1.1)⟩
  · have q := ho z z0 z1
    exact ⟨q.1.1, q.2 nm, q.1.2.1, q.1.2.2.1, q.1.2.2.2⟩
  · rcases hz with k | k
    · have b := hA.2 z k
      have q := ho z z0 b.1.2
      have n := hI.2.2.2.1 z z0 b.1.2
      have c := hA.1 z z0 b.1.2 b.2.1 k
      rw [q.2 b.2.1, q.1.2.1]
      exact ⟨fun e => Or.inl (by rw [hr _ (pz _ n.2.2.1 e) n.2.2.2.1]; exact c.1 e), fun e => Or.inl (by rw [hr _ (pz _ n.2.2.2.2.1 e) n.2.2.2.2.2.1]; exact c.2 e)⟩
    · exact (hB z k).2.2
  · rcases hx with k | k
    · have b := hA.2 x k
      have q := ho x b.1.1 b.1.2
      rw [q.1.1, q.1.2.2.1, q.1.2.2.2]
      exact ⟨⟨b.1.1, zo3 b.1.2 le⟩, b.2⟩
    · have b := hB x k
      exact ⟨⟨zo2 hI.2.1 b.1.1, b.1.2⟩, b.2.1⟩
/-- two live ones made one -/
theorem FRM_uni (hI : GI a r rh ta N) (hI' : GI a' r' rh' ta' N') (hA : LV r rh A) (f : Fr [14, 15] [21, 22, 31] r r') (u : UFr r r' rh rh' A) (hV : ∀ ρ, cV r' ρ → cV r ρ) : FRM r rh A r' rh' (fun x => A x ∧ ¬ ar r' 21 x.toNatClampNeg = -2) := by
  have pz : ∀ y : Int32, -1 ≤ y → ¬ y = -1 → 0 ≤ y := fun y y0 y1 => by clear hI hI' hA f u hV; grind
  have e11 : fi r' 11 = fi r 11 := f.1 11 (by decide)
  have e23 : ar r' 23 = ar r 23 := f.2.1 23 (by decide)
  have e25 : ar r' 25 = ar r 25 := f.2.1 25 (by decide)
  have e26 : ar r' 26 = ar r 26 := f.2.1 26 (by decide)
  have nm' : ∀ z : Int32, 0 ≤ z → z < fi r 11 → ¬ ar r' 21 (rh' z).toNatClampNeg = -2 := fun z z0 z1 => (hI'.2.2.2.2.1.2 z z0 (by rw [e11]; exact z1)).2.2.1
  have im : ∀ z : Int32, 0 ≤ z → z < fi r 11 → A (rh z) → A (rh' z) := fun z z0 z1 q => (u.1 z z0 z1).elim (fun e => by rw [e]; exact q) (fun k => k.2)
  refine ⟨by rw [e11]; exact Int32.le_refl _, fun z z0 z1 => ⟨fun q => ⟨im z z0 z1 q, nm' z z0 z1⟩, fun q => (u.1 z z0 z1).resolve_right (fun k => q k.1)⟩, fun z z0 z1 nm na => ?_, ⟨fun z z0 z1 nm hz => ?_, fun x hx => ?_⟩, hV, fun x hx => Or.inl hx.1⟩
  · have k := u.2.1 z z0 z1 (u.2.2 z z0 z1 na nm)
    exact ⟨k.1, k.2, by rw [e23], by rw [e25], by rw [e26]⟩
  · rw [e11] at z1
    have k := u.2.1 z z0 z1 nm
    have n := hI.2.2.2.1 z z0 z1
    have c := hA.1 z z0 z1 (by rw [← k.1]; exact nm) hz.1
    rw [k.2, e23]
    exact ⟨fun e => ⟨im _ (pz _ n.2.2.1 e) n.2.2.2.1 (c.1 e), nm' _ (pz _ n.2.2.1 e) n.2.2.2.1⟩, fun e => ⟨im _ (pz _ n.2.2.2.2.1 e) n.2.2.2.2.2.1 (c.2 e), nm' _ (pz _ n.2.2.2.2.1 e) n.2.2.2.2.2.1⟩⟩
  · have b := hA.2 x hx.1
    rw [e11, e25, e26]
    exact ⟨b.1, hx.2, b.2.2⟩
end ZLIVE
