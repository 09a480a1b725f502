/-! What a call comes to may be said more weakly. -/
section MONO
theorem mo_and {A A' B B' : Prop} (h1 : A → A') (h2 : B → B') : A ∧ B → A' ∧ B' := fun h => ⟨h1 h.1, h2 h.2⟩
theorem mo_imp {c A A' : Prop} (h1 : A → A') : (c → A) → (c → A') := fun h z => h1 (h z)
theorem mo_all {B : Type} {A A' : B → Prop} (h1 : ∀ x, A x → A' x) : (∀ x, A x) → (∀ x, A' x) := fun h x => h1 x (h x)
theorem mo_ex {B : Type} {A A' : B → Prop} (h1 : ∀ x, A x → A' x) : (∃ x, A x) → (∃ x, A' x) := fun ⟨x, h⟩ => ⟨x, h1 x h⟩
theorem mn_qT_addConstructor {a : L_} {K K_ : Int32 → S_ → Prop} {r : S_} {p0 : Int32} (hK : ∀ (x0 : Int32) (x1 : S_), K x0 x1 → K_ x0 x1) : qT_addConstructor a K r p0 → qT_addConstructor a K_ r p0 := by
  unfold qT_addConstructor
  repeat' (first | (with_reducible exact id) | (with_reducible exact hK _ _) | (with_reducible refine mo_and ?_ ?_) | (with_reducible refine mo_imp ?_) | (with_reducible refine mo_all ?_) | (with_reducible refine mo_ex ?_) | (with_reducible intro _))
theorem mn_qI_constructor {a : L_} {K K_ : Int32 → S_ → Prop} {r : S_} {p0 : Int32} (hK : ∀ (x0 : Int32) (x1 : S_), K x0 x1 → K_ x0 x1) : qI_constructor a K r p0 → qI_constructor a K_ r p0 := by
  unfold qI_constructor
  repeat' (first | (with_reducible exact id) | (with_reducible exact hK _ _) | (with_reducible refine mn_qT_addConstructor ?_) | (with_reducible refine mo_and ?_ ?_) | (with_reducible refine mo_imp ?_) | (with_reducible refine mo_all ?_) | (with_reducible refine mo_ex ?_) | (with_reducible intro _))
theorem mn_qT_search_J48 {a : L_} {r : S_} {KB3 KB3_ : Int32 → Int32 → Int32 → Int32 → Prop} {KX45 KX45_ : Int32 → Prop} {KX54 KX54_ : Prop} {v1 : Int32} {v2 : Int32} {v3 : Int32} {v4 : Int32} (hKB3 : ∀ (x0 : Int32) (x1 : Int32) (x2 : Int32) (x3 : Int32), KB3 x0 x1 x2 x3 → KB3_ x0 x1 x2 x3) (hKX45 : ∀ (x0 : Int32), KX45 x0 → KX45_ x0) (hKX54 : KX54  → KX54_ ) : qT_search_J48 a r KB3 KX45 KX54 v1 v2 v3 v4 → qT_search_J48 a r KB3_ KX45_ KX54_ v1 v2 v3 v4 := by
  unfold qT_search_J48
  repeat' (first | (with_reducible exact id) | (with_reducible exact hKB3 _ _ _ _) | (with_reducible exact hKX45 _) | (with_reducible exact hKX54) | (with_reducible refine mo_and ?_ ?_) | (with_reducible refine mo_imp ?_) | (with_reducible refine mo_all ?_) | (with_reducible refine mo_ex ?_) | (with_reducible intro _))
theorem mn_qT_search_L3 {a : L_} {r : S_} {KX45 KX45_ : Int32 → Prop} {KX54 KX54_ : Prop} (hKX45 : ∀ (x0 : Int32), KX45 x0 → KX45_ x0) (hKX54 : KX54  → KX54_ ) : ∀ (n : Nat) (w0 : Int32) (w1 : Int32) (w2 : Int32) (w3 : Int32), qT_search_L3 a r KX45 KX54 n w0 w1 w2 w3 → qT_search_L3 a r KX45_ KX54_ n w0 w1 w2 w3 := by
  intro n
  induction n with
  | zero => intro w0 w1 w2 w3 h; exact h
  | succ n ih =>
    intro w0 w1 w2 w3
    rw [qT_search_L3, qT_search_L3]
    repeat' (first | (with_reducible exact id) | (with_reducible exact hKX45 _) | (with_reducible exact hKX54) | (with_reducible exact ih _ _ _ _) | (with_reducible refine mn_qT_search_J48 ?_ ?_ ?_) | (with_reducible refine mo_and ?_ ?_) | (with_reducible refine mo_imp ?_) | (with_reducible refine mo_all ?_) | (with_reducible refine mo_ex ?_) | (with_reducible intro _))
theorem mn_qT_search {a : L_} {r : S_} {K K_ : Int32 → Prop} {p0 : Int32} {p1 : Int32} {p2 : Int32} (hK : ∀ (x0 : Int32), K x0 → K_ x0) : qT_search a r K p0 p1 p2 → qT_search a r K_ p0 p1 p2 := by
  unfold qT_search
  repeat' (first | (with_reducible exact id) | (with_reducible exact hK _) | (with_reducible refine mn_qT_search_L3 ?_ ?_ _ _ _ _ _) | (with_reducible refine mo_and ?_ ?_) | (with_reducible refine mo_imp ?_) | (with_reducible refine mo_all ?_) | (with_reducible refine mo_ex ?_) | (with_reducible intro _))
theorem mn_qT_keep {a : L_} {K K_ : Int32 → S_ → Prop} {r : S_} {p0 : Int32} {p1 : Int32} {p2 : Int32} {p3 : Int32} {p4 : Int32} (hK : ∀ (x0 : Int32) (x1 : S_), K x0 x1 → K_ x0 x1) : qT_keep a K r p0 p1 p2 p3 p4 → qT_keep a K_ r p0 p1 p2 p3 p4 := by
  unfold qT_keep
  repeat' (first | (with_reducible exact id) | (with_reducible exact hK _ _) | (with_reducible refine mo_and ?_ ?_) | (with_reducible refine mo_imp ?_) | (with_reducible refine mo_all ?_) | (with_reducible refine mo_ex ?_) | (with_reducible intro _))
theorem mn_qT_addVariable {a : L_} {K K_ : Int32 → S_ → Prop} {r : S_} {p0 : Int32} (hK : ∀ (x0 : Int32) (x1 : S_), K x0 x1 → K_ x0 x1) : qT_addVariable a K r p0 → qT_addVariable a K_ r p0 := by
  unfold qT_addVariable
  repeat' (first | (with_reducible exact id) | (with_reducible exact hK _ _) | (with_reducible refine mn_qT_search ?_) | (with_reducible refine mn_qT_keep ?_) | (with_reducible refine mo_and ?_ ?_) | (with_reducible refine mo_imp ?_) | (with_reducible refine mo_all ?_) | (with_reducible refine mo_ex ?_) | (with_reducible intro _))
theorem mn_qI_variable {a : L_} {K K_ : Int32 → S_ → Prop} {r : S_} {p0 : Int32} (hK : ∀ (x0 : Int32) (x1 : S_), K x0 x1 → K_ x0 x1) : qI_variable a K r p0 → qI_variable a K_ r p0 := by
  unfold qI_variable
  repeat' (first | (with_reducible exact id) | (with_reducible exact hK _ _) | (with_reducible refine mn_qT_addVariable ?_) | (with_reducible refine mo_and ?_ ?_) | (with_reducible refine mo_imp ?_) | (with_reducible refine mo_all ?_) | (with_reducible refine mo_ex ?_) | (with_reducible intro _))
theorem mn_qT_hasConstructor {a : L_} {r : S_} {K K_ : Int32 → Prop} {p0 : Int32} (hK : ∀ (x0 : Int32), K x0 → K_ x0) : qT_hasConstructor a r K p0 → qT_hasConstructor a r K_ p0 := by
  unfold qT_hasConstructor
  repeat' (first | (with_reducible exact id) | (with_reducible exact hK _) | (with_reducible refine mo_and ?_ ?_) | (with_reducible refine mo_imp ?_) | (with_reducible refine mo_all ?_) | (with_reducible refine mo_ex ?_) | (with_reducible intro _))
theorem mn_qT_partsOf {a : L_} {r : S_} {K K_ : Int32 → Prop} {p0 : Int32} (hK : ∀ (x0 : Int32), K x0 → K_ x0) : qT_partsOf a r K p0 → qT_partsOf a r K_ p0 := by
  unfold qT_partsOf
  repeat' (first | (with_reducible exact id) | (with_reducible exact hK _) | (with_reducible refine mo_and ?_ ?_) | (with_reducible refine mo_imp ?_) | (with_reducible refine mo_all ?_) | (with_reducible refine mo_ex ?_) | (with_reducible intro _))
theorem mn_qT_hasType {a : L_} {r : S_} {K K_ : Int32 → Prop} {p0 : Int32} (hK : ∀ (x0 : Int32), K x0 → K_ x0) : qT_hasType a r K p0 → qT_hasType a r K_ p0 := by
  unfold qT_hasType
  repeat' (first | (with_reducible exact id) | (with_reducible exact hK _) | (with_reducible refine mo_and ?_ ?_) | (with_reducible refine mo_imp ?_) | (with_reducible refine mo_all ?_) | (with_reducible refine mo_ex ?_) | (with_reducible intro _))
theorem mn_qT_addBuilt_J83 {a : L_} {K K_ : Int32 → S_ → Prop} {r : S_} {v1 : Int32} {v2 : Int32} {v3 : Int32} {v5 : Int32} {u0 : Int32} {u1 : Int32} (hK : ∀ (x0 : Int32) (x1 : S_), K x0 x1 → K_ x0 x1) : qT_addBuilt_J83 a K r v1 v2 v3 v5 u0 u1 → qT_addBuilt_J83 a K_ r v1 v2 v3 v5 u0 u1 := by
  unfold qT_addBuilt_J83
  repeat' (first | (with_reducible exact id) | (with_reducible exact hK _ _) | (with_reducible refine mn_qT_keep ?_) | (with_reducible refine mo_and ?_ ?_) | (with_reducible refine mo_imp ?_) | (with_reducible refine mo_all ?_) | (with_reducible refine mo_ex ?_) | (with_reducible intro _))
theorem mn_qT_addBuilt_J68 {a : L_} {K K_ : Int32 → S_ → Prop} {r : S_} {v1 : Int32} {v2 : Int32} {v3 : Int32} {v5 : Int32} {u0 : Int32} (hK : ∀ (x0 : Int32) (x1 : S_), K x0 x1 → K_ x0 x1) : qT_addBuilt_J68 a K r v1 v2 v3 v5 u0 → qT_addBuilt_J68 a K_ r v1 v2 v3 v5 u0 := by
  unfold qT_addBuilt_J68
  repeat' (first | (with_reducible exact id) | (with_reducible exact hK _ _) | (with_reducible refine mn_qT_addBuilt_J83 ?_) | (with_reducible refine mo_and ?_ ?_) | (with_reducible refine mo_imp ?_) | (with_reducible refine mo_all ?_) | (with_reducible refine mo_ex ?_) | (with_reducible intro _))
theorem mn_qT_addBuilt_J50 {a : L_} {K K_ : Int32 → S_ → Prop} {r : S_} {v1 : Int32} {v2 : Int32} {v3 : Int32} {u0 : Int32} {u1 : Int32} (hK : ∀ (x0 : Int32) (x1 : S_), K x0 x1 → K_ x0 x1) : qT_addBuilt_J50 a K r v1 v2 v3 u0 u1 → qT_addBuilt_J50 a K_ r v1 v2 v3 u0 u1 := by
  unfold qT_addBuilt_J50
  repeat' (first | (with_reducible exact id) | (with_reducible exact hK _ _) | (with_reducible refine mn_qT_addBuilt_J68 ?_) | (with_reducible refine mo_and ?_ ?_) | (with_reducible refine mo_imp ?_) | (with_reducible refine mo_all ?_) | (with_reducible refine mo_ex ?_) | (with_reducible intro _))
theorem mn_qT_addBuilt_J34 {a : L_} {K K_ : Int32 → S_ → Prop} {r : S_} {v1 : Int32} {v2 : Int32} {v3 : Int32} {u0 : Int32} {u1 : Int32} (hK : ∀ (x0 : Int32) (x1 : S_), K x0 x1 → K_ x0 x1) : qT_addBuilt_J34 a K r v1 v2 v3 u0 u1 → qT_addBuilt_J34 a K_ r v1 v2 v3 u0 u1 := by
  unfold qT_addBuilt_J34
  repeat' (first | (with_reducible exact id) | (with_reducible exact hK _ _) | (with_reducible refine mn_qT_addBuilt_J50 ?_) | (with_reducible refine mo_and ?_ ?_) | (with_reducible refine mo_imp ?_) | (with_reducible refine mo_all ?_) | (with_reducible refine mo_ex ?_) | (with_reducible intro _))
theorem mn_qT_addBuilt {a : L_} {K K_ : Int32 → S_ → Prop} {r : S_} {p0 : Int32} {p1 : Int32} {p2 : Int32} (hK : ∀ (x0 : Int32) (x1 : S_), K x0 x1 → K_ x0 x1) : qT_addBuilt a K r p0 p1 p2 → qT_addBuilt a K_ r p0 p1 p2 := by
  unfold qT_addBuilt
  repeat' (first | (with_reducible exact id) | (with_reducible exact hK _ _) | (with_reducible refine mn_qT_search ?_) | (with_reducible refine mn_qT_addBuilt_J34 ?_) | (with_reducible refine mo_and ?_ ?_) | (with_reducible refine mo_imp ?_) | (with_reducible refine mo_all ?_) | (with_reducible refine mo_ex ?_) | (with_reducible intro _))
theorem mn_qI_type_J84 {a : L_} {K K_ : Int32 → S_ → Prop} {r : S_} {u0 : Int32} {u1 : Int32} {u2 : Int32} (hK : ∀ (x0 : Int32) (x1 : S_), K x0 x1 → K_ x0 x1) : qI_type_J84 a K r u0 u1 u2 → qI_type_J84 a K_ r u0 u1 u2 := by
  unfold qI_type_J84
  repeat' (first | (with_reducible exact id) | (with_reducible exact hK _ _) | (with_reducible refine mn_qT_addBuilt ?_) | (with_reducible refine mo_and ?_ ?_) | (with_reducible refine mo_imp ?_) | (with_reducible refine mo_all ?_) | (with_reducible refine mo_ex ?_) | (with_reducible intro _))
theorem mn_qI_type_J73 {a : L_} {K K_ : Int32 → S_ → Prop} {r : S_} {v3 : Int32} {v4 : Int32} {u0 : Int32} {u1 : Int32} (hK : ∀ (x0 : Int32) (x1 : S_), K x0 x1 → K_ x0 x1) : qI_type_J73 a K r v3 v4 u0 u1 → qI_type_J73 a K_ r v3 v4 u0 u1 := by
  unfold qI_type_J73
  repeat' (first | (with_reducible exact id) | (with_reducible exact hK _ _) | (with_reducible refine mn_qI_type_J84 ?_) | (with_reducible refine mo_and ?_ ?_) | (with_reducible refine mo_imp ?_) | (with_reducible refine mo_all ?_) | (with_reducible refine mo_ex ?_) | (with_reducible intro _))
theorem mn_qI_type_J58 {a : L_} {K K_ : Int32 → S_ → Prop} {r : S_} {v1 : Int32} {v2 : Int32} {v3 : Int32} {v4 : Int32} (hK : ∀ (x0 : Int32) (x1 : S_), K x0 x1 → K_ x0 x1) : qI_type_J58 a K r v1 v2 v3 v4 → qI_type_J58 a K_ r v1 v2 v3 v4 := by
  unfold qI_type_J58
  repeat' (first | (with_reducible exact id) | (with_reducible exact hK _ _) | (with_reducible refine mn_qI_type_J73 ?_) | (with_reducible refine mo_and ?_ ?_) | (with_reducible refine mo_imp ?_) | (with_reducible refine mo_all ?_) | (with_reducible refine mo_ex ?_) | (with_reducible intro _))
theorem mn_qI_type_J39 {a : L_} {K K_ : Int32 → S_ → Prop} {r : S_} {v1 : Int32} {v2 : Int32} {v3 : Int32} {v4 : Int32} (hK : ∀ (x0 : Int32) (x1 : S_), K x0 x1 → K_ x0 x1) : qI_type_J39 a K r v1 v2 v3 v4 → qI_type_J39 a K_ r v1 v2 v3 v4 := by
  unfold qI_type_J39
  repeat' (first | (with_reducible exact id) | (with_reducible exact hK _ _) | (with_reducible refine mn_qI_type_J58 ?_) | (with_reducible refine mn_qT_hasType ?_) | (with_reducible refine mo_and ?_ ?_) | (with_reducible refine mo_imp ?_) | (with_reducible refine mo_all ?_) | (with_reducible refine mo_ex ?_) | (with_reducible intro _))
theorem mn_qI_type {a : L_} {K K_ : Int32 → S_ → Prop} {r : S_} {p0 : Int32} {p1 : Int32} {p2 : Int32} (hK : ∀ (x0 : Int32) (x1 : S_), K x0 x1 → K_ x0 x1) : qI_type a K r p0 p1 p2 → qI_type a K_ r p0 p1 p2 := by
  unfold qI_type
  repeat' (first | (with_reducible exact id) | (with_reducible exact hK _ _) | (with_reducible refine mn_qT_hasConstructor ?_) | (with_reducible refine mn_qT_partsOf ?_) | (with_reducible refine mn_qI_type_J39 ?_) | (with_reducible refine mn_qT_hasType ?_) | (with_reducible refine mo_and ?_ ?_) | (with_reducible refine mo_imp ?_) | (with_reducible refine mo_all ?_) | (with_reducible refine mo_ex ?_) | (with_reducible intro _))
theorem mn_qK_hasClass {a : L_} {r : S_} {K K_ : Int32 → Prop} {p0 : Int32} (hK : ∀ (x0 : Int32), K x0 → K_ x0) : qK_hasClass a r K p0 → qK_hasClass a r K_ p0 := by
  unfold qK_hasClass
  repeat' (first | (with_reducible exact id) | (with_reducible exact hK _) | (with_reducible refine mo_and ?_ ?_) | (with_reducible refine mo_imp ?_) | (with_reducible refine mo_all ?_) | (with_reducible refine mo_ex ?_) | (with_reducible intro _))
theorem mn_qK_addClass_J51 {a : L_} {K K_ : Int32 → S_ → Prop} {r : S_} {u0 : Int32} {u1 : Int32} {u2 : Int32} (hK : ∀ (x0 : Int32) (x1 : S_), K x0 x1 → K_ x0 x1) : qK_addClass_J51 a K r u0 u1 u2 → qK_addClass_J51 a K_ r u0 u1 u2 := by
  unfold qK_addClass_J51
  repeat' (first | (with_reducible exact id) | (with_reducible exact hK _ _) | (with_reducible refine mo_and ?_ ?_) | (with_reducible refine mo_imp ?_) | (with_reducible refine mo_all ?_) | (with_reducible refine mo_ex ?_) | (with_reducible intro _))
theorem mn_qK_addClass {a : L_} {K K_ : Int32 → S_ → Prop} {r : S_} {p0 : Int32} (hK : ∀ (x0 : Int32) (x1 : S_), K x0 x1 → K_ x0 x1) : qK_addClass a K r p0 → qK_addClass a K_ r p0 := by
  unfold qK_addClass
  repeat' (first | (with_reducible exact id) | (with_reducible exact hK _ _) | (with_reducible refine mn_qK_addClass_J51 ?_) | (with_reducible refine mo_and ?_ ?_) | (with_reducible refine mo_imp ?_) | (with_reducible refine mo_all ?_) | (with_reducible refine mo_ex ?_) | (with_reducible intro _))
theorem mn_qI_class0_J18 {a : L_} {K K_ : Int32 → S_ → Prop} {r : S_} {v1 : Int32} (hK : ∀ (x0 : Int32) (x1 : S_), K x0 x1 → K_ x0 x1) : qI_class0_J18 a K r v1 → qI_class0_J18 a K_ r v1 := by
  unfold qI_class0_J18
  repeat' (first | (with_reducible exact id) | (with_reducible exact hK _ _) | (with_reducible refine mn_qK_addClass ?_) | (with_reducible refine mo_and ?_ ?_) | (with_reducible refine mo_imp ?_) | (with_reducible refine mo_all ?_) | (with_reducible refine mo_ex ?_) | (with_reducible intro _))
theorem mn_qI_class0 {a : L_} {K K_ : Int32 → S_ → Prop} {r : S_} {p0 : Int32} (hK : ∀ (x0 : Int32) (x1 : S_), K x0 x1 → K_ x0 x1) : qI_class0 a K r p0 → qI_class0 a K_ r p0 := by
  unfold qI_class0
  repeat' (first | (with_reducible exact id) | (with_reducible exact hK _ _) | (with_reducible refine mn_qI_class0_J18 ?_) | (with_reducible refine mn_qK_hasClass ?_) | (with_reducible refine mo_and ?_ ?_) | (with_reducible refine mo_imp ?_) | (with_reducible refine mo_all ?_) | (with_reducible refine mo_ex ?_) | (with_reducible intro _))
theorem mn_qK_methodOf {a : L_} {r : S_} {K K_ : Int32 → Prop} {p0 : Int32} (hK : ∀ (x0 : Int32), K x0 → K_ x0) : qK_methodOf a r K p0 → qK_methodOf a r K_ p0 := by
  unfold qK_methodOf
  repeat' (first | (with_reducible exact id) | (with_reducible exact hK _) | (with_reducible refine mo_and ?_ ?_) | (with_reducible refine mo_imp ?_) | (with_reducible refine mo_all ?_) | (with_reducible refine mo_ex ?_) | (with_reducible intro _))
theorem mn_qT_holdsVariable {a : L_} {r : S_} {K K_ : Int32 → Prop} {p0 : Int32} {p1 : Int32} (hK : ∀ (x0 : Int32), K x0 → K_ x0) : qT_holdsVariable a r K p0 p1 → qT_holdsVariable a r K_ p0 p1 := by
  unfold qT_holdsVariable
  repeat' (first | (with_reducible exact id) | (with_reducible exact hK _) | (with_reducible refine mo_and ?_ ?_) | (with_reducible refine mo_imp ?_) | (with_reducible refine mo_all ?_) | (with_reducible refine mo_ex ?_) | (with_reducible intro _))
theorem mn_qK_setMethod {a : L_} {K K_ : S_ → Prop} {r : S_} {p0 : Int32} {p1 : Int32} (hK : ∀ (x0 : S_), K x0 → K_ x0) : qK_setMethod a K r p0 p1 → qK_setMethod a K_ r p0 p1 := by
  unfold qK_setMethod
  repeat' (first | (with_reducible exact id) | (with_reducible exact hK _) | (with_reducible refine mo_and ?_ ?_) | (with_reducible refine mo_imp ?_) | (with_reducible refine mo_all ?_) | (with_reducible refine mo_ex ?_) | (with_reducible intro _))
theorem mn_qI_method {a : L_} {K K_ : Int32 → S_ → Prop} {r : S_} {p0 : Int32} {p1 : Int32} (hK : ∀ (x0 : Int32) (x1 : S_), K x0 x1 → K_ x0 x1) : qI_method a K r p0 p1 → qI_method a K_ r p0 p1 := by
  unfold qI_method
  repeat' (first | (with_reducible exact id) | (with_reducible exact hK _ _) | (with_reducible refine mn_qK_hasClass ?_) | (with_reducible refine mn_qT_hasType ?_) | (with_reducible refine mn_qK_methodOf ?_) | (with_reducible refine mn_qT_holdsVariable ?_) | (with_reducible refine mn_qK_setMethod ?_) | (with_reducible refine mo_and ?_ ?_) | (with_reducible refine mo_imp ?_) | (with_reducible refine mo_all ?_) | (with_reducible refine mo_ex ?_) | (with_reducible intro _))
theorem mn_qK_areClasses {a : L_} {r : S_} {K K_ : Int32 → Prop} {p0 : Int32} (hK : ∀ (x0 : Int32), K x0 → K_ x0) : qK_areClasses a r K p0 → qK_areClasses a r K_ p0 := by
  unfold qK_areClasses
  repeat' (first | (with_reducible exact id) | (with_reducible exact hK _) | (with_reducible refine mo_and ?_ ?_) | (with_reducible refine mo_imp ?_) | (with_reducible refine mo_all ?_) | (with_reducible refine mo_ex ?_) | (with_reducible intro _))
theorem mn_qK_slot {a : L_} {r : S_} {K K_ : Int32 → Prop} {p0 : Int32} {p1 : Int32} (hK : ∀ (x0 : Int32), K x0 → K_ x0) : qK_slot a r K p0 p1 → qK_slot a r K_ p0 p1 := by
  unfold qK_slot
  repeat' (first | (with_reducible exact id) | (with_reducible exact hK _) | (with_reducible refine mo_and ?_ ?_) | (with_reducible refine mo_imp ?_) | (with_reducible refine mo_all ?_) | (with_reducible refine mo_ex ?_) | (with_reducible intro _))
theorem mn_qK_reaches_J33 {a : L_} {r : S_} {KB5 KB5_ : Int32 → Int32 → Int32 → Int32 → Prop} {KX39 KX39_ : Int32 → Int32 → Prop} {v1 : Int32} {v2 : Int32} {v3 : Int32} {v4 : Int32} (hKB5 : ∀ (x0 : Int32) (x1 : Int32) (x2 : Int32) (x3 : Int32), KB5 x0 x1 x2 x3 → KB5_ x0 x1 x2 x3) (hKX39 : ∀ (x0 : Int32) (x1 : Int32), KX39 x0 x1 → KX39_ x0 x1) : qK_reaches_J33 a r KB5 KX39 v1 v2 v3 v4 → qK_reaches_J33 a r KB5_ KX39_ v1 v2 v3 v4 := by
  unfold qK_reaches_J33
  repeat' (first | (with_reducible exact id) | (with_reducible exact hKB5 _ _ _ _) | (with_reducible exact hKX39 _ _) | (with_reducible refine mo_and ?_ ?_) | (with_reducible refine mo_imp ?_) | (with_reducible refine mo_all ?_) | (with_reducible refine mo_ex ?_) | (with_reducible intro _))
theorem mn_qK_reaches_L5 {a : L_} {r : S_} {KX39 KX39_ : Int32 → Int32 → Prop} (hKX39 : ∀ (x0 : Int32) (x1 : Int32), KX39 x0 x1 → KX39_ x0 x1) : ∀ (n : Nat) (w0 : Int32) (w1 : Int32) (w2 : Int32) (w3 : Int32), qK_reaches_L5 a r KX39 n w0 w1 w2 w3 → qK_reaches_L5 a r KX39_ n w0 w1 w2 w3 := by
  intro n
  induction n with
  | zero => intro w0 w1 w2 w3 h; exact h
  | succ n ih =>
    intro w0 w1 w2 w3
    rw [qK_reaches_L5, qK_reaches_L5]
    repeat' (first | (with_reducible exact id) | (with_reducible exact hKX39 _ _) | (with_reducible exact ih _ _ _ _) | (with_reducible refine mn_qK_reaches_J33 ?_ ?_) | (with_reducible refine mo_and ?_ ?_) | (with_reducible refine mo_imp ?_) | (with_reducible refine mo_all ?_) | (with_reducible refine mo_ex ?_) | (with_reducible intro _))
theorem mn_qK_reaches {a : L_} {r : S_} {K K_ : Int32 → Prop} {p0 : Int32} {p1 : Int32} (hK : ∀ (x0 : Int32), K x0 → K_ x0) : qK_reaches a r K p0 p1 → qK_reaches a r K_ p0 p1 := by
  unfold qK_reaches
  repeat' (first | (with_reducible exact id) | (with_reducible exact hK _) | (with_reducible refine mn_qK_reaches_L5 ?_ _ _ _ _ _) | (with_reducible refine mo_and ?_ ?_) | (with_reducible refine mo_imp ?_) | (with_reducible refine mo_all ?_) | (with_reducible refine mo_ex ?_) | (with_reducible intro _))
theorem mn_qK_fits {a : L_} {r : S_} {K K_ : Int32 → Prop} {p0 : Int32} {p1 : Int32} {p2 : Int32} {p3 : Int32} (hK : ∀ (x0 : Int32), K x0 → K_ x0) : qK_fits a r K p0 p1 p2 p3 → qK_fits a r K_ p0 p1 p2 p3 := by
  unfold qK_fits
  repeat' (first | (with_reducible exact id) | (with_reducible exact hK _) | (with_reducible refine mn_qK_slot ?_) | (with_reducible refine mn_qK_reaches ?_) | (with_reducible refine mo_and ?_ ?_) | (with_reducible refine mo_imp ?_) | (with_reducible refine mo_all ?_) | (with_reducible refine mo_ex ?_) | (with_reducible intro _))
theorem mn_qK_addInstance {a : L_} {K K_ : Int32 → S_ → Prop} {r : S_} {p0 : Int32} {p1 : Int32} {p2 : Int32} {p3 : Int32} (hK : ∀ (x0 : Int32) (x1 : S_), K x0 x1 → K_ x0 x1) : qK_addInstance a K r p0 p1 p2 p3 → qK_addInstance a K_ r p0 p1 p2 p3 := by
  unfold qK_addInstance
  repeat' (first | (with_reducible exact id) | (with_reducible exact hK _ _) | (with_reducible refine mn_qK_fits ?_) | (with_reducible refine mn_qK_slot ?_) | (with_reducible refine mo_and ?_ ?_) | (with_reducible refine mo_imp ?_) | (with_reducible refine mo_all ?_) | (with_reducible refine mo_ex ?_) | (with_reducible intro _))
theorem mn_qI_instance_J87 {a : L_} {K K_ : Int32 → S_ → Prop} {r : S_} {u0 : Int32} {u1 : Int32} {u2 : Int32} {u3 : Int32} (hK : ∀ (x0 : Int32) (x1 : S_), K x0 x1 → K_ x0 x1) : qI_instance_J87 a K r u0 u1 u2 u3 → qI_instance_J87 a K_ r u0 u1 u2 u3 := by
  unfold qI_instance_J87
  repeat' (first | (with_reducible exact id) | (with_reducible exact hK _ _) | (with_reducible refine mn_qK_addInstance ?_) | (with_reducible refine mo_and ?_ ?_) | (with_reducible refine mo_imp ?_) | (with_reducible refine mo_all ?_) | (with_reducible refine mo_ex ?_) | (with_reducible intro _))
theorem mn_qI_instance_J75 {a : L_} {K K_ : Int32 → S_ → Prop} {r : S_} {v4 : Int32} {v5 : Int32} {u0 : Int32} {u1 : Int32} {u2 : Int32} (hK : ∀ (x0 : Int32) (x1 : S_), K x0 x1 → K_ x0 x1) : qI_instance_J75 a K r v4 v5 u0 u1 u2 → qI_instance_J75 a K_ r v4 v5 u0 u1 u2 := by
  unfold qI_instance_J75
  repeat' (first | (with_reducible exact id) | (with_reducible exact hK _ _) | (with_reducible refine mn_qI_instance_J87 ?_) | (with_reducible refine mo_and ?_ ?_) | (with_reducible refine mo_imp ?_) | (with_reducible refine mo_all ?_) | (with_reducible refine mo_ex ?_) | (with_reducible intro _))
theorem mn_qI_instance {a : L_} {K K_ : Int32 → S_ → Prop} {r : S_} {p0 : Int32} {p1 : Int32} {p2 : Int32} {p3 : Int32} (hK : ∀ (x0 : Int32) (x1 : S_), K x0 x1 → K_ x0 x1) : qI_instance a K r p0 p1 p2 p3 → qI_instance a K_ r p0 p1 p2 p3 := by
  unfold qI_instance
  repeat' (first | (with_reducible exact id) | (with_reducible exact hK _ _) | (with_reducible refine mn_qK_hasClass ?_) | (with_reducible refine mn_qT_hasConstructor ?_) | (with_reducible refine mn_qK_areClasses ?_) | (with_reducible refine mn_qT_partsOf ?_) | (with_reducible refine mn_qI_instance_J75 ?_) | (with_reducible refine mo_and ?_ ?_) | (with_reducible refine mo_imp ?_) | (with_reducible refine mo_all ?_) | (with_reducible refine mo_ex ?_) | (with_reducible intro _))
theorem mn_qI_isName {a : L_} {r : S_} {K K_ : Int32 → Prop} {p0 : Int32} (hK : ∀ (x0 : Int32), K x0 → K_ x0) : qI_isName a r K p0 → qI_isName a r K_ p0 := by
  unfold qI_isName
  repeat' (first | (with_reducible exact id) | (with_reducible exact hK _) | (with_reducible refine mo_and ?_ ?_) | (with_reducible refine mo_imp ?_) | (with_reducible refine mo_all ?_) | (with_reducible refine mo_ex ?_) | (with_reducible intro _))
theorem mn_qE_has {a : L_} {r : S_} {K K_ : Int32 → Prop} {p0 : Int32} (hK : ∀ (x0 : Int32), K x0 → K_ x0) : qE_has a r K p0 → qE_has a r K_ p0 := by
  unfold qE_has
  repeat' (first | (with_reducible exact id) | (with_reducible exact hK _) | (with_reducible refine mo_and ?_ ?_) | (with_reducible refine mo_imp ?_) | (with_reducible refine mo_all ?_) | (with_reducible refine mo_ex ?_) | (with_reducible intro _))
theorem mn_qI_mayStand {a : L_} {r : S_} {K K_ : Int32 → Prop} {p0 : Int32} {p1 : Int32} {p2 : Int32} {p3 : Int32} (hK : ∀ (x0 : Int32), K x0 → K_ x0) : qI_mayStand a r K p0 p1 p2 p3 → qI_mayStand a r K_ p0 p1 p2 p3 := by
  unfold qI_mayStand
  repeat' (first | (with_reducible exact id) | (with_reducible exact hK _) | (with_reducible refine mn_qI_isName ?_) | (with_reducible refine mn_qE_has ?_) | (with_reducible refine mn_qK_hasClass ?_) | (with_reducible refine mn_qK_methodOf ?_) | (with_reducible refine mn_qT_hasType ?_) | (with_reducible refine mo_and ?_ ?_) | (with_reducible refine mo_imp ?_) | (with_reducible refine mo_all ?_) | (with_reducible refine mo_ex ?_) | (with_reducible intro _))
theorem mn_qE_nodesOfParts {a : L_} {r : S_} {K K_ : Int32 → Prop} {p0 : Int32} (hK : ∀ (x0 : Int32), K x0 → K_ x0) : qE_nodesOfParts a r K p0 → qE_nodesOfParts a r K_ p0 := by
  unfold qE_nodesOfParts
  repeat' (first | (with_reducible exact id) | (with_reducible exact hK _) | (with_reducible refine mo_and ?_ ?_) | (with_reducible refine mo_imp ?_) | (with_reducible refine mo_all ?_) | (with_reducible refine mo_ex ?_) | (with_reducible intro _))
theorem mn_qE_add {a : L_} {K K_ : Int32 → S_ → Prop} {r : S_} {p0 : Int32} {p1 : Int32} {p2 : Int32} {p3 : Int32} (hK : ∀ (x0 : Int32) (x1 : S_), K x0 x1 → K_ x0 x1) : qE_add a K r p0 p1 p2 p3 → qE_add a K_ r p0 p1 p2 p3 := by
  unfold qE_add
  repeat' (first | (with_reducible exact id) | (with_reducible exact hK _ _) | (with_reducible refine mn_qE_nodesOfParts ?_) | (with_reducible refine mo_and ?_ ?_) | (with_reducible refine mo_imp ?_) | (with_reducible refine mo_all ?_) | (with_reducible refine mo_ex ?_) | (with_reducible intro _))
theorem mn_qI_expression {a : L_} {K K_ : Int32 → S_ → Prop} {r : S_} {p0 : Int32} {p1 : Int32} {p2 : Int32} {p3 : Int32} (hK : ∀ (x0 : Int32) (x1 : S_), K x0 x1 → K_ x0 x1) : qI_expression a K r p0 p1 p2 p3 → qI_expression a K_ r p0 p1 p2 p3 := by
  unfold qI_expression
  repeat' (first | (with_reducible exact id) | (with_reducible exact hK _ _) | (with_reducible refine mn_qI_mayStand ?_) | (with_reducible refine mn_qE_add ?_) | (with_reducible refine mo_and ?_ ?_) | (with_reducible refine mo_imp ?_) | (with_reducible refine mo_all ?_) | (with_reducible refine mo_ex ?_) | (with_reducible intro _))
theorem mn_qD_sizeOf {a : L_} {r : S_} {K K_ : Int64 → Prop} {p0 : Int32} (hK : ∀ (x0 : Int64), K x0 → K_ x0) : qD_sizeOf a r K p0 → qD_sizeOf a r K_ p0 := by
  unfold qD_sizeOf
  repeat' (first | (with_reducible exact id) | (with_reducible exact hK _) | (with_reducible refine mo_and ?_ ?_) | (with_reducible refine mo_imp ?_) | (with_reducible refine mo_all ?_) | (with_reducible refine mo_ex ?_) | (with_reducible intro _))
theorem mn_qD_headAt_J102 {a : L_} {r : S_} {KB43 KB43_ : Int32 → Int32 → Int32 → Prop} {KX108 KX108_ : Int32 → Prop} {v2 : Int32} {v3 : Int32} {v4 : Int32} (hKB43 : ∀ (x0 : Int32) (x1 : Int32) (x2 : Int32), KB43 x0 x1 x2 → KB43_ x0 x1 x2) (hKX108 : ∀ (x0 : Int32), KX108 x0 → KX108_ x0) : qD_headAt_J102 a r KB43 KX108 v2 v3 v4 → qD_headAt_J102 a r KB43_ KX108_ v2 v3 v4 := by
  unfold qD_headAt_J102
  repeat' (first | (with_reducible exact id) | (with_reducible exact hKB43 _ _ _) | (with_reducible exact hKX108 _) | (with_reducible refine mo_and ?_ ?_) | (with_reducible refine mo_imp ?_) | (with_reducible refine mo_all ?_) | (with_reducible refine mo_ex ?_) | (with_reducible intro _))
theorem mn_qD_headAt_L43 {a : L_} {r : S_} {KX108 KX108_ : Int32 → Prop} (hKX108 : ∀ (x0 : Int32), KX108 x0 → KX108_ x0) : ∀ (n : Nat) (w0 : Int32) (w1 : Int32) (w2 : Int32), qD_headAt_L43 a r KX108 n w0 w1 w2 → qD_headAt_L43 a r KX108_ n w0 w1 w2 := by
  intro n
  induction n with
  | zero => intro w0 w1 w2 h; exact h
  | succ n ih =>
    intro w0 w1 w2
    rw [qD_headAt_L43, qD_headAt_L43]
    repeat' (first | (with_reducible exact id) | (with_reducible exact hKX108 _) | (with_reducible exact ih _ _ _) | (with_reducible refine mn_qD_sizeOf ?_) | (with_reducible refine mn_qD_headAt_J102 ?_ ?_) | (with_reducible refine mo_and ?_ ?_) | (with_reducible refine mo_imp ?_) | (with_reducible refine mo_all ?_) | (with_reducible refine mo_ex ?_) | (with_reducible intro _))
theorem mn_qD_headAt_J108 {a : L_} {r : S_} {K K_ : Int32 → Prop} {v2 : Int32} (hK : ∀ (x0 : Int32), K x0 → K_ x0) : qD_headAt_J108 a r K v2 → qD_headAt_J108 a r K_ v2 := by
  unfold qD_headAt_J108
  repeat' (first | (with_reducible exact id) | (with_reducible exact hK _) | (with_reducible refine mo_and ?_ ?_) | (with_reducible refine mo_imp ?_) | (with_reducible refine mo_all ?_) | (with_reducible refine mo_ex ?_) | (with_reducible intro _))
theorem mn_qD_headAt {a : L_} {r : S_} {K K_ : Int32 → Prop} {p0 : Int32} (hK : ∀ (x0 : Int32), K x0 → K_ x0) : qD_headAt a r K p0 → qD_headAt a r K_ p0 := by
  unfold qD_headAt
  repeat' (first | (with_reducible exact id) | (with_reducible exact hK _) | (with_reducible refine mn_qD_headAt_L43 ?_ _ _ _ _) | (with_reducible refine mn_qD_headAt_J108 ?_) | (with_reducible refine mo_and ?_ ?_) | (with_reducible refine mo_imp ?_) | (with_reducible refine mo_all ?_) | (with_reducible refine mo_ex ?_) | (with_reducible intro _))
theorem mn_qI_shape {a : L_} {r : S_} {K K_ : Int32 → Prop} {p0 : Int32} (hK : ∀ (x0 : Int32), K x0 → K_ x0) : qI_shape a r K p0 → qI_shape a r K_ p0 := by
  unfold qI_shape
  repeat' (first | (with_reducible exact id) | (with_reducible exact hK _) | (with_reducible refine mn_qD_headAt ?_) | (with_reducible refine mo_and ?_ ?_) | (with_reducible refine mo_imp ?_) | (with_reducible refine mo_all ?_) | (with_reducible refine mo_ex ?_) | (with_reducible intro _))
theorem mn_qD_wantCount {a : L_} {r : S_} {K K_ : Int32 → Prop} (hK : ∀ (x0 : Int32), K x0 → K_ x0) : qD_wantCount a r K → qD_wantCount a r K_ := by
  unfold qD_wantCount
  repeat' (first | (with_reducible exact id) | (with_reducible exact hK _) | (with_reducible refine mo_and ?_ ?_) | (with_reducible refine mo_imp ?_) | (with_reducible refine mo_all ?_) | (with_reducible refine mo_ex ?_) | (with_reducible intro _))
theorem mn_qI_wants {a : L_} {r : S_} {K K_ : Int32 → Prop} (hK : ∀ (x0 : Int32), K x0 → K_ x0) : qI_wants a r K → qI_wants a r K_ := by
  unfold qI_wants
  repeat' (first | (with_reducible exact id) | (with_reducible exact hK _) | (with_reducible refine mn_qD_wantCount ?_) | (with_reducible refine mo_and ?_ ?_) | (with_reducible refine mo_imp ?_) | (with_reducible refine mo_all ?_) | (with_reducible refine mo_ex ?_) | (with_reducible intro _))
theorem mn_qD_wantAt_J61 {a : L_} {r : S_} {KB17 KB17_ : Int32 → Int32 → Int32 → Int32 → Prop} {KX46 KX46_ : Int32 → Int32 → Int32 → Prop} {KX67 KX67_ : Int32 → Int32 → Int32 → Prop} {v2 : Int32} {v3 : Int32} {v4 : Int32} {v5 : Int32} (hKB17 : ∀ (x0 : Int32) (x1 : Int32) (x2 : Int32) (x3 : Int32), KB17 x0 x1 x2 x3 → KB17_ x0 x1 x2 x3) (hKX46 : ∀ (x0 : Int32) (x1 : Int32) (x2 : Int32), KX46 x0 x1 x2 → KX46_ x0 x1 x2) (hKX67 : ∀ (x0 : Int32) (x1 : Int32) (x2 : Int32), KX67 x0 x1 x2 → KX67_ x0 x1 x2) : qD_wantAt_J61 a r KB17 KX46 KX67 v2 v3 v4 v5 → qD_wantAt_J61 a r KB17_ KX46_ KX67_ v2 v3 v4 v5 := by
  unfold qD_wantAt_J61
  repeat' (first | (with_reducible exact id) | (with_reducible exact hKB17 _ _ _ _) | (with_reducible exact hKX46 _ _ _) | (with_reducible exact hKX67 _ _ _) | (with_reducible refine mo_and ?_ ?_) | (with_reducible refine mo_imp ?_) | (with_reducible refine mo_all ?_) | (with_reducible refine mo_ex ?_) | (with_reducible intro _))
theorem mn_qD_wantAt_L17 {a : L_} {r : S_} {KX46 KX46_ : Int32 → Int32 → Int32 → Prop} {KX67 KX67_ : Int32 → Int32 → Int32 → Prop} (hKX46 : ∀ (x0 : Int32) (x1 : Int32) (x2 : Int32), KX46 x0 x1 x2 → KX46_ x0 x1 x2) (hKX67 : ∀ (x0 : Int32) (x1 : Int32) (x2 : Int32), KX67 x0 x1 x2 → KX67_ x0 x1 x2) : ∀ (n : Nat) (w0 : Int32) (w1 : Int32) (w2 : Int32) (w3 : Int32), qD_wantAt_L17 a r KX46 KX67 n w0 w1 w2 w3 → qD_wantAt_L17 a r KX46_ KX67_ n w0 w1 w2 w3 := by
  intro n
  induction n with
  | zero => intro w0 w1 w2 w3 h; exact h
  | succ n ih =>
    intro w0 w1 w2 w3
    rw [qD_wantAt_L17, qD_wantAt_L17]
    repeat' (first | (with_reducible exact id) | (with_reducible exact hKX46 _ _ _) | (with_reducible exact hKX67 _ _ _) | (with_reducible exact ih _ _ _ _) | (with_reducible refine mn_qD_wantAt_J61 ?_ ?_ ?_) | (with_reducible refine mo_and ?_ ?_) | (with_reducible refine mo_imp ?_) | (with_reducible refine mo_all ?_) | (with_reducible refine mo_ex ?_) | (with_reducible intro _))
theorem mn_qD_wantAt_L5 {a : L_} {r : S_} {KX46 KX46_ : Int32 → Int32 → Int32 → Prop} {KX73 KX73_ : Prop} (hKX46 : ∀ (x0 : Int32) (x1 : Int32) (x2 : Int32), KX46 x0 x1 x2 → KX46_ x0 x1 x2) (hKX73 : KX73  → KX73_ ) : ∀ (n : Nat) (w0 : Int32) (w1 : Int32) (w2 : Int32), qD_wantAt_L5 a r KX46 KX73 n w0 w1 w2 → qD_wantAt_L5 a r KX46_ KX73_ n w0 w1 w2 := by
  intro n
  induction n with
  | zero => intro w0 w1 w2 h; exact h
  | succ n ih =>
    intro w0 w1 w2
    rw [qD_wantAt_L5, qD_wantAt_L5]
    repeat' (first | (with_reducible exact id) | (with_reducible exact hKX46 _ _ _) | (with_reducible exact hKX73) | (with_reducible exact ih _ _ _) | (with_reducible refine mn_qD_wantAt_L17 ?_ ?_ _ _ _ _ _) | (with_reducible refine mo_and ?_ ?_) | (with_reducible refine mo_imp ?_) | (with_reducible refine mo_all ?_) | (with_reducible refine mo_ex ?_) | (with_reducible intro _))
theorem mn_qD_wantAt {a : L_} {r : S_} {K K_ : Int32 → Prop} {p0 : Int32} {p1 : Int32} (hK : ∀ (x0 : Int32), K x0 → K_ x0) : qD_wantAt a r K p0 p1 → qD_wantAt a r K_ p0 p1 := by
  unfold qD_wantAt
  repeat' (first | (with_reducible exact id) | (with_reducible exact hK _) | (with_reducible refine mn_qD_wantAt_L5 ?_ ?_ _ _ _ _) | (with_reducible refine mo_and ?_ ?_) | (with_reducible refine mo_imp ?_) | (with_reducible refine mo_all ?_) | (with_reducible refine mo_ex ?_) | (with_reducible intro _))
theorem mn_qI_want {a : L_} {r : S_} {K K_ : Int32 → Prop} {p0 : Int32} {p1 : Int32} (hK : ∀ (x0 : Int32), K x0 → K_ x0) : qI_want a r K p0 p1 → qI_want a r K_ p0 p1 := by
  unfold qI_want
  repeat' (first | (with_reducible exact id) | (with_reducible exact hK _) | (with_reducible refine mn_qD_wantCount ?_) | (with_reducible refine mn_qD_wantAt ?_) | (with_reducible refine mo_and ?_ ?_) | (with_reducible refine mo_imp ?_) | (with_reducible refine mo_all ?_) | (with_reducible refine mo_ex ?_) | (with_reducible intro _))
theorem mn_qD_handedOver {a : L_} {r : S_} {K K_ : Int32 → Prop} (hK : ∀ (x0 : Int32), K x0 → K_ x0) : qD_handedOver a r K → qD_handedOver a r K_ := by
  unfold qD_handedOver
  repeat' (first | (with_reducible exact id) | (with_reducible exact hK _) | (with_reducible refine mo_and ?_ ?_) | (with_reducible refine mo_imp ?_) | (with_reducible refine mo_all ?_) | (with_reducible refine mo_ex ?_) | (with_reducible intro _))
theorem mn_qI_passes {a : L_} {r : S_} {K K_ : Int32 → Prop} (hK : ∀ (x0 : Int32), K x0 → K_ x0) : qI_passes a r K → qI_passes a r K_ := by
  unfold qI_passes
  repeat' (first | (with_reducible exact id) | (with_reducible exact hK _) | (with_reducible refine mn_qD_handedOver ?_) | (with_reducible refine mo_and ?_ ?_) | (with_reducible refine mo_imp ?_) | (with_reducible refine mo_all ?_) | (with_reducible refine mo_ex ?_) | (with_reducible intro _))
theorem mn_qI_under {a : L_} {r : S_} {K K_ : Int32 → Prop} {p0 : Int32} {p1 : Int32} (hK : ∀ (x0 : Int32), K x0 → K_ x0) : qI_under a r K p0 p1 → qI_under a r K_ p0 p1 := by
  unfold qI_under
  repeat' (first | (with_reducible exact id) | (with_reducible exact hK _) | (with_reducible refine mn_qK_hasClass ?_) | (with_reducible refine mn_qK_reaches ?_) | (with_reducible refine mo_and ?_ ?_) | (with_reducible refine mo_imp ?_) | (with_reducible refine mo_all ?_) | (with_reducible refine mo_ex ?_) | (with_reducible intro _))
theorem mn_qI_types {a : L_} {r : S_} {K K_ : Int32 → Prop} (hK : ∀ (x0 : Int32), K x0 → K_ x0) : qI_types a r K → qI_types a r K_ := by
  unfold qI_types
  repeat' (first | (with_reducible exact id) | (with_reducible exact hK _) | (with_reducible refine mo_and ?_ ?_) | (with_reducible refine mo_imp ?_) | (with_reducible refine mo_all ?_) | (with_reducible refine mo_ex ?_) | (with_reducible intro _))
theorem mn_qI_classes {a : L_} {r : S_} {K K_ : Int32 → Prop} (hK : ∀ (x0 : Int32), K x0 → K_ x0) : qI_classes a r K → qI_classes a r K_ := by
  unfold qI_classes
  repeat' (first | (with_reducible exact id) | (with_reducible exact hK _) | (with_reducible refine mo_and ?_ ?_) | (with_reducible refine mo_imp ?_) | (with_reducible refine mo_all ?_) | (with_reducible refine mo_ex ?_) | (with_reducible intro _))
theorem mn_qI_expressions {a : L_} {r : S_} {K K_ : Int32 → Prop} (hK : ∀ (x0 : Int32), K x0 → K_ x0) : qI_expressions a r K → qI_expressions a r K_ := by
  unfold qI_expressions
  repeat' (first | (with_reducible exact id) | (with_reducible exact hK _) | (with_reducible refine mo_and ?_ ?_) | (with_reducible refine mo_imp ?_) | (with_reducible refine mo_all ?_) | (with_reducible refine mo_ex ?_) | (with_reducible intro _))
theorem mn_qT_holdsVariables {a : L_} {r : S_} {K K_ : Int32 → Prop} {p0 : Int32} (hK : ∀ (x0 : Int32), K x0 → K_ x0) : qT_holdsVariables a r K p0 → qT_holdsVariables a r K_ p0 := by
  unfold qT_holdsVariables
  repeat' (first | (with_reducible exact id) | (with_reducible exact hK _) | (with_reducible refine mo_and ?_ ?_) | (with_reducible refine mo_imp ?_) | (with_reducible refine mo_all ?_) | (with_reducible refine mo_ex ?_) | (with_reducible intro _))
theorem mn_qK_haveInstances_J34 {a : L_} {r : S_} {KB2 KB2_ : Int32 → Int32 → Int32 → Prop} {KX32 KX32_ : Prop} {KX40 KX40_ : Prop} {v1 : Int32} {v2 : Int32} {v3 : Int32} (hKB2 : ∀ (x0 : Int32) (x1 : Int32) (x2 : Int32), KB2 x0 x1 x2 → KB2_ x0 x1 x2) (hKX32 : KX32  → KX32_ ) (hKX40 : KX40  → KX40_ ) : qK_haveInstances_J34 a r KB2 KX32 KX40 v1 v2 v3 → qK_haveInstances_J34 a r KB2_ KX32_ KX40_ v1 v2 v3 := by
  unfold qK_haveInstances_J34
  repeat' (first | (with_reducible exact id) | (with_reducible exact hKB2 _ _ _) | (with_reducible exact hKX32) | (with_reducible exact hKX40) | (with_reducible refine mo_and ?_ ?_) | (with_reducible refine mo_imp ?_) | (with_reducible refine mo_all ?_) | (with_reducible refine mo_ex ?_) | (with_reducible intro _))
theorem mn_qK_haveInstances_L2 {a : L_} {r : S_} {KX32 KX32_ : Prop} {KX40 KX40_ : Prop} (hKX32 : KX32  → KX32_ ) (hKX40 : KX40  → KX40_ ) : ∀ (n : Nat) (w0 : Int32) (w1 : Int32) (w2 : Int32), qK_haveInstances_L2 a r KX32 KX40 n w0 w1 w2 → qK_haveInstances_L2 a r KX32_ KX40_ n w0 w1 w2 := by
  intro n
  induction n with
  | zero => intro w0 w1 w2 h; exact h
  | succ n ih =>
    intro w0 w1 w2
    rw [qK_haveInstances_L2, qK_haveInstances_L2]
    repeat' (first | (with_reducible exact id) | (with_reducible exact hKX32) | (with_reducible exact hKX40) | (with_reducible exact ih _ _ _) | (with_reducible refine mn_qK_haveInstances_J34 ?_ ?_ ?_) | (with_reducible refine mn_qK_slot ?_) | (with_reducible refine mo_and ?_ ?_) | (with_reducible refine mo_imp ?_) | (with_reducible refine mo_all ?_) | (with_reducible refine mo_ex ?_) | (with_reducible intro _))
theorem mn_qK_haveInstances {a : L_} {r : S_} {K K_ : Int32 → Prop} {p0 : Int32} {p1 : Int32} (hK : ∀ (x0 : Int32), K x0 → K_ x0) : qK_haveInstances a r K p0 p1 → qK_haveInstances a r K_ p0 p1 := by
  unfold qK_haveInstances
  repeat' (first | (with_reducible exact id) | (with_reducible exact hK _) | (with_reducible refine mn_qK_haveInstances_L2 ?_ ?_ _ _ _ _) | (with_reducible refine mo_and ?_ ?_) | (with_reducible refine mo_imp ?_) | (with_reducible refine mo_all ?_) | (with_reducible refine mo_ex ?_) | (with_reducible intro _))
theorem mn_qK_joined_J37 {a : L_} {r : S_} {m0 : Nat} {KB6 KB6_ : Int32 → Int32 → Int32 → Int32 → Prop} {KX43 KX43_ : Int32 → Prop} {v2 : Int32} {v3 : Int32} {v4 : Int32} {v5 : Int32} (hKB6 : ∀ (x0 : Int32) (x1 : Int32) (x2 : Int32) (x3 : Int32), KB6 x0 x1 x2 x3 → KB6_ x0 x1 x2 x3) (hKX43 : ∀ (x0 : Int32), KX43 x0 → KX43_ x0) : qK_joined_J37 a r m0 KB6 KX43 v2 v3 v4 v5 → qK_joined_J37 a r m0 KB6_ KX43_ v2 v3 v4 v5 := by
  unfold qK_joined_J37
  repeat' (first | (with_reducible exact id) | (with_reducible exact hKB6 _ _ _ _) | (with_reducible exact hKX43 _) | (with_reducible refine mo_and ?_ ?_) | (with_reducible refine mo_imp ?_) | (with_reducible refine mo_all ?_) | (with_reducible refine mo_ex ?_) | (with_reducible intro _))
theorem mn_qK_joined_L6 {a : L_} {r : S_} {m0 : Nat} {KX43 KX43_ : Int32 → Prop} (hKX43 : ∀ (x0 : Int32), KX43 x0 → KX43_ x0) : ∀ (n : Nat) (w0 : Int32) (w1 : Int32) (w2 : Int32) (w3 : Int32), qK_joined_L6 a r m0 KX43 n w0 w1 w2 w3 → qK_joined_L6 a r m0 KX43_ n w0 w1 w2 w3 := by
  intro n
  induction n with
  | zero => intro w0 w1 w2 w3 h; exact h
  | succ n ih =>
    intro w0 w1 w2 w3
    rw [qK_joined_L6, qK_joined_L6]
    repeat' (first | (with_reducible exact id) | (with_reducible exact hKX43 _) | (with_reducible exact ih _ _ _ _) | (with_reducible refine mn_qK_joined_J37 ?_ ?_) | (with_reducible refine mn_qK_slot ?_) | (with_reducible refine mo_and ?_ ?_) | (with_reducible refine mo_imp ?_) | (with_reducible refine mo_all ?_) | (with_reducible refine mo_ex ?_) | (with_reducible intro _))
theorem mn_qK_joined {a : L_} {r : S_} {m0 : Nat} {K K_ : Int32 → Prop} {p1 : Int32} {p2 : Int32} (hK : ∀ (x0 : Int32), K x0 → K_ x0) : qK_joined a r m0 K p1 p2 → qK_joined a r m0 K_ p1 p2 := by
  unfold qK_joined
  repeat' (first | (with_reducible exact id) | (with_reducible exact hK _) | (with_reducible refine mn_qK_joined_L6 ?_ _ _ _ _ _) | (with_reducible refine mo_and ?_ ?_) | (with_reducible refine mo_imp ?_) | (with_reducible refine mo_all ?_) | (with_reducible refine mo_ex ?_) | (with_reducible intro _))
theorem mn_qM_in {a : L_} {r : S_} {K K_ : Int32 → Prop} {p0 : Int32} {p1 : Int32} {p2 : Int32} (hK : ∀ (x0 : Int32), K x0 → K_ x0) : qM_in a r K p0 p1 p2 → qM_in a r K_ p0 p1 p2 := by
  unfold qM_in
  repeat' (first | (with_reducible exact id) | (with_reducible exact hK _) | (with_reducible refine mo_and ?_ ?_) | (with_reducible refine mo_imp ?_) | (with_reducible refine mo_all ?_) | (with_reducible refine mo_ex ?_) | (with_reducible intro _))
theorem mn_qM_constructor {a : L_} {K K_ : Int32 → S_ → Prop} {r : S_} {p0 : Int32} (hK : ∀ (x0 : Int32) (x1 : S_), K x0 x1 → K_ x0 x1) : qM_constructor a K r p0 → qM_constructor a K_ r p0 := by
  unfold qM_constructor
  repeat' (first | (with_reducible exact id) | (with_reducible exact hK _ _) | (with_reducible refine mn_qM_in ?_) | (with_reducible refine mo_and ?_ ?_) | (with_reducible refine mo_imp ?_) | (with_reducible refine mo_all ?_) | (with_reducible refine mo_ex ?_) | (with_reducible intro _))
theorem mn_qM_keepType_J48 {a : L_} {KB3 KB3_ : S_ → Int32 → Int32 → Int32 → Int32 → Int32 → Prop} {KX45 KX45_ : S_ → Int32 → Prop} {KX54 KX54_ : S_ → Int32 → Int32 → Int32 → Int32 → Prop} {r : S_} {v1 : Int32} {v2 : Int32} {v3 : Int32} {v4 : Int32} {v5 : Int32} (hKB3 : ∀ (x0 : S_) (x1 : Int32) (x2 : Int32) (x3 : Int32) (x4 : Int32) (x5 : Int32), KB3 x0 x1 x2 x3 x4 x5 → KB3_ x0 x1 x2 x3 x4 x5) (hKX45 : ∀ (x0 : S_) (x1 : Int32), KX45 x0 x1 → KX45_ x0 x1) (hKX54 : ∀ (x0 : S_) (x1 : Int32) (x2 : Int32) (x3 : Int32) (x4 : Int32), KX54 x0 x1 x2 x3 x4 → KX54_ x0 x1 x2 x3 x4) : qM_keepType_J48 a KB3 KX45 KX54 r v1 v2 v3 v4 v5 → qM_keepType_J48 a KB3_ KX45_ KX54_ r v1 v2 v3 v4 v5 := by
  unfold qM_keepType_J48
  repeat' (first | (with_reducible exact id) | (with_reducible exact hKB3 _ _ _ _ _ _) | (with_reducible exact hKX45 _ _) | (with_reducible exact hKX54 _ _ _ _ _) | (with_reducible refine mo_and ?_ ?_) | (with_reducible refine mo_imp ?_) | (with_reducible refine mo_all ?_) | (with_reducible refine mo_ex ?_) | (with_reducible intro _))
theorem mn_qM_keepType_L3 {a : L_} {KX45 KX45_ : S_ → Int32 → Prop} {KX54 KX54_ : S_ → Int32 → Int32 → Int32 → Int32 → Prop} (hKX45 : ∀ (x0 : S_) (x1 : Int32), KX45 x0 x1 → KX45_ x0 x1) (hKX54 : ∀ (x0 : S_) (x1 : Int32) (x2 : Int32) (x3 : Int32) (x4 : Int32), KX54 x0 x1 x2 x3 x4 → KX54_ x0 x1 x2 x3 x4) : ∀ (n : Nat) (w0 : S_) (w1 : Int32) (w2 : Int32) (w3 : Int32) (w4 : Int32) (w5 : Int32), qM_keepType_L3 a KX45 KX54 n w0 w1 w2 w3 w4 w5 → qM_keepType_L3 a KX45_ KX54_ n w0 w1 w2 w3 w4 w5 := by
  intro n
  induction n with
  | zero => intro w0 w1 w2 w3 w4 w5 h; exact h
  | succ n ih =>
    intro w0 w1 w2 w3 w4 w5
    rw [qM_keepType_L3, qM_keepType_L3]
    repeat' (first | (with_reducible exact id) | (with_reducible exact hKX45 _ _) | (with_reducible exact hKX54 _ _ _ _ _) | (with_reducible exact ih _ _ _ _ _ _) | (with_reducible refine mn_qM_keepType_J48 ?_ ?_ ?_) | (with_reducible refine mo_and ?_ ?_) | (with_reducible refine mo_imp ?_) | (with_reducible refine mo_all ?_) | (with_reducible refine mo_ex ?_) | (with_reducible intro _))
theorem mn_qM_keepType {a : L_} {K K_ : Int32 → S_ → Prop} {r : S_} {p0 : Int32} {p1 : Int32} {p2 : Int32} {p3 : Int32} (hK : ∀ (x0 : Int32) (x1 : S_), K x0 x1 → K_ x0 x1) : qM_keepType a K r p0 p1 p2 p3 → qM_keepType a K_ r p0 p1 p2 p3 := by
  unfold qM_keepType
  repeat' (first | (with_reducible exact id) | (with_reducible exact hK _ _) | (with_reducible refine mn_qM_keepType_L3 ?_ ?_ _ _ _ _ _ _ _) | (with_reducible refine mo_and ?_ ?_) | (with_reducible refine mo_imp ?_) | (with_reducible refine mo_all ?_) | (with_reducible refine mo_ex ?_) | (with_reducible intro _))
theorem mn_qM_variable {a : L_} {K K_ : Int32 → S_ → Prop} {r : S_} {p0 : Int32} (hK : ∀ (x0 : Int32) (x1 : S_), K x0 x1 → K_ x0 x1) : qM_variable a K r p0 → qM_variable a K_ r p0 := by
  unfold qM_variable
  repeat' (first | (with_reducible exact id) | (with_reducible exact hK _ _) | (with_reducible refine mn_qM_in ?_) | (with_reducible refine mn_qM_keepType ?_) | (with_reducible refine mo_and ?_ ?_) | (with_reducible refine mo_imp ?_) | (with_reducible refine mo_all ?_) | (with_reducible refine mo_ex ?_) | (with_reducible intro _))
theorem mn_qM_type_J129 {a : L_} {K K_ : Int32 → S_ → Prop} {r : S_} {v5 : Int32} {u0 : Int32} {u1 : Int32} {u2 : Int32} (hK : ∀ (x0 : Int32) (x1 : S_), K x0 x1 → K_ x0 x1) : qM_type_J129 a K r v5 u0 u1 u2 → qM_type_J129 a K_ r v5 u0 u1 u2 := by
  unfold qM_type_J129
  repeat' (first | (with_reducible exact id) | (with_reducible exact hK _ _) | (with_reducible refine mn_qM_keepType ?_) | (with_reducible refine mo_and ?_ ?_) | (with_reducible refine mo_imp ?_) | (with_reducible refine mo_all ?_) | (with_reducible refine mo_ex ?_) | (with_reducible intro _))
theorem mn_qM_type_J118 {a : L_} {K K_ : Int32 → S_ → Prop} {r : S_} {v3 : Int32} {v4 : Int32} {v5 : Int32} {u0 : Int32} {u1 : Int32} (hK : ∀ (x0 : Int32) (x1 : S_), K x0 x1 → K_ x0 x1) : qM_type_J118 a K r v3 v4 v5 u0 u1 → qM_type_J118 a K_ r v3 v4 v5 u0 u1 := by
  unfold qM_type_J118
  repeat' (first | (with_reducible exact id) | (with_reducible exact hK _ _) | (with_reducible refine mn_qM_type_J129 ?_) | (with_reducible refine mo_and ?_ ?_) | (with_reducible refine mo_imp ?_) | (with_reducible refine mo_all ?_) | (with_reducible refine mo_ex ?_) | (with_reducible intro _))
theorem mn_qM_type_J103 {a : L_} {K K_ : Int32 → S_ → Prop} {r : S_} {v1 : Int32} {v2 : Int32} {v3 : Int32} {v4 : Int32} {u0 : Int32} {u1 : Int32} (hK : ∀ (x0 : Int32) (x1 : S_), K x0 x1 → K_ x0 x1) : qM_type_J103 a K r v1 v2 v3 v4 u0 u1 → qM_type_J103 a K_ r v1 v2 v3 v4 u0 u1 := by
  unfold qM_type_J103
  repeat' (first | (with_reducible exact id) | (with_reducible exact hK _ _) | (with_reducible refine mn_qM_type_J118 ?_) | (with_reducible refine mo_and ?_ ?_) | (with_reducible refine mo_imp ?_) | (with_reducible refine mo_all ?_) | (with_reducible refine mo_ex ?_) | (with_reducible intro _))
theorem mn_qM_type_J86 {a : L_} {K K_ : Int32 → S_ → Prop} {r : S_} {v1 : Int32} {v2 : Int32} {v3 : Int32} {v4 : Int32} {u0 : Int32} {u1 : Int32} (hK : ∀ (x0 : Int32) (x1 : S_), K x0 x1 → K_ x0 x1) : qM_type_J86 a K r v1 v2 v3 v4 u0 u1 → qM_type_J86 a K_ r v1 v2 v3 v4 u0 u1 := by
  unfold qM_type_J86
  repeat' (first | (with_reducible exact id) | (with_reducible exact hK _ _) | (with_reducible refine mn_qM_type_J103 ?_) | (with_reducible refine mo_and ?_ ?_) | (with_reducible refine mo_imp ?_) | (with_reducible refine mo_all ?_) | (with_reducible refine mo_ex ?_) | (with_reducible intro _))
theorem mn_qM_type_J70 {a : L_} {K K_ : Int32 → S_ → Prop} {r : S_} {v1 : Int32} {v2 : Int32} {v3 : Int32} {v4 : Int32} (hK : ∀ (x0 : Int32) (x1 : S_), K x0 x1 → K_ x0 x1) : qM_type_J70 a K r v1 v2 v3 v4 → qM_type_J70 a K_ r v1 v2 v3 v4 := by
  unfold qM_type_J70
  repeat' (first | (with_reducible exact id) | (with_reducible exact hK _ _) | (with_reducible refine mn_qM_type_J86 ?_) | (with_reducible refine mo_and ?_ ?_) | (with_reducible refine mo_imp ?_) | (with_reducible refine mo_all ?_) | (with_reducible refine mo_ex ?_) | (with_reducible intro _))
theorem mn_qM_type_J48 {a : L_} {K K_ : Int32 → S_ → Prop} {r : S_} {v1 : Int32} {v2 : Int32} {v3 : Int32} {v4 : Int32} (hK : ∀ (x0 : Int32) (x1 : S_), K x0 x1 → K_ x0 x1) : qM_type_J48 a K r v1 v2 v3 v4 → qM_type_J48 a K_ r v1 v2 v3 v4 := by
  unfold qM_type_J48
  repeat' (first | (with_reducible exact id) | (with_reducible exact hK _ _) | (with_reducible refine mn_qM_type_J70 ?_) | (with_reducible refine mn_qM_in ?_) | (with_reducible refine mo_and ?_ ?_) | (with_reducible refine mo_imp ?_) | (with_reducible refine mo_all ?_) | (with_reducible refine mo_ex ?_) | (with_reducible intro _))
theorem mn_qM_type {a : L_} {K K_ : Int32 → S_ → Prop} {r : S_} {p0 : Int32} {p1 : Int32} {p2 : Int32} (hK : ∀ (x0 : Int32) (x1 : S_), K x0 x1 → K_ x0 x1) : qM_type a K r p0 p1 p2 → qM_type a K_ r p0 p1 p2 := by
  unfold qM_type
  repeat' (first | (with_reducible exact id) | (with_reducible exact hK _ _) | (with_reducible refine mn_qM_in ?_) | (with_reducible refine mn_qM_type_J48 ?_) | (with_reducible refine mo_and ?_ ?_) | (with_reducible refine mo_imp ?_) | (with_reducible refine mo_all ?_) | (with_reducible refine mo_ex ?_) | (with_reducible intro _))
theorem mn_qM_isClass {a : L_} {r : S_} {K K_ : Int32 → Prop} {p0 : Int32} (hK : ∀ (x0 : Int32), K x0 → K_ x0) : qM_isClass a r K p0 → qM_isClass a r K_ p0 := by
  unfold qM_isClass
  repeat' (first | (with_reducible exact id) | (with_reducible exact hK _) | (with_reducible refine mo_and ?_ ?_) | (with_reducible refine mo_imp ?_) | (with_reducible refine mo_all ?_) | (with_reducible refine mo_ex ?_) | (with_reducible intro _))
theorem mn_qM_class0_J20 {a : L_} {K K_ : Int32 → S_ → Prop} {r : S_} {v1 : Int32} (hK : ∀ (x0 : Int32) (x1 : S_), K x0 x1 → K_ x0 x1) : qM_class0_J20 a K r v1 → qM_class0_J20 a K_ r v1 := by
  unfold qM_class0_J20
  repeat' (first | (with_reducible exact id) | (with_reducible exact hK _ _) | (with_reducible refine mo_and ?_ ?_) | (with_reducible refine mo_imp ?_) | (with_reducible refine mo_all ?_) | (with_reducible refine mo_ex ?_) | (with_reducible intro _))
theorem mn_qM_class0 {a : L_} {K K_ : Int32 → S_ → Prop} {r : S_} {p0 : Int32} (hK : ∀ (x0 : Int32) (x1 : S_), K x0 x1 → K_ x0 x1) : qM_class0 a K r p0 → qM_class0 a K_ r p0 := by
  unfold qM_class0
  repeat' (first | (with_reducible exact id) | (with_reducible exact hK _ _) | (with_reducible refine mn_qM_class0_J20 ?_) | (with_reducible refine mn_qM_isClass ?_) | (with_reducible refine mo_and ?_ ?_) | (with_reducible refine mo_imp ?_) | (with_reducible refine mo_all ?_) | (with_reducible refine mo_ex ?_) | (with_reducible intro _))
theorem mn_qM_markStatic_J23 {a : L_} {KB2 KB2_ : S_ → Int32 → Int32 → Prop} {KX30 KX30_ : S_ → Int32 → Prop} {r : S_} {v1 : Int32} {v2 : Int32} {u0 : Int32} {u1 : Int32} (hKB2 : ∀ (x0 : S_) (x1 : Int32) (x2 : Int32), KB2 x0 x1 x2 → KB2_ x0 x1 x2) (hKX30 : ∀ (x0 : S_) (x1 : Int32), KX30 x0 x1 → KX30_ x0 x1) : qM_markStatic_J23 a KB2 KX30 r v1 v2 u0 u1 → qM_markStatic_J23 a KB2_ KX30_ r v1 v2 u0 u1 := by
  unfold qM_markStatic_J23
  repeat' (first | (with_reducible exact id) | (with_reducible exact hKB2 _ _ _) | (with_reducible exact hKX30 _ _) | (with_reducible refine mo_and ?_ ?_) | (with_reducible refine mo_imp ?_) | (with_reducible refine mo_all ?_) | (with_reducible refine mo_ex ?_) | (with_reducible intro _))
theorem mn_qM_markStatic_L2 {a : L_} {KX30 KX30_ : S_ → Int32 → Prop} (hKX30 : ∀ (x0 : S_) (x1 : Int32), KX30 x0 x1 → KX30_ x0 x1) : ∀ (n : Nat) (w0 : S_) (w1 : Int32) (w2 : Int32), qM_markStatic_L2 a KX30 n w0 w1 w2 → qM_markStatic_L2 a KX30_ n w0 w1 w2 := by
  intro n
  induction n with
  | zero => intro w0 w1 w2 h; exact h
  | succ n ih =>
    intro w0 w1 w2
    rw [qM_markStatic_L2, qM_markStatic_L2]
    repeat' (first | (with_reducible exact id) | (with_reducible exact hKX30 _ _) | (with_reducible exact ih _ _ _) | (with_reducible refine mn_qM_markStatic_J23 ?_ ?_) | (with_reducible refine mo_and ?_ ?_) | (with_reducible refine mo_imp ?_) | (with_reducible refine mo_all ?_) | (with_reducible refine mo_ex ?_) | (with_reducible intro _))
theorem mn_qM_markStatic_J96 {a : L_} {KB32 KB32_ : S_ → Int32 → Prop} {KX102 KX102_ : S_ → Prop} {r : S_} {v2 : Int32} (hKB32 : ∀ (x0 : S_) (x1 : Int32), KB32 x0 x1 → KB32_ x0 x1) (hKX102 : ∀ (x0 : S_), KX102 x0 → KX102_ x0) : qM_markStatic_J96 a KB32 KX102 r v2 → qM_markStatic_J96 a KB32_ KX102_ r v2 := by
  unfold qM_markStatic_J96
  repeat' (first | (with_reducible exact id) | (with_reducible exact hKB32 _ _) | (with_reducible exact hKX102 _) | (with_reducible refine mo_and ?_ ?_) | (with_reducible refine mo_imp ?_) | (with_reducible refine mo_all ?_) | (with_reducible refine mo_ex ?_) | (with_reducible intro _))
theorem mn_qM_markStatic_J66 {a : L_} {KB32 KB32_ : S_ → Int32 → Prop} {KX102 KX102_ : S_ → Prop} {r : S_} {v2 : Int32} (hKB32 : ∀ (x0 : S_) (x1 : Int32), KB32 x0 x1 → KB32_ x0 x1) (hKX102 : ∀ (x0 : S_), KX102 x0 → KX102_ x0) : qM_markStatic_J66 a KB32 KX102 r v2 → qM_markStatic_J66 a KB32_ KX102_ r v2 := by
  unfold qM_markStatic_J66
  repeat' (first | (with_reducible exact id) | (with_reducible exact hKB32 _ _) | (with_reducible exact hKX102 _) | (with_reducible refine mn_qM_markStatic_J96 ?_ ?_) | (with_reducible refine mo_and ?_ ?_) | (with_reducible refine mo_imp ?_) | (with_reducible refine mo_all ?_) | (with_reducible refine mo_ex ?_) | (with_reducible intro _))
theorem mn_qM_markStatic_L32 {a : L_} {KX102 KX102_ : S_ → Prop} (hKX102 : ∀ (x0 : S_), KX102 x0 → KX102_ x0) : ∀ (n : Nat) (w0 : S_) (w1 : Int32), qM_markStatic_L32 a KX102 n w0 w1 → qM_markStatic_L32 a KX102_ n w0 w1 := by
  intro n
  induction n with
  | zero => intro w0 w1 h; exact h
  | succ n ih =>
    intro w0 w1
    rw [qM_markStatic_L32, qM_markStatic_L32]
    repeat' (first | (with_reducible exact id) | (with_reducible exact hKX102 _) | (with_reducible exact ih _ _) | (with_reducible refine mn_qM_markStatic_J66 ?_ ?_) | (with_reducible refine mo_and ?_ ?_) | (with_reducible refine mo_imp ?_) | (with_reducible refine mo_all ?_) | (with_reducible refine mo_ex ?_) | (with_reducible intro _))
theorem mn_qM_markStatic {a : L_} {K K_ : S_ → Prop} {r : S_} {p0 : Int32} (hK : ∀ (x0 : S_), K x0 → K_ x0) : qM_markStatic a K r p0 → qM_markStatic a K_ r p0 := by
  unfold qM_markStatic
  repeat' (first | (with_reducible exact id) | (with_reducible exact hK _) | (with_reducible refine mn_qM_markStatic_L2 ?_ _ _ _ _) | (with_reducible refine mn_qM_markStatic_L32 ?_ _ _ _) | (with_reducible refine mo_and ?_ ?_) | (with_reducible refine mo_imp ?_) | (with_reducible refine mo_all ?_) | (with_reducible refine mo_ex ?_) | (with_reducible intro _))
theorem mn_qM_hasVariable_J48 {a : L_} {KB10 KB10_ : S_ → Int32 → Int32 → Int32 → Int32 → Prop} {KX55 KX55_ : S_ → Int32 → Prop} {r : S_} {v1 : Int32} {v2 : Int32} {v4 : Int32} {u0 : Int32} (hKB10 : ∀ (x0 : S_) (x1 : Int32) (x2 : Int32) (x3 : Int32) (x4 : Int32), KB10 x0 x1 x2 x3 x4 → KB10_ x0 x1 x2 x3 x4) (hKX55 : ∀ (x0 : S_) (x1 : Int32), KX55 x0 x1 → KX55_ x0 x1) : qM_hasVariable_J48 a KB10 KX55 r v1 v2 v4 u0 → qM_hasVariable_J48 a KB10_ KX55_ r v1 v2 v4 u0 := by
  unfold qM_hasVariable_J48
  repeat' (first | (with_reducible exact id) | (with_reducible exact hKB10 _ _ _ _ _) | (with_reducible exact hKX55 _ _) | (with_reducible refine mo_and ?_ ?_) | (with_reducible refine mo_imp ?_) | (with_reducible refine mo_all ?_) | (with_reducible refine mo_ex ?_) | (with_reducible intro _))
theorem mn_qM_hasVariable_J43 {a : L_} {KB10 KB10_ : S_ → Int32 → Int32 → Int32 → Int32 → Prop} {KX55 KX55_ : S_ → Int32 → Prop} {r : S_} {v1 : Int32} {v2 : Int32} {v4 : Int32} (hKB10 : ∀ (x0 : S_) (x1 : Int32) (x2 : Int32) (x3 : Int32) (x4 : Int32), KB10 x0 x1 x2 x3 x4 → KB10_ x0 x1 x2 x3 x4) (hKX55 : ∀ (x0 : S_) (x1 : Int32), KX55 x0 x1 → KX55_ x0 x1) : qM_hasVariable_J43 a KB10 KX55 r v1 v2 v4 → qM_hasVariable_J43 a KB10_ KX55_ r v1 v2 v4 := by
  unfold qM_hasVariable_J43
  repeat' (first | (with_reducible exact id) | (with_reducible exact hKB10 _ _ _ _ _) | (with_reducible exact hKX55 _ _) | (with_reducible refine mn_qM_hasVariable_J48 ?_ ?_) | (with_reducible refine mo_and ?_ ?_) | (with_reducible refine mo_imp ?_) | (with_reducible refine mo_all ?_) | (with_reducible refine mo_ex ?_) | (with_reducible intro _))
theorem mn_qM_hasVariable_J47 {a : L_} {KB10 KB10_ : S_ → Int32 → Int32 → Int32 → Int32 → Prop} {KX55 KX55_ : S_ → Int32 → Prop} {r : S_} {v1 : Int32} {v2 : Int32} {v4 : Int32} (hKB10 : ∀ (x0 : S_) (x1 : Int32) (x2 : Int32) (x3 : Int32) (x4 : Int32), KB10 x0 x1 x2 x3 x4 → KB10_ x0 x1 x2 x3 x4) (hKX55 : ∀ (x0 : S_) (x1 : Int32), KX55 x0 x1 → KX55_ x0 x1) : qM_hasVariable_J47 a KB10 KX55 r v1 v2 v4 → qM_hasVariable_J47 a KB10_ KX55_ r v1 v2 v4 := by
  unfold qM_hasVariable_J47
  repeat' (first | (with_reducible exact id) | (with_reducible exact hKB10 _ _ _ _ _) | (with_reducible exact hKX55 _ _) | (with_reducible refine mn_qM_hasVariable_J48 ?_ ?_) | (with_reducible refine mo_and ?_ ?_) | (with_reducible refine mo_imp ?_) | (with_reducible refine mo_all ?_) | (with_reducible refine mo_ex ?_) | (with_reducible intro _))
theorem mn_qM_hasVariable_L10 {a : L_} {KX55 KX55_ : S_ → Int32 → Prop} (hKX55 : ∀ (x0 : S_) (x1 : Int32), KX55 x0 x1 → KX55_ x0 x1) : ∀ (n : Nat) (w0 : S_) (w1 : Int32) (w2 : Int32) (w3 : Int32) (w4 : Int32), qM_hasVariable_L10 a KX55 n w0 w1 w2 w3 w4 → qM_hasVariable_L10 a KX55_ n w0 w1 w2 w3 w4 := by
  intro n
  induction n with
  | zero => intro w0 w1 w2 w3 w4 h; exact h
  | succ n ih =>
    intro w0 w1 w2 w3 w4
    rw [qM_hasVariable_L10, qM_hasVariable_L10]
    repeat' (first | (with_reducible exact id) | (with_reducible exact hKX55 _ _) | (with_reducible exact ih _ _ _ _ _) | (with_reducible refine mn_qM_hasVariable_J43 ?_ ?_) | (with_reducible refine mn_qM_hasVariable_J47 ?_ ?_) | (with_reducible refine mo_and ?_ ?_) | (with_reducible refine mo_imp ?_) | (with_reducible refine mo_all ?_) | (with_reducible refine mo_ex ?_) | (with_reducible intro _))
theorem mn_qM_hasVariable {a : L_} {K K_ : Int32 → S_ → Prop} {r : S_} {p0 : Int32} {p1 : Int32} (hK : ∀ (x0 : Int32) (x1 : S_), K x0 x1 → K_ x0 x1) : qM_hasVariable a K r p0 p1 → qM_hasVariable a K_ r p0 p1 := by
  unfold qM_hasVariable
  repeat' (first | (with_reducible exact id) | (with_reducible exact hK _ _) | (with_reducible refine mn_qM_markStatic ?_) | (with_reducible refine mn_qM_hasVariable_L10 ?_ _ _ _ _ _ _) | (with_reducible refine mo_and ?_ ?_) | (with_reducible refine mo_imp ?_) | (with_reducible refine mo_all ?_) | (with_reducible refine mo_ex ?_) | (with_reducible intro _))
theorem mn_qM_method {a : L_} {K K_ : Int32 → S_ → Prop} {r : S_} {p0 : Int32} {p1 : Int32} (hK : ∀ (x0 : Int32) (x1 : S_), K x0 x1 → K_ x0 x1) : qM_method a K r p0 p1 → qM_method a K_ r p0 p1 := by
  unfold qM_method
  repeat' (first | (with_reducible exact id) | (with_reducible exact hK _ _) | (with_reducible refine mn_qM_isClass ?_) | (with_reducible refine mn_qM_in ?_) | (with_reducible refine mn_qM_hasVariable ?_) | (with_reducible refine mo_and ?_ ?_) | (with_reducible refine mo_imp ?_) | (with_reducible refine mo_all ?_) | (with_reducible refine mo_ex ?_) | (with_reducible intro _))
theorem mn_qM_isUnder_L2 {a : L_} {r : S_} {KX21 KX21_ : Int32 → Int32 → Prop} (hKX21 : ∀ (x0 : Int32) (x1 : Int32), KX21 x0 x1 → KX21_ x0 x1) : ∀ (n : Nat) (w0 : Int32) (w1 : Int32), qM_isUnder_L2 a r KX21 n w0 w1 → qM_isUnder_L2 a r KX21_ n w0 w1 := by
  intro n
  induction n with
  | zero => intro w0 w1 h; exact h
  | succ n ih =>
    intro w0 w1
    rw [qM_isUnder_L2, qM_isUnder_L2]
    repeat' (first | (with_reducible exact id) | (with_reducible exact hKX21 _ _) | (with_reducible exact ih _ _) | (with_reducible refine mo_and ?_ ?_) | (with_reducible refine mo_imp ?_) | (with_reducible refine mo_all ?_) | (with_reducible refine mo_ex ?_) | (with_reducible intro _))
theorem mn_qM_isUnder_J21 {a : L_} {r : S_} {K K_ : Int32 → Prop} {v2 : Int32} {v3 : Int32} (hK : ∀ (x0 : Int32), K x0 → K_ x0) : qM_isUnder_J21 a r K v2 v3 → qM_isUnder_J21 a r K_ v2 v3 := by
  unfold qM_isUnder_J21
  repeat' (first | (with_reducible exact id) | (with_reducible exact hK _) | (with_reducible refine mo_and ?_ ?_) | (with_reducible refine mo_imp ?_) | (with_reducible refine mo_all ?_) | (with_reducible refine mo_ex ?_) | (with_reducible intro _))
theorem mn_qM_isUnder {a : L_} {r : S_} {K K_ : Int32 → Prop} {p0 : Int32} {p1 : Int32} (hK : ∀ (x0 : Int32), K x0 → K_ x0) : qM_isUnder a r K p0 p1 → qM_isUnder a r K_ p0 p1 := by
  unfold qM_isUnder
  repeat' (first | (with_reducible exact id) | (with_reducible exact hK _) | (with_reducible refine mn_qM_isUnder_L2 ?_ _ _ _) | (with_reducible refine mn_qM_isUnder_J21 ?_) | (with_reducible refine mo_and ?_ ?_) | (with_reducible refine mo_imp ?_) | (with_reducible refine mo_all ?_) | (with_reducible refine mo_ex ?_) | (with_reducible intro _))
theorem mn_qM_covers_J93 {a : L_} {r : S_} {KB5 KB5_ : Int32 → Int32 → Int32 → Int32 → Prop} {KX99 KX99_ : Int32 → Prop} {v1 : Int32} {v2 : Int32} {v3 : Int32} {v4 : Int32} (hKB5 : ∀ (x0 : Int32) (x1 : Int32) (x2 : Int32) (x3 : Int32), KB5 x0 x1 x2 x3 → KB5_ x0 x1 x2 x3) (hKX99 : ∀ (x0 : Int32), KX99 x0 → KX99_ x0) : qM_covers_J93 a r KB5 KX99 v1 v2 v3 v4 → qM_covers_J93 a r KB5_ KX99_ v1 v2 v3 v4 := by
  unfold qM_covers_J93
  repeat' (first | (with_reducible exact id) | (with_reducible exact hKB5 _ _ _ _) | (with_reducible exact hKX99 _) | (with_reducible refine mo_and ?_ ?_) | (with_reducible refine mo_imp ?_) | (with_reducible refine mo_all ?_) | (with_reducible refine mo_ex ?_) | (with_reducible intro _))
theorem mn_qM_covers_J70 {a : L_} {r : S_} {KB30 KB30_ : Int32 → Int32 → Int32 → Int32 → Int32 → Int32 → Prop} {KX78 KX78_ : Int32 → Int32 → Int32 → Int32 → Int32 → Prop} {v1 : Int32} {v2 : Int32} {v3 : Int32} {v4 : Int32} {v6 : Int32} {u0 : Int32} (hKB30 : ∀ (x0 : Int32) (x1 : Int32) (x2 : Int32) (x3 : Int32) (x4 : Int32) (x5 : Int32), KB30 x0 x1 x2 x3 x4 x5 → KB30_ x0 x1 x2 x3 x4 x5) (hKX78 : ∀ (x0 : Int32) (x1 : Int32) (x2 : Int32) (x3 : Int32) (x4 : Int32), KX78 x0 x1 x2 x3 x4 → KX78_ x0 x1 x2 x3 x4) : qM_covers_J70 a r KB30 KX78 v1 v2 v3 v4 v6 u0 → qM_covers_J70 a r KB30_ KX78_ v1 v2 v3 v4 v6 u0 := by
  unfold qM_covers_J70
  repeat' (first | (with_reducible exact id) | (with_reducible exact hKB30 _ _ _ _ _ _) | (with_reducible exact hKX78 _ _ _ _ _) | (with_reducible refine mo_and ?_ ?_) | (with_reducible refine mo_imp ?_) | (with_reducible refine mo_all ?_) | (with_reducible refine mo_ex ?_) | (with_reducible intro _))
theorem mn_qM_covers_J65 {a : L_} {r : S_} {KB30 KB30_ : Int32 → Int32 → Int32 → Int32 → Int32 → Int32 → Prop} {KX78 KX78_ : Int32 → Int32 → Int32 → Int32 → Int32 → Prop} {v1 : Int32} {v2 : Int32} {v3 : Int32} {v4 : Int32} {v6 : Int32} (hKB30 : ∀ (x0 : Int32) (x1 : Int32) (x2 : Int32) (x3 : Int32) (x4 : Int32) (x5 : Int32), KB30 x0 x1 x2 x3 x4 x5 → KB30_ x0 x1 x2 x3 x4 x5) (hKX78 : ∀ (x0 : Int32) (x1 : Int32) (x2 : Int32) (x3 : Int32) (x4 : Int32), KX78 x0 x1 x2 x3 x4 → KX78_ x0 x1 x2 x3 x4) : qM_covers_J65 a r KB30 KX78 v1 v2 v3 v4 v6 → qM_covers_J65 a r KB30_ KX78_ v1 v2 v3 v4 v6 := by
  unfold qM_covers_J65
  repeat' (first | (with_reducible exact id) | (with_reducible exact hKB30 _ _ _ _ _ _) | (with_reducible exact hKX78 _ _ _ _ _) | (with_reducible refine mn_qM_covers_J70 ?_ ?_) | (with_reducible refine mo_and ?_ ?_) | (with_reducible refine mo_imp ?_) | (with_reducible refine mo_all ?_) | (with_reducible refine mo_ex ?_) | (with_reducible intro _))
theorem mn_qM_covers_J69 {a : L_} {r : S_} {KB30 KB30_ : Int32 → Int32 → Int32 → Int32 → Int32 → Int32 → Prop} {KX78 KX78_ : Int32 → Int32 → Int32 → Int32 → Int32 → Prop} {v1 : Int32} {v2 : Int32} {v3 : Int32} {v4 : Int32} {v6 : Int32} (hKB30 : ∀ (x0 : Int32) (x1 : Int32) (x2 : Int32) (x3 : Int32) (x4 : Int32) (x5 : Int32), KB30 x0 x1 x2 x3 x4 x5 → KB30_ x0 x1 x2 x3 x4 x5) (hKX78 : ∀ (x0 : Int32) (x1 : Int32) (x2 : Int32) (x3 : Int32) (x4 : Int32), KX78 x0 x1 x2 x3 x4 → KX78_ x0 x1 x2 x3 x4) : qM_covers_J69 a r KB30 KX78 v1 v2 v3 v4 v6 → qM_covers_J69 a r KB30_ KX78_ v1 v2 v3 v4 v6 := by
  unfold qM_covers_J69
  repeat' (first | (with_reducible exact id) | (with_reducible exact hKB30 _ _ _ _ _ _) | (with_reducible exact hKX78 _ _ _ _ _) | (with_reducible refine mn_qM_covers_J70 ?_ ?_) | (with_reducible refine mo_and ?_ ?_) | (with_reducible refine mo_imp ?_) | (with_reducible refine mo_all ?_) | (with_reducible refine mo_ex ?_) | (with_reducible intro _))
theorem mn_qM_covers_L30 {a : L_} {r : S_} {KX78 KX78_ : Int32 → Int32 → Int32 → Int32 → Int32 → Prop} (hKX78 : ∀ (x0 : Int32) (x1 : Int32) (x2 : Int32) (x3 : Int32) (x4 : Int32), KX78 x0 x1 x2 x3 x4 → KX78_ x0 x1 x2 x3 x4) : ∀ (n : Nat) (w0 : Int32) (w1 : Int32) (w2 : Int32) (w3 : Int32) (w4 : Int32) (w5 : Int32), qM_covers_L30 a r KX78 n w0 w1 w2 w3 w4 w5 → qM_covers_L30 a r KX78_ n w0 w1 w2 w3 w4 w5 := by
  intro n
  induction n with
  | zero => intro w0 w1 w2 w3 w4 w5 h; exact h
  | succ n ih =>
    intro w0 w1 w2 w3 w4 w5
    rw [qM_covers_L30, qM_covers_L30]
    repeat' (first | (with_reducible exact id) | (with_reducible exact hKX78 _ _ _ _ _) | (with_reducible exact ih _ _ _ _ _ _) | (with_reducible refine mn_qM_covers_J65 ?_ ?_) | (with_reducible refine mn_qM_covers_J69 ?_ ?_) | (with_reducible refine mn_qM_isUnder ?_) | (with_reducible refine mo_and ?_ ?_) | (with_reducible refine mo_imp ?_) | (with_reducible refine mo_all ?_) | (with_reducible refine mo_ex ?_) | (with_reducible intro _))
theorem mn_qM_covers_J92 {a : L_} {r : S_} {KB5 KB5_ : Int32 → Int32 → Int32 → Int32 → Prop} {KX99 KX99_ : Int32 → Prop} {v1 : Int32} {v2 : Int32} {v4 : Int32} {u0 : Int32} (hKB5 : ∀ (x0 : Int32) (x1 : Int32) (x2 : Int32) (x3 : Int32), KB5 x0 x1 x2 x3 → KB5_ x0 x1 x2 x3) (hKX99 : ∀ (x0 : Int32), KX99 x0 → KX99_ x0) : qM_covers_J92 a r KB5 KX99 v1 v2 v4 u0 → qM_covers_J92 a r KB5_ KX99_ v1 v2 v4 u0 := by
  unfold qM_covers_J92
  repeat' (first | (with_reducible exact id) | (with_reducible exact hKB5 _ _ _ _) | (with_reducible exact hKX99 _) | (with_reducible refine mn_qM_covers_J93 ?_ ?_) | (with_reducible refine mo_and ?_ ?_) | (with_reducible refine mo_imp ?_) | (with_reducible refine mo_all ?_) | (with_reducible refine mo_ex ?_) | (with_reducible intro _))
theorem mn_qM_covers_J91 {a : L_} {r : S_} {KB5 KB5_ : Int32 → Int32 → Int32 → Int32 → Prop} {KX99 KX99_ : Int32 → Prop} {v1 : Int32} {v2 : Int32} {v4 : Int32} (hKB5 : ∀ (x0 : Int32) (x1 : Int32) (x2 : Int32) (x3 : Int32), KB5 x0 x1 x2 x3 → KB5_ x0 x1 x2 x3) (hKX99 : ∀ (x0 : Int32), KX99 x0 → KX99_ x0) : qM_covers_J91 a r KB5 KX99 v1 v2 v4 → qM_covers_J91 a r KB5_ KX99_ v1 v2 v4 := by
  unfold qM_covers_J91
  repeat' (first | (with_reducible exact id) | (with_reducible exact hKB5 _ _ _ _) | (with_reducible exact hKX99 _) | (with_reducible refine mn_qM_covers_J92 ?_ ?_) | (with_reducible refine mo_and ?_ ?_) | (with_reducible refine mo_imp ?_) | (with_reducible refine mo_all ?_) | (with_reducible refine mo_ex ?_) | (with_reducible intro _))
theorem mn_qM_covers_L5 {a : L_} {r : S_} {KX99 KX99_ : Int32 → Prop} (hKX99 : ∀ (x0 : Int32), KX99 x0 → KX99_ x0) : ∀ (n : Nat) (w0 : Int32) (w1 : Int32) (w2 : Int32) (w3 : Int32), qM_covers_L5 a r KX99 n w0 w1 w2 w3 → qM_covers_L5 a r KX99_ n w0 w1 w2 w3 := by
  intro n
  induction n with
  | zero => intro w0 w1 w2 w3 h; exact h
  | succ n ih =>
    intro w0 w1 w2 w3
    rw [qM_covers_L5, qM_covers_L5]
    repeat' (first | (with_reducible exact id) | (with_reducible exact hKX99 _) | (with_reducible exact ih _ _ _ _) | (with_reducible refine mn_qM_covers_J93 ?_ ?_) | (with_reducible refine mn_qM_covers_L30 ?_ _ _ _ _ _ _ _) | (with_reducible refine mn_qM_covers_J91 ?_ ?_) | (with_reducible refine mn_qM_covers_J92 ?_ ?_) | (with_reducible refine mo_and ?_ ?_) | (with_reducible refine mo_imp ?_) | (with_reducible refine mo_all ?_) | (with_reducible refine mo_ex ?_) | (with_reducible intro _))
theorem mn_qM_covers {a : L_} {r : S_} {K K_ : Int32 → Prop} {p0 : Int32} {p1 : Int32} (hK : ∀ (x0 : Int32), K x0 → K_ x0) : qM_covers a r K p0 p1 → qM_covers a r K_ p0 p1 := by
  unfold qM_covers
  repeat' (first | (with_reducible exact id) | (with_reducible exact hK _) | (with_reducible refine mn_qM_covers_L5 ?_ _ _ _ _ _) | (with_reducible refine mo_and ?_ ?_) | (with_reducible refine mo_imp ?_) | (with_reducible refine mo_all ?_) | (with_reducible refine mo_ex ?_) | (with_reducible intro _))
theorem mn_qM_instance_J179 {a : L_} {K K_ : Int32 → S_ → Prop} {r : S_} {v6 : Int32} {v7 : Int32} {v9 : Int32} (hK : ∀ (x0 : Int32) (x1 : S_), K x0 x1 → K_ x0 x1) : qM_instance_J179 a K r v6 v7 v9 → qM_instance_J179 a K_ r v6 v7 v9 := by
  unfold qM_instance_J179
  repeat' (first | (with_reducible exact id) | (with_reducible exact hK _ _) | (with_reducible refine mo_and ?_ ?_) | (with_reducible refine mo_imp ?_) | (with_reducible refine mo_all ?_) | (with_reducible refine mo_ex ?_) | (with_reducible intro _))
theorem mn_qM_instance_J61 {a : L_} {K K_ : Int32 → S_ → Prop} {r : S_} {v1 : Int32} {v2 : Int32} {v3 : Int32} {v4 : Int32} {v6 : Int32} {u0 : Int32} (hK : ∀ (x0 : Int32) (x1 : S_), K x0 x1 → K_ x0 x1) : qM_instance_J61 a K r v1 v2 v3 v4 v6 u0 → qM_instance_J61 a K_ r v1 v2 v3 v4 v6 u0 := by
  unfold qM_instance_J61
  repeat' (first | (with_reducible exact id) | (with_reducible exact hK _ _) | (with_reducible refine mn_qM_instance_J179 ?_) | (with_reducible refine mn_qM_covers ?_) | (with_reducible refine mo_and ?_ ?_) | (with_reducible refine mo_imp ?_) | (with_reducible refine mo_all ?_) | (with_reducible refine mo_ex ?_) | (with_reducible intro _))
theorem mn_qM_instance_J47 {a : L_} {K K_ : Int32 → S_ → Prop} {r : S_} {v1 : Int32} {v2 : Int32} {v3 : Int32} {v4 : Int32} {v5 : Int32} {u0 : Int32} (hK : ∀ (x0 : Int32) (x1 : S_), K x0 x1 → K_ x0 x1) : qM_instance_J47 a K r v1 v2 v3 v4 v5 u0 → qM_instance_J47 a K_ r v1 v2 v3 v4 v5 u0 := by
  unfold qM_instance_J47
  repeat' (first | (with_reducible exact id) | (with_reducible exact hK _ _) | (with_reducible refine mn_qM_instance_J61 ?_) | (with_reducible refine mo_and ?_ ?_) | (with_reducible refine mo_imp ?_) | (with_reducible refine mo_all ?_) | (with_reducible refine mo_ex ?_) | (with_reducible intro _))
theorem mn_qM_instance {a : L_} {K K_ : Int32 → S_ → Prop} {r : S_} {p0 : Int32} {p1 : Int32} {p2 : Int32} {p3 : Int32} (hK : ∀ (x0 : Int32) (x1 : S_), K x0 x1 → K_ x0 x1) : qM_instance a K r p0 p1 p2 p3 → qM_instance a K_ r p0 p1 p2 p3 := by
  unfold qM_instance
  repeat' (first | (with_reducible exact id) | (with_reducible exact hK _ _) | (with_reducible refine mn_qM_isClass ?_) | (with_reducible refine mn_qM_in ?_) | (with_reducible refine mn_qM_instance_J47 ?_) | (with_reducible refine mo_and ?_ ?_) | (with_reducible refine mo_imp ?_) | (with_reducible refine mo_all ?_) | (with_reducible refine mo_ex ?_) | (with_reducible intro _))
theorem mn_qM_isExpression {a : L_} {r : S_} {K K_ : Int32 → Prop} {p0 : Int32} (hK : ∀ (x0 : Int32), K x0 → K_ x0) : qM_isExpression a r K p0 → qM_isExpression a r K_ p0 := by
  unfold qM_isExpression
  repeat' (first | (with_reducible exact id) | (with_reducible exact hK _) | (with_reducible refine mo_and ?_ ?_) | (with_reducible refine mo_imp ?_) | (with_reducible refine mo_all ?_) | (with_reducible refine mo_ex ?_) | (with_reducible intro _))
theorem mn_qM_expression_J290 {a : L_} {K K_ : Int32 → S_ → Prop} {r : S_} {v6 : Int32} {u0 : Int32} {u1 : Int32} (hK : ∀ (x0 : Int32) (x1 : S_), K x0 x1 → K_ x0 x1) : qM_expression_J290 a K r v6 u0 u1 → qM_expression_J290 a K_ r v6 u0 u1 := by
  unfold qM_expression_J290
  repeat' (first | (with_reducible exact id) | (with_reducible exact hK _ _) | (with_reducible refine mo_and ?_ ?_) | (with_reducible refine mo_imp ?_) | (with_reducible refine mo_all ?_) | (with_reducible refine mo_ex ?_) | (with_reducible intro _))
theorem mn_qM_expression_J270 {a : L_} {K K_ : Int32 → S_ → Prop} {r : S_} {v6 : Int32} {v7 : Int32} (hK : ∀ (x0 : Int32) (x1 : S_), K x0 x1 → K_ x0 x1) : qM_expression_J270 a K r v6 v7 → qM_expression_J270 a K_ r v6 v7 := by
  unfold qM_expression_J270
  repeat' (first | (with_reducible exact id) | (with_reducible exact hK _ _) | (with_reducible refine mn_qM_expression_J290 ?_) | (with_reducible refine mo_and ?_ ?_) | (with_reducible refine mo_imp ?_) | (with_reducible refine mo_all ?_) | (with_reducible refine mo_ex ?_) | (with_reducible intro _))
theorem mn_qM_expression_J141 {a : L_} {K K_ : Int32 → S_ → Prop} {r : S_} {v1 : Int32} {v2 : Int32} {v3 : Int32} {v4 : Int32} {u0 : Int32} (hK : ∀ (x0 : Int32) (x1 : S_), K x0 x1 → K_ x0 x1) : qM_expression_J141 a K r v1 v2 v3 v4 u0 → qM_expression_J141 a K_ r v1 v2 v3 v4 u0 := by
  unfold qM_expression_J141
  repeat' (first | (with_reducible exact id) | (with_reducible exact hK _ _) | (with_reducible refine mn_qM_expression_J270 ?_) | (with_reducible refine mo_and ?_ ?_) | (with_reducible refine mo_imp ?_) | (with_reducible refine mo_all ?_) | (with_reducible refine mo_ex ?_) | (with_reducible intro _))
theorem mn_qM_expression_J140 {a : L_} {K K_ : Int32 → S_ → Prop} {r : S_} {v1 : Int32} {v2 : Int32} {v3 : Int32} {v4 : Int32} (hK : ∀ (x0 : Int32) (x1 : S_), K x0 x1 → K_ x0 x1) : qM_expression_J140 a K r v1 v2 v3 v4 → qM_expression_J140 a K_ r v1 v2 v3 v4 := by
  unfold qM_expression_J140
  repeat' (first | (with_reducible exact id) | (with_reducible exact hK _ _) | (with_reducible refine mn_qM_expression_J141 ?_) | (with_reducible refine mo_and ?_ ?_) | (with_reducible refine mo_imp ?_) | (with_reducible refine mo_all ?_) | (with_reducible refine mo_ex ?_) | (with_reducible intro _))
theorem mn_qM_expression_J136 {a : L_} {K K_ : Int32 → S_ → Prop} {r : S_} {v1 : Int32} {v2 : Int32} {v3 : Int32} {v4 : Int32} (hK : ∀ (x0 : Int32) (x1 : S_), K x0 x1 → K_ x0 x1) : qM_expression_J136 a K r v1 v2 v3 v4 → qM_expression_J136 a K_ r v1 v2 v3 v4 := by
  unfold qM_expression_J136
  repeat' (first | (with_reducible exact id) | (with_reducible exact hK _ _) | (with_reducible refine mn_qM_expression_J141 ?_) | (with_reducible refine mo_and ?_ ?_) | (with_reducible refine mo_imp ?_) | (with_reducible refine mo_all ?_) | (with_reducible refine mo_ex ?_) | (with_reducible intro _))
theorem mn_qM_expression_J117 {a : L_} {K K_ : Int32 → S_ → Prop} {r : S_} {v1 : Int32} {v2 : Int32} {v3 : Int32} {v4 : Int32} (hK : ∀ (x0 : Int32) (x1 : S_), K x0 x1 → K_ x0 x1) : qM_expression_J117 a K r v1 v2 v3 v4 → qM_expression_J117 a K_ r v1 v2 v3 v4 := by
  unfold qM_expression_J117
  repeat' (first | (with_reducible exact id) | (with_reducible exact hK _ _) | (with_reducible refine mn_qM_expression_J140 ?_) | (with_reducible refine mn_qM_in ?_) | (with_reducible refine mn_qM_expression_J136 ?_) | (with_reducible refine mo_and ?_ ?_) | (with_reducible refine mo_imp ?_) | (with_reducible refine mo_all ?_) | (with_reducible refine mo_ex ?_) | (with_reducible intro _))
theorem mn_qM_expression_J95 {a : L_} {K K_ : Int32 → S_ → Prop} {r : S_} {v1 : Int32} {v2 : Int32} {v3 : Int32} {v4 : Int32} (hK : ∀ (x0 : Int32) (x1 : S_), K x0 x1 → K_ x0 x1) : qM_expression_J95 a K r v1 v2 v3 v4 → qM_expression_J95 a K_ r v1 v2 v3 v4 := by
  unfold qM_expression_J95
  repeat' (first | (with_reducible exact id) | (with_reducible exact hK _ _) | (with_reducible refine mn_qM_expression_J117 ?_) | (with_reducible refine mn_qM_isClass ?_) | (with_reducible refine mn_qM_expression_J136 ?_) | (with_reducible refine mo_and ?_ ?_) | (with_reducible refine mo_imp ?_) | (with_reducible refine mo_all ?_) | (with_reducible refine mo_ex ?_) | (with_reducible intro _))
theorem mn_qM_expression_J63 {a : L_} {K K_ : Int32 → S_ → Prop} {r : S_} {v1 : Int32} {v2 : Int32} {v3 : Int32} {v4 : Int32} (hK : ∀ (x0 : Int32) (x1 : S_), K x0 x1 → K_ x0 x1) : qM_expression_J63 a K r v1 v2 v3 v4 → qM_expression_J63 a K_ r v1 v2 v3 v4 := by
  unfold qM_expression_J63
  repeat' (first | (with_reducible exact id) | (with_reducible exact hK _ _) | (with_reducible refine mn_qM_expression_J95 ?_) | (with_reducible refine mn_qM_in ?_) | (with_reducible refine mn_qM_isExpression ?_) | (with_reducible refine mn_qM_expression_J136 ?_) | (with_reducible refine mo_and ?_ ?_) | (with_reducible refine mo_imp ?_) | (with_reducible refine mo_all ?_) | (with_reducible refine mo_ex ?_) | (with_reducible intro _))
theorem mn_qM_expression_J42 {a : L_} {K K_ : Int32 → S_ → Prop} {r : S_} {v1 : Int32} {v2 : Int32} {v3 : Int32} {v4 : Int32} (hK : ∀ (x0 : Int32) (x1 : S_), K x0 x1 → K_ x0 x1) : qM_expression_J42 a K r v1 v2 v3 v4 → qM_expression_J42 a K_ r v1 v2 v3 v4 := by
  unfold qM_expression_J42
  repeat' (first | (with_reducible exact id) | (with_reducible exact hK _ _) | (with_reducible refine mn_qM_expression_J63 ?_) | (with_reducible refine mn_qM_isExpression ?_) | (with_reducible refine mn_qM_expression_J136 ?_) | (with_reducible refine mo_and ?_ ?_) | (with_reducible refine mo_imp ?_) | (with_reducible refine mo_all ?_) | (with_reducible refine mo_ex ?_) | (with_reducible intro _))
theorem mn_qM_expression_J19 {a : L_} {K K_ : Int32 → S_ → Prop} {r : S_} {v1 : Int32} {v2 : Int32} {v3 : Int32} {v4 : Int32} (hK : ∀ (x0 : Int32) (x1 : S_), K x0 x1 → K_ x0 x1) : qM_expression_J19 a K r v1 v2 v3 v4 → qM_expression_J19 a K_ r v1 v2 v3 v4 := by
  unfold qM_expression_J19
  repeat' (first | (with_reducible exact id) | (with_reducible exact hK _ _) | (with_reducible refine mn_qM_expression_J42 ?_) | (with_reducible refine mn_qM_in ?_) | (with_reducible refine mn_qM_isExpression ?_) | (with_reducible refine mn_qM_expression_J136 ?_) | (with_reducible refine mo_and ?_ ?_) | (with_reducible refine mo_imp ?_) | (with_reducible refine mo_all ?_) | (with_reducible refine mo_ex ?_) | (with_reducible intro _))
theorem mn_qM_expression {a : L_} {K K_ : Int32 → S_ → Prop} {r : S_} {p0 : Int32} {p1 : Int32} {p2 : Int32} {p3 : Int32} (hK : ∀ (x0 : Int32) (x1 : S_), K x0 x1 → K_ x0 x1) : qM_expression a K r p0 p1 p2 p3 → qM_expression a K_ r p0 p1 p2 p3 := by
  unfold qM_expression
  repeat' (first | (with_reducible exact id) | (with_reducible exact hK _ _) | (with_reducible refine mn_qM_expression_J19 ?_) | (with_reducible refine mn_qM_in ?_) | (with_reducible refine mn_qM_expression_J136 ?_) | (with_reducible refine mo_and ?_ ?_) | (with_reducible refine mo_imp ?_) | (with_reducible refine mo_all ?_) | (with_reducible refine mo_ex ?_) | (with_reducible intro _))
theorem mn_qM_hasLast {a : L_} {r : S_} {K K_ : Int32 → Prop} (hK : ∀ (x0 : Int32), K x0 → K_ x0) : qM_hasLast a r K → qM_hasLast a r K_ := by
  unfold qM_hasLast
  repeat' (first | (with_reducible exact id) | (with_reducible exact hK _) | (with_reducible refine mo_and ?_ ?_) | (with_reducible refine mo_imp ?_) | (with_reducible refine mo_all ?_) | (with_reducible refine mo_ex ?_) | (with_reducible intro _))
theorem mn_qM_shape_J87 {a : L_} {KB39 KB39_ : S_ → Int32 → Int32 → Prop} {KX90 KX90_ : S_ → Int32 → Prop} {r : S_} {v2 : Int32} {v3 : Int32} (hKB39 : ∀ (x0 : S_) (x1 : Int32) (x2 : Int32), KB39 x0 x1 x2 → KB39_ x0 x1 x2) (hKX90 : ∀ (x0 : S_) (x1 : Int32), KX90 x0 x1 → KX90_ x0 x1) : qM_shape_J87 a KB39 KX90 r v2 v3 → qM_shape_J87 a KB39_ KX90_ r v2 v3 := by
  unfold qM_shape_J87
  repeat' (first | (with_reducible exact id) | (with_reducible exact hKB39 _ _ _) | (with_reducible exact hKX90 _ _) | (with_reducible refine mo_and ?_ ?_) | (with_reducible refine mo_imp ?_) | (with_reducible refine mo_all ?_) | (with_reducible refine mo_ex ?_) | (with_reducible intro _))
theorem mn_qM_shape_L39 {a : L_} {KX90 KX90_ : S_ → Int32 → Prop} (hKX90 : ∀ (x0 : S_) (x1 : Int32), KX90 x0 x1 → KX90_ x0 x1) : ∀ (n : Nat) (w0 : S_) (w1 : Int32) (w2 : Int32), qM_shape_L39 a KX90 n w0 w1 w2 → qM_shape_L39 a KX90_ n w0 w1 w2 := by
  intro n
  induction n with
  | zero => intro w0 w1 w2 h; exact h
  | succ n ih =>
    intro w0 w1 w2
    rw [qM_shape_L39, qM_shape_L39]
    repeat' (first | (with_reducible exact id) | (with_reducible exact hKX90 _ _) | (with_reducible exact ih _ _ _) | (with_reducible refine mn_qM_shape_J87 ?_ ?_) | (with_reducible refine mo_and ?_ ?_) | (with_reducible refine mo_imp ?_) | (with_reducible refine mo_all ?_) | (with_reducible refine mo_ex ?_) | (with_reducible intro _))
theorem mn_qM_shape {a : L_} {K K_ : Int32 → S_ → Prop} {r : S_} {p0 : Int32} (hK : ∀ (x0 : Int32) (x1 : S_), K x0 x1 → K_ x0 x1) : qM_shape a K r p0 → qM_shape a K_ r p0 := by
  unfold qM_shape
  repeat' (first | (with_reducible exact id) | (with_reducible exact hK _ _) | (with_reducible refine mn_qM_hasLast ?_) | (with_reducible refine mn_qM_shape_L39 ?_ _ _ _ _) | (with_reducible refine mo_and ?_ ?_) | (with_reducible refine mo_imp ?_) | (with_reducible refine mo_all ?_) | (with_reducible refine mo_ex ?_) | (with_reducible intro _))
theorem mn_qM_wants {a : L_} {K K_ : Int32 → S_ → Prop} {r : S_} (hK : ∀ (x0 : Int32) (x1 : S_), K x0 x1 → K_ x0 x1) : qM_wants a K r → qM_wants a K_ r := by
  unfold qM_wants
  repeat' (first | (with_reducible exact id) | (with_reducible exact hK _ _) | (with_reducible refine mo_and ?_ ?_) | (with_reducible refine mo_imp ?_) | (with_reducible refine mo_all ?_) | (with_reducible refine mo_ex ?_) | (with_reducible intro _))
theorem mn_qM_want_J28 {a : L_} {K K_ : Int32 → S_ → Prop} {r : S_} (hK : ∀ (x0 : Int32) (x1 : S_), K x0 x1 → K_ x0 x1) : qM_want_J28 a K r → qM_want_J28 a K_ r := by
  unfold qM_want_J28
  repeat' (first | (with_reducible exact id) | (with_reducible exact hK _ _) | (with_reducible refine mo_and ?_ ?_) | (with_reducible refine mo_imp ?_) | (with_reducible refine mo_all ?_) | (with_reducible refine mo_ex ?_) | (with_reducible intro _))
theorem mn_qM_want {a : L_} {K K_ : Int32 → S_ → Prop} {r : S_} {p0 : Int32} {p1 : Int32} (hK : ∀ (x0 : Int32) (x1 : S_), K x0 x1 → K_ x0 x1) : qM_want a K r p0 p1 → qM_want a K_ r p0 p1 := by
  unfold qM_want
  repeat' (first | (with_reducible exact id) | (with_reducible exact hK _ _) | (with_reducible refine mn_qM_in ?_) | (with_reducible refine mn_qM_want_J28 ?_) | (with_reducible refine mo_and ?_ ?_) | (with_reducible refine mo_imp ?_) | (with_reducible refine mo_all ?_) | (with_reducible refine mo_ex ?_) | (with_reducible intro _))
theorem mn_qM_passes {a : L_} {K K_ : Int32 → S_ → Prop} {r : S_} (hK : ∀ (x0 : Int32) (x1 : S_), K x0 x1 → K_ x0 x1) : qM_passes a K r → qM_passes a K_ r := by
  unfold qM_passes
  repeat' (first | (with_reducible exact id) | (with_reducible exact hK _ _) | (with_reducible refine mo_and ?_ ?_) | (with_reducible refine mo_imp ?_) | (with_reducible refine mo_all ?_) | (with_reducible refine mo_ex ?_) | (with_reducible intro _))
theorem mn_qM_is_J245 {a : L_} {KB81 KB81_ : S_ → Int32 → Int32 → Int32 → Int32 → Int32 → Int32 → Prop} {KX253 KX253_ : S_ → Int32 → Int32 → Int32 → Int32 → Int32 → Prop} {r : S_} {v1 : Int32} {v2 : Int32} {v3 : Int32} {v4 : Int32} {v6 : Int32} {u0 : Int32} (hKB81 : ∀ (x0 : S_) (x1 : Int32) (x2 : Int32) (x3 : Int32) (x4 : Int32) (x5 : Int32) (x6 : Int32), KB81 x0 x1 x2 x3 x4 x5 x6 → KB81_ x0 x1 x2 x3 x4 x5 x6) (hKX253 : ∀ (x0 : S_) (x1 : Int32) (x2 : Int32) (x3 : Int32) (x4 : Int32) (x5 : Int32), KX253 x0 x1 x2 x3 x4 x5 → KX253_ x0 x1 x2 x3 x4 x5) : qM_is_J245 a KB81 KX253 r v1 v2 v3 v4 v6 u0 → qM_is_J245 a KB81_ KX253_ r v1 v2 v3 v4 v6 u0 := by
  unfold qM_is_J245
  repeat' (first | (with_reducible exact id) | (with_reducible exact hKB81 _ _ _ _ _ _ _) | (with_reducible exact hKX253 _ _ _ _ _ _) | (with_reducible refine mo_and ?_ ?_) | (with_reducible refine mo_imp ?_) | (with_reducible refine mo_all ?_) | (with_reducible refine mo_ex ?_) | (with_reducible intro _))
theorem mn_qM_is_J226 {a : L_} {KB81 KB81_ : S_ → Int32 → Int32 → Int32 → Int32 → Int32 → Int32 → Prop} {KX253 KX253_ : S_ → Int32 → Int32 → Int32 → Int32 → Int32 → Prop} {r : S_} {v1 : Int32} {v2 : Int32} {v3 : Int32} {v4 : Int32} {v5 : Int32} {v6 : Int32} {u0 : Int32} (hKB81 : ∀ (x0 : S_) (x1 : Int32) (x2 : Int32) (x3 : Int32) (x4 : Int32) (x5 : Int32) (x6 : Int32), KB81 x0 x1 x2 x3 x4 x5 x6 → KB81_ x0 x1 x2 x3 x4 x5 x6) (hKX253 : ∀ (x0 : S_) (x1 : Int32) (x2 : Int32) (x3 : Int32) (x4 : Int32) (x5 : Int32), KX253 x0 x1 x2 x3 x4 x5 → KX253_ x0 x1 x2 x3 x4 x5) : qM_is_J226 a KB81 KX253 r v1 v2 v3 v4 v5 v6 u0 → qM_is_J226 a KB81_ KX253_ r v1 v2 v3 v4 v5 v6 u0 := by
  unfold qM_is_J226
  repeat' (first | (with_reducible exact id) | (with_reducible exact hKB81 _ _ _ _ _ _ _) | (with_reducible exact hKX253 _ _ _ _ _ _) | (with_reducible refine mn_qM_is_J245 ?_ ?_) | (with_reducible refine mo_and ?_ ?_) | (with_reducible refine mo_imp ?_) | (with_reducible refine mo_all ?_) | (with_reducible refine mo_ex ?_) | (with_reducible intro _))
theorem mn_qM_is_J225 {a : L_} {KB81 KB81_ : S_ → Int32 → Int32 → Int32 → Int32 → Int32 → Int32 → Prop} {KX253 KX253_ : S_ → Int32 → Int32 → Int32 → Int32 → Int32 → Prop} {r : S_} {v1 : Int32} {v2 : Int32} {v3 : Int32} {v4 : Int32} {v5 : Int32} {v6 : Int32} (hKB81 : ∀ (x0 : S_) (x1 : Int32) (x2 : Int32) (x3 : Int32) (x4 : Int32) (x5 : Int32) (x6 : Int32), KB81 x0 x1 x2 x3 x4 x5 x6 → KB81_ x0 x1 x2 x3 x4 x5 x6) (hKX253 : ∀ (x0 : S_) (x1 : Int32) (x2 : Int32) (x3 : Int32) (x4 : Int32) (x5 : Int32), KX253 x0 x1 x2 x3 x4 x5 → KX253_ x0 x1 x2 x3 x4 x5) : qM_is_J225 a KB81 KX253 r v1 v2 v3 v4 v5 v6 → qM_is_J225 a KB81_ KX253_ r v1 v2 v3 v4 v5 v6 := by
  unfold qM_is_J225
  repeat' (first | (with_reducible exact id) | (with_reducible exact hKB81 _ _ _ _ _ _ _) | (with_reducible exact hKX253 _ _ _ _ _ _) | (with_reducible refine mn_qM_is_J226 ?_ ?_) | (with_reducible refine mo_and ?_ ?_) | (with_reducible refine mo_imp ?_) | (with_reducible refine mo_all ?_) | (with_reducible refine mo_ex ?_) | (with_reducible intro _))
theorem mn_qM_is_J179 {a : L_} {KB81 KB81_ : S_ → Int32 → Int32 → Int32 → Int32 → Int32 → Int32 → Prop} {KX253 KX253_ : S_ → Int32 → Int32 → Int32 → Int32 → Int32 → Prop} {r : S_} {v1 : Int32} {v2 : Int32} {v3 : Int32} {v4 : Int32} {v5 : Int32} {v6 : Int32} {v7 : Int32} {v8 : Int32} {u0 : Int32} (hKB81 : ∀ (x0 : S_) (x1 : Int32) (x2 : Int32) (x3 : Int32) (x4 : Int32) (x5 : Int32) (x6 : Int32), KB81 x0 x1 x2 x3 x4 x5 x6 → KB81_ x0 x1 x2 x3 x4 x5 x6) (hKX253 : ∀ (x0 : S_) (x1 : Int32) (x2 : Int32) (x3 : Int32) (x4 : Int32) (x5 : Int32), KX253 x0 x1 x2 x3 x4 x5 → KX253_ x0 x1 x2 x3 x4 x5) : qM_is_J179 a KB81 KX253 r v1 v2 v3 v4 v5 v6 v7 v8 u0 → qM_is_J179 a KB81_ KX253_ r v1 v2 v3 v4 v5 v6 v7 v8 u0 := by
  unfold qM_is_J179
  repeat' (first | (with_reducible exact id) | (with_reducible exact hKB81 _ _ _ _ _ _ _) | (with_reducible exact hKX253 _ _ _ _ _ _) | (with_reducible refine mn_qM_is_J225 ?_ ?_) | (with_reducible refine mn_qM_is_J226 ?_ ?_) | (with_reducible refine mo_and ?_ ?_) | (with_reducible refine mo_imp ?_) | (with_reducible refine mo_all ?_) | (with_reducible refine mo_ex ?_) | (with_reducible intro _))
theorem mn_qM_is_J151 {a : L_} {KB81 KB81_ : S_ → Int32 → Int32 → Int32 → Int32 → Int32 → Int32 → Prop} {KX253 KX253_ : S_ → Int32 → Int32 → Int32 → Int32 → Int32 → Prop} {r : S_} {v1 : Int32} {v2 : Int32} {v3 : Int32} {v4 : Int32} {v5 : Int32} {v6 : Int32} {v7 : Int32} {u0 : Int32} (hKB81 : ∀ (x0 : S_) (x1 : Int32) (x2 : Int32) (x3 : Int32) (x4 : Int32) (x5 : Int32) (x6 : Int32), KB81 x0 x1 x2 x3 x4 x5 x6 → KB81_ x0 x1 x2 x3 x4 x5 x6) (hKX253 : ∀ (x0 : S_) (x1 : Int32) (x2 : Int32) (x3 : Int32) (x4 : Int32) (x5 : Int32), KX253 x0 x1 x2 x3 x4 x5 → KX253_ x0 x1 x2 x3 x4 x5) : qM_is_J151 a KB81 KX253 r v1 v2 v3 v4 v5 v6 v7 u0 → qM_is_J151 a KB81_ KX253_ r v1 v2 v3 v4 v5 v6 v7 u0 := by
  unfold qM_is_J151
  repeat' (first | (with_reducible exact id) | (with_reducible exact hKB81 _ _ _ _ _ _ _) | (with_reducible exact hKX253 _ _ _ _ _ _) | (with_reducible refine mn_qM_is_J179 ?_ ?_) | (with_reducible refine mo_and ?_ ?_) | (with_reducible refine mo_imp ?_) | (with_reducible refine mo_all ?_) | (with_reducible refine mo_ex ?_) | (with_reducible intro _))
theorem mn_qM_is_L81 {a : L_} {KX253 KX253_ : S_ → Int32 → Int32 → Int32 → Int32 → Int32 → Prop} (hKX253 : ∀ (x0 : S_) (x1 : Int32) (x2 : Int32) (x3 : Int32) (x4 : Int32) (x5 : Int32), KX253 x0 x1 x2 x3 x4 x5 → KX253_ x0 x1 x2 x3 x4 x5) : ∀ (n : Nat) (w0 : S_) (w1 : Int32) (w2 : Int32) (w3 : Int32) (w4 : Int32) (w5 : Int32) (w6 : Int32), qM_is_L81 a KX253 n w0 w1 w2 w3 w4 w5 w6 → qM_is_L81 a KX253_ n w0 w1 w2 w3 w4 w5 w6 := by
  intro n
  induction n with
  | zero => intro w0 w1 w2 w3 w4 w5 w6 h; exact h
  | succ n ih =>
    intro w0 w1 w2 w3 w4 w5 w6
    rw [qM_is_L81, qM_is_L81]
    repeat' (first | (with_reducible exact id) | (with_reducible exact hKX253 _ _ _ _ _ _) | (with_reducible exact ih _ _ _ _ _ _ _) | (with_reducible refine mn_qM_is_J151 ?_ ?_) | (with_reducible refine mo_and ?_ ?_) | (with_reducible refine mo_imp ?_) | (with_reducible refine mo_all ?_) | (with_reducible refine mo_ex ?_) | (with_reducible intro _))
theorem mn_qM_is_J253 {a : L_} {KB39 KB39_ : S_ → Int32 → Int32 → Int32 → Int32 → Prop} {KX268 KX268_ : S_ → Int32 → Int32 → Int32 → Prop} {r : S_} {v1 : Int32} {v2 : Int32} {v3 : Int32} {v4 : Int32} {v5 : Int32} (hKB39 : ∀ (x0 : S_) (x1 : Int32) (x2 : Int32) (x3 : Int32) (x4 : Int32), KB39 x0 x1 x2 x3 x4 → KB39_ x0 x1 x2 x3 x4) (hKX268 : ∀ (x0 : S_) (x1 : Int32) (x2 : Int32) (x3 : Int32), KX268 x0 x1 x2 x3 → KX268_ x0 x1 x2 x3) : qM_is_J253 a KB39 KX268 r v1 v2 v3 v4 v5 → qM_is_J253 a KB39_ KX268_ r v1 v2 v3 v4 v5 := by
  unfold qM_is_J253
  repeat' (first | (with_reducible exact id) | (with_reducible exact hKB39 _ _ _ _ _) | (with_reducible exact hKX268 _ _ _ _) | (with_reducible refine mo_and ?_ ?_) | (with_reducible refine mo_imp ?_) | (with_reducible refine mo_all ?_) | (with_reducible refine mo_ex ?_) | (with_reducible intro _))
theorem mn_qM_is_J74 {a : L_} {KB39 KB39_ : S_ → Int32 → Int32 → Int32 → Int32 → Prop} {KX268 KX268_ : S_ → Int32 → Int32 → Int32 → Prop} {r : S_} {v1 : Int32} {v2 : Int32} {v4 : Int32} {u0 : Int32} (hKB39 : ∀ (x0 : S_) (x1 : Int32) (x2 : Int32) (x3 : Int32) (x4 : Int32), KB39 x0 x1 x2 x3 x4 → KB39_ x0 x1 x2 x3 x4) (hKX268 : ∀ (x0 : S_) (x1 : Int32) (x2 : Int32) (x3 : Int32), KX268 x0 x1 x2 x3 → KX268_ x0 x1 x2 x3) : qM_is_J74 a KB39 KX268 r v1 v2 v4 u0 → qM_is_J74 a KB39_ KX268_ r v1 v2 v4 u0 := by
  unfold qM_is_J74
  repeat' (first | (with_reducible exact id) | (with_reducible exact hKB39 _ _ _ _ _) | (with_reducible exact hKX268 _ _ _ _) | (with_reducible refine mn_qM_is_L81 ?_ _ _ _ _ _ _ _ _) | (with_reducible refine mn_qM_is_J253 ?_ ?_) | (with_reducible refine mo_and ?_ ?_) | (with_reducible refine mo_imp ?_) | (with_reducible refine mo_all ?_) | (with_reducible refine mo_ex ?_) | (with_reducible intro _))
theorem mn_qM_is_J73 {a : L_} {KB39 KB39_ : S_ → Int32 → Int32 → Int32 → Int32 → Prop} {KX268 KX268_ : S_ → Int32 → Int32 → Int32 → Prop} {r : S_} {v1 : Int32} {v2 : Int32} {v4 : Int32} (hKB39 : ∀ (x0 : S_) (x1 : Int32) (x2 : Int32) (x3 : Int32) (x4 : Int32), KB39 x0 x1 x2 x3 x4 → KB39_ x0 x1 x2 x3 x4) (hKX268 : ∀ (x0 : S_) (x1 : Int32) (x2 : Int32) (x3 : Int32), KX268 x0 x1 x2 x3 → KX268_ x0 x1 x2 x3) : qM_is_J73 a KB39 KX268 r v1 v2 v4 → qM_is_J73 a KB39_ KX268_ r v1 v2 v4 := by
  unfold qM_is_J73
  repeat' (first | (with_reducible exact id) | (with_reducible exact hKB39 _ _ _ _ _) | (with_reducible exact hKX268 _ _ _ _) | (with_reducible refine mn_qM_is_J74 ?_ ?_) | (with_reducible refine mo_and ?_ ?_) | (with_reducible refine mo_imp ?_) | (with_reducible refine mo_all ?_) | (with_reducible refine mo_ex ?_) | (with_reducible intro _))
theorem mn_qM_is_J69 {a : L_} {KB39 KB39_ : S_ → Int32 → Int32 → Int32 → Int32 → Prop} {KX268 KX268_ : S_ → Int32 → Int32 → Int32 → Prop} {r : S_} {v1 : Int32} {v2 : Int32} {v4 : Int32} (hKB39 : ∀ (x0 : S_) (x1 : Int32) (x2 : Int32) (x3 : Int32) (x4 : Int32), KB39 x0 x1 x2 x3 x4 → KB39_ x0 x1 x2 x3 x4) (hKX268 : ∀ (x0 : S_) (x1 : Int32) (x2 : Int32) (x3 : Int32), KX268 x0 x1 x2 x3 → KX268_ x0 x1 x2 x3) : qM_is_J69 a KB39 KX268 r v1 v2 v4 → qM_is_J69 a KB39_ KX268_ r v1 v2 v4 := by
  unfold qM_is_J69
  repeat' (first | (with_reducible exact id) | (with_reducible exact hKB39 _ _ _ _ _) | (with_reducible exact hKX268 _ _ _ _) | (with_reducible refine mn_qM_is_J74 ?_ ?_) | (with_reducible refine mo_and ?_ ?_) | (with_reducible refine mo_imp ?_) | (with_reducible refine mo_all ?_) | (with_reducible refine mo_ex ?_) | (with_reducible intro _))
theorem mn_qM_is_L39 {a : L_} {KX268 KX268_ : S_ → Int32 → Int32 → Int32 → Prop} (hKX268 : ∀ (x0 : S_) (x1 : Int32) (x2 : Int32) (x3 : Int32), KX268 x0 x1 x2 x3 → KX268_ x0 x1 x2 x3) : ∀ (n : Nat) (w0 : S_) (w1 : Int32) (w2 : Int32) (w3 : Int32) (w4 : Int32), qM_is_L39 a KX268 n w0 w1 w2 w3 w4 → qM_is_L39 a KX268_ n w0 w1 w2 w3 w4 := by
  intro n
  induction n with
  | zero => intro w0 w1 w2 w3 w4 h; exact h
  | succ n ih =>
    intro w0 w1 w2 w3 w4
    rw [qM_is_L39, qM_is_L39]
    repeat' (first | (with_reducible exact id) | (with_reducible exact hKX268 _ _ _ _) | (with_reducible exact ih _ _ _ _ _) | (with_reducible refine mn_qM_is_J73 ?_ ?_) | (with_reducible refine mn_qM_is_J69 ?_ ?_) | (with_reducible refine mo_and ?_ ?_) | (with_reducible refine mo_imp ?_) | (with_reducible refine mo_all ?_) | (with_reducible refine mo_ex ?_) | (with_reducible intro _))
theorem mn_qM_is {a : L_} {K K_ : Int32 → S_ → Prop} {r : S_} {p0 : Int32} {p1 : Int32} (hK : ∀ (x0 : Int32) (x1 : S_), K x0 x1 → K_ x0 x1) : qM_is a K r p0 p1 → qM_is a K_ r p0 p1 := by
  unfold qM_is
  repeat' (first | (with_reducible exact id) | (with_reducible exact hK _ _) | (with_reducible refine mn_qM_isClass ?_) | (with_reducible refine mn_qM_in ?_) | (with_reducible refine mn_qM_markStatic ?_) | (with_reducible refine mn_qM_is_L39 ?_ _ _ _ _ _ _) | (with_reducible refine mo_and ?_ ?_) | (with_reducible refine mo_imp ?_) | (with_reducible refine mo_all ?_) | (with_reducible refine mo_ex ?_) | (with_reducible intro _))
theorem mn_qM_under_J21 {a : L_} {K K_ : Int32 → S_ → Prop} {r : S_} (hK : ∀ (x0 : Int32) (x1 : S_), K x0 x1 → K_ x0 x1) : qM_under_J21 a K r → qM_under_J21 a K_ r := by
  unfold qM_under_J21
  repeat' (first | (with_reducible exact id) | (with_reducible exact hK _ _) | (with_reducible refine mo_and ?_ ?_) | (with_reducible refine mo_imp ?_) | (with_reducible refine mo_all ?_) | (with_reducible refine mo_ex ?_) | (with_reducible intro _))
theorem mn_qM_under {a : L_} {K K_ : Int32 → S_ → Prop} {r : S_} {p0 : Int32} {p1 : Int32} (hK : ∀ (x0 : Int32) (x1 : S_), K x0 x1 → K_ x0 x1) : qM_under a K r p0 p1 → qM_under a K_ r p0 p1 := by
  unfold qM_under
  repeat' (first | (with_reducible exact id) | (with_reducible exact hK _ _) | (with_reducible refine mn_qM_isClass ?_) | (with_reducible refine mn_qM_under_J21 ?_) | (with_reducible refine mn_qM_isUnder ?_) | (with_reducible refine mo_and ?_ ?_) | (with_reducible refine mo_imp ?_) | (with_reducible refine mo_all ?_) | (with_reducible refine mo_ex ?_) | (with_reducible intro _))
theorem mn_qM_types {a : L_} {K K_ : Int32 → S_ → Prop} {r : S_} (hK : ∀ (x0 : Int32) (x1 : S_), K x0 x1 → K_ x0 x1) : qM_types a K r → qM_types a K_ r := by
  unfold qM_types
  repeat' (first | (with_reducible exact id) | (with_reducible exact hK _ _) | (with_reducible refine mo_and ?_ ?_) | (with_reducible refine mo_imp ?_) | (with_reducible refine mo_all ?_) | (with_reducible refine mo_ex ?_) | (with_reducible intro _))
theorem mn_qM_classes {a : L_} {K K_ : Int32 → S_ → Prop} {r : S_} (hK : ∀ (x0 : Int32) (x1 : S_), K x0 x1 → K_ x0 x1) : qM_classes a K r → qM_classes a K_ r := by
  unfold qM_classes
  repeat' (first | (with_reducible exact id) | (with_reducible exact hK _ _) | (with_reducible refine mo_and ?_ ?_) | (with_reducible refine mo_imp ?_) | (with_reducible refine mo_all ?_) | (with_reducible refine mo_ex ?_) | (with_reducible intro _))
theorem mn_qM_expressions {a : L_} {K K_ : Int32 → S_ → Prop} {r : S_} (hK : ∀ (x0 : Int32) (x1 : S_), K x0 x1 → K_ x0 x1) : qM_expressions a K r → qM_expressions a K_ r := by
  unfold qM_expressions
  repeat' (first | (with_reducible exact id) | (with_reducible exact hK _ _) | (with_reducible refine mo_and ?_ ?_) | (with_reducible refine mo_imp ?_) | (with_reducible refine mo_all ?_) | (with_reducible refine mo_ex ?_) | (with_reducible intro _))
theorem mn_qK_holdsAllDown {a : L_} {r : S_} : ∀ (d : Nat) {K K_ : Int32 → Prop} (hK : ∀ (x0 : Int32), K x0 → K_ x0) (p0 p1 p3 : Int32), qK_holdsAllDown a r d K p0 p1 p3 → qK_holdsAllDown a r d K_ p0 p1 p3 := by
  intro d
  induction d with
  | zero => intro K K_ _ _ _ _ h; exact h
  | succ d ih =>
    intro K K_ hK p0 p1 p3
    rw [qK_holdsAllDown, qK_holdsAllDown]
    unfold qK_holdsAllDown_B qK_holdsAllDown_B_J96 qK_holdsAllDown_B_J118
    repeat' (first | (with_reducible exact id) | (with_reducible exact hK _) | (with_reducible refine ih ?_ _ _ _) | (with_reducible refine mn_qK_haveInstances ?_) | (with_reducible refine mn_qK_joined ?_) | (with_reducible refine mo_and ?_ ?_) | (with_reducible refine mo_imp ?_) | (with_reducible refine mo_all ?_) | (with_reducible refine mo_ex ?_) | (with_reducible intro _))
theorem mn_qK_holdsAll {a : L_} {r : S_} {K K_ : Int32 → Prop} {p0 : Int32} {p1 : Int32} (hK : ∀ (x0 : Int32), K x0 → K_ x0) : qK_holdsAll a r K p0 p1 → qK_holdsAll a r K_ p0 p1 := by
  unfold qK_holdsAll
  repeat' (first | (with_reducible exact id) | (with_reducible exact hK _) | (with_reducible refine mn_qK_holdsAllDown 19 ?_ _ _ _) | (with_reducible refine mo_and ?_ ?_) | (with_reducible refine mo_imp ?_) | (with_reducible refine mo_all ?_) | (with_reducible refine mo_ex ?_) | (with_reducible intro _))
theorem mn_qI_is {a : L_} {r : S_} {K K_ : Int32 → Prop} {p0 : Int32} {p1 : Int32} (hK : ∀ (x0 : Int32), K x0 → K_ x0) : qI_is a r K p0 p1 → qI_is a r K_ p0 p1 := by
  unfold qI_is
  repeat' (first | (with_reducible exact id) | (with_reducible exact hK _) | (with_reducible refine mn_qK_hasClass ?_) | (with_reducible refine mn_qT_hasType ?_) | (with_reducible refine mn_qT_holdsVariables ?_) | (with_reducible refine mn_qK_holdsAll ?_) | (with_reducible refine mo_and ?_ ?_) | (with_reducible refine mo_imp ?_) | (with_reducible refine mo_all ?_) | (with_reducible refine mo_ex ?_) | (with_reducible intro _))
end MONO
