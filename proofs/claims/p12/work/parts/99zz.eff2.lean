section MTH2
variable {p : Program} {l : Launch} {e : Env} {s : State} {m : MethodId} {args : Array Value} {below : List Frame} {meth : Method} {c : Code} {Q : State → Prop} {A : Nat → Prop} {D : va_G} {G : G_} {ws0 : va_W} {mc ms : Nat} {a0 : L_}
def qG_grow (K : L_ → S_ → Prop) (a0 : L_) (r : S_) (kc0 : Nat) (ks0 : Nat) (p0 : Int32) : Prop :=
  ln a0 21 < 2 ^ 31 ∧ ¬ p0 < 0 ∧ ¬ p0 = Int32.ofNat (ln a0 21) ∧ p0.toNatClampNeg * 4 ≤ 536870912 ∧ ∃ k5 s6 : Nat, 1 + k5 = kc0 ∧ p0.toNatClampNeg + s6 = ks0 ∧ ∀ (q9 : Nat) (a10 : L_) (r11 : S_), a10 = sAd a0 21 q9 p0.toNatClampNeg → r11 = sA r 21 (va_cpy (ar r 21) (fun _ => 0) 0 0 (cp_n p0 (ln a0 21)).toNatClampNeg) → ln a10 22 < 2 ^ 31 ∧ ¬ p0 < 0 ∧ ¬ p0 = Int32.ofNat (ln a10 22) ∧ p0.toNatClampNeg * 4 ≤ 536870912 ∧ ∃ k16 s17 : Nat, 1 + k16 = k5 ∧ p0.toNatClampNeg + s17 = s6 ∧ ∀ (q20 : Nat) (a21 : L_) (r22 : S_), a21 = sAd a10 22 q20 p0.toNatClampNeg → r22 = sA r11 22 (va_cpy (ar r11 22) (fun _ => 0) 0 0 (cp_n p0 (ln a10 22)).toNatClampNeg) → ln a21 23 < 2 ^ 31 ∧ ¬ p0 < 0 ∧ ¬ p0 = Int32.ofNat (ln a21 23) ∧ p0.toNatClampNeg * 4 ≤ 536870912 ∧ ∃ k27 s28 : Nat, 1 + k27 = k16 ∧ p0.toNatClampNeg + s28 = s17 ∧ ∀ (q31 : Nat) (a32 : L_) (r33 : S_), a32 = sAd a21 23 q31 p0.toNatClampNeg → r33 = sA r22 23 (va_cpy (ar r22 23) (fun _ => 0) 0 0 (cp_n p0 (ln a21 23)).toNatClampNeg) → ln a32 24 < 2 ^ 31 ∧ ¬ p0 < 0 ∧ ¬ p0 = Int32.ofNat (ln a32 24) ∧ p0.toNatClampNeg * 4 ≤ 536870912 ∧ ∃ k38 s39 : Nat, 1 + k38 = k27 ∧ p0.toNatClampNeg + s39 = s28 ∧ ∀ (q42 : Nat) (a43 : L_) (r44 : S_), a43 = sAd a32 24 q42 p0.toNatClampNeg → r44 = sA r33 24 (va_cpy (ar r33 24) (fun _ => 0) 0 0 (cp_n p0 (ln a32 24)).toNatClampNeg) → ln a43 25 < 2 ^ 31 ∧ ¬ p0 < 0 ∧ ¬ p0 = Int32.ofNat (ln a43 25) ∧ p0.toNatClampNeg * 4 ≤ 536870912 ∧ ∃ k49 s50 : Nat, 1 + k49 = k38 ∧ p0.toNatClampNeg + s50 = s39 ∧ ∀ (q53 : Nat) (a54 : L_) (r55 : S_), a54 = sAd a43 25 q53 p0.toNatClampNeg → r55 = sA r44 25 (va_cpy (ar r44 25) (fun _ => 0) 0 0 (cp_n p0 (ln a43 25)).toNatClampNeg) → ln a54 26 < 2 ^ 31 ∧ ¬ p0 < 0 ∧ ¬ p0 = Int32.ofNat (ln a54 26) ∧ p0.toNatClampNeg * 4 ≤ 536870912 ∧ ∃ k60 s61 : Nat, 1 + k60 = k49 ∧ p0.toNatClampNeg + s61 = s50 ∧ ∀ (q64 : Nat) (a65 : L_) (r66 : S_), a65 = sAd a54 26 q64 p0.toNatClampNeg → r66 = sA r55 26 (va_cpy (ar r55 26) (fun _ => 0) 0 0 (cp_n p0 (ln a54 26)).toNatClampNeg) → ln a65 27 < 2 ^ 31 ∧ ¬ p0 < 0 ∧ ¬ p0 = Int32.ofNat (ln a65 27) ∧ p0.toNatClampNeg * 4 ≤ 536870912 ∧ ∃ k71 s72 : Nat, 1 + k71 = k60 ∧ p0.toNatClampNeg + s72 = s61 ∧ ∀ (q75 : Nat) (a76 : L_) (r77 : S_), a76 = sAd a65 27 q75 p0.toNatClampNeg → r77 = sA r66 27 (va_cpy (ar r66 27) (fun _ => 0) 0 0 (cp_n p0 (ln a65 27)).toNatClampNeg) → ln a76 28 < 2 ^ 31 ∧ ¬ p0 < 0 ∧ ¬ p0 = Int32.ofNat (ln a76 28) ∧ p0.toNatClampNeg * 4 ≤ 536870912 ∧ ∃ k82 s83 : Nat, 1 + k82 = k71 ∧ p0.toNatClampNeg + s83 = s72 ∧ ∀ (q86 : Nat) (a87 : L_) (r88 : S_), a87 = sAd a76 28 q86 p0.toNatClampNeg → r88 = sA r77 28 (va_cpy (ar r77 28) (fun _ => 0) 0 0 (cp_n p0 (ln a76 28)).toNatClampNeg) → ln a87 29 < 2 ^ 31 ∧ ¬ p0 < 0 ∧ ¬ p0 = Int32.ofNat (ln a87 29) ∧ p0.toNatClampNeg * 4 ≤ 536870912 ∧ ∃ k93 s94 : Nat, 1 + k93 = k82 ∧ p0.toNatClampNeg + s94 = s83 ∧ ∀ (q97 : Nat) (a98 : L_) (r99 : S_), a98 = sAd a87 29 q97 p0.toNatClampNeg → r99 = sA r88 29 (va_cpy (ar r88 29) (fun _ => 0) 0 0 (cp_n p0 (ln a87 29)).toNatClampNeg) → ln a98 30 < 2 ^ 31 ∧ ¬ p0 < 0 ∧ ¬ p0 = Int32.ofNat (ln a98 30) ∧ p0.toNatClampNeg * 4 ≤ 536870912 ∧ ∃ k104 s105 : Nat, 1 + k104 = k93 ∧ p0.toNatClampNeg + s105 = s94 ∧ ∀ (q108 : Nat) (a109 : L_) (r110 : S_), a109 = sAd a98 30 q108 p0.toNatClampNeg → r110 = sA r99 30 (va_cpy (ar r99 30) (fun _ => 0) 0 0 (cp_n p0 (ln a98 30)).toNatClampNeg) → ln a109 31 < 2 ^ 31 ∧ ¬ ((2 * p0) + 4) < 0 ∧ ¬ ((2 * p0) + 4) = Int32.ofNat (ln a109 31) ∧ ((2 * p0) + 4).toNatClampNeg * 4 ≤ 536870912 ∧ ∃ k115 s116 : Nat, 1 + k115 = k104 ∧ ((2 * p0) + 4).toNatClampNeg + s116 = s105 ∧ ∀ (q119 : Nat) (a120 : L_) (r121 : S_), a120 = sAd a109 31 q119 ((2 * p0) + 4).toNatClampNeg → r121 = sA r110 31 (va_cpy (ar r110 31) (fun _ => 0) 0 0 (cp_n ((2 * p0) + 4) (ln a109 31)).toNatClampNeg) → K a120 r121
set_option maxRecDepth 100000 in
set_option maxHeartbeats 4000000 in
theorem cG_grow {a0 : L_} {r : S_} {kc0 : Nat} {ks0 : Nat} {K : L_ → S_ → Prop} (p0 : Int32) (h : qG_grow K a0 r kc0 ks0 p0) : vx_Mv l yG_grow (Cond.code yG_grow prog_4_method_4_code 2 none :: wAll) { frames := 2, cells := kc0, slots := ks0, locals := 49 } D vwCl (tysG G) nwAll (wo G a0 r) [.ref (ob G 5), .int p0] kc0 ks0 (fun w => ∃ a1 r1, w = wo G a1 r1 ∧ fx a0 a1 ∧ K a1 r1) := by
  unfold qG_grow at h
  refine x_metv (cc := prog_4_method_4_code) (maxL := 2) (ret := none) (lv0 := [(0, .ref (ob G 5)), (1, .int p0)]) (by decide) rfl (Nat.le_of_ble_eq_true rfl) rfl ?_
  intro p e s m args below meth c A C hA hlocks hr
  have hu : 0 + kc0 ≤ kc0 := by omega
  have hv : 0 + ks0 ≤ ks0 := by omega
  have hfa : fx a0 a0 := fx_refl _
  refine x_aload_n C dG_grow_0 rfl 0 rfl ?_
  refine x_aload_n C dG_grow_1 rfl 0 rfl ?_
  refine gf_5_0 C (List.mem_cons_of_mem _ wm139) dG_grow_2 ?_
  refine x_iload_n C dG_grow_5 rfl 1 rfl ?_
  obtain ⟨g1, g2, g3, g4, k5, s6, e7, e8, h⟩ := h
  have hu9 : 0 + 1 ≤ kc0 := by omega
  have hv9 : 0 + p0.toNatClampNeg ≤ ks0 := by omega
  refine yc_21 C wm447 (List.mem_cons_of_mem _ wm139) g1 g2 g3 g4 ⟨Nat.le_of_ble_eq_true rfl, Nat.le_of_ble_eq_true rfl⟩ (Nat.le_of_ble_eq_true rfl) dG_grow_6 dG_grow_9 ⟨hu9, hv9⟩ (fun q9 a10 r11 ea10 er11 => ?_)
  have h := h q9 a10 r11 ea10 er11
  have hfa : fx a0 a10 := fx_trans hfa (by rw [ea10]; exact fx_sAd (by decide))
  have hu : (0 + 1) + k5 ≤ kc0 := by omega
  have hv : (0 + p0.toNatClampNeg) + s6 ≤ ks0 := by omega
  refine x_aload_n C dG_grow_12 rfl 0 rfl ?_
  refine x_aload_n C dG_grow_13 rfl 0 rfl ?_
  refine gf_5_1 C (List.mem_cons_of_mem _ wm141) dG_grow_14 ?_
  refine x_iload_n C dG_grow_17 rfl 1 rfl ?_
  obtain ⟨g12, g13, g14, g15, k16, s17, e18, e19, h⟩ := h
  have hu9 : (0 + 1) + 1 ≤ kc0 := by omega
  have hv9 : (0 + p0.toNatClampNeg) + p0.toNatClampNeg ≤ ks0 := by omega
  refine yc_22 C wm447 (List.mem_cons_of_mem _ wm141) g12 g13 g14 g15 ⟨Nat.le_of_ble_eq_true rfl, Nat.le_of_ble_eq_true rfl⟩ (Nat.le_of_ble_eq_true rfl) dG_grow_18 dG_grow_21 ⟨hu9, hv9⟩ (fun q20 a21 r22 ea21 er22 => ?_)
  have h := h q20 a21 r22 ea21 er22
  have hfa : fx a0 a21 := fx_trans hfa (by rw [ea21]; exact fx_sAd (by decide))
  have hu : ((0 + 1) + 1) + k16 ≤ kc0 := by omega
  have hv : ((0 + p0.toNatClampNeg) + p0.toNatClampNeg) + s17 ≤ ks0 := by omega
  refine x_aload_n C dG_grow_24 rfl 0 rfl ?_
  refine x_aload_n C dG_grow_25 rfl 0 rfl ?_
  refine gf_5_2 C (List.mem_cons_of_mem _ wm143) dG_grow_26 ?_
  refine x_iload_n C dG_grow_29 rfl 1 rfl ?_
  obtain ⟨g23, g24, g25, g26, k27, s28, e29, e30, h⟩ := h
  have hu9 : ((0 + 1) + 1) + 1 ≤ kc0 := by omega
  have hv9 : ((0 + p0.toNatClampNeg) + p0.toNatClampNeg) + p0.toNatClampNeg ≤ ks0 := by omega
  refine yc_23 C wm447 (List.mem_cons_of_mem _ wm143) g23 g24 g25 g26 ⟨Nat.le_of_ble_eq_true rfl, Nat.le_of_ble_eq_true rfl⟩ (Nat.le_of_ble_eq_true rfl) dG_grow_30 dG_grow_33 ⟨hu9, hv9⟩ (fun q31 a32 r33 ea32 er33 => ?_)
  have h := h q31 a32 r33 ea32 er33
  have hfa : fx a0 a32 := fx_trans hfa (by rw [ea32]; exact fx_sAd (by decide))
  have hu : (((0 + 1) + 1) + 1) + k27 ≤ kc0 := by omega
  have hv : (((0 + p0.toNatClampNeg) + p0.toNatClampNeg) + p0.toNatClampNeg) + s28 ≤ ks0 := by omega
  refine x_aload_n C dG_grow_36 rfl 0 rfl ?_
  refine x_aload_n C dG_grow_37 rfl 0 rfl ?_
  refine gf_5_3 C (List.mem_cons_of_mem _ wm145) dG_grow_38 ?_
  refine x_iload_n C dG_grow_41 rfl 1 rfl ?_
  obtain ⟨g34, g35, g36, g37, k38, s39, e40, e41, h⟩ := h
  have hu9 : (((0 + 1) + 1) + 1) + 1 ≤ kc0 := by omega
  have hv9 : (((0 + p0.toNatClampNeg) + p0.toNatClampNeg) + p0.toNatClampNeg) + p0.toNatClampNeg ≤ ks0 := by omega
  refine yc_24 C wm447 (List.mem_cons_of_mem _ wm145) g34 g35 g36 g37 ⟨Nat.le_of_ble_eq_true rfl, Nat.le_of_ble_eq_true rfl⟩ (Nat.le_of_ble_eq_true rfl) dG_grow_42 dG_grow_45 ⟨hu9, hv9⟩ (fun q42 a43 r44 ea43 er44 => ?_)
  have h := h q42 a43 r44 ea43 er44
  have hfa : fx a0 a43 := fx_trans hfa (by rw [ea43]; exact fx_sAd (by decide))
  have hu : ((((0 + 1) + 1) + 1) + 1) + k38 ≤ kc0 := by omega
  have hv : ((((0 + p0.toNatClampNeg) + p0.toNatClampNeg) + p0.toNatClampNeg) + p0.toNatClampNeg) + s39 ≤ ks0 := by omega
  refine x_aload_n C dG_grow_48 rfl 0 rfl ?_
  refine x_aload_n C dG_grow_49 rfl 0 rfl ?_
  refine gf_5_4 C (List.mem_cons_of_mem _ wm147) dG_grow_50 ?_
  refine x_iload_n C dG_grow_53 rfl 1 rfl ?_
  obtain ⟨g45, g46, g47, g48, k49, s50, e51, e52, h⟩ := h
  have hu9 : ((((0 + 1) + 1) + 1) + 1) + 1 ≤ kc0 := by omega
  have hv9 : ((((0 + p0.toNatClampNeg) + p0.toNatClampNeg) + p0.toNatClampNeg) + p0.toNatClampNeg) + p0.toNatClampNeg ≤ ks0 := by omega
  refine yc_25 C wm447 (List.mem_cons_of_mem _ wm147) g45 g46 g47 g48 ⟨Nat.le_of_ble_eq_true rfl, Nat.le_of_ble_eq_true rfl⟩ (Nat.le_of_ble_eq_true rfl) dG_grow_54 dG_grow_57 ⟨hu9, hv9⟩ (fun q53 a54 r55 ea54 er55 => ?_)
  have h := h q53 a54 r55 ea54 er55
  have hfa : fx a0 a54 := fx_trans hfa (by rw [ea54]; exact fx_sAd (by decide))
  have hu : (((((0 + 1) + 1) + 1) + 1) + 1) + k49 ≤ kc0 := by omega
  have hv : (((((0 + p0.toNatClampNeg) + p0.toNatClampNeg) + p0.toNatClampNeg) + p0.toNatClampNeg) + p0.toNatClampNeg) + s50 ≤ ks0 := by omega
  refine x_aload_n C dG_grow_60 rfl 0 rfl ?_
  refine x_aload_n C dG_grow_61 rfl 0 rfl ?_
  refine gf_5_5 C (List.mem_cons_of_mem _ wm149) dG_grow_62 ?_
  refine x_iload_n C dG_grow_65 rfl 1 rfl ?_
  obtain ⟨g56, g57, g58, g59, k60, s61, e62, e63, h⟩ := h
  have hu9 : (((((0 + 1) + 1) + 1) + 1) + 1) + 1 ≤ kc0 := by omega
  have hv9 : (((((0 + p0.toNatClampNeg) + p0.toNatClampNeg) + p0.toNatClampNeg) + p0.toNatClampNeg) + p0.toNatClampNeg) + p0.toNatClampNeg ≤ ks0 := by omega
  refine yc_26 C wm447 (List.mem_cons_of_mem _ wm149) g56 g57 g58 g59 ⟨Nat.le_of_ble_eq_true rfl, Nat.le_of_ble_eq_true rfl⟩ (Nat.le_of_ble_eq_true rfl) dG_grow_66 dG_grow_69 ⟨hu9, hv9⟩ (fun q64 a65 r66 ea65 er66 => ?_)
  have h := h q64 a65 r66 ea65 er66
  have hfa : fx a0 a65 := fx_trans hfa (by rw [ea65]; exact fx_sAd (by decide))
  have hu : ((((((0 + 1) + 1) + 1) + 1) + 1) + 1) + k60 ≤ kc0 := by omega
  have hv : ((((((0 + p0.toNatClampNeg) + p0.toNatClampNeg) + p0.toNatClampNeg) + p0.toNatClampNeg) + p0.toNatClampNeg) + p0.toNatClampNeg) + s61 ≤ ks0 := by omega
  refine x_aload_n C dG_grow_72 rfl 0 rfl ?_
  refine x_aload_n C dG_grow_73 rfl 0 rfl ?_
  refine gf_5_6 C (List.mem_cons_of_mem _ wm151) dG_grow_74 ?_
  refine x_iload_n C dG_grow_77 rfl 1 rfl ?_
  obtain ⟨g67, g68, g69, g70, k71, s72, e73, e74, h⟩ := h
  have hu9 : ((((((0 + 1) + 1) + 1) + 1) + 1) + 1) + 1 ≤ kc0 := by omega
  have hv9 : ((((((0 + p0.toNatClampNeg) + p0.toNatClampNeg) + p0.toNatClampNeg) + p0.toNatClampNeg) + p0.toNatClampNeg) + p0.toNatClampNeg) + p0.toNatClampNeg ≤ ks0 := by omega
  refine yc_27 C wm447 (List.mem_cons_of_mem _ wm151) g67 g68 g69 g70 ⟨Nat.le_of_ble_eq_true rfl, Nat.le_of_ble_eq_true rfl⟩ (Nat.le_of_ble_eq_true rfl) dG_grow_78 dG_grow_81 ⟨hu9, hv9⟩ (fun q75 a76 r77 ea76 er77 => ?_)
  have h := h q75 a76 r77 ea76 er77
  have hfa : fx a0 a76 := fx_trans hfa (by rw [ea76]; exact fx_sAd (by decide))
  have hu : (((((((0 + 1) + 1) + 1) + 1) + 1) + 1) + 1) + k71 ≤ kc0 := by omega
  have hv : (((((((0 + p0.toNatClampNeg) + p0.toNatClampNeg) + p0.toNatClampNeg) + p0.toNatClampNeg) + p0.toNatClampNeg) + p0.toNatClampNeg) + p0.toNatClampNeg) + s72 ≤ ks0 := by omega
  refine x_aload_n C dG_grow_84 rfl 0 rfl ?_
  refine x_aload_n C dG_grow_85 rfl 0 rfl ?_
  refine gf_5_8 C (List.mem_cons_of_mem _ wm155) dG_grow_86 ?_
  refine x_iload_n C dG_grow_89 rfl 1 rfl ?_
  obtain ⟨g78, g79, g80, g81, k82, s83, e84, e85, h⟩ := h
  have hu9 : (((((((0 + 1) + 1) + 1) + 1) + 1) + 1) + 1) + 1 ≤ kc0 := by omega
  have hv9 : (((((((0 + p0.toNatClampNeg) + p0.toNatClampNeg) + p0.toNatClampNeg) + p0.toNatClampNeg) + p0.toNatClampNeg) + p0.toNatClampNeg) + p0.toNatClampNeg) + p0.toNatClampNeg ≤ ks0 := by omega
  refine yc_28 C wm447 (List.mem_cons_of_mem _ wm155) g78 g79 g80 g81 ⟨Nat.le_of_ble_eq_true rfl, Nat.le_of_ble_eq_true rfl⟩ (Nat.le_of_ble_eq_true rfl) dG_grow_90 dG_grow_93 ⟨hu9, hv9⟩ (fun q86 a87 r88 ea87 er88 => ?_)
  have h := h q86 a87 r88 ea87 er88
  have hfa : fx a0 a87 := fx_trans hfa (by rw [ea87]; exact fx_sAd (by decide))
  have hu : ((((((((0 + 1) + 1) + 1) + 1) + 1) + 1) + 1) + 1) + k82 ≤ kc0 := by omega
  have hv : ((((((((0 + p0.toNatClampNeg) + p0.toNatClampNeg) + p0.toNatClampNeg) + p0.toNatClampNeg) + p0.toNatClampNeg) + p0.toNatClampNeg) + p0.toNatClampNeg) + p0.toNatClampNeg) + s83 ≤ ks0 := by omega
  refine x_aload_n C dG_grow_96 rfl 0 rfl ?_
  refine x_aload_n C dG_grow_97 rfl 0 rfl ?_
  refine gf_5_9 C (List.mem_cons_of_mem _ wm156) dG_grow_98 ?_
  refine x_iload_n C dG_grow_101 rfl 1 rfl ?_
  obtain ⟨g89, g90, g91, g92, k93, s94, e95, e96, h⟩ := h
  have hu9 : ((((((((0 + 1) + 1) + 1) + 1) + 1) + 1) + 1) + 1) + 1 ≤ kc0 := by omega
  have hv9 : ((((((((0 + p0.toNatClampNeg) + p0.toNatClampNeg) + p0.toNatClampNeg) + p0.toNatClampNeg) + p0.toNatClampNeg) + p0.toNatClampNeg) + p0.toNatClampNeg) + p0.toNatClampNeg) + p0.toNatClampNeg ≤ ks0 := by omega
  refine yc_29 C wm447 (List.mem_cons_of_mem _ wm156) g89 g90 g91 g92 ⟨Nat.le_of_ble_eq_true rfl, Nat.le_of_ble_eq_true rfl⟩ (Nat.le_of_ble_eq_true rfl) dG_grow_102 dG_grow_105 ⟨hu9, hv9⟩ (fun q97 a98 r99 ea98 er99 => ?_)
  have h := h q97 a98 r99 ea98 er99
  have hfa : fx a0 a98 := fx_trans hfa (by rw [ea98]; exact fx_sAd (by decide))
  have hu : (((((((((0 + 1) + 1) + 1) + 1) + 1) + 1) + 1) + 1) + 1) + k93 ≤ kc0 := by omega
  have hv : (((((((((0 + p0.toNatClampNeg) + p0.toNatClampNeg) + p0.toNatClampNeg) + p0.toNatClampNeg) + p0.toNatClampNeg) + p0.toNatClampNeg) + p0.toNatClampNeg) + p0.toNatClampNeg) + p0.toNatClampNeg) + s94 ≤ ks0 := by omega
  refine x_aload_n C dG_grow_108 rfl 0 rfl ?_
  refine x_aload_n C dG_grow_109 rfl 0 rfl ?_
  refine gf_5_10 C (List.mem_cons_of_mem _ wm158) dG_grow_110 ?_
  refine x_iload_n C dG_grow_113 rfl 1 rfl ?_
  obtain ⟨g100, g101, g102, g103, k104, s105, e106, e107, h⟩ := h
  have hu9 : (((((((((0 + 1) + 1) + 1) + 1) + 1) + 1) + 1) + 1) + 1) + 1 ≤ kc0 := by omega
  have hv9 : (((((((((0 + p0.toNatClampNeg) + p0.toNatClampNeg) + p0.toNatClampNeg) + p0.toNatClampNeg) + p0.toNatClampNeg) + p0.toNatClampNeg) + p0.toNatClampNeg) + p0.toNatClampNeg) + p0.toNatClampNeg) + p0.toNatClampNeg ≤ ks0 := by omega
  refine yc_30 C wm447 (List.mem_cons_of_mem _ wm158) g100 g101 g102 g103 ⟨Nat.le_of_ble_eq_true rfl, Nat.le_of_ble_eq_true rfl⟩ (Nat.le_of_ble_eq_true rfl) dG_grow_114 dG_grow_117 ⟨hu9, hv9⟩ (fun q108 a109 r110 ea109 er110 => ?_)
  have h := h q108 a109 r110 ea109 er110
  have hfa : fx a0 a109 := fx_trans hfa (by rw [ea109]; exact fx_sAd (by decide))
  have hu : ((((((((((0 + 1) + 1) + 1) + 1) + 1) + 1) + 1) + 1) + 1) + 1) + k104 ≤ kc0 := by omega
  have hv : ((((((((((0 + p0.toNatClampNeg) + p0.toNatClampNeg) + p0.toNatClampNeg) + p0.toNatClampNeg) + p0.toNatClampNeg) + p0.toNatClampNeg) + p0.toNatClampNeg) + p0.toNatClampNeg) + p0.toNatClampNeg) + p0.toNatClampNeg) + s105 ≤ ks0 := by omega
  refine x_aload_n C dG_grow_120 rfl 0 rfl ?_
  refine x_aload_n C dG_grow_121 rfl 0 rfl ?_
  refine gf_5_13 C (List.mem_cons_of_mem _ wm163) dG_grow_122 ?_
  refine x_iconst (v := 2) C dG_grow_125 (by decide) ?_
  refine x_iload_n C dG_grow_126 rfl 1 rfl ?_
  refine x_imul C dG_grow_127 ?_
  refine x_iconst (v := 4) C dG_grow_128 (by decide) ?_
  refine x_iadd C dG_grow_129 ?_
  obtain ⟨g111, g112, g113, g114, k115, s116, e117, e118, h⟩ := h
  have hu9 : ((((((((((0 + 1) + 1) + 1) + 1) + 1) + 1) + 1) + 1) + 1) + 1) + 1 ≤ kc0 := by omega
  have hv9 : ((((((((((0 + p0.toNatClampNeg) + p0.toNatClampNeg) + p0.toNatClampNeg) + p0.toNatClampNeg) + p0.toNatClampNeg) + p0.toNatClampNeg) + p0.toNatClampNeg) + p0.toNatClampNeg) + p0.toNatClampNeg) + p0.toNatClampNeg) + ((2 * p0) + 4).toNatClampNeg ≤ ks0 := by omega
  refine yc_31 C wm447 (List.mem_cons_of_mem _ wm163) g111 g112 g113 g114 ⟨Nat.le_of_ble_eq_true rfl, Nat.le_of_ble_eq_true rfl⟩ (Nat.le_of_ble_eq_true rfl) dG_grow_130 dG_grow_133 ⟨hu9, hv9⟩ (fun q119 a120 r121 ea120 er121 => ?_)
  have h := h q119 a120 r121 ea120 er121
  have hfa : fx a0 a120 := fx_trans hfa (by rw [ea120]; exact fx_sAd (by decide))
  have hu : (((((((((((0 + 1) + 1) + 1) + 1) + 1) + 1) + 1) + 1) + 1) + 1) + 1) + k115 ≤ kc0 := by omega
  have hv : (((((((((((0 + p0.toNatClampNeg) + p0.toNatClampNeg) + p0.toNatClampNeg) + p0.toNatClampNeg) + p0.toNatClampNeg) + p0.toNatClampNeg) + p0.toNatClampNeg) + p0.toNatClampNeg) + p0.toNatClampNeg) + p0.toNatClampNeg) + ((2 * p0) + 4).toNatClampNeg) + s116 ≤ ks0 := by omega
  refine x_widen (k1 := kc0) (n1 := ks0) (by omega) (by omega) ?_
  exact x_vret C hA hlocks hr ⟨a120, r121, rfl, hfa, h⟩ dG_grow_136
set_option maxRecDepth 100000 in
set_option maxHeartbeats 4000000 in
theorem kG_grow {p : Program} {l : Launch} {e : Env} {R : Room} {s : State} {m : MethodId} {args : Array Value} {below : List Frame} {meth : Method} {c : Code} {cells slots : Nat} {Q : State → Prop} {A : Nat → Prop} {D : va_G} {nL pc : Nat} {cc : ByteArray} {cw : Cond} {own : String} {lv : List (Nat × Value)} {st : List Value} {G : G_} {a : L_} {r : S_} {kc : Nat} {ks : Nat} {K : L_ → S_ → Prop} {p0 : Int32} (C : vx_C p s m args c cc nL (cw :: wAll) own D vwCl (tysG G) nwAll A) {i : Nat} (hl : Cond.methodLink own i yG_grow ∈ wAll) (hR : 2 + 1 ≤ R.frames ∧ 8 + (2 + 11) + 49 ≤ R.locals) (hst : (st.map fun v => v.category).sum ≤ 8) (hd : decode cc pc = .ok (.invokevirtual i, 3)) (hcs : cells + kc ≤ R.cells ∧ slots + ks ≤ R.slots) (h : qG_grow K a r kc ks p0) (k : ∀ (a1 : L_) (r1 : S_), fx a a1 → K a1 r1 → vx_V p l e R s m args below meth c A D vwCl nL (cells + kc) (slots + ks) Q (wo G a1 r1) (pc + 3) lv st) : vx_V p l e R s m args below meth c A D vwCl nL cells slots Q (wo G a r) pc lv (.int p0 :: .ref (ob G 5) :: st) := by
  refine x_callVv C (CC := "ClassInference$Graph") (ci := 5) (q0 := 5) (fs := fl5 G a r) (As := [.int p0]) rfl rfl (cG_grow p0 h) (cwV (C := "ClassInference$Graph") 1 C.1.2.2.2.2 (goodV hl wm445 wp7 wm7 wm446) rfl rfl rfl (by decide +kernel) hR) rfl hst hd hcs (fun w hw => ?_)
  obtain ⟨a1, r1, rfl, hf9, h⟩ := hw
  exact k a1 r1 hf9 h
def qG_newNode_J40 (K : Int32 → L_ → S_ → Prop) (a : L_) (r : S_) (kc : Nat) (ks : Nat) (v1 : Int32) (v2 : Int32) (v3 : Int32) : Prop :=
  vp_in (fi r 11) (ln a 21) ∧ ∀ r4 : S_, r4 = sA r 21 (upd (ar r 21) (fi r 11).toNatClampNeg v1) → vp_in (fi r4 11) (ln a 22) ∧ ∀ r6 : S_, r6 = sA r4 22 (upd (ar r4 22) (fi r4 11).toNatClampNeg v2) → vp_in (fi r6 11) (ln a 23) ∧ ∀ r8 : S_, r8 = sA r6 23 (upd (ar r6 23) (fi r6 11).toNatClampNeg v3) → vp_in (fi r8 11) (ln a 24) ∧ ∀ r10 : S_, r10 = sA r8 24 (upd (ar r8 24) (fi r8 11).toNatClampNeg 0) → vp_in (fi r10 11) (ln a 25) ∧ ∀ r12 : S_, r12 = sA r10 25 (upd (ar r10 25) (fi r10 11).toNatClampNeg 0) → vp_in (fi r12 11) (ln a 26) ∧ ∀ r14 : S_, r14 = sA r12 26 (upd (ar r12 26) (fi r12 11).toNatClampNeg 0) → vp_in (fi r14 11) (ln a 27) ∧ ∀ r16 : S_, r16 = sA r14 27 (upd (ar r14 27) (fi r14 11).toNatClampNeg 0) → ∀ r17 : S_, r17 = sF r16 11 ((fi r16 11) + 1) → K ((fi r17 11) - 1) a r17
set_option maxRecDepth 100000 in
set_option maxHeartbeats 4000000 in
theorem tG_newNode_J40 (C : vx_C p s m args c prog_4_method_3_code 4 (Cond.code yG_newNode prog_4_method_3_code 4 (some .int) :: wAll) "ClassInference$Graph" D vwCl (tysG G) nwAll A) (hA : A = va_A ws0 s.heap.size) (hlocks : meth.locks = false) (hr : meth.sig.returnType = (some .int)) {K : Int32 → L_ → S_ → Prop} (a : L_) (r : S_) (kc : Nat) (ks : Nat) (v1 : Int32) (v2 : Int32) (v3 : Int32) (u v : Nat) (hu : u + kc ≤ mc) (hv : v + ks ≤ ms) (hfa : fx a0 a) (h : qG_newNode_J40 K a r kc ks v1 v2 v3) : vx_V p l e { frames := 3, cells := mc, slots := ms, locals := 70 } s m args below meth c A D vwCl 4 u v (MQ below (va_Qi (fun v w => ∃ a1 r1, w = wo G a1 r1 ∧ fx a0 a1 ∧ K v a1 r1) (vx_B D vwCl (tysG G) A) A) args s mc ms A) (wo G a r) 40 [(0, .ref (ob G 5)), (1, .int v1), (2, .int v2), (3, .int v3)] [] := by
  unfold qG_newNode_J40 at h
  refine x_aload_n C dG_newNode_40 rfl 0 rfl ?_
  refine gf_5_0 C (List.mem_cons_of_mem _ wm139) dG_newNode_41 ?_
  refine x_aload_n C dG_newNode_44 rfl 0 rfl ?_
  refine gf_5_7 C (List.mem_cons_of_mem _ wm153) dG_newNode_45 ?_
  refine x_iload_n C dG_newNode_48 rfl 1 rfl ?_
  obtain ⟨g3, h⟩ := h
  refine y_is C 21 (by decide) g3 dG_newNode_49 (fun r4 er4 => ?_)
  have h := h r4 er4
  refine x_aload_n C dG_newNode_50 rfl 0 rfl ?_
  refine gf_5_1 C (List.mem_cons_of_mem _ wm141) dG_newNode_51 ?_
  refine x_aload_n C dG_newNode_54 rfl 0 rfl ?_
  refine gf_5_7 C (List.mem_cons_of_mem _ wm153) dG_newNode_55 ?_
  refine x_iload_n C dG_newNode_58 rfl 2 rfl ?_
  obtain ⟨g5, h⟩ := h
  refine y_is C 22 (by decide) g5 dG_newNode_59 (fun r6 er6 => ?_)
  have h := h r6 er6
  refine x_aload_n C dG_newNode_60 rfl 0 rfl ?_
  refine gf_5_2 C (List.mem_cons_of_mem _ wm143) dG_newNode_61 ?_
  refine x_aload_n C dG_newNode_64 rfl 0 rfl ?_
  refine gf_5_7 C (List.mem_cons_of_mem _ wm153) dG_newNode_65 ?_
  refine x_iload_n C dG_newNode_68 rfl 3 rfl ?_
  obtain ⟨g7, h⟩ := h
  refine y_is C 23 (by decide) g7 dG_newNode_69 (fun r8 er8 => ?_)
  have h := h r8 er8
  refine x_aload_n C dG_newNode_70 rfl 0 rfl ?_
  refine gf_5_3 C (List.mem_cons_of_mem _ wm145) dG_newNode_71 ?_
  refine x_aload_n C dG_newNode_74 rfl 0 rfl ?_
  refine gf_5_7 C (List.mem_cons_of_mem _ wm153) dG_newNode_75 ?_
  refine x_iconst (v := 0) C dG_newNode_78 (by decide) ?_
  obtain ⟨g9, h⟩ := h
  refine y_is C 24 (by decide) g9 dG_newNode_79 (fun r10 er10 => ?_)
  have h := h r10 er10
  refine x_aload_n C dG_newNode_80 rfl 0 rfl ?_
  refine gf_5_4 C (List.mem_cons_of_mem _ wm147) dG_newNode_81 ?_
  refine x_aload_n C dG_newNode_84 rfl 0 rfl ?_
  refine gf_5_7 C (List.mem_cons_of_mem _ wm153) dG_newNode_85 ?_
  refine x_iconst (v := 0) C dG_newNode_88 (by decide) ?_
  obtain ⟨g11, h⟩ := h
  refine y_is C 25 (by decide) g11 dG_newNode_89 (fun r12 er12 => ?_)
  have h := h r12 er12
  refine x_aload_n C dG_newNode_90 rfl 0 rfl ?_
  refine gf_5_5 C (List.mem_cons_of_mem _ wm149) dG_newNode_91 ?_
  refine x_aload_n C dG_newNode_94 rfl 0 rfl ?_
  refine gf_5_7 C (List.mem_cons_of_mem _ wm153) dG_newNode_95 ?_
  refine x_iconst (v := 0) C dG_newNode_98 (by decide) ?_
  obtain ⟨g13, h⟩ := h
  refine y_is C 26 (by decide) g13 dG_newNode_99 (fun r14 er14 => ?_)
  have h := h r14 er14
  refine x_aload_n C dG_newNode_100 rfl 0 rfl ?_
  refine gf_5_6 C (List.mem_cons_of_mem _ wm151) dG_newNode_101 ?_
  refine x_aload_n C dG_newNode_104 rfl 0 rfl ?_
  refine gf_5_7 C (List.mem_cons_of_mem _ wm153) dG_newNode_105 ?_
  refine x_iconst (v := 0) C dG_newNode_108 (by decide) ?_
  obtain ⟨g15, h⟩ := h
  refine y_is C 27 (by decide) g15 dG_newNode_109 (fun r16 er16 => ?_)
  have h := h r16 er16
  refine x_aload_n C dG_newNode_110 rfl 0 rfl ?_
  refine x_dup C dG_newNode_111 rfl ?_
  refine gf_5_7 C (List.mem_cons_of_mem _ wm153) dG_newNode_112 ?_
  refine x_iconst (v := 1) C dG_newNode_115 (by decide) ?_
  refine x_iadd C dG_newNode_116 ?_
  refine pf_5_7 C (List.mem_cons_of_mem _ wm153) dG_newNode_117 (fun r17 er17 => ?_)
  have h := h r17 er17
  refine x_aload_n C dG_newNode_120 rfl 0 rfl ?_
  refine gf_5_7 C (List.mem_cons_of_mem _ wm153) dG_newNode_121 ?_
  refine x_iconst (v := 1) C dG_newNode_124 (by decide) ?_
  refine x_isub C dG_newNode_125 ?_
  refine x_widen (k1 := mc) (n1 := ms) (by omega) (by omega) ?_
  exact x_iret C hA hlocks hr ⟨a, r17, rfl, hfa, h⟩ dG_newNode_126
def qG_newNode (K : Int32 → L_ → S_ → Prop) (a0 : L_) (r : S_) (kc0 : Nat) (ks0 : Nat) (p0 : Int32) (p1 : Int32) (p2 : Int32) : Prop :=
  (((fi r 11) < 4096) → (((fi r 11) < (Int32.ofNat (ln a0 21))) → qG_newNode_J40 K a0 r kc0 ks0 p0 p1 p2) ∧ ((¬ (fi r 11) < (Int32.ofNat (ln a0 21))) → ∃ k20 s22 k21 s23 : Nat, k20 + k21 = kc0 ∧ s22 + s23 = ks0 ∧ qG_grow (fun a19 r18 => fx a0 a19 → qG_newNode_J40 K a19 r18 k21 s23 p0 p1 p2) a0 r k20 s22 (2 * (Int32.ofNat (ln a0 21))))) ∧ ((¬ (fi r 11) < 4096) → zb 1 ∧ ∀ r26 : S_, r26 = sF r 15 1 → K 0 a0 r26)
set_option maxRecDepth 100000 in
set_option maxHeartbeats 4000000 in
theorem cG_newNode {a0 : L_} {r : S_} {kc0 : Nat} {ks0 : Nat} {K : Int32 → L_ → S_ → Prop} (p0 : Int32) (p1 : Int32) (p2 : Int32) (h : qG_newNode K a0 r kc0 ks0 p0 p1 p2) : vx_Mi l yG_newNode (Cond.code yG_newNode prog_4_method_3_code 4 (some .int) :: wAll) { frames := 3, cells := kc0, slots := ks0, locals := 70 } D vwCl (tysG G) nwAll (wo G a0 r) [.ref (ob G 5), .int p0, .int p1, .int p2] kc0 ks0 (fun v w => ∃ a1 r1, w = wo G a1 r1 ∧ fx a0 a1 ∧ K v a1 r1) := by
  unfold qG_newNode at h
  refine x_meti (cc := prog_4_method_3_code) (maxL := 4) (ret := (some .int)) (lv0 := [(0, .ref (ob G 5)), (1, .int p0), (2, .int p1), (3, .int p2)]) (by decide) rfl (Nat.le_of_ble_eq_true rfl) rfl ?_
  intro p e s m args below meth c A C hA hlocks hr
  have hu : 0 + kc0 ≤ kc0 := by omega
  have hv : 0 + ks0 ≤ ks0 := by omega
  have hfa : fx a0 a0 := fx_refl _
  refine x_aload_n C dG_newNode_0 rfl 0 rfl ?_
  refine gf_5_7 C (List.mem_cons_of_mem _ wm153) dG_newNode_1 ?_
  refine x_sipush (v := 4096) C dG_newNode_4 (by decide) ?_
  refine x_icmp_lt (tgt := 17) C dG_newNode_7 (by decide) (fun g1 => ?_) (fun g1 => ?_)
  · have h := h.1 g1
    refine x_aload_n C dG_newNode_17 rfl 0 rfl ?_
    refine gf_5_7 C (List.mem_cons_of_mem _ wm153) dG_newNode_18 ?_
    refine x_aload_n C dG_newNode_21 rfl 0 rfl ?_
    refine gf_5_0 C (List.mem_cons_of_mem _ wm139) dG_newNode_22 ?_
    refine y_alen C 21 (by decide) dG_newNode_25 ?_
    refine x_icmp_lt (tgt := 40) C dG_newNode_26 (by decide) (fun g2 => ?_) (fun g2 => ?_)
    · have h := h.1 g2
      refine x_sub [0, 1, 2, 3] rfl ?_
      exact tG_newNode_J40 C hA hlocks hr a0 r kc0 ks0 p0 p1 p2 _ _ hu hv hfa h
    · have h := h.2 g2
      refine x_aload_n C dG_newNode_29 rfl 0 rfl ?_
      refine x_iconst (v := 2) C dG_newNode_30 (by decide) ?_
      refine x_aload_n C dG_newNode_31 rfl 0 rfl ?_
      refine gf_5_0 C (List.mem_cons_of_mem _ wm139) dG_newNode_32 ?_
      refine y_alen C 21 (by decide) dG_newNode_35 ?_
      refine x_imul C dG_newNode_36 ?_
      obtain ⟨k20, s22, k21, s23, e24, e25, h⟩ := h
      have hu9 : 0 + k20 ≤ kc0 := by omega
      have hv9 : 0 + s22 ≤ ks0 := by omega
      refine kG_grow C wm443 ⟨Nat.le_of_ble_eq_true rfl, Nat.le_of_ble_eq_true rfl⟩ (Nat.le_of_ble_eq_true rfl) dG_newNode_37 ⟨hu9, hv9⟩ h (fun a19 r18 hf9 h => ?_)
      have hu : (0 + k20) + k21 ≤ kc0 := by omega
      have hv : (0 + s22) + s23 ≤ ks0 := by omega
      have h := h hf9
      have hfa : fx a0 a19 := fx_trans hfa hf9
      refine x_sub [0, 1, 2, 3] rfl ?_
      exact tG_newNode_J40 C hA hlocks hr a19 r18 k21 s23 p0 p1 p2 _ _ hu hv hfa h
  · have h := h.2 g1
    refine x_aload_n C dG_newNode_10 rfl 0 rfl ?_
    refine x_iconst (v := 1) C dG_newNode_11 (by decide) ?_
    obtain ⟨g27, h⟩ := h
    refine pf_5_15 C (List.mem_cons_of_mem _ wm165) g27 dG_newNode_12 (fun r26 er26 => ?_)
    have h := h r26 er26
    refine x_iconst (v := 0) C dG_newNode_15 (by decide) ?_
    refine x_widen (k1 := kc0) (n1 := ks0) (by omega) (by omega) ?_
    exact x_iret C hA hlocks hr ⟨a0, r26, rfl, hfa, h⟩ dG_newNode_16
set_option maxRecDepth 100000 in
set_option maxHeartbeats 4000000 in
theorem kG_newNode {p : Program} {l : Launch} {e : Env} {R : Room} {s : State} {m : MethodId} {args : Array Value} {below : List Frame} {meth : Method} {c : Code} {cells slots : Nat} {Q : State → Prop} {A : Nat → Prop} {D : va_G} {nL pc : Nat} {cc : ByteArray} {cw : Cond} {own : String} {lv : List (Nat × Value)} {st : List Value} {G : G_} {a : L_} {r : S_} {kc : Nat} {ks : Nat} {K : Int32 → L_ → S_ → Prop} {p0 : Int32} {p1 : Int32} {p2 : Int32} (C : vx_C p s m args c cc nL (cw :: wAll) own D vwCl (tysG G) nwAll A) {i : Nat} (hl : Cond.methodLink own i yG_newNode ∈ wAll) (hR : 3 + 1 ≤ R.frames ∧ 8 + (4 + 11) + 70 ≤ R.locals) (hst : (st.map fun v => v.category).sum ≤ 8) (hd : decode cc pc = .ok (.invokevirtual i, 3)) (hcs : cells + kc ≤ R.cells ∧ slots + ks ≤ R.slots) (h : qG_newNode K a r kc ks p0 p1 p2) (k : ∀ (v : Int32) (a1 : L_) (r1 : S_), fx a a1 → K v a1 r1 → vx_V p l e R s m args below meth c A D vwCl nL (cells + kc) (slots + ks) Q (wo G a1 r1) (pc + 3) lv (.int v :: st)) : vx_V p l e R s m args below meth c A D vwCl nL cells slots Q (wo G a r) pc lv (.int p2 :: .int p1 :: .int p0 :: .ref (ob G 5) :: st) := by
  refine x_callVi C (CC := "ClassInference$Graph") (ci := 5) (q0 := 5) (fs := fl5 G a r) (As := [.int p0, .int p1, .int p2]) rfl rfl (cG_newNode p0 p1 p2 h) (cwV (C := "ClassInference$Graph") 3 C.1.2.2.2.2 (goodV hl wm440 wm441 wm7 wm442) rfl rfl rfl (by decide +kernel) hR) rfl hst hd hcs (fun v w hw => ?_)
  obtain ⟨a1, r1, rfl, hf9, h⟩ := hw
  exact k v a1 r1 hf9 h
def qG_copyOf_J92 (KB11 : L_ → S_ → Nat → Nat → Int32 → Int32 → Prop) (KX98 : L_ → S_ → Nat → Nat → Int32 → Prop) (a : L_) (r : S_) (kc : Nat) (ks : Nat) (v1 : Int32) (v2 : Int32) : Prop :=
  KB11 a r kc ks v1 (v2 + 1)
set_option maxRecDepth 100000 in
set_option maxHeartbeats 4000000 in
theorem tG_copyOf_J92 (C : vx_C p s m args c prog_4_method_16_code 5 (Cond.code yG_copyOf prog_4_method_16_code 5 (some .int) :: wAll) "ClassInference$Graph" D vwCl (tysG G) nwAll A) {KB11 : L_ → S_ → Nat → Nat → Int32 → Int32 → Prop} {KX98 : L_ → S_ → Nat → Nat → Int32 → Prop} (kB11 : ∀ (a : L_) (r : S_) (kc : Nat) (ks : Nat) (v1 : Int32) (v2 : Int32) (u v : Nat) (hu : u + kc ≤ mc) (hv : v + ks ≤ ms) (hfa : fx a0 a), KB11 a r kc ks v1 v2 → vx_V p l e { frames := 4, cells := mc, slots := ms, locals := 93 } s m args below meth c A D vwCl 5 u v Q (wo G a r) 11 [(0, .ref (ob G 5)), (1, .int v1), (2, .int v2)] []) (kX98 : ∀ (a : L_) (r : S_) (kc : Nat) (ks : Nat) (v1 : Int32) (u v : Nat) (hu : u + kc ≤ mc) (hv : v + ks ≤ ms) (hfa : fx a0 a), KX98 a r kc ks v1 → vx_V p l e { frames := 4, cells := mc, slots := ms, locals := 93 } s m args below meth c A D vwCl 5 u v Q (wo G a r) 98 [(0, .ref (ob G 5)), (1, .int v1)] []) (a : L_) (r : S_) (kc : Nat) (ks : Nat) (v1 : Int32) (v2 : Int32) (u v : Nat) (hu : u + kc ≤ mc) (hv : v + ks ≤ ms) (hfa : fx a0 a) (h : qG_copyOf_J92 KB11 KX98 a r kc ks v1 v2) : vx_V p l e { frames := 4, cells := mc, slots := ms, locals := 93 } s m args below meth c A D vwCl 5 u v Q (wo G a r) 92 [(0, .ref (ob G 5)), (1, .int v1), (2, .int v2)] [] := by
  unfold qG_copyOf_J92 at h
  refine x_iinc (j := 2) (v := v2 + 1) C [(2, .int (v2 + 1)), (0, .ref (ob G 5)), (1, .int v1)] dG_copyOf_92 rfl rfl (by decide) rfl ?_
  refine x_goto (tgt := 11) C dG_copyOf_95 (by decide) ?_
  refine x_sub [1, 2, 0] rfl ?_
  exact kB11 a r kc ks v1 (v2 + 1) _ _ hu hv hfa h
def qG_copyOf_L11 (KX98 : L_ → S_ → Nat → Nat → Int32 → Prop) : Nat → L_ → S_ → Nat → Nat → Int32 → Int32 → Prop
  | 0, _, _, _, _, _, _ => False
  | n + 1, a, r, kc, ks, v1, v2 => (((fi r 12) ≤ v2) → KX98 a r kc ks v1) ∧ ((¬ (fi r 12) ≤ v2) → vp_in v2 (ln a 30) ∧ vp_in (ar r 30 v2.toNatClampNeg) (ln a 26) ∧ ((¬ (ar r 26 (ar r 30 v2.toNatClampNeg).toNatClampNeg) = 1) → qG_copyOf_J92 (qG_copyOf_L11 KX98 n) KX98 a r kc ks v1 v2) ∧ (((ar r 26 (ar r 30 v2.toNatClampNeg).toNatClampNeg) = 1) → vp_in (ar r 30 v2.toNatClampNeg) (ln a 21) ∧ vp_in (ar r 30 v2.toNatClampNeg) (ln a 22) ∧ qG_valueOf a (fun z9 r10 => vp_in (ar r 30 v2.toNatClampNeg) (ln a 23) ∧ qG_valueOf a (fun z12 r13 => ∃ k17 s19 k18 s20 : Nat, k17 + k18 = kc ∧ s19 + s20 = ks ∧ qG_newNode (fun z14 a16 r15 => fx a a16 → vp_in (ar r 30 v2.toNatClampNeg) (ln a16 29) ∧ ∀ r22 : S_, r22 = sA r15 29 (upd (ar r15 29) (ar r 30 v2.toNatClampNeg).toNatClampNeg z14) → vp_in z14 (ln a16 24) ∧ vp_in (ar r 30 v2.toNatClampNeg) (ln a16 25) ∧ vp_in z14 (ln a16 24) ∧ ∀ r26 : S_, r26 = sA r22 24 (upd (ar r22 24) z14.toNatClampNeg ((ar r22 24 z14.toNatClampNeg) ||| (ar r22 25 (ar r 30 v2.toNatClampNeg).toNatClampNeg))) → qG_copyOf_J92 (qG_copyOf_L11 KX98 n) KX98 a16 r26 k18 s20 v1 v2) a r13 k17 s19 (ar r 21 (ar r 30 v2.toNatClampNeg).toNatClampNeg) z9 z12) r10 (ar r10 23 (ar r 30 v2.toNatClampNeg).toNatClampNeg)) r (ar r 22 (ar r 30 v2.toNatClampNeg).toNatClampNeg)))
set_option maxRecDepth 100000 in
set_option maxHeartbeats 4000000 in
theorem tG_copyOf_L11 (C : vx_C p s m args c prog_4_method_16_code 5 (Cond.code yG_copyOf prog_4_method_16_code 5 (some .int) :: wAll) "ClassInference$Graph" D vwCl (tysG G) nwAll A) {KX98 : L_ → S_ → Nat → Nat → Int32 → Prop} (kX98 : ∀ (a : L_) (r : S_) (kc : Nat) (ks : Nat) (v1 : Int32) (u v : Nat) (hu : u + kc ≤ mc) (hv : v + ks ≤ ms) (hfa : fx a0 a), KX98 a r kc ks v1 → vx_V p l e { frames := 4, cells := mc, slots := ms, locals := 93 } s m args below meth c A D vwCl 5 u v Q (wo G a r) 98 [(0, .ref (ob G 5)), (1, .int v1)] []) : ∀ (n : Nat) (a : L_) (r : S_) (kc : Nat) (ks : Nat) (v1 : Int32) (v2 : Int32) (u v : Nat) (hu : u + kc ≤ mc) (hv : v + ks ≤ ms) (hfa : fx a0 a), qG_copyOf_L11 KX98 n a r kc ks v1 v2 → vx_V p l e { frames := 4, cells := mc, slots := ms, locals := 93 } s m args below meth c A D vwCl 5 u v Q (wo G a r) 11 [(0, .ref (ob G 5)), (1, .int v1), (2, .int v2)] [] := by
  intro n
  induction n with
  | zero =>
    intro a r kc ks v1 v2 u v hu hv hfa h
    exact (by rw [qG_copyOf_L11] at h; exact h : False).elim
  | succ n kB11 =>
    intro a r kc ks v1 v2 u v hu hv hfa h
    rw [qG_copyOf_L11] at h
    refine x_iload_n C dG_copyOf_11 rfl 2 rfl ?_
    refine x_aload_n C dG_copyOf_12 rfl 0 rfl ?_
    refine gf_5_11 C (List.mem_cons_of_mem _ wm161) dG_copyOf_13 ?_
    refine x_icmp_ge (tgt := 98) C dG_copyOf_16 (by decide) (fun g3 => ?_) (fun g3 => ?_)
    · have h := h.1 g3
      refine x_sub [0, 1] rfl ?_
      exact kX98 a r kc ks v1 _ _ hu hv hfa h
    · have h := h.2 g3
      refine x_aload_n C dG_copyOf_19 rfl 0 rfl ?_
      refine gf_5_10 C (List.mem_cons_of_mem _ wm158) dG_copyOf_20 ?_
      refine x_iload_n C dG_copyOf_23 rfl 2 rfl ?_
      obtain ⟨g4, h⟩ := h
      refine y_ia C 30 (by decide) g4 dG_copyOf_24 ?_
      refine x_istore_n C [(3, .int (ar r 30 v2.toNatClampNeg)), (0, .ref (ob G 5)), (1, .int v1), (2, .int v2)] dG_copyOf_25 rfl (by decide) rfl ?_
      refine x_aload_n C dG_copyOf_26 rfl 1 rfl ?_
      refine gf_5_5 C (List.mem_cons_of_mem _ wm149) dG_copyOf_27 ?_
      refine x_iload_n C dG_copyOf_30 rfl 0 rfl ?_
      obtain ⟨g5, h⟩ := h
      refine y_ia C 26 (by decide) g5 dG_copyOf_31 ?_
      refine x_iconst (v := 1) C dG_copyOf_32 (by decide) ?_
      refine x_icmp_ne (tgt := 92) C dG_copyOf_33 (by decide) (fun g6 => ?_) (fun g6 => ?_)
      · have h := h.1 g6
        refine x_sub [1, 2, 3] rfl ?_
        exact tG_copyOf_J92 C kB11 kX98 a r kc ks v1 v2 _ _ hu hv hfa h
      · have h := h.2 g6
        refine x_aload_n C dG_copyOf_36 rfl 1 rfl ?_
        refine x_aload_n C dG_copyOf_37 rfl 1 rfl ?_
        refine gf_5_0 C (List.mem_cons_of_mem _ wm139) dG_copyOf_38 ?_
        refine x_iload_n C dG_copyOf_41 rfl 0 rfl ?_
        obtain ⟨g7, h⟩ := h
        refine y_ia C 21 (by decide) g7 dG_copyOf_42 ?_
        refine x_aload_n C dG_copyOf_43 rfl 1 rfl ?_
        refine x_aload_n C dG_copyOf_44 rfl 1 rfl ?_
        refine gf_5_1 C (List.mem_cons_of_mem _ wm141) dG_copyOf_45 ?_
        refine x_iload_n C dG_copyOf_48 rfl 0 rfl ?_
        obtain ⟨g8, h⟩ := h
        refine y_ia C 22 (by decide) g8 dG_copyOf_49 ?_
        refine kG_valueOf C wm594 ⟨Nat.le_of_ble_eq_true rfl, Nat.le_of_ble_eq_true rfl⟩ (Nat.le_of_ble_eq_true rfl) dG_copyOf_50 ⟨Nat.le_trans (Nat.le_add_right _ _) hu, Nat.le_trans (Nat.le_add_right _ _) hv⟩ h (fun z9 r10 h => ?_)
        refine x_aload_n C dG_copyOf_53 rfl 1 rfl ?_
        refine x_aload_n C dG_copyOf_54 rfl 1 rfl ?_
        refine gf_5_2 C (List.mem_cons_of_mem _ wm143) dG_copyOf_55 ?_
        refine x_iload_n C dG_copyOf_58 rfl 0 rfl ?_
        obtain ⟨g11, h⟩ := h
        refine y_ia C 23 (by decide) g11 dG_copyOf_59 ?_
        refine kG_valueOf C wm594 ⟨Nat.le_of_ble_eq_true rfl, Nat.le_of_ble_eq_true rfl⟩ (Nat.le_of_ble_eq_true rfl) dG_copyOf_60 ⟨Nat.le_trans (Nat.le_add_right _ _) hu, Nat.le_trans (Nat.le_add_right _ _) hv⟩ h (fun z12 r13 h => ?_)
        obtain ⟨k17, s19, k18, s20, e27, e28, h⟩ := h
        have hu9 : u + k17 ≤ mc := by omega
        have hv9 : v + s19 ≤ ms := by omega
        refine kG_newNode C wm598 ⟨Nat.le_of_ble_eq_true rfl, Nat.le_of_ble_eq_true rfl⟩ (Nat.le_of_ble_eq_true rfl) dG_copyOf_63 ⟨hu9, hv9⟩ h (fun z14 a16 r15 hf9 h => ?_)
        have hu : (u + k17) + k18 ≤ mc := by omega
        have hv : (v + s19) + s20 ≤ ms := by omega
        have h := h hf9
        have hfa : fx a0 a16 := fx_trans hfa hf9
        refine x_istore C [(4, .int z14), (3, .int (ar r 30 v2.toNatClampNeg)), (0, .ref (ob G 5)), (1, .int v1), (2, .int v2)] dG_copyOf_66 (by decide) rfl ?_
        refine x_aload_n C dG_copyOf_68 rfl 2 rfl ?_
        refine gf_5_9 C (List.mem_cons_of_mem _ wm156) dG_copyOf_69 ?_
        refine x_iload_n C dG_copyOf_72 rfl 1 rfl ?_
        refine x_iload C dG_copyOf_73 0 rfl ?_
        obtain ⟨g21, h⟩ := h
        refine y_is C 29 (by decide) g21 dG_copyOf_75 (fun r22 er22 => ?_)
        have h := h r22 er22
        refine x_aload_n C dG_copyOf_76 rfl 2 rfl ?_
        refine gf_5_3 C (List.mem_cons_of_mem _ wm145) dG_copyOf_77 ?_
        refine x_iload C dG_copyOf_80 0 rfl ?_
        refine x_dup2 C dG_copyOf_82 rfl rfl ?_
        obtain ⟨g23, h⟩ := h
        refine y_ia C 24 (by decide) g23 dG_copyOf_83 ?_
        refine x_aload_n C dG_copyOf_84 rfl 2 rfl ?_
        refine gf_5_4 C (List.mem_cons_of_mem _ wm147) dG_copyOf_85 ?_
        refine x_iload_n C dG_copyOf_88 rfl 1 rfl ?_
        obtain ⟨g24, h⟩ := h
        refine y_ia C 25 (by decide) g24 dG_copyOf_89 ?_
        refine x_ior C dG_copyOf_90 ?_
        obtain ⟨g25, h⟩ := h
        refine y_is C 24 (by decide) g25 dG_copyOf_91 (fun r26 er26 => ?_)
        have h := h r26 er26
        refine x_sub [2, 3, 4] rfl ?_
        exact tG_copyOf_J92 C kB11 kX98 a16 r26 k18 s20 v1 v2 _ _ hu hv hfa h
def qG_copyOf (K : Int32 → L_ → S_ → Prop) (a0 : L_) (r : S_) (kc0 : Nat) (ks0 : Nat) (p0 : Int32) : Prop :=
  qG_startWalk a0 (fun r1 => qG_walk a0 (fun r2 => ∃ n31 : Nat, qG_copyOf_L11 (fun a r kc ks v1 => qG_valueOf a (fun z29 r30 => K z29 a r30) r v1) n31 a0 r2 kc0 ks0 p0 0) r1 p0) r
set_option maxRecDepth 100000 in
set_option maxHeartbeats 4000000 in
theorem cG_copyOf {a0 : L_} {r : S_} {kc0 : Nat} {ks0 : Nat} {K : Int32 → L_ → S_ → Prop} (p0 : Int32) (h : qG_copyOf K a0 r kc0 ks0 p0) : vx_Mi l yG_copyOf (Cond.code yG_copyOf prog_4_method_16_code 5 (some .int) :: wAll) { frames := 4, cells := kc0, slots := ks0, locals := 93 } D vwCl (tysG G) nwAll (wo G a0 r) [.ref (ob G 5), .int p0] kc0 ks0 (fun v w => ∃ a1 r1, w = wo G a1 r1 ∧ fx a0 a1 ∧ K v a1 r1) := by
  unfold qG_copyOf at h
  refine x_meti (cc := prog_4_method_16_code) (maxL := 5) (ret := (some .int)) (lv0 := [(0, .ref (ob G 5)), (1, .int p0)]) (by decide) rfl (Nat.le_of_ble_eq_true rfl) rfl ?_
  intro p e s m args below meth c A C hA hlocks hr
  have hu : 0 + kc0 ≤ kc0 := by omega
  have hv : 0 + ks0 ≤ ks0 := by omega
  have hfa : fx a0 a0 := fx_refl _
  refine x_aload_n C dG_copyOf_0 rfl 0 rfl ?_
  refine kG_startWalk C wm592 ⟨Nat.le_of_ble_eq_true rfl, Nat.le_of_ble_eq_true rfl⟩ (Nat.le_of_ble_eq_true rfl) dG_copyOf_1 ⟨Nat.le_trans (Nat.le_add_right _ _) hu, Nat.le_trans (Nat.le_add_right _ _) hv⟩ h (fun r1 h => ?_)
  refine x_aload_n C dG_copyOf_4 rfl 0 rfl ?_
  refine x_iload_n C dG_copyOf_5 rfl 1 rfl ?_
  refine kG_walk C wm593 ⟨Nat.le_of_ble_eq_true rfl, Nat.le_of_ble_eq_true rfl⟩ (Nat.le_of_ble_eq_true rfl) dG_copyOf_6 ⟨Nat.le_trans (Nat.le_add_right _ _) hu, Nat.le_trans (Nat.le_add_right _ _) hv⟩ h (fun r2 h => ?_)
  refine x_iconst (v := 0) C dG_copyOf_9 (by decide) ?_
  refine x_istore_n C [(2, .int 0), (0, .ref (ob G 5)), (1, .int p0)] dG_copyOf_10 rfl (by decide) rfl ?_
  obtain ⟨n31, h⟩ := h
  refine x_sub [1, 2, 0] rfl ?_
  refine tG_copyOf_L11 C (fun a r kc ks v1 u v hu hv hfa h => ?_) n31 a0 r2 kc0 ks0 p0 0 _ _ hu hv hfa h
  · refine x_aload_n C dG_copyOf_98 rfl 0 rfl ?_
    refine x_iload_n C dG_copyOf_99 rfl 1 rfl ?_
    refine kG_valueOf C wm594 ⟨Nat.le_of_ble_eq_true rfl, Nat.le_of_ble_eq_true rfl⟩ (Nat.le_of_ble_eq_true rfl) dG_copyOf_100 ⟨Nat.le_trans (Nat.le_add_right _ _) hu, Nat.le_trans (Nat.le_add_right _ _) hv⟩ h (fun z29 r30 h => ?_)
    refine x_widen (k1 := kc0) (n1 := ks0) (by omega) (by omega) ?_
    exact x_iret C hA hlocks hr ⟨a, r30, rfl, hfa, h⟩ dG_copyOf_103
set_option maxRecDepth 100000 in
set_option maxHeartbeats 4000000 in
theorem kG_copyOf {p : Program} {l : Launch} {e : Env} {R : Room} {s : State} {m : MethodId} {args : Array Value} {below : List Frame} {meth : Method} {c : Code} {cells slots : Nat} {Q : State → Prop} {A : Nat → Prop} {D : va_G} {nL pc : Nat} {cc : ByteArray} {cw : Cond} {own : String} {lv : List (Nat × Value)} {st : List Value} {G : G_} {a : L_} {r : S_} {kc : Nat} {ks : Nat} {K : Int32 → L_ → S_ → Prop} {p0 : Int32} (C : vx_C p s m args c cc nL (cw :: wAll) own D vwCl (tysG G) nwAll A) {i : Nat} (hl : Cond.methodLink own i yG_copyOf ∈ wAll) (hR : 4 + 1 ≤ R.frames ∧ 8 + (5 + 11) + 93 ≤ R.locals) (hst : (st.map fun v => v.category).sum ≤ 8) (hd : decode cc pc = .ok (.invokevirtual i, 3)) (hcs : cells + kc ≤ R.cells ∧ slots + ks ≤ R.slots) (h : qG_copyOf K a r kc ks p0) (k : ∀ (v : Int32) (a1 : L_) (r1 : S_), fx a a1 → K v a1 r1 → vx_V p l e R s m args below meth c A D vwCl nL (cells + kc) (slots + ks) Q (wo G a1 r1) (pc + 3) lv (.int v :: st)) : vx_V p l e R s m args below meth c A D vwCl nL cells slots Q (wo G a r) pc lv (.int p0 :: .ref (ob G 5) :: st) := by
  refine x_callVi C (CC := "ClassInference$Graph") (ci := 5) (q0 := 5) (fs := fl5 G a r) (As := [.int p0]) rfl rfl (cG_copyOf p0 h) (cwV (C := "ClassInference$Graph") 1 C.1.2.2.2.2 (goodV hl wm589 wm590 wm7 wm591) rfl rfl rfl (by decide +kernel) hR) rfl hst hd hcs (fun v w hw => ?_)
  obtain ⟨a1, r1, rfl, hf9, h⟩ := hw
  exact k v a1 r1 hf9 h
def qD_restart_J54 (K : L_ → S_ → Prop) (a : L_) (r : S_) (kc : Nat) (ks : Nat) (v2 : Int32) : Prop :=
  ∀ r2 : S_, r2 = sF r 16 0 → ∀ r3 : S_, r3 = sF r2 17 0 → ∀ r4 : S_, r4 = sF r3 18 0 → ∀ r5 : S_, r5 = sF r4 19 v2 → K a r5
set_option maxRecDepth 100000 in
set_option maxHeartbeats 4000000 in
theorem tD_restart_J54 (C : vx_C p s m args c prog_5_method_2_code 3 (Cond.code yD_restart prog_5_method_2_code 3 none :: wAll) "ClassInference$Told" D vwCl (tysG G) nwAll A) (hA : A = va_A ws0 s.heap.size) (hlocks : meth.locks = false) (hr : meth.sig.returnType = none) {K : L_ → S_ → Prop} (a : L_) (r : S_) (kc : Nat) (ks : Nat) (v2 : Int32) (u v : Nat) (hu : u + kc ≤ mc) (hv : v + ks ≤ ms) (hfa : fx a0 a) (h : qD_restart_J54 K a r kc ks v2) : vx_V p l e { frames := 0, cells := mc, slots := ms, locals := 0 } s m args below meth c A D vwCl 3 u v (MQ below (va_Qv (fun w => ∃ a1 r1, w = wo G a1 r1 ∧ fx a0 a1 ∧ K a1 r1) (vx_B D vwCl (tysG G) A) A) args s mc ms A) (wo G a r) 54 [(0, .ref (ob G 6)), (2, .int v2)] [] := by
  unfold qD_restart_J54 at h
  refine x_aload_n C dD_restart_54 rfl 0 rfl ?_
  refine x_iconst (v := 0) C dD_restart_55 (by decide) ?_
  refine pf_6_4 C (List.mem_cons_of_mem _ wm253) dD_restart_56 (fun r2 er2 => ?_)
  have h := h r2 er2
  refine x_aload_n C dD_restart_59 rfl 0 rfl ?_
  refine x_iconst (v := 0) C dD_restart_60 (by decide) ?_
  refine pf_6_6 C (List.mem_cons_of_mem _ wm255) dD_restart_61 (fun r3 er3 => ?_)
  have h := h r3 er3
  refine x_aload_n C dD_restart_64 rfl 0 rfl ?_
  refine x_iconst (v := 0) C dD_restart_65 (by decide) ?_
  refine pf_6_7 C (List.mem_cons_of_mem _ wm256) dD_restart_66 (fun r4 er4 => ?_)
  have h := h r4 er4
  refine x_aload_n C dD_restart_69 rfl 0 rfl ?_
  refine x_iload_n C dD_restart_70 rfl 1 rfl ?_
  refine pf_6_8 C (List.mem_cons_of_mem _ wm257) dD_restart_71 (fun r5 er5 => ?_)
  have h := h r5 er5
  refine x_widen (k1 := mc) (n1 := ms) (by omega) (by omega) ?_
  exact x_vret C hA hlocks hr ⟨a, r5, rfl, hfa, h⟩ dD_restart_74
def qD_restart (K : L_ → S_ → Prop) (a0 : L_) (r : S_) (kc0 : Nat) (ks0 : Nat) (p0 : Int32) (p1 : Int32) : Prop :=
  ((p0 ≤ (Int32.ofNat (ln a0 32))) → qD_restart_J54 K a0 r kc0 ks0 p1) ∧ ((¬ p0 ≤ (Int32.ofNat (ln a0 32))) → ¬ (2 * p0) < 0 ∧ (2 * p0).toNatClampNeg * 4 ≤ 536870912 ∧ ∃ k8 s9 : Nat, 1 + k8 = kc0 ∧ (2 * p0).toNatClampNeg + s9 = ks0 ∧ ∀ (q12 : Nat) (a13 : L_) (r14 : S_), a13 = sAd a0 32 q12 (2 * p0).toNatClampNeg → r14 = sA r 32 (fun _ => 0) → ¬ (2 * p0) < 0 ∧ (2 * p0).toNatClampNeg * 4 ≤ 536870912 ∧ ∃ k17 s18 : Nat, 1 + k17 = k8 ∧ (2 * p0).toNatClampNeg + s18 = s9 ∧ ∀ (q21 : Nat) (a22 : L_) (r23 : S_), a22 = sAd a13 33 q21 (2 * p0).toNatClampNeg → r23 = sA r14 33 (fun _ => 0) → ¬ (2 * p0) < 0 ∧ (2 * p0).toNatClampNeg * 4 ≤ 536870912 ∧ ∃ k26 s27 : Nat, 1 + k26 = k17 ∧ (2 * p0).toNatClampNeg + s27 = s18 ∧ ∀ (q30 : Nat) (a31 : L_) (r32 : S_), a31 = sAd a22 34 q30 (2 * p0).toNatClampNeg → r32 = sA r23 34 (fun _ => 0) → ¬ (2 * p0) < 0 ∧ (2 * p0).toNatClampNeg * 8 ≤ 536870912 ∧ ∃ k35 s36 : Nat, 1 + k35 = k26 ∧ (2 * p0).toNatClampNeg + s36 = s27 ∧ ∀ (q39 : Nat) (a40 : L_) (r41 : S_), a40 = sAd a31 89 q39 (2 * p0).toNatClampNeg → r41 = sL r32 0 (fun _ => 0) → ¬ (2 * p0) < 0 ∧ (2 * p0).toNatClampNeg * 4 ≤ 536870912 ∧ ∃ k44 s45 : Nat, 1 + k44 = k35 ∧ (2 * p0).toNatClampNeg + s45 = s36 ∧ ∀ (q48 : Nat) (a49 : L_) (r50 : S_), a49 = sAd a40 35 q48 (2 * p0).toNatClampNeg → r50 = sA r41 35 (fun _ => 0) → qD_restart_J54 K a49 r50 k44 s45 p1)
set_option maxRecDepth 100000 in
set_option maxHeartbeats 4000000 in
theorem cD_restart {a0 : L_} {r : S_} {kc0 : Nat} {ks0 : Nat} {K : L_ → S_ → Prop} (p0 : Int32) (p1 : Int32) (h : qD_restart K a0 r kc0 ks0 p0 p1) : vx_Mv l yD_restart (Cond.code yD_restart prog_5_method_2_code 3 none :: wAll) { frames := 0, cells := kc0, slots := ks0, locals := 0 } D vwCl (tysG G) nwAll (wo G a0 r) [.ref (ob G 6), .int p0, .int p1] kc0 ks0 (fun w => ∃ a1 r1, w = wo G a1 r1 ∧ fx a0 a1 ∧ K a1 r1) := by
  unfold qD_restart at h
  refine x_metv (cc := prog_5_method_2_code) (maxL := 3) (ret := none) (lv0 := [(0, .ref (ob G 6)), (1, .int p0), (2, .int p1)]) (by decide) rfl (Nat.le_of_ble_eq_true rfl) rfl ?_
  intro p e s m args below meth c A C hA hlocks hr
  have hu : 0 + kc0 ≤ kc0 := by omega
  have hv : 0 + ks0 ≤ ks0 := by omega
  have hfa : fx a0 a0 := fx_refl _
  refine x_aload_n C dD_restart_0 rfl 0 rfl ?_
  refine gf_6_0 C (List.mem_cons_of_mem _ wm249) dD_restart_1 ?_
  refine y_alen C 32 (by decide) dD_restart_4 ?_
  refine x_iload_n C dD_restart_5 rfl 1 rfl ?_
  refine x_icmp_ge (tgt := 54) C dD_restart_6 (by decide) (fun g1 => ?_) (fun g1 => ?_)
  · have h := h.1 g1
    refine x_sub [0, 2] rfl ?_
    exact tD_restart_J54 C hA hlocks hr a0 r kc0 ks0 p1 _ _ hu hv hfa h
  · have h := h.2 g1
    refine x_aload_n C dD_restart_9 rfl 0 rfl ?_
    refine x_iconst (v := 2) C dD_restart_10 (by decide) ?_
    refine x_iload_n C dD_restart_11 rfl 1 rfl ?_
    refine x_imul C dD_restart_12 ?_
    obtain ⟨g6, g7, k8, s9, e10, e11, h⟩ := h
    have hu9 : 0 + 1 ≤ kc0 := by omega
    have hv9 : 0 + (2 * p0).toNatClampNeg ≤ ks0 := by omega
    refine yn_32 C (List.mem_cons_of_mem _ wm249) g6 g7 dD_restart_13 dD_restart_15 ⟨hu9, hv9⟩ (fun q12 a13 r14 ea13 er14 => ?_)
    have h := h q12 a13 r14 ea13 er14
    have hfa : fx a0 a13 := fx_trans hfa (by rw [ea13]; exact fx_sAd (by decide))
    have hu : (0 + 1) + k8 ≤ kc0 := by omega
    have hv : (0 + (2 * p0).toNatClampNeg) + s9 ≤ ks0 := by omega
    refine x_aload_n C dD_restart_18 rfl 0 rfl ?_
    refine x_iconst (v := 2) C dD_restart_19 (by decide) ?_
    refine x_iload_n C dD_restart_20 rfl 1 rfl ?_
    refine x_imul C dD_restart_21 ?_
    obtain ⟨g15, g16, k17, s18, e19, e20, h⟩ := h
    have hu9 : (0 + 1) + 1 ≤ kc0 := by omega
    have hv9 : (0 + (2 * p0).toNatClampNeg) + (2 * p0).toNatClampNeg ≤ ks0 := by omega
    refine yn_33 C (List.mem_cons_of_mem _ wm250) g15 g16 dD_restart_22 dD_restart_24 ⟨hu9, hv9⟩ (fun q21 a22 r23 ea22 er23 => ?_)
    have h := h q21 a22 r23 ea22 er23
    have hfa : fx a0 a22 := fx_trans hfa (by rw [ea22]; exact fx_sAd (by decide))
    have hu : ((0 + 1) + 1) + k17 ≤ kc0 := by omega
    have hv : ((0 + (2 * p0).toNatClampNeg) + (2 * p0).toNatClampNeg) + s18 ≤ ks0 := by omega
    refine x_aload_n C dD_restart_27 rfl 0 rfl ?_
    refine x_iconst (v := 2) C dD_restart_28 (by decide) ?_
    refine x_iload_n C dD_restart_29 rfl 1 rfl ?_
    refine x_imul C dD_restart_30 ?_
    obtain ⟨g24, g25, k26, s27, e28, e29, h⟩ := h
    have hu9 : ((0 + 1) + 1) + 1 ≤ kc0 := by omega
    have hv9 : ((0 + (2 * p0).toNatClampNeg) + (2 * p0).toNatClampNeg) + (2 * p0).toNatClampNeg ≤ ks0 := by omega
    refine yn_34 C (List.mem_cons_of_mem _ wm251) g24 g25 dD_restart_31 dD_restart_33 ⟨hu9, hv9⟩ (fun q30 a31 r32 ea31 er32 => ?_)
    have h := h q30 a31 r32 ea31 er32
    have hfa : fx a0 a31 := fx_trans hfa (by rw [ea31]; exact fx_sAd (by decide))
    have hu : (((0 + 1) + 1) + 1) + k26 ≤ kc0 := by omega
    have hv : (((0 + (2 * p0).toNatClampNeg) + (2 * p0).toNatClampNeg) + (2 * p0).toNatClampNeg) + s27 ≤ ks0 := by omega
    refine x_aload_n C dD_restart_36 rfl 0 rfl ?_
    refine x_iconst (v := 2) C dD_restart_37 (by decide) ?_
    refine x_iload_n C dD_restart_38 rfl 1 rfl ?_
    refine x_imul C dD_restart_39 ?_
    obtain ⟨g33, g34, k35, s36, e37, e38, h⟩ := h
    have hu9 : (((0 + 1) + 1) + 1) + 1 ≤ kc0 := by omega
    have hv9 : (((0 + (2 * p0).toNatClampNeg) + (2 * p0).toNatClampNeg) + (2 * p0).toNatClampNeg) + (2 * p0).toNatClampNeg ≤ ks0 := by omega
    refine yn_89 C (List.mem_cons_of_mem _ wm252) g33 g34 dD_restart_40 dD_restart_42 ⟨hu9, hv9⟩ (fun q39 a40 r41 ea40 er41 => ?_)
    have h := h q39 a40 r41 ea40 er41
    have hfa : fx a0 a40 := fx_trans hfa (by rw [ea40]; exact fx_sAd (by decide))
    have hu : ((((0 + 1) + 1) + 1) + 1) + k35 ≤ kc0 := by omega
    have hv : ((((0 + (2 * p0).toNatClampNeg) + (2 * p0).toNatClampNeg) + (2 * p0).toNatClampNeg) + (2 * p0).toNatClampNeg) + s36 ≤ ks0 := by omega
    refine x_aload_n C dD_restart_45 rfl 0 rfl ?_
    refine x_iconst (v := 2) C dD_restart_46 (by decide) ?_
    refine x_iload_n C dD_restart_47 rfl 1 rfl ?_
    refine x_imul C dD_restart_48 ?_
    obtain ⟨g42, g43, k44, s45, e46, e47, h⟩ := h
    have hu9 : ((((0 + 1) + 1) + 1) + 1) + 1 ≤ kc0 := by omega
    have hv9 : ((((0 + (2 * p0).toNatClampNeg) + (2 * p0).toNatClampNeg) + (2 * p0).toNatClampNeg) + (2 * p0).toNatClampNeg) + (2 * p0).toNatClampNeg ≤ ks0 := by omega
    refine yn_35 C (List.mem_cons_of_mem _ wm254) g42 g43 dD_restart_49 dD_restart_51 ⟨hu9, hv9⟩ (fun q48 a49 r50 ea49 er50 => ?_)
    have h := h q48 a49 r50 ea49 er50
    have hfa : fx a0 a49 := fx_trans hfa (by rw [ea49]; exact fx_sAd (by decide))
    have hu : (((((0 + 1) + 1) + 1) + 1) + 1) + k44 ≤ kc0 := by omega
    have hv : (((((0 + (2 * p0).toNatClampNeg) + (2 * p0).toNatClampNeg) + (2 * p0).toNatClampNeg) + (2 * p0).toNatClampNeg) + (2 * p0).toNatClampNeg) + s45 ≤ ks0 := by omega
    refine x_sub [0, 2] rfl ?_
    exact tD_restart_J54 C hA hlocks hr a49 r50 k44 s45 p1 _ _ hu hv hfa h
set_option maxRecDepth 100000 in
set_option maxHeartbeats 4000000 in
theorem kD_restart {p : Program} {l : Launch} {e : Env} {R : Room} {s : State} {m : MethodId} {args : Array Value} {below : List Frame} {meth : Method} {c : Code} {cells slots : Nat} {Q : State → Prop} {A : Nat → Prop} {D : va_G} {nL pc : Nat} {cc : ByteArray} {cw : Cond} {own : String} {lv : List (Nat × Value)} {st : List Value} {G : G_} {a : L_} {r : S_} {kc : Nat} {ks : Nat} {K : L_ → S_ → Prop} {p0 : Int32} {p1 : Int32} (C : vx_C p s m args c cc nL (cw :: wAll) own D vwCl (tysG G) nwAll A) {i : Nat} (hl : Cond.methodLink own i yD_restart ∈ wAll) (hR : 0 + 1 ≤ R.frames ∧ 8 + (3 + 11) + 0 ≤ R.locals) (hst : (st.map fun v => v.category).sum ≤ 8) (hd : decode cc pc = .ok (.invokevirtual i, 3)) (hcs : cells + kc ≤ R.cells ∧ slots + ks ≤ R.slots) (h : qD_restart K a r kc ks p0 p1) (k : ∀ (a1 : L_) (r1 : S_), fx a a1 → K a1 r1 → vx_V p l e R s m args below meth c A D vwCl nL (cells + kc) (slots + ks) Q (wo G a1 r1) (pc + 3) lv st) : vx_V p l e R s m args below meth c A D vwCl nL cells slots Q (wo G a r) pc lv (.int p1 :: .int p0 :: .ref (ob G 6) :: st) := by
  refine x_callVv C (CC := "ClassInference$Told") (ci := 6) (q0 := 6) (fs := fl6 G a r) (As := [.int p0, .int p1]) rfl rfl (cD_restart p0 p1 h) (cwV (C := "ClassInference$Told") 2 C.1.2.2.2.2 (goodV hl wm614 wm615 wm8 wm616) rfl rfl rfl (by decide +kernel) hR) rfl hst hd hcs (fun w hw => ?_)
  obtain ⟨a1, r1, rfl, hf9, h⟩ := hw
  exact k a1 r1 hf9 h
def qY_typeOfName_L7 (KX24 : L_ → S_ → Nat → Nat → Int32 → Prop) (KX76 : L_ → S_ → Nat → Nat → Prop) : Nat → L_ → S_ → Nat → Nat → Int32 → Int32 → Prop
  | 0, _, _, _, _, _, _ => False
  | n + 1, a, r, kc, ks, v1, v2 => ((v2 < 0) → KX76 a r kc ks) ∧ ((¬ v2 < 0) → vp_in v2 (ln a 17) ∧ (((ar r 17 v2.toNatClampNeg) = v1) → KX24 a r kc ks v2) ∧ ((¬ (ar r 17 v2.toNatClampNeg) = v1) → (qY_typeOfName_L7 KX24 KX76 n) a r kc ks v1 (v2 + (-1))))
set_option maxRecDepth 100000 in
set_option maxHeartbeats 4000000 in
theorem tY_typeOfName_L7 (C : vx_C p s m args c prog_7_method_4_code 3 (Cond.code yY_typeOfName prog_7_method_4_code 3 (some .int) :: wAll) "ClassInference$Typer" D vwCl (tysG G) nwAll A) {KX24 : L_ → S_ → Nat → Nat → Int32 → Prop} {KX76 : L_ → S_ → Nat → Nat → Prop} (kX24 : ∀ (a : L_) (r : S_) (kc : Nat) (ks : Nat) (v2 : Int32) (u v : Nat) (hu : u + kc ≤ mc) (hv : v + ks ≤ ms) (hfa : fx a0 a), KX24 a r kc ks v2 → vx_V p l e { frames := 5, cells := mc, slots := ms, locals := 117 } s m args below meth c A D vwCl 3 u v Q (wo G a r) 24 [(0, .ref (ob G 4)), (2, .int v2)] []) (kX76 : ∀ (a : L_) (r : S_) (kc : Nat) (ks : Nat) (u v : Nat) (hu : u + kc ≤ mc) (hv : v + ks ≤ ms) (hfa : fx a0 a), KX76 a r kc ks → vx_V p l e { frames := 5, cells := mc, slots := ms, locals := 117 } s m args below meth c A D vwCl 3 u v Q (wo G a r) 76 [(0, .ref (ob G 4))] []) : ∀ (n : Nat) (a : L_) (r : S_) (kc : Nat) (ks : Nat) (v1 : Int32) (v2 : Int32) (u v : Nat) (hu : u + kc ≤ mc) (hv : v + ks ≤ ms) (hfa : fx a0 a), qY_typeOfName_L7 KX24 KX76 n a r kc ks v1 v2 → vx_V p l e { frames := 5, cells := mc, slots := ms, locals := 117 } s m args below meth c A D vwCl 3 u v Q (wo G a r) 7 [(0, .ref (ob G 4)), (1, .int v1), (2, .int v2)] [] := by
  intro n
  induction n with
  | zero =>
    intro a r kc ks v1 v2 u v hu hv hfa h
    exact (by rw [qY_typeOfName_L7] at h; exact h : False).elim
  | succ n kB7 =>
    intro a r kc ks v1 v2 u v hu hv hfa h
    rw [qY_typeOfName_L7] at h
    refine x_iload_n C dY_typeOfName_7 rfl 2 rfl ?_
    refine x_if_lt (tgt := 76) C dY_typeOfName_8 (by decide) (fun g1 => ?_) (fun g1 => ?_)
    · have h := h.1 g1
      refine x_sub [0] rfl ?_
      exact kX76 a r kc ks _ _ hu hv hfa h
    · have h := h.2 g1
      refine x_aload_n C dY_typeOfName_11 rfl 0 rfl ?_
      refine gf_4_4 C (List.mem_cons_of_mem _ wm204) dY_typeOfName_12 ?_
      refine x_iload_n C dY_typeOfName_15 rfl 2 rfl ?_
      obtain ⟨g2, h⟩ := h
      refine y_ia C 17 (by decide) g2 dY_typeOfName_16 ?_
      refine x_iload_n C dY_typeOfName_17 rfl 1 rfl ?_
      refine x_icmp_eq (tgt := 24) C dY_typeOfName_18 (by decide) (fun g3 => ?_) (fun g3 => ?_)
      · have h := h.1 g3
        refine x_sub [0, 2] rfl ?_
        exact kX24 a r kc ks v2 _ _ hu hv hfa h
      · have h := h.2 g3
        refine x_goto (tgt := 70) C dY_typeOfName_21 (by decide) ?_
        refine x_iinc (j := 2) (v := v2 + (-1)) C [(2, .int (v2 + (-1))), (0, .ref (ob G 4)), (1, .int v1)] dY_typeOfName_70 rfl rfl (by decide) rfl ?_
        refine x_goto (tgt := 7) C dY_typeOfName_73 (by decide) ?_
        refine x_sub [1, 2, 0] rfl ?_
        exact kB7 a r kc ks v1 (v2 + (-1)) _ _ hu hv hfa h
def qY_typeOfName (K : Int32 → L_ → S_ → Prop) (a0 : L_) (r : S_) (kc0 : Nat) (ks0 : Nat) (p0 : Int32) : Prop :=
  ∃ n30 : Nat, qY_typeOfName_L7  (fun a r kc ks v2 => vp_in v2 (ln a 19) ∧ ((¬ (ar r 19 v2.toNatClampNeg) = (-1)) → vp_in v2 (ln a 19) ∧ ∀ r7 : S_, r7 = sF r 8 ((fi r 8) + (ar r 19 v2.toNatClampNeg)) → vp_in v2 (ln a 18) ∧ ∃ k12 s14 k13 s15 : Nat, k12 + k13 = kc ∧ s14 + s15 = ks ∧ qG_copyOf (fun z9 a11 r10 => fx a a11 → K z9 a11 r10) a r7 k12 s14 (ar r7 18 v2.toNatClampNeg)) ∧ (((ar r 19 v2.toNatClampNeg) = (-1)) → vp_in v2 (ln a 18) ∧ K (ar r 18 v2.toNatClampNeg) a r)) (fun a r kc ks => zb 1 ∧ ∀ r19 : S_, r19 = sF r 15 1 → ∃ k24 s26 k25 s27 : Nat, k24 + k25 = kc ∧ s26 + s27 = ks ∧ qG_newNode (fun z21 a23 r22 => fx a a23 → K z21 a23 r22) a r19 k24 s26 (-1) (-1) (-1)) n30 a0 r kc0 ks0 p0 ((fi r 5) - 1)
set_option maxRecDepth 100000 in
set_option maxHeartbeats 4000000 in
theorem cY_typeOfName {a0 : L_} {r : S_} {kc0 : Nat} {ks0 : Nat} {K : Int32 → L_ → S_ → Prop} (p0 : Int32) (h : qY_typeOfName K a0 r kc0 ks0 p0) : vx_Mi l yY_typeOfName (Cond.code yY_typeOfName prog_7_method_4_code 3 (some .int) :: wAll) { frames := 5, cells := kc0, slots := ks0, locals := 117 } D vwCl (tysG G) nwAll (wo G a0 r) [.ref (ob G 4), .int p0] kc0 ks0 (fun v w => ∃ a1 r1, w = wo G a1 r1 ∧ fx a0 a1 ∧ K v a1 r1) := by
  unfold qY_typeOfName at h
  refine x_meti (cc := prog_7_method_4_code) (maxL := 3) (ret := (some .int)) (lv0 := [(0, .ref (ob G 4)), (1, .int p0)]) (by decide) rfl (Nat.le_of_ble_eq_true rfl) rfl ?_
  intro p e s m args below meth c A C hA hlocks hr
  have hu : 0 + kc0 ≤ kc0 := by omega
  have hv : 0 + ks0 ≤ ks0 := by omega
  have hfa : fx a0 a0 := fx_refl _
  refine x_aload_n C dY_typeOfName_0 rfl 0 rfl ?_
  refine gf_4_7 C (List.mem_cons_of_mem _ wm207) dY_typeOfName_1 ?_
  refine x_iconst (v := 1) C dY_typeOfName_4 (by decide) ?_
  refine x_isub C dY_typeOfName_5 ?_
  refine x_istore_n C [(2, .int ((fi r 5) - 1)), (0, .ref (ob G 4)), (1, .int p0)] dY_typeOfName_6 rfl (by decide) rfl ?_
  obtain ⟨n30, h⟩ := h
  refine x_sub [1, 2, 0] rfl ?_
  refine tY_typeOfName_L7 C (fun a r kc ks v2 u v hu hv hfa h => ?_) (fun a r kc ks u v hu hv hfa h => ?_) n30 a0 r kc0 ks0 p0 ((fi r 5) - 1) _ _ hu hv hfa h
  · refine x_aload_n C dY_typeOfName_24 rfl 0 rfl ?_
    refine gf_4_6 C (List.mem_cons_of_mem _ wm206) dY_typeOfName_25 ?_
    refine x_iload_n C dY_typeOfName_28 rfl 1 rfl ?_
    obtain ⟨g4, h⟩ := h
    refine y_ia C 19 (by decide) g4 dY_typeOfName_29 ?_
    refine x_iconst (v := (-1)) C dY_typeOfName_30 (by decide) ?_
    refine x_icmp_ne (tgt := 41) C dY_typeOfName_31 (by decide) (fun g5 => ?_) (fun g5 => ?_)
    · have h := h.1 g5
      refine x_aload_n C dY_typeOfName_41 rfl 0 rfl ?_
      refine x_dup C dY_typeOfName_42 rfl ?_
      refine gf_4_11 C (List.mem_cons_of_mem _ wm211) dY_typeOfName_43 ?_
      refine x_aload_n C dY_typeOfName_46 rfl 0 rfl ?_
      refine gf_4_6 C (List.mem_cons_of_mem _ wm206) dY_typeOfName_47 ?_
      refine x_iload_n C dY_typeOfName_50 rfl 1 rfl ?_
      obtain ⟨g6, h⟩ := h
      refine y_ia C 19 (by decide) g6 dY_typeOfName_51 ?_
      refine x_iadd C dY_typeOfName_52 ?_
      refine pf_4_11 C (List.mem_cons_of_mem _ wm211) dY_typeOfName_53 (fun r7 er7 => ?_)
      have h := h r7 er7
      refine x_aload_n C dY_typeOfName_56 rfl 0 rfl ?_
      refine gf_4_3 C (List.mem_cons_of_mem _ wm203) dY_typeOfName_57 ?_
      refine x_aload_n C dY_typeOfName_60 rfl 0 rfl ?_
      refine gf_4_5 C (List.mem_cons_of_mem _ wm205) dY_typeOfName_61 ?_
      refine x_iload_n C dY_typeOfName_64 rfl 1 rfl ?_
      obtain ⟨g8, h⟩ := h
      refine y_ia C 18 (by decide) g8 dY_typeOfName_65 ?_
      obtain ⟨k12, s14, k13, s15, e16, e17, h⟩ := h
      have hu9 : u + k12 ≤ kc0 := by omega
      have hv9 : v + s14 ≤ ks0 := by omega
      refine kG_copyOf C wm588 ⟨Nat.le_of_ble_eq_true rfl, Nat.le_of_ble_eq_true rfl⟩ (Nat.le_of_ble_eq_true rfl) dY_typeOfName_66 ⟨hu9, hv9⟩ h (fun z9 a11 r10 hf9 h => ?_)
      have hu : (u + k12) + k13 ≤ kc0 := by omega
      have hv : (v + s14) + s15 ≤ ks0 := by omega
      have h := h hf9
      have hfa : fx a0 a11 := fx_trans hfa hf9
      refine x_widen (k1 := kc0) (n1 := ks0) (by omega) (by omega) ?_
      exact x_iret C hA hlocks hr ⟨a11, r10, rfl, hfa, h⟩ dY_typeOfName_69
    · have h := h.2 g5
      refine x_aload_n C dY_typeOfName_34 rfl 0 rfl ?_
      refine gf_4_5 C (List.mem_cons_of_mem _ wm205) dY_typeOfName_35 ?_
      refine x_iload_n C dY_typeOfName_38 rfl 1 rfl ?_
      obtain ⟨g18, h⟩ := h
      refine y_ia C 18 (by decide) g18 dY_typeOfName_39 ?_
      refine x_widen (k1 := kc0) (n1 := ks0) (by omega) (by omega) ?_
      exact x_iret C hA hlocks hr ⟨a, r, rfl, hfa, h⟩ dY_typeOfName_40
  · refine x_aload_n C dY_typeOfName_76 rfl 0 rfl ?_
    refine gf_4_3 C (List.mem_cons_of_mem _ wm203) dY_typeOfName_77 ?_
    refine x_iconst (v := 1) C dY_typeOfName_80 (by decide) ?_
    obtain ⟨g20, h⟩ := h
    refine pn_5_15 C wn166 g20 dY_typeOfName_81 (fun r19 er19 => ?_)
    have h := h r19 er19
    refine x_aload_n C dY_typeOfName_84 rfl 0 rfl ?_
    refine gf_4_3 C (List.mem_cons_of_mem _ wm203) dY_typeOfName_85 ?_
    refine x_iconst (v := (-1)) C dY_typeOfName_88 (by decide) ?_
    refine x_iconst (v := (-1)) C dY_typeOfName_89 (by decide) ?_
    refine x_iconst (v := (-1)) C dY_typeOfName_90 (by decide) ?_
    obtain ⟨k24, s26, k25, s27, e28, e29, h⟩ := h
    have hu9 : u + k24 ≤ kc0 := by omega
    have hv9 : v + s26 ≤ ks0 := by omega
    refine kG_newNode C wm439 ⟨Nat.le_of_ble_eq_true rfl, Nat.le_of_ble_eq_true rfl⟩ (Nat.le_of_ble_eq_true rfl) dY_typeOfName_91 ⟨hu9, hv9⟩ h (fun z21 a23 r22 hf9 h => ?_)
    have hu : (u + k24) + k25 ≤ kc0 := by omega
    have hv : (v + s26) + s27 ≤ ks0 := by omega
    have h := h hf9
    have hfa : fx a0 a23 := fx_trans hfa hf9
    refine x_widen (k1 := kc0) (n1 := ks0) (by omega) (by omega) ?_
    exact x_iret C hA hlocks hr ⟨a23, r22, rfl, hfa, h⟩ dY_typeOfName_94
set_option maxRecDepth 100000 in
set_option maxHeartbeats 4000000 in
theorem kY_typeOfName {p : Program} {l : Launch} {e : Env} {R : Room} {s : State} {m : MethodId} {args : Array Value} {below : List Frame} {meth : Method} {c : Code} {cells slots : Nat} {Q : State → Prop} {A : Nat → Prop} {D : va_G} {nL pc : Nat} {cc : ByteArray} {cw : Cond} {own : String} {lv : List (Nat × Value)} {st : List Value} {G : G_} {a : L_} {r : S_} {kc : Nat} {ks : Nat} {K : Int32 → L_ → S_ → Prop} {p0 : Int32} (C : vx_C p s m args c cc nL (cw :: wAll) own D vwCl (tysG G) nwAll A) {i : Nat} (hl : Cond.methodLink own i yY_typeOfName ∈ wAll) (hR : 5 + 1 ≤ R.frames ∧ 8 + (3 + 11) + 117 ≤ R.locals) (hst : (st.map fun v => v.category).sum ≤ 8) (hd : decode cc pc = .ok (.invokevirtual i, 3)) (hcs : cells + kc ≤ R.cells ∧ slots + ks ≤ R.slots) (h : qY_typeOfName K a r kc ks p0) (k : ∀ (v : Int32) (a1 : L_) (r1 : S_), fx a a1 → K v a1 r1 → vx_V p l e R s m args below meth c A D vwCl nL (cells + kc) (slots + ks) Q (wo G a1 r1) (pc + 3) lv (.int v :: st)) : vx_V p l e R s m args below meth c A D vwCl nL cells slots Q (wo G a r) pc lv (.int p0 :: .ref (ob G 4) :: st) := by
  refine x_callVi C (CC := "ClassInference$Typer") (ci := 4) (q0 := 4) (fs := fl4 G a r) (As := [.int p0]) rfl rfl (cY_typeOfName p0 h) (cwV (C := "ClassInference$Typer") 1 C.1.2.2.2.2 (goodV hl wm586 wp26 wm6 wm587) rfl rfl rfl (by decide +kernel) hR) rfl hst hd hcs (fun v w hw => ?_)
  obtain ⟨a1, r1, rfl, hf9, h⟩ := hw
  exact k v a1 r1 hf9 h
def qY_tell_J136 (KB35 : L_ → S_ → Nat → Nat → Int32 → Prop) (KX152 : L_ → S_ → Nat → Nat → Prop) (a : L_) (r : S_) (kc : Nat) (ks : Nat) (v2 : Int32) (v3 : Int32) : Prop :=
  vp_in v3 (ln a 29) ∧ ∀ r22 : S_, r22 = sA r 29 (upd (ar r 29) v3.toNatClampNeg v2) → KB35 a r22 kc ks (v2 + 1)
set_option maxRecDepth 100000 in
set_option maxHeartbeats 4000000 in
theorem tY_tell_J136 (C : vx_C p s m args c prog_7_method_20_code 6 (Cond.code yY_tell prog_7_method_20_code 6 none :: wAll) "ClassInference$Typer" D vwCl (tysG G) nwAll A) {KB35 : L_ → S_ → Nat → Nat → Int32 → Prop} {KX152 : L_ → S_ → Nat → Nat → Prop} (kB35 : ∀ (a : L_) (r : S_) (kc : Nat) (ks : Nat) (v2 : Int32) (u v : Nat) (hu : u + kc ≤ mc) (hv : v + ks ≤ ms) (hfa : fx a0 a), KB35 a r kc ks v2 → vx_V p l e { frames := 3, cells := mc, slots := ms, locals := 71 } s m args below meth c A D vwCl 6 u v Q (wo G a r) 35 [(0, .ref (ob G 4)), (1, .ref (ob G 6)), (2, .int v2)] []) (kX152 : ∀ (a : L_) (r : S_) (kc : Nat) (ks : Nat) (u v : Nat) (hu : u + kc ≤ mc) (hv : v + ks ≤ ms) (hfa : fx a0 a), KX152 a r kc ks → vx_V p l e { frames := 3, cells := mc, slots := ms, locals := 71 } s m args below meth c A D vwCl 6 u v Q (wo G a r) 152 [] []) (a : L_) (r : S_) (kc : Nat) (ks : Nat) (v2 : Int32) (v3 : Int32) (u v : Nat) (hu : u + kc ≤ mc) (hv : v + ks ≤ ms) (hfa : fx a0 a) (h : qY_tell_J136 KB35 KX152 a r kc ks v2 v3) : vx_V p l e { frames := 3, cells := mc, slots := ms, locals := 71 } s m args below meth c A D vwCl 6 u v Q (wo G a r) 136 [(0, .ref (ob G 4)), (1, .ref (ob G 6)), (2, .int v2), (3, .int v3)] [] := by
  unfold qY_tell_J136 at h
  refine x_aload_n C dY_tell_136 rfl 0 rfl ?_
  refine gf_4_3 C (List.mem_cons_of_mem _ wm203) dY_tell_137 ?_
  refine gn_5_9 C wn157 dY_tell_140 ?_
  refine x_iload_n C dY_tell_143 rfl 3 rfl ?_
  refine x_iload_n C dY_tell_144 rfl 2 rfl ?_
  obtain ⟨g21, h⟩ := h
  refine y_is C 29 (by decide) g21 dY_tell_145 (fun r22 er22 => ?_)
  have h := h r22 er22
  refine x_iinc (j := 2) (v := v2 + 1) C [(2, .int (v2 + 1)), (0, .ref (ob G 4)), (1, .ref (ob G 6)), (3, .int v3)] dY_tell_146 rfl rfl (by decide) rfl ?_
  refine x_goto (tgt := 35) C dY_tell_149 (by decide) ?_
  refine x_sub [1, 2, 0] rfl ?_
  exact kB35 a r22 kc ks (v2 + 1) _ _ hu hv hfa h
def qY_tell_L35 (KX152 : L_ → S_ → Nat → Nat → Prop) : Nat → L_ → S_ → Nat → Nat → Int32 → Prop
  | 0, _, _, _, _, _ => False
  | n + 1, a, r, kc, ks, v2 => (((fi r 12) ≤ v2) → KX152 a r kc ks) ∧ ((¬ (fi r 12) ≤ v2) → vp_in v2 (ln a 30) ∧ qG_isVariable a r (fun z11 => zb z11 → ((z11 = 0) → vp_in (ar r 30 v2.toNatClampNeg) (ln a 22) ∧ qG_valueOf a (fun z14 r15 => vp_in (ar r 30 v2.toNatClampNeg) (ln a 23) ∧ qG_valueOf a (fun z17 r18 => vp_in (ar r 30 v2.toNatClampNeg) (ln a 21) ∧ qD_addBuilt a (fun r20 => qY_tell_J136 (qY_tell_L35 KX152 n) KX152 a r20 kc ks v2 (ar r 30 v2.toNatClampNeg)) r18 (ar r18 21 (ar r 30 v2.toNatClampNeg).toNatClampNeg) z14 z17) r15 (ar r15 23 (ar r 30 v2.toNatClampNeg).toNatClampNeg)) r (ar r 22 (ar r 30 v2.toNatClampNeg).toNatClampNeg)) ∧ ((¬ z11 = 0) → vp_in (ar r 30 v2.toNatClampNeg) (ln a 25) ∧ qD_addVariable a (fun r24 => qY_tell_J136 (qY_tell_L35 KX152 n) KX152 a r24 kc ks v2 (ar r 30 v2.toNatClampNeg)) r (ar r 25 (ar r 30 v2.toNatClampNeg).toNatClampNeg))) (ar r 30 v2.toNatClampNeg))
set_option maxRecDepth 100000 in
set_option maxHeartbeats 4000000 in
theorem tY_tell_L35 (C : vx_C p s m args c prog_7_method_20_code 6 (Cond.code yY_tell prog_7_method_20_code 6 none :: wAll) "ClassInference$Typer" D vwCl (tysG G) nwAll A) {KX152 : L_ → S_ → Nat → Nat → Prop} (kX152 : ∀ (a : L_) (r : S_) (kc : Nat) (ks : Nat) (u v : Nat) (hu : u + kc ≤ mc) (hv : v + ks ≤ ms) (hfa : fx a0 a), KX152 a r kc ks → vx_V p l e { frames := 3, cells := mc, slots := ms, locals := 71 } s m args below meth c A D vwCl 6 u v Q (wo G a r) 152 [] []) : ∀ (n : Nat) (a : L_) (r : S_) (kc : Nat) (ks : Nat) (v2 : Int32) (u v : Nat) (hu : u + kc ≤ mc) (hv : v + ks ≤ ms) (hfa : fx a0 a), qY_tell_L35 KX152 n a r kc ks v2 → vx_V p l e { frames := 3, cells := mc, slots := ms, locals := 71 } s m args below meth c A D vwCl 6 u v Q (wo G a r) 35 [(0, .ref (ob G 4)), (1, .ref (ob G 6)), (2, .int v2)] [] := by
  intro n
  induction n with
  | zero =>
    intro a r kc ks v2 u v hu hv hfa h
    exact (by rw [qY_tell_L35] at h; exact h : False).elim
  | succ n kB35 =>
    intro a r kc ks v2 u v hu hv hfa h
    rw [qY_tell_L35] at h
    refine x_iload_n C dY_tell_35 rfl 2 rfl ?_
    refine x_aload_n C dY_tell_36 rfl 0 rfl ?_
    refine gf_4_3 C (List.mem_cons_of_mem _ wm203) dY_tell_37 ?_
    refine gn_5_11 C wn160 dY_tell_40 ?_
    refine x_icmp_ge (tgt := 152) C dY_tell_43 (by decide) (fun g9 => ?_) (fun g9 => ?_)
    · have h := h.1 g9
      refine x_sub [] rfl ?_
      exact kX152 a r kc ks _ _ hu hv hfa h
    · have h := h.2 g9
      refine x_aload_n C dY_tell_46 rfl 0 rfl ?_
      refine gf_4_3 C (List.mem_cons_of_mem _ wm203) dY_tell_47 ?_
      refine gn_5_10 C wn159 dY_tell_50 ?_
      refine x_iload_n C dY_tell_53 rfl 2 rfl ?_
      obtain ⟨g10, h⟩ := h
      refine y_ia C 30 (by decide) g10 dY_tell_54 ?_
      refine x_istore_n C [(3, .int (ar r 30 v2.toNatClampNeg)), (0, .ref (ob G 4)), (1, .ref (ob G 6)), (2, .int v2)] dY_tell_55 rfl (by decide) rfl ?_
      refine x_aload_n C dY_tell_56 rfl 1 rfl ?_
      refine gf_4_3 C (List.mem_cons_of_mem _ wm203) dY_tell_57 ?_
      refine x_iload_n C dY_tell_60 rfl 0 rfl ?_
      refine kG_isVariable C wm526 ⟨Nat.le_of_ble_eq_true rfl, Nat.le_of_ble_eq_true rfl⟩ (Nat.le_of_ble_eq_true rfl) dY_tell_61 ⟨Nat.le_trans (Nat.le_add_right _ _) hu, Nat.le_trans (Nat.le_add_right _ _) hv⟩ h (fun z11 hzz11 h => ?_)
      have h := h hzz11
      refine x_if_eq (tgt := 83) C dY_tell_64 (by decide) (fun g12 => ?_) (fun g12 => ?_)
      · have h := h.1 g12
        refine x_aload_n C dY_tell_83 rfl 1 rfl ?_
        refine gf_4_3 C (List.mem_cons_of_mem _ wm203) dY_tell_84 ?_
        refine x_aload_n C dY_tell_87 rfl 1 rfl ?_
        refine gf_4_3 C (List.mem_cons_of_mem _ wm203) dY_tell_88 ?_
        refine gn_5_1 C wn142 dY_tell_91 ?_
        refine x_iload_n C dY_tell_94 rfl 0 rfl ?_
        obtain ⟨g13, h⟩ := h
        refine y_ia C 22 (by decide) g13 dY_tell_95 ?_
        refine kG_valueOf C wm634 ⟨Nat.le_of_ble_eq_true rfl, Nat.le_of_ble_eq_true rfl⟩ (Nat.le_of_ble_eq_true rfl) dY_tell_96 ⟨Nat.le_trans (Nat.le_add_right _ _) hu, Nat.le_trans (Nat.le_add_right _ _) hv⟩ h (fun z14 r15 h => ?_)
        refine x_istore C [(4, .int z14), (3, .int (ar r 30 v2.toNatClampNeg)), (0, .ref (ob G 4)), (1, .ref (ob G 6)), (2, .int v2)] dY_tell_99 (by decide) rfl ?_
        refine x_aload_n C dY_tell_101 rfl 2 rfl ?_
        refine gf_4_3 C (List.mem_cons_of_mem _ wm203) dY_tell_102 ?_
        refine x_aload_n C dY_tell_105 rfl 2 rfl ?_
        refine gf_4_3 C (List.mem_cons_of_mem _ wm203) dY_tell_106 ?_
        refine gn_5_2 C wn144 dY_tell_109 ?_
        refine x_iload_n C dY_tell_112 rfl 1 rfl ?_
        obtain ⟨g16, h⟩ := h
        refine y_ia C 23 (by decide) g16 dY_tell_113 ?_
        refine kG_valueOf C wm634 ⟨Nat.le_of_ble_eq_true rfl, Nat.le_of_ble_eq_true rfl⟩ (Nat.le_of_ble_eq_true rfl) dY_tell_114 ⟨Nat.le_trans (Nat.le_add_right _ _) hu, Nat.le_trans (Nat.le_add_right _ _) hv⟩ h (fun z17 r18 h => ?_)
        refine x_istore C [(5, .int z17), (4, .int z14), (3, .int (ar r 30 v2.toNatClampNeg)), (0, .ref (ob G 4)), (1, .ref (ob G 6)), (2, .int v2)] dY_tell_117 (by decide) rfl ?_
        refine x_aload_n C dY_tell_119 rfl 4 rfl ?_
        refine x_aload_n C dY_tell_120 rfl 3 rfl ?_
        refine gf_4_3 C (List.mem_cons_of_mem _ wm203) dY_tell_121 ?_
        refine gn_5_0 C wn140 dY_tell_124 ?_
        refine x_iload_n C dY_tell_127 rfl 2 rfl ?_
        obtain ⟨g19, h⟩ := h
        refine y_ia C 21 (by decide) g19 dY_tell_128 ?_
        refine x_iload C dY_tell_129 1 rfl ?_
        refine x_iload C dY_tell_131 0 rfl ?_
        refine kD_addBuilt C wm635 ⟨Nat.le_of_ble_eq_true rfl, Nat.le_of_ble_eq_true rfl⟩ (Nat.le_of_ble_eq_true rfl) dY_tell_133 ⟨Nat.le_trans (Nat.le_add_right _ _) hu, Nat.le_trans (Nat.le_add_right _ _) hv⟩ h (fun r20 h => ?_)
        refine x_sub [3, 4, 5, 2] rfl ?_
        exact tY_tell_J136 C kB35 kX152 a r20 kc ks v2 (ar r 30 v2.toNatClampNeg) _ _ hu hv hfa h
      · have h := h.2 g12
        refine x_aload_n C dY_tell_67 rfl 2 rfl ?_
        refine x_aload_n C dY_tell_68 rfl 1 rfl ?_
        refine gf_4_3 C (List.mem_cons_of_mem _ wm203) dY_tell_69 ?_
        refine gn_5_4 C wn148 dY_tell_72 ?_
        refine x_iload_n C dY_tell_75 rfl 0 rfl ?_
        obtain ⟨g23, h⟩ := h
        refine y_ia C 25 (by decide) g23 dY_tell_76 ?_
        refine kD_addVariable C wm617 ⟨Nat.le_of_ble_eq_true rfl, Nat.le_of_ble_eq_true rfl⟩ (Nat.le_of_ble_eq_true rfl) dY_tell_77 ⟨Nat.le_trans (Nat.le_add_right _ _) hu, Nat.le_trans (Nat.le_add_right _ _) hv⟩ h (fun r24 h => ?_)
        refine x_goto (tgt := 136) C dY_tell_80 (by decide) ?_
        refine x_sub [1, 2, 3, 0] rfl ?_
        exact tY_tell_J136 C kB35 kX152 a r24 kc ks v2 (ar r 30 v2.toNatClampNeg) _ _ hu hv hfa h
def qY_tell (K : L_ → S_ → Prop) (a0 : L_) (r : S_) (kc0 : Nat) (ks0 : Nat) : Prop :=
  qG_startWalk a0 (fun r1 => qG_walk a0 (fun r2 => ∃ k5 s7 k6 s8 : Nat, k5 + k6 = kc0 ∧ s7 + s8 = ks0 ∧ qD_restart (fun a4 r3 => fx a0 a4 → ∃ n25 : Nat, qY_tell_L35 (fun a r kc ks => K a r) n25 a4 r3 k6 s8 0) a0 r2 k5 s7 (fi r2 12) (fi r2 8)) r1 (fi r1 7)) r
set_option maxRecDepth 100000 in
set_option maxHeartbeats 4000000 in
theorem cY_tell {a0 : L_} {r : S_} {kc0 : Nat} {ks0 : Nat} {K : L_ → S_ → Prop} (h : qY_tell K a0 r kc0 ks0 ) : vx_Mv l yY_tell (Cond.code yY_tell prog_7_method_20_code 6 none :: wAll) { frames := 3, cells := kc0, slots := ks0, locals := 71 } D vwCl (tysG G) nwAll (wo G a0 r) [.ref (ob G 4), .ref (ob G 6)] kc0 ks0 (fun w => ∃ a1 r1, w = wo G a1 r1 ∧ fx a0 a1 ∧ K a1 r1) := by
  unfold qY_tell at h
  refine x_metv (cc := prog_7_method_20_code) (maxL := 6) (ret := none) (lv0 := [(0, .ref (ob G 4)), (1, .ref (ob G 6))]) (by decide) rfl (Nat.le_of_ble_eq_true rfl) rfl ?_
  intro p e s m args below meth c A C hA hlocks hr
  have hu : 0 + kc0 ≤ kc0 := by omega
  have hv : 0 + ks0 ≤ ks0 := by omega
  have hfa : fx a0 a0 := fx_refl _
  refine x_aload_n C dY_tell_0 rfl 0 rfl ?_
  refine gf_4_3 C (List.mem_cons_of_mem _ wm203) dY_tell_1 ?_
  refine kG_startWalk C wm514 ⟨Nat.le_of_ble_eq_true rfl, Nat.le_of_ble_eq_true rfl⟩ (Nat.le_of_ble_eq_true rfl) dY_tell_4 ⟨Nat.le_trans (Nat.le_add_right _ _) hu, Nat.le_trans (Nat.le_add_right _ _) hv⟩ h (fun r1 h => ?_)
  refine x_aload_n C dY_tell_7 rfl 0 rfl ?_
  refine gf_4_3 C (List.mem_cons_of_mem _ wm203) dY_tell_8 ?_
  refine x_aload_n C dY_tell_11 rfl 0 rfl ?_
  refine gf_4_10 C (List.mem_cons_of_mem _ wm210) dY_tell_12 ?_
  refine kG_walk C wm518 ⟨Nat.le_of_ble_eq_true rfl, Nat.le_of_ble_eq_true rfl⟩ (Nat.le_of_ble_eq_true rfl) dY_tell_15 ⟨Nat.le_trans (Nat.le_add_right _ _) hu, Nat.le_trans (Nat.le_add_right _ _) hv⟩ h (fun r2 h => ?_)
  refine x_aload_n C dY_tell_18 rfl 1 rfl ?_
  refine x_aload_n C dY_tell_19 rfl 0 rfl ?_
  refine gf_4_3 C (List.mem_cons_of_mem _ wm203) dY_tell_20 ?_
  refine gn_5_11 C wn160 dY_tell_23 ?_
  refine x_aload_n C dY_tell_26 rfl 0 rfl ?_
  refine gf_4_11 C (List.mem_cons_of_mem _ wm211) dY_tell_27 ?_
  obtain ⟨k5, s7, k6, s8, e26, e27, h⟩ := h
  have hu9 : 0 + k5 ≤ kc0 := by omega
  have hv9 : 0 + s7 ≤ ks0 := by omega
  refine kD_restart C wm613 ⟨Nat.le_of_ble_eq_true rfl, Nat.le_of_ble_eq_true rfl⟩ (Nat.le_of_ble_eq_true rfl) dY_tell_30 ⟨hu9, hv9⟩ h (fun a4 r3 hf9 h => ?_)
  have hu : (0 + k5) + k6 ≤ kc0 := by omega
  have hv : (0 + s7) + s8 ≤ ks0 := by omega
  have h := h hf9
  have hfa : fx a0 a4 := fx_trans hfa hf9
  refine x_iconst (v := 0) C dY_tell_33 (by decide) ?_
  refine x_istore_n C [(2, .int 0), (0, .ref (ob G 4)), (1, .ref (ob G 6))] dY_tell_34 rfl (by decide) rfl ?_
  obtain ⟨n25, h⟩ := h
  refine x_sub [1, 2, 0] rfl ?_
  refine tY_tell_L35 C (fun a r kc ks u v hu hv hfa h => ?_) n25 a4 r3 k6 s8 0 _ _ hu hv hfa h
  · refine x_widen (k1 := kc0) (n1 := ks0) (by omega) (by omega) ?_
    exact x_vret C hA hlocks hr ⟨a, r, rfl, hfa, h⟩ dY_tell_152
set_option maxRecDepth 100000 in
set_option maxHeartbeats 4000000 in
theorem kY_tell {p : Program} {l : Launch} {e : Env} {R : Room} {s : State} {m : MethodId} {args : Array Value} {below : List Frame} {meth : Method} {c : Code} {cells slots : Nat} {Q : State → Prop} {A : Nat → Prop} {D : va_G} {nL pc : Nat} {cc : ByteArray} {cw : Cond} {own : String} {lv : List (Nat × Value)} {st : List Value} {G : G_} {a : L_} {r : S_} {kc : Nat} {ks : Nat} {K : L_ → S_ → Prop} (C : vx_C p s m args c cc nL (cw :: wAll) own D vwCl (tysG G) nwAll A) {i : Nat} (hl : Cond.methodLink own i yY_tell ∈ wAll) (hR : 3 + 1 ≤ R.frames ∧ 8 + (6 + 11) + 71 ≤ R.locals) (hst : (st.map fun v => v.category).sum ≤ 8) (hd : decode cc pc = .ok (.invokevirtual i, 3)) (hcs : cells + kc ≤ R.cells ∧ slots + ks ≤ R.slots) (h : qY_tell K a r kc ks ) (k : ∀ (a1 : L_) (r1 : S_), fx a a1 → K a1 r1 → vx_V p l e R s m args below meth c A D vwCl nL (cells + kc) (slots + ks) Q (wo G a1 r1) (pc + 3) lv st) : vx_V p l e R s m args below meth c A D vwCl nL cells slots Q (wo G a r) pc lv (.ref (ob G 6) :: .ref (ob G 4) :: st) := by
  refine x_callVv C (CC := "ClassInference$Typer") (ci := 4) (q0 := 4) (fs := fl4 G a r) (As := [.ref (ob G 6)]) rfl rfl (cY_tell  h) (cwV (C := "ClassInference$Typer") 1 C.1.2.2.2.2 (goodV hl wm610 wm611 wm6 wm612) rfl rfl rfl (by decide +kernel) hR) rfl hst hd hcs (fun w hw => ?_)
  obtain ⟨a1, r1, rfl, hf9, h⟩ := hw
  exact k a1 r1 hf9 h
end MTH2
