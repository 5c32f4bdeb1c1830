set_option maxHeartbeats 4000000 in
set_option maxRecDepth 100000 in
theorem f_X4_add (l : Launch) (L : WL) (σ : ST) (n q : Int32) (h2 : σ.1 2 = 0) : CtI l L yX4_add cX4_add 3 (some .int) rm_X4_add [.ref (L.2.1 1), .int n, .int q] σ (fun r σ2 => r = 0 ∧ KM σ σ2) := by
  refine ctI_go (own := RX4) (by decide) rfl (Nat.le_of_ble_eq_true rfl) (fun F hF => ?_)
  subst hF
  refine go_aload_n (i := 0) (pc' := 1) dX4_add_0 rfl rfl rfl ?_
  refine gf_1_size (pc' := 4) dX4_add_1 rfl fl_X4_27 ?_
  refine go_bipush (v := 10) (pc' := 6) dX4_add_4 rfl (by decide) ?_
  refine go_icmp_lt (tgt := 12) (pc' := 9) dX4_add_6 rfl (by decide) (fun c_6 => ?_) (fun c_6 => absurd (by rw [h2]; decide) c_6)
  refine go_aload_n (i := 0) (pc' := 13) dX4_add_12 rfl rfl rfl ?_
  refine gf_1_names (pc' := 16) dX4_add_13 rfl fl_X4_11 ?_
  refine go_aload_n (i := 0) (pc' := 17) dX4_add_16 rfl rfl rfl ?_
  refine gf_1_size (pc' := 20) dX4_add_17 rfl fl_X4_27 ?_
  refine go_iload_n (i := 1) (pc' := 21) dX4_add_20 rfl rfl rfl ?_
  refine go_iast (pc' := 22) dX4_add_21 rfl (by decide) (by decide) rfl (vin0 h2 (by decide)) ?_
  refine go_aload_n (i := 0) (pc' := 23) dX4_add_22 rfl rfl rfl ?_
  refine gf_1_places (pc' := 26) dX4_add_23 rfl fl_X4_15 ?_
  refine go_aload_n (i := 0) (pc' := 27) dX4_add_26 rfl rfl rfl ?_
  refine gf_1_size (pc' := 30) dX4_add_27 rfl fl_X4_27 ?_
  refine go_iload_n (i := 2) (pc' := 31) dX4_add_30 rfl rfl rfl ?_
  refine go_iast (pc' := 32) dX4_add_31 rfl (by decide) (by decide) rfl (vin0 h2 (by decide)) ?_
  refine go_aload_n (i := 0) (pc' := 33) dX4_add_32 rfl rfl rfl ?_
  refine gf_1_firsts (pc' := 36) dX4_add_33 rfl fl_X4_18 ?_
  refine go_aload_n (i := 0) (pc' := 37) dX4_add_36 rfl rfl rfl ?_
  refine gf_1_size (pc' := 40) dX4_add_37 rfl fl_X4_27 ?_
  refine go_iconst (v := 0) (pc' := 41) dX4_add_40 rfl (by decide) ?_
  refine go_iast (pc' := 42) dX4_add_41 rfl (by decide) (by decide) rfl (vin0 h2 (by decide)) ?_
  refine go_aload_n (i := 0) (pc' := 43) dX4_add_42 rfl rfl rfl ?_
  refine gf_1_lasts (pc' := 46) dX4_add_43 rfl fl_X4_21 ?_
  refine go_aload_n (i := 0) (pc' := 47) dX4_add_46 rfl rfl rfl ?_
  refine gf_1_size (pc' := 50) dX4_add_47 rfl fl_X4_27 ?_
  refine go_sipush (v := 9999) (pc' := 53) dX4_add_50 rfl (by decide) ?_
  refine go_iast (pc' := 54) dX4_add_53 rfl (by decide) (by decide) rfl (vin0 h2 (by decide)) ?_
  refine go_aload_n (i := 0) (pc' := 55) dX4_add_54 rfl rfl rfl ?_
  refine gf_1_known (pc' := 58) dX4_add_55 rfl fl_X4_24 ?_
  refine go_aload_n (i := 0) (pc' := 59) dX4_add_58 rfl rfl rfl ?_
  refine gf_1_size (pc' := 62) dX4_add_59 rfl fl_X4_27 ?_
  refine go_iconst (v := 0) (pc' := 63) dX4_add_62 rfl (by decide) ?_
  refine go_iast (pc' := 64) dX4_add_63 rfl (by decide) (by decide) rfl (vin0 h2 (by decide)) ?_
  refine go_aload_n (i := 0) (pc' := 65) dX4_add_64 rfl rfl rfl ?_
  refine go_dup (pc' := 66) dX4_add_65 rfl rfl ?_
  refine gf_1_size (pc' := 69) dX4_add_66 rfl fl_X4_27 ?_
  refine go_iconst (v := 1) (pc' := 70) dX4_add_69 rfl (by decide) ?_
  refine go_iadd (pc' := 71) dX4_add_70 rfl ?_
  refine pf_1_size (pc' := 74) dX4_add_71 rfl fl_X4_27 ?_
  refine go_aload_n (i := 0) (pc' := 75) dX4_add_74 rfl rfl rfl ?_
  refine gf_1_size (pc' := 78) dX4_add_75 rfl fl_X4_27 ?_
  refine go_iconst (v := 1) (pc' := 79) dX4_add_78 rfl (by decide) ?_
  refine go_isub (pc' := 80) dX4_add_79 rfl ?_
  exact go_iret dX4_add_80 rfl ⟨(by show σ.1 2 + 1 - 1 = 0; rw [h2]; decide), (by repeat (first | exact KM_rfl _ | refine KM_setI ?_ (by decide) | refine KM_setA ?_ (by decide)))⟩
set_option maxHeartbeats 4000000 in
set_option maxRecDepth 100000 in
theorem f_X11_person (l : Launch) (L : WL) (σ : ST) (n q : Int32) (h2 : σ.1 2 = 0) : CtI l L yX11_person cX11_person 3 (some .int) rm_X11_person [.ref (L.2.1 0), .int n, .int q] σ (fun r σ2 => r = (if (1 ≤ n.toInt ∧ n.toInt ≤ 99) ∧ (0 ≤ q.toInt ∧ q.toInt < 6) then 0 else -2) ∧ KM σ σ2) := by
  refine ctI_go (own := RX11) (by decide) rfl (Nat.le_of_ble_eq_true rfl) (fun F hF => ?_)
  subst hF
  refine go_iload_n (i := 1) (pc' := 1) dX11_person_0 rfl rfl rfl ?_
  refine go_csi (pc' := 4) ls_X11_96 (c_X11_isName _ _ _ _) rfl rfl (Nat.le_of_ble_eq_true rfl) ⟨Nat.le_of_ble_eq_true rfl, Nat.le_of_ble_eq_true rfl⟩ ⟨rfl, rfl⟩ dX11_person_1 rfl (fun r_1 σ_1 h_1 => ?_)
  obtain ⟨e_1, h_1⟩ := h_1
  have e_1 := e_1.symm
  subst e_1
  refine go_eqB (tgt := 14) (pc' := 7) h_1 dX11_person_4 rfl (by decide) (fun c_4 => ?_) (fun c_4 => ?_)
  · refine go_bipush (v := (-2)) (pc' := 16) dX11_person_14 rfl (by decide) ?_
    exact go_iret dX11_person_16 rfl ⟨(by split <;> first | rfl | (exfalso; (try simp only [Int32.lt_iff_toInt_lt, Int32.le_iff_toInt_le, ← Int32.toInt_inj, ge_iff_le, gt_iff_lt, ne_eq, Int32.reduceToInt] at *); omega)), (by repeat (first | exact KM_rfl _ | refine KM_setI ?_ (by decide) | refine KM_setA ?_ (by decide)))⟩
  refine go_iload_n (i := 2) (pc' := 8) dX11_person_7 rfl rfl rfl ?_
  refine go_csi (pc' := 11) ls_X11_100 (c_X11_isPlace _ _ _ _) rfl rfl (Nat.le_of_ble_eq_true rfl) ⟨Nat.le_of_ble_eq_true rfl, Nat.le_of_ble_eq_true rfl⟩ ⟨rfl, rfl⟩ dX11_person_8 rfl (fun r_8 σ_8 h_8 => ?_)
  obtain ⟨e_8, h_8⟩ := h_8
  have e_8 := e_8.symm
  subst e_8
  refine go_neB (tgt := 17) (pc' := 14) h_8 dX11_person_11 rfl (by decide) (fun c_11 => ?_) (fun c_11 => ?_)
  · refine go_aload_n (i := 0) (pc' := 18) dX11_person_17 rfl rfl rfl ?_
    refine gf_0_people (pc' := 21) dX11_person_18 rfl fl_X11_10 ?_
    refine go_iload_n (i := 1) (pc' := 22) dX11_person_21 rfl rfl rfl ?_
    refine go_iload_n (i := 2) (pc' := 23) dX11_person_22 rfl rfl rfl ?_
    refine go_cvi (pc' := 26) lk_X11_103 (f_X4_add _ _ _ _ _ h2) rfl rfl (Nat.le_of_ble_eq_true rfl) (by decide) rfl rfl rfl ⟨Nat.le_of_ble_eq_true rfl, Nat.le_of_ble_eq_true rfl⟩ ⟨rfl, rfl⟩ dX11_person_23 rfl (fun r_23 σ_23 h_23 => ?_)
    exact go_iret dX11_person_26 rfl ⟨(by rw [h_23.1]; split <;> first | rfl | (exfalso; (try simp only [Int32.lt_iff_toInt_lt, Int32.le_iff_toInt_le, ← Int32.toInt_inj, ge_iff_le, gt_iff_lt, ne_eq, Int32.reduceToInt] at *); omega)), h_23.2⟩
  refine go_bipush (v := (-2)) (pc' := 16) dX11_person_14 rfl (by decide) ?_
  exact go_iret dX11_person_16 rfl ⟨(by split <;> first | rfl | (exfalso; (try simp only [Int32.lt_iff_toInt_lt, Int32.le_iff_toInt_le, ← Int32.toInt_inj, ge_iff_le, gt_iff_lt, ne_eq, Int32.reduceToInt] at *); omega)), (by repeat (first | exact KM_rfl _ | refine KM_setI ?_ (by decide) | refine KM_setA ?_ (by decide)))⟩
set_option maxHeartbeats 4000000 in
set_option maxRecDepth 100000 in
theorem f_X11_lived (l : Launch) (L : WL) (σ : ST) (p a b : Int32) (h2 : σ.1 2 = 0) : CtI l L yX11_lived cX11_lived 4 (some .int) rm_X11_lived [.ref (L.2.1 0), .int p, .int a, .int b] σ (fun r σ2 => r = -2 ∧ KM σ σ2) := by
  refine ctI_go (own := RX11) (by decide) rfl (Nat.le_of_ble_eq_true rfl) (fun F hF => ?_)
  subst hF
  refine go_aload_n (i := 0) (pc' := 1) dX11_lived_0 rfl rfl rfl ?_
  refine gf_0_people (pc' := 4) dX11_lived_1 rfl fl_X11_10 ?_
  refine go_iload_n (i := 1) (pc' := 5) dX11_lived_4 rfl rfl rfl ?_
  refine go_cvi (pc' := 8) lk_X11_107 (c_X4_has _ _ _ _) rfl rfl (Nat.le_of_ble_eq_true rfl) (by decide) rfl rfl rfl ⟨Nat.le_of_ble_eq_true rfl, Nat.le_of_ble_eq_true rfl⟩ ⟨rfl, rfl⟩ dX11_lived_5 rfl (fun r_5 σ_5 h_5 => ?_)
  obtain ⟨e_5, h_5⟩ := h_5
  have e_5 := e_5.symm
  subst e_5
  refine go_eqB (tgt := 25) (pc' := 11) h_5 dX11_lived_8 rfl (by decide) (fun c_8 => ?_) (fun c_8 => absurd c_8 (nohas h2))
  refine go_bipush (v := (-2)) (pc' := 27) dX11_lived_25 rfl (by decide) ?_
  exact go_iret dX11_lived_27 rfl ⟨rfl, (by repeat (first | exact KM_rfl _ | refine KM_setI ?_ (by decide) | refine KM_setA ?_ (by decide)))⟩
set_option maxHeartbeats 4000000 in
set_option maxRecDepth 100000 in
theorem f_X11_knows (l : Launch) (L : WL) (σ : ST) (a b c : Int32) (h2 : σ.1 2 = 0) : CtI l L yX11_knows cX11_knows 4 (some .int) rm_X11_knows [.ref (L.2.1 0), .int a, .int b, .int c] σ (fun r σ2 => r = -2 ∧ KM σ σ2) := by
  refine ctI_go (own := RX11) (by decide) rfl (Nat.le_of_ble_eq_true rfl) (fun F hF => ?_)
  subst hF
  refine go_aload_n (i := 0) (pc' := 1) dX11_knows_0 rfl rfl rfl ?_
  refine gf_0_people (pc' := 4) dX11_knows_1 rfl fl_X11_10 ?_
  refine go_iload_n (i := 1) (pc' := 5) dX11_knows_4 rfl rfl rfl ?_
  refine go_cvi (pc' := 8) lk_X11_107 (c_X4_has _ _ _ _) rfl rfl (Nat.le_of_ble_eq_true rfl) (by decide) rfl rfl rfl ⟨Nat.le_of_ble_eq_true rfl, Nat.le_of_ble_eq_true rfl⟩ ⟨rfl, rfl⟩ dX11_knows_5 rfl (fun r_5 σ_5 h_5 => ?_)
  obtain ⟨e_5, h_5⟩ := h_5
  have e_5 := e_5.symm
  subst e_5
  refine go_eqB (tgt := 22) (pc' := 11) h_5 dX11_knows_8 rfl (by decide) (fun c_8 => ?_) (fun c_8 => absurd c_8 (nohas h2))
  refine go_bipush (v := (-2)) (pc' := 24) dX11_knows_22 rfl (by decide) ?_
  exact go_iret dX11_knows_24 rfl ⟨rfl, (by repeat (first | exact KM_rfl _ | refine KM_setI ?_ (by decide) | refine KM_setA ?_ (by decide)))⟩
set_option maxHeartbeats 4000000 in
set_option maxRecDepth 100000 in
theorem f_X11_letter (l : Launch) (L : WL) (σ : ST) (k a b q : Int32) (h2 : σ.1 2 = 0) : CtI l L yX11_letter cX11_letter 5 (some .int) rm_X11_letter [.ref (L.2.1 0), .int k, .int a, .int b, .int q] σ (fun r σ2 => r = -2 ∧ KM σ σ2) := by
  refine ctI_go (own := RX11) (by decide) rfl (Nat.le_of_ble_eq_true rfl) (fun F hF => ?_)
  subst hF
  refine go_iload_n (i := 1) (pc' := 1) dX11_letter_0 rfl rfl rfl ?_
  refine go_csi (pc' := 4) ls_X11_124 (c_X2_isKind _ _ _ _) rfl rfl (Nat.le_of_ble_eq_true rfl) ⟨Nat.le_of_ble_eq_true rfl, Nat.le_of_ble_eq_true rfl⟩ ⟨rfl, rfl⟩ dX11_letter_1 rfl (fun r_1 σ_1 h_1 => ?_)
  obtain ⟨e_1, h_1⟩ := h_1
  have e_1 := e_1.symm
  subst e_1
  refine go_eqB (tgt := 37) (pc' := 7) h_1 dX11_letter_4 rfl (by decide) (fun c_4 => ?_) (fun c_4 => ?_)
  · refine go_bipush (v := (-2)) (pc' := 39) dX11_letter_37 rfl (by decide) ?_
    exact go_iret dX11_letter_39 rfl ⟨rfl, (by repeat (first | exact KM_rfl _ | refine KM_setI ?_ (by decide) | refine KM_setA ?_ (by decide)))⟩
  refine go_aload_n (i := 0) (pc' := 8) dX11_letter_7 rfl rfl rfl ?_
  refine gf_0_people (pc' := 11) dX11_letter_8 rfl fl_X11_10 ?_
  refine go_iload_n (i := 2) (pc' := 12) dX11_letter_11 rfl rfl rfl ?_
  refine go_cvi (pc' := 15) lk_X11_107 (c_X4_has _ _ _ _) rfl rfl (Nat.le_of_ble_eq_true rfl) (by decide) rfl rfl rfl ⟨Nat.le_of_ble_eq_true rfl, Nat.le_of_ble_eq_true rfl⟩ ⟨rfl, rfl⟩ dX11_letter_12 rfl (fun r_12 σ_12 h_12 => ?_)
  obtain ⟨e_12, h_12⟩ := h_12
  have e_12 := e_12.symm
  subst e_12
  refine go_eqB (tgt := 37) (pc' := 18) h_12 dX11_letter_15 rfl (by decide) (fun c_15 => ?_) (fun c_15 => absurd c_15 (nohas h2))
  refine go_bipush (v := (-2)) (pc' := 39) dX11_letter_37 rfl (by decide) ?_
  exact go_iret dX11_letter_39 rfl ⟨rfl, (by repeat (first | exact KM_rfl _ | refine KM_setI ?_ (by decide) | refine KM_setA ?_ (by decide)))⟩
set_option maxHeartbeats 4000000 in
set_option maxRecDepth 100000 in
theorem f_X11_told (l : Launch) (L : WL) (σ : ST) (a b : Int32) (h3 : σ.1 3 = 0) : CtI l L yX11_told cX11_told 3 (some .int) rm_X11_told [.ref (L.2.1 0), .int a, .int b] σ (fun r σ2 => r = -2 ∧ KM σ σ2) := by
  refine ctI_go (own := RX11) (by decide) rfl (Nat.le_of_ble_eq_true rfl) (fun F hF => ?_)
  subst hF
  refine go_aload_n (i := 0) (pc' := 1) dX11_told_0 rfl rfl rfl ?_
  refine gf_0_letters (pc' := 4) dX11_told_1 rfl fl_X11_19 ?_
  refine go_iload_n (i := 1) (pc' := 5) dX11_told_4 rfl rfl rfl ?_
  refine go_cvi (pc' := 8) lk_X11_130 (c_X2_has _ _ _ _) rfl rfl (Nat.le_of_ble_eq_true rfl) (by decide) rfl rfl rfl ⟨Nat.le_of_ble_eq_true rfl, Nat.le_of_ble_eq_true rfl⟩ ⟨rfl, rfl⟩ dX11_told_5 rfl (fun r_5 σ_5 h_5 => ?_)
  obtain ⟨e_5, h_5⟩ := h_5
  have e_5 := e_5.symm
  subst e_5
  refine go_neB (tgt := 14) (pc' := 11) h_5 dX11_told_8 rfl (by decide) (fun c_8 => absurd c_8 (nohas h3)) (fun c_8 => ?_)
  refine go_bipush (v := (-2)) (pc' := 13) dX11_told_11 rfl (by decide) ?_
  exact go_iret dX11_told_13 rfl ⟨rfl, (by repeat (first | exact KM_rfl _ | refine KM_setI ?_ (by decide) | refine KM_setA ?_ (by decide)))⟩
set_option maxHeartbeats 4000000 in
set_option maxRecDepth 100000 in
theorem f_X11_days (l : Launch) (L : WL) (σ : ST) (a b c : Int32) (h3 : σ.1 3 = 0) : CtI l L yX11_days cX11_days 4 (some .int) rm_X11_days [.ref (L.2.1 0), .int a, .int b, .int c] σ (fun r σ2 => r = -2 ∧ KM σ σ2) := by
  refine ctI_go (own := RX11) (by decide) rfl (Nat.le_of_ble_eq_true rfl) (fun F hF => ?_)
  subst hF
  refine go_aload_n (i := 0) (pc' := 1) dX11_days_0 rfl rfl rfl ?_
  refine gf_0_letters (pc' := 4) dX11_days_1 rfl fl_X11_19 ?_
  refine go_iload_n (i := 1) (pc' := 5) dX11_days_4 rfl rfl rfl ?_
  refine go_cvi (pc' := 8) lk_X11_130 (c_X2_has _ _ _ _) rfl rfl (Nat.le_of_ble_eq_true rfl) (by decide) rfl rfl rfl ⟨Nat.le_of_ble_eq_true rfl, Nat.le_of_ble_eq_true rfl⟩ ⟨rfl, rfl⟩ dX11_days_5 rfl (fun r_5 σ_5 h_5 => ?_)
  obtain ⟨e_5, h_5⟩ := h_5
  have e_5 := e_5.symm
  subst e_5
  refine go_eqB (tgt := 30) (pc' := 11) h_5 dX11_days_8 rfl (by decide) (fun c_8 => ?_) (fun c_8 => absurd c_8 (nohas h3))
  refine go_bipush (v := (-2)) (pc' := 32) dX11_days_30 rfl (by decide) ?_
  exact go_iret dX11_days_32 rfl ⟨rfl, (by repeat (first | exact KM_rfl _ | refine KM_setI ?_ (by decide) | refine KM_setA ?_ (by decide)))⟩
set_option maxHeartbeats 4000000 in
set_option maxRecDepth 100000 in
theorem f_X11_week (l : Launch) (L : WL) (σ : ST) (a b : Int32) (h3 : σ.1 3 = 0) : CtI l L yX11_week cX11_week 3 (some .int) rm_X11_week [.ref (L.2.1 0), .int a, .int b] σ (fun r σ2 => r = -2 ∧ KM σ σ2) := by
  refine ctI_go (own := RX11) (by decide) rfl (Nat.le_of_ble_eq_true rfl) (fun F hF => ?_)
  subst hF
  refine go_aload_n (i := 0) (pc' := 1) dX11_week_0 rfl rfl rfl ?_
  refine gf_0_letters (pc' := 4) dX11_week_1 rfl fl_X11_19 ?_
  refine go_iload_n (i := 1) (pc' := 5) dX11_week_4 rfl rfl rfl ?_
  refine go_cvi (pc' := 8) lk_X11_130 (c_X2_has _ _ _ _) rfl rfl (Nat.le_of_ble_eq_true rfl) (by decide) rfl rfl rfl ⟨Nat.le_of_ble_eq_true rfl, Nat.le_of_ble_eq_true rfl⟩ ⟨rfl, rfl⟩ dX11_week_5 rfl (fun r_5 σ_5 h_5 => ?_)
  obtain ⟨e_5, h_5⟩ := h_5
  have e_5 := e_5.symm
  subst e_5
  refine go_eqB (tgt := 22) (pc' := 11) h_5 dX11_week_8 rfl (by decide) (fun c_8 => ?_) (fun c_8 => absurd c_8 (nohas h3))
  refine go_bipush (v := (-2)) (pc' := 24) dX11_week_22 rfl (by decide) ?_
  exact go_iret dX11_week_24 rfl ⟨rfl, (by repeat (first | exact KM_rfl _ | refine KM_setI ?_ (by decide) | refine KM_setA ?_ (by decide)))⟩
set_option maxHeartbeats 4000000 in
set_option maxRecDepth 100000 in
theorem f_X11_bound (l : Launch) (L : WL) (σ : ST) (a b c : Int32) (h3 : σ.1 3 = 0) : CtI l L yX11_bound cX11_bound 4 (some .int) rm_X11_bound [.ref (L.2.1 0), .int a, .int b, .int c] σ (fun r σ2 => r = -2 ∧ KM σ σ2) := by
  refine ctI_go (own := RX11) (by decide) rfl (Nat.le_of_ble_eq_true rfl) (fun F hF => ?_)
  subst hF
  refine go_aload_n (i := 0) (pc' := 1) dX11_bound_0 rfl rfl rfl ?_
  refine gf_0_letters (pc' := 4) dX11_bound_1 rfl fl_X11_19 ?_
  refine go_iload_n (i := 1) (pc' := 5) dX11_bound_4 rfl rfl rfl ?_
  refine go_cvi (pc' := 8) lk_X11_130 (c_X2_has _ _ _ _) rfl rfl (Nat.le_of_ble_eq_true rfl) (by decide) rfl rfl rfl ⟨Nat.le_of_ble_eq_true rfl, Nat.le_of_ble_eq_true rfl⟩ ⟨rfl, rfl⟩ dX11_bound_5 rfl (fun r_5 σ_5 h_5 => ?_)
  obtain ⟨e_5, h_5⟩ := h_5
  have e_5 := e_5.symm
  subst e_5
  refine go_eqB (tgt := 34) (pc' := 11) h_5 dX11_bound_8 rfl (by decide) (fun c_8 => ?_) (fun c_8 => absurd c_8 (nohas h3))
  refine go_bipush (v := (-2)) (pc' := 36) dX11_bound_34 rfl (by decide) ?_
  exact go_iret dX11_bound_36 rfl ⟨rfl, (by repeat (first | exact KM_rfl _ | refine KM_setI ?_ (by decide) | refine KM_setA ?_ (by decide)))⟩
set_option maxHeartbeats 4000000 in
set_option maxRecDepth 100000 in
theorem f_X11_found (l : Launch) (L : WL) (σ : ST) (a b : Int32) (h3 : σ.1 3 = 0) : CtI l L yX11_found cX11_found 3 (some .int) rm_X11_found [.ref (L.2.1 0), .int a, .int b] σ (fun r σ2 => r = -2 ∧ KM σ σ2) := by
  refine ctI_go (own := RX11) (by decide) rfl (Nat.le_of_ble_eq_true rfl) (fun F hF => ?_)
  subst hF
  refine go_aload_n (i := 0) (pc' := 1) dX11_found_0 rfl rfl rfl ?_
  refine gf_0_letters (pc' := 4) dX11_found_1 rfl fl_X11_19 ?_
  refine go_iload_n (i := 1) (pc' := 5) dX11_found_4 rfl rfl rfl ?_
  refine go_cvi (pc' := 8) lk_X11_130 (c_X2_has _ _ _ _) rfl rfl (Nat.le_of_ble_eq_true rfl) (by decide) rfl rfl rfl ⟨Nat.le_of_ble_eq_true rfl, Nat.le_of_ble_eq_true rfl⟩ ⟨rfl, rfl⟩ dX11_found_5 rfl (fun r_5 σ_5 h_5 => ?_)
  obtain ⟨e_5, h_5⟩ := h_5
  have e_5 := e_5.symm
  subst e_5
  refine go_eqB (tgt := 44) (pc' := 11) h_5 dX11_found_8 rfl (by decide) (fun c_8 => ?_) (fun c_8 => absurd c_8 (nohas h3))
  refine go_bipush (v := (-2)) (pc' := 46) dX11_found_44 rfl (by decide) ?_
  exact go_iret dX11_found_46 rfl ⟨rfl, (by repeat (first | exact KM_rfl _ | refine KM_setI ?_ (by decide) | refine KM_setA ?_ (by decide)))⟩
set_option maxHeartbeats 4000000 in
set_option maxRecDepth 100000 in
theorem f_X11_lose (l : Launch) (L : WL) (σ : ST) (a : Int32) (h3 : σ.1 3 = 0) : CtI l L yX11_lose cX11_lose 2 (some .int) rm_X11_lose [.ref (L.2.1 0), .int a] σ (fun r σ2 => r = -2 ∧ KM σ σ2) := by
  refine ctI_go (own := RX11) (by decide) rfl (Nat.le_of_ble_eq_true rfl) (fun F hF => ?_)
  subst hF
  refine go_aload_n (i := 0) (pc' := 1) dX11_lose_0 rfl rfl rfl ?_
  refine gf_0_letters (pc' := 4) dX11_lose_1 rfl fl_X11_19 ?_
  refine go_iload_n (i := 1) (pc' := 5) dX11_lose_4 rfl rfl rfl ?_
  refine go_cvi (pc' := 8) lk_X11_130 (c_X2_has _ _ _ _) rfl rfl (Nat.le_of_ble_eq_true rfl) (by decide) rfl rfl rfl ⟨Nat.le_of_ble_eq_true rfl, Nat.le_of_ble_eq_true rfl⟩ ⟨rfl, rfl⟩ dX11_lose_5 rfl (fun r_5 σ_5 h_5 => ?_)
  obtain ⟨e_5, h_5⟩ := h_5
  have e_5 := e_5.symm
  subst e_5
  refine go_neB (tgt := 14) (pc' := 11) h_5 dX11_lose_8 rfl (by decide) (fun c_8 => absurd c_8 (nohas h3)) (fun c_8 => ?_)
  refine go_bipush (v := (-2)) (pc' := 13) dX11_lose_11 rfl (by decide) ?_
  exact go_iret dX11_lose_13 rfl ⟨rfl, (by repeat (first | exact KM_rfl _ | refine KM_setI ?_ (by decide) | refine KM_setA ?_ (by decide)))⟩
set_option maxHeartbeats 4000000 in
set_option maxRecDepth 100000 in
theorem f_X11_span (l : Launch) (L : WL) (σ : ST) (a b : Int32) (h3 : σ.1 3 = 0) : CtI l L yX11_span cX11_span 3 (some .int) rm_X11_span [.ref (L.2.1 0), .int a, .int b] σ (fun r σ2 => r = -2 ∧ KM σ σ2) := by
  refine ctI_go (own := RX11) (by decide) rfl (Nat.le_of_ble_eq_true rfl) (fun F hF => ?_)
  subst hF
  refine go_aload_n (i := 0) (pc' := 1) dX11_span_0 rfl rfl rfl ?_
  refine gf_0_letters (pc' := 4) dX11_span_1 rfl fl_X11_19 ?_
  refine go_iload_n (i := 1) (pc' := 5) dX11_span_4 rfl rfl rfl ?_
  refine go_cvi (pc' := 8) lk_X11_130 (c_X2_has _ _ _ _) rfl rfl (Nat.le_of_ble_eq_true rfl) (by decide) rfl rfl rfl ⟨Nat.le_of_ble_eq_true rfl, Nat.le_of_ble_eq_true rfl⟩ ⟨rfl, rfl⟩ dX11_span_5 rfl (fun r_5 σ_5 h_5 => ?_)
  obtain ⟨e_5, h_5⟩ := h_5
  have e_5 := e_5.symm
  subst e_5
  refine go_eqB (tgt := 20) (pc' := 11) h_5 dX11_span_8 rfl (by decide) (fun c_8 => ?_) (fun c_8 => absurd c_8 (nohas h3))
  refine go_bipush (v := (-2)) (pc' := 22) dX11_span_20 rfl (by decide) ?_
  exact go_iret dX11_span_22 rfl ⟨rfl, (by repeat (first | exact KM_rfl _ | refine KM_setI ?_ (by decide) | refine KM_setA ?_ (by decide)))⟩
set_option maxHeartbeats 4000000 in
set_option maxRecDepth 100000 in
theorem f_X11_before (l : Launch) (L : WL) (σ : ST) (a b : Int32) (h3 : σ.1 3 = 0) : CtI l L yX11_before cX11_before 3 (some .int) rm_X11_before [.ref (L.2.1 0), .int a, .int b] σ (fun r σ2 => r = -2 ∧ KM σ σ2) := by
  refine ctI_go (own := RX11) (by decide) rfl (Nat.le_of_ble_eq_true rfl) (fun F hF => ?_)
  subst hF
  refine go_aload_n (i := 0) (pc' := 1) dX11_before_0 rfl rfl rfl ?_
  refine gf_0_letters (pc' := 4) dX11_before_1 rfl fl_X11_19 ?_
  refine go_iload_n (i := 1) (pc' := 5) dX11_before_4 rfl rfl rfl ?_
  refine go_cvi (pc' := 8) lk_X11_130 (c_X2_has _ _ _ _) rfl rfl (Nat.le_of_ble_eq_true rfl) (by decide) rfl rfl rfl ⟨Nat.le_of_ble_eq_true rfl, Nat.le_of_ble_eq_true rfl⟩ ⟨rfl, rfl⟩ dX11_before_5 rfl (fun r_5 σ_5 h_5 => ?_)
  obtain ⟨e_5, h_5⟩ := h_5
  have e_5 := e_5.symm
  subst e_5
  refine go_eqB (tgt := 27) (pc' := 11) h_5 dX11_before_8 rfl (by decide) (fun c_8 => ?_) (fun c_8 => absurd c_8 (nohas h3))
  refine go_bipush (v := (-2)) (pc' := 29) dX11_before_27 rfl (by decide) ?_
  exact go_iret dX11_before_29 rfl ⟨rfl, (by repeat (first | exact KM_rfl _ | refine KM_setI ?_ (by decide) | refine KM_setA ?_ (by decide)))⟩
set_option maxHeartbeats 4000000 in
set_option maxRecDepth 100000 in
theorem f_X11_means (l : Launch) (L : WL) (σ : ST) (a b : Int32) (h3 : σ.1 3 = 0) : CtI l L yX11_means cX11_means 3 (some .int) rm_X11_means [.ref (L.2.1 0), .int a, .int b] σ (fun r σ2 => r = -2 ∧ KM σ σ2) := by
  refine ctI_go (own := RX11) (by decide) rfl (Nat.le_of_ble_eq_true rfl) (fun F hF => ?_)
  subst hF
  refine go_aload_n (i := 0) (pc' := 1) dX11_means_0 rfl rfl rfl ?_
  refine gf_0_letters (pc' := 4) dX11_means_1 rfl fl_X11_19 ?_
  refine go_iload_n (i := 1) (pc' := 5) dX11_means_4 rfl rfl rfl ?_
  refine go_cvi (pc' := 8) lk_X11_130 (c_X2_has _ _ _ _) rfl rfl (Nat.le_of_ble_eq_true rfl) (by decide) rfl rfl rfl ⟨Nat.le_of_ble_eq_true rfl, Nat.le_of_ble_eq_true rfl⟩ ⟨rfl, rfl⟩ dX11_means_5 rfl (fun r_5 σ_5 h_5 => ?_)
  obtain ⟨e_5, h_5⟩ := h_5
  have e_5 := e_5.symm
  subst e_5
  refine go_eqB (tgt := 18) (pc' := 11) h_5 dX11_means_8 rfl (by decide) (fun c_8 => ?_) (fun c_8 => absurd c_8 (nohas h3))
  refine go_bipush (v := (-2)) (pc' := 20) dX11_means_18 rfl (by decide) ?_
  exact go_iret dX11_means_20 rfl ⟨rfl, (by repeat (first | exact KM_rfl _ | refine KM_setI ?_ (by decide) | refine KM_setA ?_ (by decide)))⟩
set_option maxHeartbeats 4000000 in
set_option maxRecDepth 100000 in
theorem f_X11_who (l : Launch) (L : WL) (σ : ST) (a b : Int32) (h3 : σ.1 3 = 0) : CtI l L yX11_who cX11_who 4 (some .int) rm_X11_who [.ref (L.2.1 0), .int a, .int b] σ (fun r σ2 => r = -2 ∧ KM σ σ2) := by
  refine ctI_go (own := RX11) (by decide) rfl (Nat.le_of_ble_eq_true rfl) (fun F hF => ?_)
  subst hF
  refine go_aload_n (i := 0) (pc' := 1) dX11_who_0 rfl rfl rfl ?_
  refine gf_0_letters (pc' := 4) dX11_who_1 rfl fl_X11_19 ?_
  refine go_iload_n (i := 1) (pc' := 5) dX11_who_4 rfl rfl rfl ?_
  refine go_cvi (pc' := 8) lk_X11_130 (c_X2_has _ _ _ _) rfl rfl (Nat.le_of_ble_eq_true rfl) (by decide) rfl rfl rfl ⟨Nat.le_of_ble_eq_true rfl, Nat.le_of_ble_eq_true rfl⟩ ⟨rfl, rfl⟩ dX11_who_5 rfl (fun r_5 σ_5 h_5 => ?_)
  obtain ⟨e_5, h_5⟩ := h_5
  have e_5 := e_5.symm
  subst e_5
  refine go_eqB (tgt := 18) (pc' := 11) h_5 dX11_who_8 rfl (by decide) (fun c_8 => ?_) (fun c_8 => absurd c_8 (nohas h3))
  refine go_bipush (v := (-2)) (pc' := 20) dX11_who_18 rfl (by decide) ?_
  exact go_iret dX11_who_20 rfl ⟨rfl, (by repeat (first | exact KM_rfl _ | refine KM_setI ?_ (by decide) | refine KM_setA ?_ (by decide)))⟩
set_option maxHeartbeats 4000000 in
set_option maxRecDepth 100000 in
theorem f_X11_hand (l : Launch) (L : WL) (σ : ST) (a b c : Int32) (h3 : σ.1 3 = 0) : CtI l L yX11_hand cX11_hand 4 (some .int) rm_X11_hand [.ref (L.2.1 0), .int a, .int b, .int c] σ (fun r σ2 => r = -2 ∧ KM σ σ2) := by
  refine ctI_go (own := RX11) (by decide) rfl (Nat.le_of_ble_eq_true rfl) (fun F hF => ?_)
  subst hF
  refine go_aload_n (i := 0) (pc' := 1) dX11_hand_0 rfl rfl rfl ?_
  refine gf_0_letters (pc' := 4) dX11_hand_1 rfl fl_X11_19 ?_
  refine go_iload_n (i := 1) (pc' := 5) dX11_hand_4 rfl rfl rfl ?_
  refine go_cvi (pc' := 8) lk_X11_130 (c_X2_has _ _ _ _) rfl rfl (Nat.le_of_ble_eq_true rfl) (by decide) rfl rfl rfl ⟨Nat.le_of_ble_eq_true rfl, Nat.le_of_ble_eq_true rfl⟩ ⟨rfl, rfl⟩ dX11_hand_5 rfl (fun r_5 σ_5 h_5 => ?_)
  obtain ⟨e_5, h_5⟩ := h_5
  have e_5 := e_5.symm
  subst e_5
  refine go_eqB (tgt := 29) (pc' := 11) h_5 dX11_hand_8 rfl (by decide) (fun c_8 => ?_) (fun c_8 => absurd c_8 (nohas h3))
  refine go_bipush (v := (-2)) (pc' := 31) dX11_hand_29 rfl (by decide) ?_
  exact go_iret dX11_hand_31 rfl ⟨rfl, (by repeat (first | exact KM_rfl _ | refine KM_setI ?_ (by decide) | refine KM_setA ?_ (by decide)))⟩
set_option maxHeartbeats 4000000 in
set_option maxRecDepth 100000 in
theorem f_X11_text (l : Launch) (L : WL) (σ : ST) (a : Int32) (h3 : σ.1 3 = 0) : CtI l L yX11_text cX11_text 3 (some .int) rm_X11_text [.ref (L.2.1 0), .int a] σ (fun r σ2 => r = -2 ∧ KM σ σ2) := by
  refine ctI_go (own := RX11) (by decide) rfl (Nat.le_of_ble_eq_true rfl) (fun F hF => ?_)
  subst hF
  refine go_aload_n (i := 0) (pc' := 1) dX11_text_0 rfl rfl rfl ?_
  refine gf_0_letters (pc' := 4) dX11_text_1 rfl fl_X11_19 ?_
  refine go_iload_n (i := 1) (pc' := 5) dX11_text_4 rfl rfl rfl ?_
  refine go_cvi (pc' := 8) lk_X11_130 (c_X2_has _ _ _ _) rfl rfl (Nat.le_of_ble_eq_true rfl) (by decide) rfl rfl rfl ⟨Nat.le_of_ble_eq_true rfl, Nat.le_of_ble_eq_true rfl⟩ ⟨rfl, rfl⟩ dX11_text_5 rfl (fun r_5 σ_5 h_5 => ?_)
  obtain ⟨e_5, h_5⟩ := h_5
  have e_5 := e_5.symm
  subst e_5
  refine go_neB (tgt := 14) (pc' := 11) h_5 dX11_text_8 rfl (by decide) (fun c_8 => absurd c_8 (nohas h3)) (fun c_8 => ?_)
  refine go_bipush (v := (-2)) (pc' := 13) dX11_text_11 rfl (by decide) ?_
  exact go_iret dX11_text_13 rfl ⟨rfl, (by repeat (first | exact KM_rfl _ | refine KM_setI ?_ (by decide) | refine KM_setA ?_ (by decide)))⟩
set_option maxHeartbeats 4000000 in
set_option maxRecDepth 100000 in
theorem f_X11_words (l : Launch) (L : WL) (σ : ST) (a : Int32) (h3 : σ.1 3 = 0) : CtI l L yX11_words cX11_words 2 (some .int) rm_X11_words [.ref (L.2.1 0), .int a] σ (fun r σ2 => r = -2 ∧ KM σ σ2) := by
  refine ctI_go (own := RX11) (by decide) rfl (Nat.le_of_ble_eq_true rfl) (fun F hF => ?_)
  subst hF
  refine go_aload_n (i := 0) (pc' := 1) dX11_words_0 rfl rfl rfl ?_
  refine gf_0_letters (pc' := 4) dX11_words_1 rfl fl_X11_19 ?_
  refine go_iload_n (i := 1) (pc' := 5) dX11_words_4 rfl rfl rfl ?_
  refine go_cvi (pc' := 8) lk_X11_130 (c_X2_has _ _ _ _) rfl rfl (Nat.le_of_ble_eq_true rfl) (by decide) rfl rfl rfl ⟨Nat.le_of_ble_eq_true rfl, Nat.le_of_ble_eq_true rfl⟩ ⟨rfl, rfl⟩ dX11_words_5 rfl (fun r_5 σ_5 h_5 => ?_)
  obtain ⟨e_5, h_5⟩ := h_5
  have e_5 := e_5.symm
  subst e_5
  refine go_neB (tgt := 14) (pc' := 11) h_5 dX11_words_8 rfl (by decide) (fun c_8 => absurd c_8 (nohas h3)) (fun c_8 => ?_)
  refine go_bipush (v := (-2)) (pc' := 13) dX11_words_11 rfl (by decide) ?_
  exact go_iret dX11_words_13 rfl ⟨rfl, (by repeat (first | exact KM_rfl _ | refine KM_setI ?_ (by decide) | refine KM_setA ?_ (by decide)))⟩
set_option maxHeartbeats 4000000 in
set_option maxRecDepth 100000 in
theorem f_X11_differ (l : Launch) (L : WL) (σ : ST) (a b : Int32) (h3 : σ.1 3 = 0) : CtI l L yX11_differ cX11_differ 3 (some .int) rm_X11_differ [.ref (L.2.1 0), .int a, .int b] σ (fun r σ2 => r = -2 ∧ KM σ σ2) := by
  refine ctI_go (own := RX11) (by decide) rfl (Nat.le_of_ble_eq_true rfl) (fun F hF => ?_)
  subst hF
  refine go_aload_n (i := 0) (pc' := 1) dX11_differ_0 rfl rfl rfl ?_
  refine gf_0_letters (pc' := 4) dX11_differ_1 rfl fl_X11_19 ?_
  refine go_iload_n (i := 1) (pc' := 5) dX11_differ_4 rfl rfl rfl ?_
  refine go_cvi (pc' := 8) lk_X11_130 (c_X2_has _ _ _ _) rfl rfl (Nat.le_of_ble_eq_true rfl) (by decide) rfl rfl rfl ⟨Nat.le_of_ble_eq_true rfl, Nat.le_of_ble_eq_true rfl⟩ ⟨rfl, rfl⟩ dX11_differ_5 rfl (fun r_5 σ_5 h_5 => ?_)
  obtain ⟨e_5, h_5⟩ := h_5
  have e_5 := e_5.symm
  subst e_5
  refine go_eqB (tgt := 22) (pc' := 11) h_5 dX11_differ_8 rfl (by decide) (fun c_8 => ?_) (fun c_8 => absurd c_8 (nohas h3))
  refine go_bipush (v := (-2)) (pc' := 24) dX11_differ_22 rfl (by decide) ?_
  exact go_iret dX11_differ_24 rfl ⟨rfl, (by repeat (first | exact KM_rfl _ | refine KM_setI ?_ (by decide) | refine KM_setA ?_ (by decide)))⟩
set_option maxHeartbeats 4000000 in
set_option maxRecDepth 100000 in
theorem f_X11_note (l : Launch) (L : WL) (σ : ST) (a b : Int32) (h3 : σ.1 3 = 0) : CtI l L yX11_note cX11_note 6 (some .int) rm_X11_note [.ref (L.2.1 0), .int a, .int b] σ (fun r σ2 => r = -2 ∧ KM σ σ2) := by
  refine ctI_go (own := RX11) (by decide) rfl (Nat.le_of_ble_eq_true rfl) (fun F hF => ?_)
  subst hF
  refine go_aload_n (i := 0) (pc' := 1) dX11_note_0 rfl rfl rfl ?_
  refine gf_0_letters (pc' := 4) dX11_note_1 rfl fl_X11_19 ?_
  refine go_iload_n (i := 1) (pc' := 5) dX11_note_4 rfl rfl rfl ?_
  refine go_cvi (pc' := 8) lk_X11_130 (c_X2_has _ _ _ _) rfl rfl (Nat.le_of_ble_eq_true rfl) (by decide) rfl rfl rfl ⟨Nat.le_of_ble_eq_true rfl, Nat.le_of_ble_eq_true rfl⟩ ⟨rfl, rfl⟩ dX11_note_5 rfl (fun r_5 σ_5 h_5 => ?_)
  obtain ⟨e_5, h_5⟩ := h_5
  have e_5 := e_5.symm
  subst e_5
  refine go_neB (tgt := 14) (pc' := 11) h_5 dX11_note_8 rfl (by decide) (fun c_8 => absurd c_8 (nohas h3)) (fun c_8 => ?_)
  refine go_bipush (v := (-2)) (pc' := 13) dX11_note_11 rfl (by decide) ?_
  exact go_iret dX11_note_13 rfl ⟨rfl, (by repeat (first | exact KM_rfl _ | refine KM_setI ?_ (by decide) | refine KM_setA ?_ (by decide)))⟩
set_option maxHeartbeats 4000000 in
set_option maxRecDepth 100000 in
theorem f_X11_read (l : Launch) (L : WL) (σ : ST) (a b c d : Int32) (h3 : σ.1 3 = 0) : CtI l L yX11_read cX11_read 5 (some .int) rm_X11_read [.ref (L.2.1 0), .int a, .int b, .int c, .int d] σ (fun r σ2 => r = -2 ∧ KM σ σ2) := by
  refine ctI_go (own := RX11) (by decide) rfl (Nat.le_of_ble_eq_true rfl) (fun F hF => ?_)
  subst hF
  refine go_aload_n (i := 0) (pc' := 1) dX11_read_0 rfl rfl rfl ?_
  refine gf_0_letters (pc' := 4) dX11_read_1 rfl fl_X11_19 ?_
  refine go_iload_n (i := 1) (pc' := 5) dX11_read_4 rfl rfl rfl ?_
  refine go_cvi (pc' := 8) lk_X11_130 (c_X2_has _ _ _ _) rfl rfl (Nat.le_of_ble_eq_true rfl) (by decide) rfl rfl rfl ⟨Nat.le_of_ble_eq_true rfl, Nat.le_of_ble_eq_true rfl⟩ ⟨rfl, rfl⟩ dX11_read_5 rfl (fun r_5 σ_5 h_5 => ?_)
  obtain ⟨e_5, h_5⟩ := h_5
  have e_5 := e_5.symm
  subst e_5
  refine go_eqB (tgt := 22) (pc' := 11) h_5 dX11_read_8 rfl (by decide) (fun c_8 => ?_) (fun c_8 => absurd c_8 (nohas h3))
  refine go_bipush (v := (-2)) (pc' := 24) dX11_read_22 rfl (by decide) ?_
  exact go_iret dX11_read_24 rfl ⟨rfl, (by repeat (first | exact KM_rfl _ | refine KM_setI ?_ (by decide) | refine KM_setA ?_ (by decide)))⟩
set_option maxHeartbeats 4000000 in
set_option maxRecDepth 100000 in
theorem f_X11_reads (l : Launch) (L : WL) (σ : ST) (a b c : Int32) (h2 : σ.1 2 = 0) : CtI l L yX11_reads cX11_reads 6 (some .int) rm_X11_reads [.ref (L.2.1 0), .int a, .int b, .int c] σ (fun r σ2 => r = -2 ∧ KM σ σ2) := by
  refine ctI_go (own := RX11) (by decide) rfl (Nat.le_of_ble_eq_true rfl) (fun F hF => ?_)
  subst hF
  refine go_aload_n (i := 0) (pc' := 1) dX11_reads_0 rfl rfl rfl ?_
  refine go_iload_n (i := 1) (pc' := 2) dX11_reads_1 rfl rfl rfl ?_
  refine go_iload_n (i := 2) (pc' := 3) dX11_reads_2 rfl rfl rfl ?_
  refine go_iload_n (i := 3) (pc' := 4) dX11_reads_3 rfl rfl rfl ?_
  refine go_cvi (pc' := 7) lk_X11_205 (c_X11_isReading _ _ _ _ _ _) rfl rfl (Nat.le_of_ble_eq_true rfl) (by decide) rfl rfl rfl ⟨Nat.le_of_ble_eq_true rfl, Nat.le_of_ble_eq_true rfl⟩ ⟨rfl, rfl⟩ dX11_reads_4 rfl (fun r_4 σ_4 h_4 => ?_)
  obtain ⟨e_4, h_4⟩ := h_4
  have e_4 := e_4.symm
  subst e_4
  refine go_neB (tgt := 13) (pc' := 10) h_4 dX11_reads_7 rfl (by decide) (fun c_7 => absurd c_7 (fun h => nohas h2 h.1)) (fun c_7 => ?_)
  refine go_bipush (v := (-2)) (pc' := 12) dX11_reads_10 rfl (by decide) ?_
  exact go_iret dX11_reads_12 rfl ⟨rfl, (by repeat (first | exact KM_rfl _ | refine KM_setI ?_ (by decide) | refine KM_setA ?_ (by decide)))⟩
set_option maxHeartbeats 4000000 in
set_option maxRecDepth 100000 in
theorem f_X11_print (l : Launch) (L : WL) (σ : ST) (a b c : Int32) (h3 : σ.1 3 = 0) : CtI l L yX11_print cX11_print 4 (some .int) rm_X11_print [.ref (L.2.1 0), .int a, .int b, .int c] σ (fun r σ2 => r = -2 ∧ KM σ σ2) := by
  refine ctI_go (own := RX11) (by decide) rfl (Nat.le_of_ble_eq_true rfl) (fun F hF => ?_)
  subst hF
  refine go_aload_n (i := 0) (pc' := 1) dX11_print_0 rfl rfl rfl ?_
  refine go_iload_n (i := 1) (pc' := 2) dX11_print_1 rfl rfl rfl ?_
  refine go_iload_n (i := 2) (pc' := 3) dX11_print_2 rfl rfl rfl ?_
  refine go_iload_n (i := 3) (pc' := 4) dX11_print_3 rfl rfl rfl ?_
  refine go_cvi (pc' := 7) lk_X11_249 (c_X11_isPrinting _ _ _ _ _ _) rfl rfl (Nat.le_of_ble_eq_true rfl) (by decide) rfl rfl rfl ⟨Nat.le_of_ble_eq_true rfl, Nat.le_of_ble_eq_true rfl⟩ ⟨rfl, rfl⟩ dX11_print_4 rfl (fun r_4 σ_4 h_4 => ?_)
  obtain ⟨e_4, h_4⟩ := h_4
  have e_4 := e_4.symm
  subst e_4
  refine go_neB (tgt := 13) (pc' := 10) h_4 dX11_print_7 rfl (by decide) (fun c_7 => absurd c_7 (fun h => nohas h3 h.1)) (fun c_7 => ?_)
  refine go_bipush (v := (-2)) (pc' := 12) dX11_print_10 rfl (by decide) ?_
  exact go_iret dX11_print_12 rfl ⟨rfl, (by repeat (first | exact KM_rfl _ | refine KM_setI ?_ (by decide) | refine KM_setA ?_ (by decide)))⟩
set_option maxHeartbeats 4000000 in
set_option maxRecDepth 100000 in
theorem f_X11_printed (l : Launch) (L : WL) (σ : ST) (a b c d : Int32) (h3 : σ.1 3 = 0) : CtI l L yX11_printed cX11_printed 5 (some .int) rm_X11_printed [.ref (L.2.1 0), .int a, .int b, .int c, .int d] σ (fun r σ2 => r = -2 ∧ KM σ σ2) := by
  refine ctI_go (own := RX11) (by decide) rfl (Nat.le_of_ble_eq_true rfl) (fun F hF => ?_)
  subst hF
  refine go_aload_n (i := 0) (pc' := 1) dX11_printed_0 rfl rfl rfl ?_
  refine go_iload_n (i := 1) (pc' := 2) dX11_printed_1 rfl rfl rfl ?_
  refine go_iload_n (i := 2) (pc' := 3) dX11_printed_2 rfl rfl rfl ?_
  refine go_iload_n (i := 3) (pc' := 4) dX11_printed_3 rfl rfl rfl ?_
  refine go_cvi (pc' := 7) lk_X11_249 (c_X11_isPrinting _ _ _ _ _ _) rfl rfl (Nat.le_of_ble_eq_true rfl) (by decide) rfl rfl rfl ⟨Nat.le_of_ble_eq_true rfl, Nat.le_of_ble_eq_true rfl⟩ ⟨rfl, rfl⟩ dX11_printed_4 rfl (fun r_4 σ_4 h_4 => ?_)
  obtain ⟨e_4, h_4⟩ := h_4
  have e_4 := e_4.symm
  subst e_4
  refine go_neB (tgt := 13) (pc' := 10) h_4 dX11_printed_7 rfl (by decide) (fun c_7 => absurd c_7 (fun h => nohas h3 h.1)) (fun c_7 => ?_)
  refine go_bipush (v := (-2)) (pc' := 12) dX11_printed_10 rfl (by decide) ?_
  exact go_iret dX11_printed_12 rfl ⟨rfl, (by repeat (first | exact KM_rfl _ | refine KM_setI ?_ (by decide) | refine KM_setA ?_ (by decide)))⟩
set_option maxHeartbeats 4000000 in
set_option maxRecDepth 100000 in
theorem f_X0_removeLast (l : Launch) (L : WL) (σ : ST)  (h4 : σ.1 4 = 0) : CtI l L yX0_removeLast cX0_removeLast 1 (some .int) rm_X0_removeLast [.ref (L.2.1 3)] σ (fun r σ2 => r = -3 ∧ KM σ σ2) := by
  refine ctI_go (own := RX0) (by decide) rfl (Nat.le_of_ble_eq_true rfl) (fun F hF => ?_)
  subst hF
  refine go_aload_n (i := 0) (pc' := 1) dX0_removeLast_0 rfl rfl rfl ?_
  refine gf_3_size (pc' := 4) dX0_removeLast_1 rfl fl_X0_20 ?_
  refine go_if_ne (tgt := 10) (pc' := 7) dX0_removeLast_4 rfl (by decide) (fun c_4 => absurd h4 c_4) (fun c_4 => ?_)
  refine go_bipush (v := (-3)) (pc' := 9) dX0_removeLast_7 rfl (by decide) ?_
  exact go_iret dX0_removeLast_9 rfl ⟨rfl, (by repeat (first | exact KM_rfl _ | refine KM_setI ?_ (by decide) | refine KM_setA ?_ (by decide)))⟩
set_option maxHeartbeats 4000000 in
set_option maxRecDepth 100000 in
theorem f_X11_loose (l : Launch) (L : WL) (σ : ST)  (h4 : σ.1 4 = 0) : CtI l L yX11_loose cX11_loose 1 (some .int) rm_X11_loose [.ref (L.2.1 0)] σ (fun r σ2 => r = -3 ∧ KM σ σ2) := by
  refine ctI_go (own := RX11) (by decide) rfl (Nat.le_of_ble_eq_true rfl) (fun F hF => ?_)
  subst hF
  refine go_aload_n (i := 0) (pc' := 1) dX11_loose_0 rfl rfl rfl ?_
  refine gf_0_calendar (pc' := 4) dX11_loose_1 rfl fl_X11_26 ?_
  refine go_cvi (pc' := 7) lk_X11_164 (f_X0_removeLast _ _ _ h4) rfl rfl (Nat.le_of_ble_eq_true rfl) (by decide) rfl rfl rfl ⟨Nat.le_of_ble_eq_true rfl, Nat.le_of_ble_eq_true rfl⟩ ⟨rfl, rfl⟩ dX11_loose_4 rfl (fun r_4 σ_4 h_4 => ?_)
  exact go_iret dX11_loose_7 rfl h_4
set_option maxHeartbeats 4000000 in
set_option maxRecDepth 100000 in
theorem c_X0_allBounds (l : Launch) (L : WL) (σ : ST)  : CtI l L yX0_allBounds cX0_allBounds 1 (some .int) rm_X0_allBounds [.ref (L.2.1 3)] σ (fun _ σ2 => σ2 = σ) := by
  refine ctI_go (own := RX0) (by decide) rfl (Nat.le_of_ble_eq_true rfl) (fun F hF => ?_)
  subst hF
  refine go_iconst (v := 1) (pc' := 1) dX0_allBounds_0 rfl (by decide) ?_
  refine go_aload_n (i := 0) (pc' := 2) dX0_allBounds_1 rfl rfl rfl ?_
  refine gf_3_size (pc' := 5) dX0_allBounds_2 rfl fl_X0_20 ?_
  refine go_ishl (pc' := 6) dX0_allBounds_5 rfl ?_
  refine go_iconst (v := 1) (pc' := 7) dX0_allBounds_6 rfl (by decide) ?_
  refine go_isub (pc' := 8) dX0_allBounds_7 rfl ?_
  exact go_iret dX0_allBounds_8 rfl rfl
set_option maxHeartbeats 4000000 in
set_option maxRecDepth 100000 in
theorem f_X0_joinFound (l : Launch) (L : WL) (σ : ST)  : CtI l L yX0_joinFound cX0_joinFound 4 (some .boolean) rm_X0_joinFound [.ref (L.2.1 3), .int 0] σ (fun r σ2 => σ2 = σ ∧ r = 1) := by
  refine ctI_go (own := RX0) (by decide) rfl (Nat.le_of_ble_eq_true rfl) (fun F hF => ?_)
  subst hF
  refine go_iconst (v := 0) (pc' := 1) dX0_joinFound_0 rfl (by decide) ?_
  refine go_istore_n (i := 2) (pc' := 2) dX0_joinFound_1 rfl rfl (by decide) ?_
  refine go_iload_n (i := 2) (pc' := 3) dX0_joinFound_2 rfl rfl rfl ?_
  refine go_iload_n (i := 1) (pc' := 4) dX0_joinFound_3 rfl rfl rfl ?_
  refine go_icmp_ge (tgt := 114) (pc' := 7) dX0_joinFound_4 rfl (by decide) (fun c_4 => ?_) (fun c_4 => absurd (by decide) c_4)
  refine go_iconst (v := 0) (pc' := 115) dX0_joinFound_114 rfl (by decide) ?_
  refine go_istore_n (i := 2) (pc' := 116) dX0_joinFound_115 rfl rfl (by decide) ?_
  refine go_iload_n (i := 2) (pc' := 117) dX0_joinFound_116 rfl rfl rfl ?_
  refine go_iload_n (i := 1) (pc' := 118) dX0_joinFound_117 rfl rfl rfl ?_
  refine go_icmp_ge (tgt := 169) (pc' := 121) dX0_joinFound_118 rfl (by decide) (fun c_118 => ?_) (fun c_118 => absurd (by decide) c_118)
  refine go_iconst (v := 1) (pc' := 170) dX0_joinFound_169 rfl (by decide) ?_
  exact go_zret dX0_joinFound_170 rfl rfl ⟨rfl, rfl⟩
set_option maxHeartbeats 4000000 in
set_option maxRecDepth 100000 in
theorem f_X0_isOrdered (l : Launch) (L : WL) (σ : ST)  : CtI l L yX0_isOrdered cX0_isOrdered 3 (some .boolean) rm_X0_isOrdered [.ref (L.2.1 3), .int 0] σ (fun r σ2 => σ2 = σ ∧ r = 1) := by
  refine ctI_go (own := RX0) (by decide) rfl (Nat.le_of_ble_eq_true rfl) (fun F hF => ?_)
  subst hF
  refine go_iconst (v := 0) (pc' := 1) dX0_isOrdered_0 rfl (by decide) ?_
  refine go_istore_n (i := 2) (pc' := 2) dX0_isOrdered_1 rfl rfl (by decide) ?_
  refine go_iload_n (i := 2) (pc' := 3) dX0_isOrdered_2 rfl rfl rfl ?_
  refine go_iload_n (i := 1) (pc' := 4) dX0_isOrdered_3 rfl rfl rfl ?_
  refine go_icmp_ge (tgt := 40) (pc' := 7) dX0_isOrdered_4 rfl (by decide) (fun c_4 => ?_) (fun c_4 => absurd (by decide) c_4)
  refine go_iconst (v := 1) (pc' := 41) dX0_isOrdered_40 rfl (by decide) ?_
  exact go_zret dX0_isOrdered_41 rfl rfl ⟨rfl, rfl⟩
set_option maxHeartbeats 4000000 in
set_option maxRecDepth 100000 in
theorem f_X0_raiseLows (l : Launch) (L : WL) (σ : ST) (kk : Int32) (h4 : σ.1 4 = 0) : CtI l L yX0_raiseLows cX0_raiseLows 6 (some .boolean) rm_X0_raiseLows [.ref (L.2.1 3), .int 0, .int kk] σ (fun r σ2 => σ2 = σ ∧ r = 1) := by
  refine ctI_go (own := RX0) (by decide) rfl (Nat.le_of_ble_eq_true rfl) (fun F hF => ?_)
  subst hF
  refine go_iconst (v := 1) (pc' := 1) dX0_raiseLows_0 rfl (by decide) ?_
  refine go_istore_n (i := 3) (pc' := 2) dX0_raiseLows_1 rfl rfl (by decide) ?_
  refine go_iconst (v := 0) (pc' := 3) dX0_raiseLows_2 rfl (by decide) ?_
  refine go_istore (pc' := 5) dX0_raiseLows_3 rfl (by decide) ?_
  refine go_iload (pc' := 7) dX0_raiseLows_5 rfl rfl ?_
  refine go_bipush (v := 50) (pc' := 9) dX0_raiseLows_7 rfl (by decide) ?_
  refine go_icmp_ge (tgt := 73) (pc' := 12) dX0_raiseLows_9 rfl (by decide) (fun c_9 => absurd c_9 (by decide)) (fun c_9 => ?_)
  refine go_iload_n (i := 3) (pc' := 13) dX0_raiseLows_12 rfl rfl rfl ?_
  refine go_if_eq (tgt := 73) (pc' := 16) dX0_raiseLows_13 rfl (by decide) (fun c_13 => absurd c_13 (by decide)) (fun c_13 => ?_)
  refine go_iconst (v := 0) (pc' := 17) dX0_raiseLows_16 rfl (by decide) ?_
  refine go_istore_n (i := 3) (pc' := 18) dX0_raiseLows_17 rfl rfl (by decide) ?_
  refine go_iconst (v := 0) (pc' := 19) dX0_raiseLows_18 rfl (by decide) ?_
  refine go_istore (pc' := 21) dX0_raiseLows_19 rfl (by decide) ?_
  refine go_iload (pc' := 23) dX0_raiseLows_21 rfl rfl ?_
  refine go_aload_n (i := 0) (pc' := 24) dX0_raiseLows_23 rfl rfl rfl ?_
  refine gf_3_size (pc' := 27) dX0_raiseLows_24 rfl fl_X0_20 ?_
  refine go_icmp_ge (tgt := 57) (pc' := 30) dX0_raiseLows_27 rfl (by decide) (fun c_27 => ?_) (fun c_27 => absurd (by rw [h4]; decide) c_27)
  refine go_aload_n (i := 0) (pc' := 58) dX0_raiseLows_57 rfl rfl rfl ?_
  refine go_iload_n (i := 1) (pc' := 59) dX0_raiseLows_58 rfl rfl rfl ?_
  refine go_cvi (pc' := 62) lk_X0_97 (f_X0_isOrdered _ _ _) rfl rfl (Nat.le_of_ble_eq_true rfl) (by decide) rfl rfl rfl ⟨Nat.le_of_ble_eq_true rfl, Nat.le_of_ble_eq_true rfl⟩ ⟨rfl, rfl⟩ dX0_raiseLows_59 rfl (fun r_59 σ_59 h_59 => ?_)
  obtain ⟨e_59, h_59⟩ := h_59
  have e_59 := e_59.symm
  subst e_59
  subst h_59
  refine go_if_ne (tgt := 67) (pc' := 65) dX0_raiseLows_62 rfl (by decide) (fun c_62 => ?_) (fun c_62 => absurd c_62 (by decide))
  refine go_iinc (c := 1) (pc' := 70) dX0_raiseLows_67 rfl rfl (by decide) (by decide) ?_
  refine go_goto (tgt := 5) dX0_raiseLows_70 (by decide) ?_
  refine go_iload (pc' := 7) dX0_raiseLows_5 rfl rfl ?_
  refine go_bipush (v := 50) (pc' := 9) dX0_raiseLows_7 rfl (by decide) ?_
  refine go_icmp_ge (tgt := 73) (pc' := 12) dX0_raiseLows_9 rfl (by decide) (fun c_9 => absurd c_9 (by decide)) (fun c_9 => ?_)
  refine go_iload_n (i := 3) (pc' := 13) dX0_raiseLows_12 rfl rfl rfl ?_
  refine go_if_eq (tgt := 73) (pc' := 16) dX0_raiseLows_13 rfl (by decide) (fun c_13 => ?_) (fun c_13 => absurd (by decide) c_13)
  refine go_iload_n (i := 3) (pc' := 74) dX0_raiseLows_73 rfl rfl rfl ?_
  refine go_if_ne (tgt := 81) (pc' := 77) dX0_raiseLows_74 rfl (by decide) (fun c_74 => absurd (by decide) c_74) (fun c_74 => ?_)
  refine go_iconst (v := 1) (pc' := 78) dX0_raiseLows_77 rfl (by decide) ?_
  refine go_goto (tgt := 82) dX0_raiseLows_78 (by decide) ?_
  exact go_zret dX0_raiseLows_82 rfl rfl ⟨rfl, rfl⟩
set_option maxHeartbeats 4000000 in
set_option maxRecDepth 100000 in
theorem f_X0_isPossible (l : Launch) (L : WL) (σ : ST) (kk : Int32) (h3 : σ.1 3 = 0) (h4 : σ.1 4 = 0) : CtI l L yX0_isPossible cX0_isPossible 4 (some .boolean) rm_X0_isPossible [.ref (L.2.1 3), .ref (L.2.1 2), .int kk] σ (fun r σ2 => σ2 = σ ∧ r = 1) := by
  refine ctI_go (own := RX0) (by decide) rfl (Nat.le_of_ble_eq_true rfl) (fun F hF => ?_)
  subst hF
  refine go_iconst (v := 0) (pc' := 1) dX0_isPossible_0 rfl (by decide) ?_
  refine go_istore_n (i := 3) (pc' := 2) dX0_isPossible_1 rfl rfl (by decide) ?_
  refine go_iload_n (i := 3) (pc' := 3) dX0_isPossible_2 rfl rfl rfl ?_
  refine go_aload_n (i := 1) (pc' := 4) dX0_isPossible_3 rfl rfl rfl ?_
  refine gf_2_size (pc' := 7) dX0_isPossible_4 rfl fl_X0_55 ?_
  refine go_icmp_ge (tgt := 78) (pc' := 10) dX0_isPossible_7 rfl (by decide) (fun c_7 => ?_) (fun c_7 => absurd (by rw [h3]; decide) c_7)
  refine go_aload_n (i := 0) (pc' := 79) dX0_isPossible_78 rfl rfl rfl ?_
  refine go_aload_n (i := 1) (pc' := 80) dX0_isPossible_79 rfl rfl rfl ?_
  refine gf_2_size (pc' := 83) dX0_isPossible_80 rfl fl_X0_55 ?_
  refine go_st (st' := [.int 0, .ref (L.2.1 3)]) (by rw [h3]) ?_
  refine go_cvi (pc' := 86) lk_X0_77 (f_X0_joinFound _ _ _) rfl rfl (Nat.le_of_ble_eq_true rfl) (by decide) rfl rfl rfl ⟨Nat.le_of_ble_eq_true rfl, Nat.le_of_ble_eq_true rfl⟩ ⟨rfl, rfl⟩ dX0_isPossible_83 rfl (fun r_83 σ_83 h_83 => ?_)
  obtain ⟨e_83, h_83⟩ := h_83
  have e_83 := e_83.symm
  subst e_83
  subst h_83
  refine go_if_eq (tgt := 105) (pc' := 89) dX0_isPossible_86 rfl (by decide) (fun c_86 => absurd c_86 (by decide)) (fun c_86 => ?_)
  refine go_aload_n (i := 0) (pc' := 90) dX0_isPossible_89 rfl rfl rfl ?_
  refine go_aload_n (i := 1) (pc' := 91) dX0_isPossible_90 rfl rfl rfl ?_
  refine gf_2_size (pc' := 94) dX0_isPossible_91 rfl fl_X0_55 ?_
  refine go_iload_n (i := 2) (pc' := 95) dX0_isPossible_94 rfl rfl rfl ?_
  refine go_st (st' := [.int kk, .int 0, .ref (L.2.1 3)]) (by rw [h3]) ?_
  refine go_cvi (pc' := 98) lk_X0_81 (f_X0_raiseLows _ _ _ _ h4) rfl rfl (Nat.le_of_ble_eq_true rfl) (by decide) rfl rfl rfl ⟨Nat.le_of_ble_eq_true rfl, Nat.le_of_ble_eq_true rfl⟩ ⟨rfl, rfl⟩ dX0_isPossible_95 rfl (fun r_95 σ_95 h_95 => ?_)
  obtain ⟨e_95, h_95⟩ := h_95
  have e_95 := e_95.symm
  subst e_95
  subst h_95
  refine go_if_eq (tgt := 105) (pc' := 101) dX0_isPossible_98 rfl (by decide) (fun c_98 => absurd c_98 (by decide)) (fun c_98 => ?_)
  refine go_iconst (v := 1) (pc' := 102) dX0_isPossible_101 rfl (by decide) ?_
  refine go_goto (tgt := 106) dX0_isPossible_102 (by decide) ?_
  exact go_zret dX0_isPossible_106 rfl rfl ⟨rfl, rfl⟩
set_option maxHeartbeats 4000000 in
set_option maxRecDepth 100000 in
theorem f_X0_conflict (l : Launch) (L : WL) (σ : ST)  (h3 : σ.1 3 = 0) (h4 : σ.1 4 = 0) : CtI l L yX0_conflict cX0_conflict 5 (some .int) rm_X0_conflict [.ref (L.2.1 3), .ref (L.2.1 2)] σ (fun r σ2 => r = -1 ∧ KM σ σ2) := by
  refine ctI_go (own := RX0) (by decide) rfl (Nat.le_of_ble_eq_true rfl) (fun F hF => ?_)
  subst hF
  refine go_aload_n (i := 0) (pc' := 1) dX0_conflict_0 rfl rfl rfl ?_
  refine go_cvi (pc' := 4) lk_X0_44 (c_X0_allBounds _ _ _) rfl rfl (Nat.le_of_ble_eq_true rfl) (by decide) rfl rfl rfl ⟨Nat.le_of_ble_eq_true rfl, Nat.le_of_ble_eq_true rfl⟩ ⟨rfl, rfl⟩ dX0_conflict_1 rfl (fun r_1 σ_1 h_1 => ?_)
  have h_1 := h_1.symm
  subst h_1
  refine go_istore_n (i := 2) (pc' := 5) dX0_conflict_4 rfl rfl (by decide) ?_
  refine go_aload_n (i := 0) (pc' := 6) dX0_conflict_5 rfl rfl rfl ?_
  refine go_aload_n (i := 1) (pc' := 7) dX0_conflict_6 rfl rfl rfl ?_
  refine go_iload_n (i := 2) (pc' := 8) dX0_conflict_7 rfl rfl rfl ?_
  refine go_cvi (pc' := 11) lk_X0_48 (f_X0_isPossible _ _ _ _ h3 h4) rfl rfl (Nat.le_of_ble_eq_true rfl) (by decide) rfl rfl rfl ⟨Nat.le_of_ble_eq_true rfl, Nat.le_of_ble_eq_true rfl⟩ ⟨rfl, rfl⟩ dX0_conflict_8 rfl (fun r_8 σ_8 h_8 => ?_)
  obtain ⟨e_8, h_8⟩ := h_8
  have e_8 := e_8.symm
  subst e_8
  subst h_8
  refine go_if_eq (tgt := 16) (pc' := 14) dX0_conflict_11 rfl (by decide) (fun c_11 => absurd c_11 (by decide)) (fun c_11 => ?_)
  refine go_iconst (v := (-1)) (pc' := 15) dX0_conflict_14 rfl (by decide) ?_
  exact go_iret dX0_conflict_15 rfl ⟨rfl, (by repeat (first | exact KM_rfl _ | refine KM_setI ?_ (by decide) | refine KM_setA ?_ (by decide)))⟩
set_option maxHeartbeats 4000000 in
set_option maxRecDepth 100000 in
theorem f_X11_clash (l : Launch) (L : WL) (σ : ST)  (h3 : σ.1 3 = 0) (h4 : σ.1 4 = 0) : CtI l L yX11_clash cX11_clash 1 (some .int) rm_X11_clash [.ref (L.2.1 0)] σ (fun r σ2 => r = -1 ∧ KM σ σ2) := by
  refine ctI_go (own := RX11) (by decide) rfl (Nat.le_of_ble_eq_true rfl) (fun F hF => ?_)
  subst hF
  refine go_aload_n (i := 0) (pc' := 1) dX11_clash_0 rfl rfl rfl ?_
  refine gf_0_calendar (pc' := 4) dX11_clash_1 rfl fl_X11_26 ?_
  refine go_aload_n (i := 0) (pc' := 5) dX11_clash_4 rfl rfl rfl ?_
  refine gf_0_letters (pc' := 8) dX11_clash_5 rfl fl_X11_19 ?_
  refine go_cvi (pc' := 11) lk_X11_181 (f_X0_conflict _ _ _ h3 h4) rfl rfl (Nat.le_of_ble_eq_true rfl) (by decide) rfl rfl rfl ⟨Nat.le_of_ble_eq_true rfl, Nat.le_of_ble_eq_true rfl⟩ ⟨rfl, rfl⟩ dX11_clash_8 rfl (fun r_8 σ_8 h_8 => ?_)
  exact go_iret dX11_clash_11 rfl h_8
set_option maxHeartbeats 4000000 in
set_option maxRecDepth 100000 in
theorem f_X0_sinkHighs (l : Launch) (L : WL) (σ : ST)  (h4 : σ.1 4 = 0) : CtV l L yX0_sinkHighs cX0_sinkHighs 4 none rm_X0_sinkHighs [.ref (L.2.1 3)] σ (fun σ2 => σ2 = σ) := by
  refine ctV_go (own := RX0) (by decide) rfl (Nat.le_of_ble_eq_true rfl) (fun F hF => ?_)
  subst hF
  refine go_iconst (v := 1) (pc' := 1) dX0_sinkHighs_0 rfl (by decide) ?_
  refine go_istore_n (i := 1) (pc' := 2) dX0_sinkHighs_1 rfl rfl (by decide) ?_
  refine go_iconst (v := 0) (pc' := 3) dX0_sinkHighs_2 rfl (by decide) ?_
  refine go_istore_n (i := 2) (pc' := 4) dX0_sinkHighs_3 rfl rfl (by decide) ?_
  refine go_iload_n (i := 2) (pc' := 5) dX0_sinkHighs_4 rfl rfl rfl ?_
  refine go_bipush (v := 50) (pc' := 7) dX0_sinkHighs_5 rfl (by decide) ?_
  refine go_icmp_ge (tgt := 48) (pc' := 10) dX0_sinkHighs_7 rfl (by decide) (fun c_7 => absurd c_7 (by decide)) (fun c_7 => ?_)
  refine go_iload_n (i := 1) (pc' := 11) dX0_sinkHighs_10 rfl rfl rfl ?_
  refine go_if_eq (tgt := 48) (pc' := 14) dX0_sinkHighs_11 rfl (by decide) (fun c_11 => absurd c_11 (by decide)) (fun c_11 => ?_)
  refine go_iconst (v := 0) (pc' := 15) dX0_sinkHighs_14 rfl (by decide) ?_
  refine go_istore_n (i := 1) (pc' := 16) dX0_sinkHighs_15 rfl rfl (by decide) ?_
  refine go_iconst (v := 0) (pc' := 17) dX0_sinkHighs_16 rfl (by decide) ?_
  refine go_istore_n (i := 3) (pc' := 18) dX0_sinkHighs_17 rfl rfl (by decide) ?_
  refine go_iload_n (i := 3) (pc' := 19) dX0_sinkHighs_18 rfl rfl rfl ?_
  refine go_aload_n (i := 0) (pc' := 20) dX0_sinkHighs_19 rfl rfl rfl ?_
  refine gf_3_size (pc' := 23) dX0_sinkHighs_20 rfl fl_X0_20 ?_
  refine go_icmp_ge (tgt := 42) (pc' := 26) dX0_sinkHighs_23 rfl (by decide) (fun c_23 => ?_) (fun c_23 => absurd (by rw [h4]; decide) c_23)
  refine go_iinc (c := 1) (pc' := 45) dX0_sinkHighs_42 rfl rfl (by decide) (by decide) ?_
  refine go_goto (tgt := 4) dX0_sinkHighs_45 (by decide) ?_
  refine go_iload_n (i := 2) (pc' := 5) dX0_sinkHighs_4 rfl rfl rfl ?_
  refine go_bipush (v := 50) (pc' := 7) dX0_sinkHighs_5 rfl (by decide) ?_
  refine go_icmp_ge (tgt := 48) (pc' := 10) dX0_sinkHighs_7 rfl (by decide) (fun c_7 => absurd c_7 (by decide)) (fun c_7 => ?_)
  refine go_iload_n (i := 1) (pc' := 11) dX0_sinkHighs_10 rfl rfl rfl ?_
  refine go_if_eq (tgt := 48) (pc' := 14) dX0_sinkHighs_11 rfl (by decide) (fun c_11 => ?_) (fun c_11 => absurd (by decide) c_11)
  exact go_vret dX0_sinkHighs_48 rfl rfl
set_option maxHeartbeats 4000000 in
set_option maxRecDepth 100000 in
theorem f_X0_settle (l : Launch) (L : WL) (σ : ST)  (h3 : σ.1 3 = 0) (h4 : σ.1 4 = 0) : CtI l L yX0_settle cX0_settle 3 (some .boolean) rm_X0_settle [.ref (L.2.1 3), .ref (L.2.1 2)] σ (fun r σ2 => σ2 = σ ∧ r = 1) := by
  refine ctI_go (own := RX0) (by decide) rfl (Nat.le_of_ble_eq_true rfl) (fun F hF => ?_)
  subst hF
  refine go_aload_n (i := 0) (pc' := 1) dX0_settle_0 rfl rfl rfl ?_
  refine go_aload_n (i := 1) (pc' := 2) dX0_settle_1 rfl rfl rfl ?_
  refine go_aload_n (i := 0) (pc' := 3) dX0_settle_2 rfl rfl rfl ?_
  refine go_cvi (pc' := 6) lk_X0_44 (c_X0_allBounds _ _ _) rfl rfl (Nat.le_of_ble_eq_true rfl) (by decide) rfl rfl rfl ⟨Nat.le_of_ble_eq_true rfl, Nat.le_of_ble_eq_true rfl⟩ ⟨rfl, rfl⟩ dX0_settle_3 rfl (fun r_3 σ_3 h_3 => ?_)
  have h_3 := h_3.symm
  subst h_3
  refine go_cvi (pc' := 9) lk_X0_48 (f_X0_isPossible _ _ _ _ h3 h4) rfl rfl (Nat.le_of_ble_eq_true rfl) (by decide) rfl rfl rfl ⟨Nat.le_of_ble_eq_true rfl, Nat.le_of_ble_eq_true rfl⟩ ⟨rfl, rfl⟩ dX0_settle_6 rfl (fun r_6 σ_6 h_6 => ?_)
  obtain ⟨e_6, h_6⟩ := h_6
  have e_6 := e_6.symm
  subst e_6
  subst h_6
  refine go_if_ne (tgt := 14) (pc' := 12) dX0_settle_9 rfl (by decide) (fun c_9 => ?_) (fun c_9 => absurd c_9 (by decide))
  refine go_aload_n (i := 0) (pc' := 15) dX0_settle_14 rfl rfl rfl ?_
  refine go_cvv (pc' := 18) lk_X0_52 (f_X0_sinkHighs _ _ _ h4) rfl rfl (Nat.le_of_ble_eq_true rfl) (by decide) rfl rfl rfl ⟨Nat.le_of_ble_eq_true rfl, Nat.le_of_ble_eq_true rfl⟩ ⟨rfl, rfl⟩ dX0_settle_15 rfl (fun σ_15 h_15 => ?_)
  have h_15 := h_15.symm
  subst h_15
  refine go_iconst (v := 0) (pc' := 19) dX0_settle_18 rfl (by decide) ?_
  refine go_istore_n (i := 2) (pc' := 20) dX0_settle_19 rfl rfl (by decide) ?_
  refine go_iload_n (i := 2) (pc' := 21) dX0_settle_20 rfl rfl rfl ?_
  refine go_aload_n (i := 1) (pc' := 22) dX0_settle_21 rfl rfl rfl ?_
  refine gf_2_size (pc' := 25) dX0_settle_22 rfl fl_X0_55 ?_
  refine go_icmp_ge (tgt := 68) (pc' := 28) dX0_settle_25 rfl (by decide) (fun c_25 => ?_) (fun c_25 => absurd (by rw [h3]; decide) c_25)
  refine go_iconst (v := 1) (pc' := 69) dX0_settle_68 rfl (by decide) ?_
  exact go_zret dX0_settle_69 rfl rfl ⟨rfl, rfl⟩
set_option maxHeartbeats 4000000 in
set_option maxRecDepth 100000 in
theorem f_X0_measurePaths (l : Launch) (L : WL) (σ : ST)  (h4 : σ.1 4 = 0) : CtV l L yX0_measurePaths cX0_measurePaths 5 none rm_X0_measurePaths [.ref (L.2.1 3), .int 0] σ (fun σ2 => σ2 = σ) := by
  refine ctV_go (own := RX0) (by decide) rfl (Nat.le_of_ble_eq_true rfl) (fun F hF => ?_)
  subst hF
  refine go_iconst (v := 0) (pc' := 1) dX0_measurePaths_0 rfl (by decide) ?_
  refine go_istore_n (i := 2) (pc' := 2) dX0_measurePaths_1 rfl rfl (by decide) ?_
  refine go_iload_n (i := 2) (pc' := 3) dX0_measurePaths_2 rfl rfl rfl ?_
  refine go_iload_n (i := 1) (pc' := 4) dX0_measurePaths_3 rfl rfl rfl ?_
  refine go_icmp_ge (tgt := 45) (pc' := 7) dX0_measurePaths_4 rfl (by decide) (fun c_4 => ?_) (fun c_4 => absurd (by decide) c_4)
  refine go_iconst (v := 0) (pc' := 46) dX0_measurePaths_45 rfl (by decide) ?_
  refine go_istore_n (i := 2) (pc' := 47) dX0_measurePaths_46 rfl rfl (by decide) ?_
  refine go_iload_n (i := 2) (pc' := 48) dX0_measurePaths_47 rfl rfl rfl ?_
  refine go_aload_n (i := 0) (pc' := 49) dX0_measurePaths_48 rfl rfl rfl ?_
  refine gf_3_size (pc' := 52) dX0_measurePaths_49 rfl fl_X0_20 ?_
  refine go_icmp_ge (tgt := 113) (pc' := 55) dX0_measurePaths_52 rfl (by decide) (fun c_52 => ?_) (fun c_52 => absurd (by rw [h4]; decide) c_52)
  refine go_iconst (v := 0) (pc' := 114) dX0_measurePaths_113 rfl (by decide) ?_
  refine go_istore_n (i := 2) (pc' := 115) dX0_measurePaths_114 rfl rfl (by decide) ?_
  refine go_iload_n (i := 2) (pc' := 116) dX0_measurePaths_115 rfl rfl rfl ?_
  refine go_iload_n (i := 1) (pc' := 117) dX0_measurePaths_116 rfl rfl rfl ?_
  refine go_icmp_ge (tgt := 132) (pc' := 120) dX0_measurePaths_117 rfl (by decide) (fun c_117 => ?_) (fun c_117 => absurd (by decide) c_117)
  exact go_vret dX0_measurePaths_132 rfl rfl
set_option maxHeartbeats 4000000 in
set_option maxRecDepth 100000 in
theorem f_X7_collect (l : Launch) (L : WL) (σ : ST)  : CtV l L yX7_collect cX7_collect 3 none rm_X7_collect [.ref (L.2.1 11), .int 0] σ (fun σ2 => σ2 = setI σ 18 0) := by
  refine ctV_go (own := RX7) (by decide) rfl (Nat.le_of_ble_eq_true rfl) (fun F hF => ?_)
  subst hF
  refine go_aload_n (i := 0) (pc' := 1) dX7_collect_0 rfl rfl rfl ?_
  refine go_iconst (v := 0) (pc' := 2) dX7_collect_1 rfl (by decide) ?_
  refine pf_11_size (pc' := 5) dX7_collect_2 rfl fl_X7_17 ?_
  refine go_iconst (v := 0) (pc' := 6) dX7_collect_5 rfl (by decide) ?_
  refine go_istore_n (i := 2) (pc' := 7) dX7_collect_6 rfl rfl (by decide) ?_
  refine go_iload_n (i := 2) (pc' := 8) dX7_collect_7 rfl rfl rfl ?_
  refine go_bipush (v := 12) (pc' := 10) dX7_collect_8 rfl (by decide) ?_
  refine go_icmp_ge (tgt := 57) (pc' := 13) dX7_collect_10 rfl (by decide) (fun c_10 => absurd c_10 (by decide)) (fun c_10 => ?_)
  refine go_iload_n (i := 1) (pc' := 14) dX7_collect_13 rfl rfl rfl ?_
  refine go_iload_n (i := 2) (pc' := 15) dX7_collect_14 rfl rfl rfl ?_
  refine go_ishr (pc' := 16) dX7_collect_15 rfl ?_
  refine go_iconst (v := 1) (pc' := 17) dX7_collect_16 rfl (by decide) ?_
  refine go_iand (pc' := 18) dX7_collect_17 rfl ?_
  refine go_iconst (v := 1) (pc' := 19) dX7_collect_18 rfl (by decide) ?_
  refine go_icmp_ne (tgt := 51) (pc' := 22) dX7_collect_19 rfl (by decide) (fun c_19 => ?_) (fun c_19 => absurd c_19 (by decide))
  refine go_iinc (c := 1) (pc' := 54) dX7_collect_51 rfl rfl (by decide) (by decide) ?_
  refine go_goto (tgt := 7) dX7_collect_54 (by decide) ?_
  refine go_iload_n (i := 2) (pc' := 8) dX7_collect_7 rfl rfl rfl ?_
  refine go_bipush (v := 12) (pc' := 10) dX7_collect_8 rfl (by decide) ?_
  refine go_icmp_ge (tgt := 57) (pc' := 13) dX7_collect_10 rfl (by decide) (fun c_10 => absurd c_10 (by decide)) (fun c_10 => ?_)
  refine go_iload_n (i := 1) (pc' := 14) dX7_collect_13 rfl rfl rfl ?_
  refine go_iload_n (i := 2) (pc' := 15) dX7_collect_14 rfl rfl rfl ?_
  refine go_ishr (pc' := 16) dX7_collect_15 rfl ?_
  refine go_iconst (v := 1) (pc' := 17) dX7_collect_16 rfl (by decide) ?_
  refine go_iand (pc' := 18) dX7_collect_17 rfl ?_
  refine go_iconst (v := 1) (pc' := 19) dX7_collect_18 rfl (by decide) ?_
  refine go_icmp_ne (tgt := 51) (pc' := 22) dX7_collect_19 rfl (by decide) (fun c_19 => ?_) (fun c_19 => absurd c_19 (by decide))
  refine go_iinc (c := 1) (pc' := 54) dX7_collect_51 rfl rfl (by decide) (by decide) ?_
  refine go_goto (tgt := 7) dX7_collect_54 (by decide) ?_
  refine go_iload_n (i := 2) (pc' := 8) dX7_collect_7 rfl rfl rfl ?_
  refine go_bipush (v := 12) (pc' := 10) dX7_collect_8 rfl (by decide) ?_
  refine go_icmp_ge (tgt := 57) (pc' := 13) dX7_collect_10 rfl (by decide) (fun c_10 => absurd c_10 (by decide)) (fun c_10 => ?_)
  refine go_iload_n (i := 1) (pc' := 14) dX7_collect_13 rfl rfl rfl ?_
  refine go_iload_n (i := 2) (pc' := 15) dX7_collect_14 rfl rfl rfl ?_
  refine go_ishr (pc' := 16) dX7_collect_15 rfl ?_
  refine go_iconst (v := 1) (pc' := 17) dX7_collect_16 rfl (by decide) ?_
  refine go_iand (pc' := 18) dX7_collect_17 rfl ?_
  refine go_iconst (v := 1) (pc' := 19) dX7_collect_18 rfl (by decide) ?_
  refine go_icmp_ne (tgt := 51) (pc' := 22) dX7_collect_19 rfl (by decide) (fun c_19 => ?_) (fun c_19 => absurd c_19 (by decide))
  refine go_iinc (c := 1) (pc' := 54) dX7_collect_51 rfl rfl (by decide) (by decide) ?_
  refine go_goto (tgt := 7) dX7_collect_54 (by decide) ?_
  refine go_iload_n (i := 2) (pc' := 8) dX7_collect_7 rfl rfl rfl ?_
  refine go_bipush (v := 12) (pc' := 10) dX7_collect_8 rfl (by decide) ?_
  refine go_icmp_ge (tgt := 57) (pc' := 13) dX7_collect_10 rfl (by decide) (fun c_10 => absurd c_10 (by decide)) (fun c_10 => ?_)
  refine go_iload_n (i := 1) (pc' := 14) dX7_collect_13 rfl rfl rfl ?_
  refine go_iload_n (i := 2) (pc' := 15) dX7_collect_14 rfl rfl rfl ?_
  refine go_ishr (pc' := 16) dX7_collect_15 rfl ?_
  refine go_iconst (v := 1) (pc' := 17) dX7_collect_16 rfl (by decide) ?_
  refine go_iand (pc' := 18) dX7_collect_17 rfl ?_
  refine go_iconst (v := 1) (pc' := 19) dX7_collect_18 rfl (by decide) ?_
  refine go_icmp_ne (tgt := 51) (pc' := 22) dX7_collect_19 rfl (by decide) (fun c_19 => ?_) (fun c_19 => absurd c_19 (by decide))
  refine go_iinc (c := 1) (pc' := 54) dX7_collect_51 rfl rfl (by decide) (by decide) ?_
  refine go_goto (tgt := 7) dX7_collect_54 (by decide) ?_
  refine go_iload_n (i := 2) (pc' := 8) dX7_collect_7 rfl rfl rfl ?_
  refine go_bipush (v := 12) (pc' := 10) dX7_collect_8 rfl (by decide) ?_
  refine go_icmp_ge (tgt := 57) (pc' := 13) dX7_collect_10 rfl (by decide) (fun c_10 => absurd c_10 (by decide)) (fun c_10 => ?_)
  refine go_iload_n (i := 1) (pc' := 14) dX7_collect_13 rfl rfl rfl ?_
  refine go_iload_n (i := 2) (pc' := 15) dX7_collect_14 rfl rfl rfl ?_
  refine go_ishr (pc' := 16) dX7_collect_15 rfl ?_
  refine go_iconst (v := 1) (pc' := 17) dX7_collect_16 rfl (by decide) ?_
  refine go_iand (pc' := 18) dX7_collect_17 rfl ?_
  refine go_iconst (v := 1) (pc' := 19) dX7_collect_18 rfl (by decide) ?_
  refine go_icmp_ne (tgt := 51) (pc' := 22) dX7_collect_19 rfl (by decide) (fun c_19 => ?_) (fun c_19 => absurd c_19 (by decide))
  refine go_iinc (c := 1) (pc' := 54) dX7_collect_51 rfl rfl (by decide) (by decide) ?_
  refine go_goto (tgt := 7) dX7_collect_54 (by decide) ?_
  refine go_iload_n (i := 2) (pc' := 8) dX7_collect_7 rfl rfl rfl ?_
  refine go_bipush (v := 12) (pc' := 10) dX7_collect_8 rfl (by decide) ?_
  refine go_icmp_ge (tgt := 57) (pc' := 13) dX7_collect_10 rfl (by decide) (fun c_10 => absurd c_10 (by decide)) (fun c_10 => ?_)
  refine go_iload_n (i := 1) (pc' := 14) dX7_collect_13 rfl rfl rfl ?_
  refine go_iload_n (i := 2) (pc' := 15) dX7_collect_14 rfl rfl rfl ?_
  refine go_ishr (pc' := 16) dX7_collect_15 rfl ?_
  refine go_iconst (v := 1) (pc' := 17) dX7_collect_16 rfl (by decide) ?_
  refine go_iand (pc' := 18) dX7_collect_17 rfl ?_
  refine go_iconst (v := 1) (pc' := 19) dX7_collect_18 rfl (by decide) ?_
  refine go_icmp_ne (tgt := 51) (pc' := 22) dX7_collect_19 rfl (by decide) (fun c_19 => ?_) (fun c_19 => absurd c_19 (by decide))
  refine go_iinc (c := 1) (pc' := 54) dX7_collect_51 rfl rfl (by decide) (by decide) ?_
  refine go_goto (tgt := 7) dX7_collect_54 (by decide) ?_
  refine go_iload_n (i := 2) (pc' := 8) dX7_collect_7 rfl rfl rfl ?_
  refine go_bipush (v := 12) (pc' := 10) dX7_collect_8 rfl (by decide) ?_
  refine go_icmp_ge (tgt := 57) (pc' := 13) dX7_collect_10 rfl (by decide) (fun c_10 => absurd c_10 (by decide)) (fun c_10 => ?_)
  refine go_iload_n (i := 1) (pc' := 14) dX7_collect_13 rfl rfl rfl ?_
  refine go_iload_n (i := 2) (pc' := 15) dX7_collect_14 rfl rfl rfl ?_
  refine go_ishr (pc' := 16) dX7_collect_15 rfl ?_
  refine go_iconst (v := 1) (pc' := 17) dX7_collect_16 rfl (by decide) ?_
  refine go_iand (pc' := 18) dX7_collect_17 rfl ?_
  refine go_iconst (v := 1) (pc' := 19) dX7_collect_18 rfl (by decide) ?_
  refine go_icmp_ne (tgt := 51) (pc' := 22) dX7_collect_19 rfl (by decide) (fun c_19 => ?_) (fun c_19 => absurd c_19 (by decide))
  refine go_iinc (c := 1) (pc' := 54) dX7_collect_51 rfl rfl (by decide) (by decide) ?_
  refine go_goto (tgt := 7) dX7_collect_54 (by decide) ?_
  refine go_iload_n (i := 2) (pc' := 8) dX7_collect_7 rfl rfl rfl ?_
  refine go_bipush (v := 12) (pc' := 10) dX7_collect_8 rfl (by decide) ?_
  refine go_icmp_ge (tgt := 57) (pc' := 13) dX7_collect_10 rfl (by decide) (fun c_10 => absurd c_10 (by decide)) (fun c_10 => ?_)
  refine go_iload_n (i := 1) (pc' := 14) dX7_collect_13 rfl rfl rfl ?_
  refine go_iload_n (i := 2) (pc' := 15) dX7_collect_14 rfl rfl rfl ?_
  refine go_ishr (pc' := 16) dX7_collect_15 rfl ?_
  refine go_iconst (v := 1) (pc' := 17) dX7_collect_16 rfl (by decide) ?_
  refine go_iand (pc' := 18) dX7_collect_17 rfl ?_
  refine go_iconst (v := 1) (pc' := 19) dX7_collect_18 rfl (by decide) ?_
  refine go_icmp_ne (tgt := 51) (pc' := 22) dX7_collect_19 rfl (by decide) (fun c_19 => ?_) (fun c_19 => absurd c_19 (by decide))
  refine go_iinc (c := 1) (pc' := 54) dX7_collect_51 rfl rfl (by decide) (by decide) ?_
  refine go_goto (tgt := 7) dX7_collect_54 (by decide) ?_
  refine go_iload_n (i := 2) (pc' := 8) dX7_collect_7 rfl rfl rfl ?_
  refine go_bipush (v := 12) (pc' := 10) dX7_collect_8 rfl (by decide) ?_
  refine go_icmp_ge (tgt := 57) (pc' := 13) dX7_collect_10 rfl (by decide) (fun c_10 => absurd c_10 (by decide)) (fun c_10 => ?_)
  refine go_iload_n (i := 1) (pc' := 14) dX7_collect_13 rfl rfl rfl ?_
  refine go_iload_n (i := 2) (pc' := 15) dX7_collect_14 rfl rfl rfl ?_
  refine go_ishr (pc' := 16) dX7_collect_15 rfl ?_
  refine go_iconst (v := 1) (pc' := 17) dX7_collect_16 rfl (by decide) ?_
  refine go_iand (pc' := 18) dX7_collect_17 rfl ?_
  refine go_iconst (v := 1) (pc' := 19) dX7_collect_18 rfl (by decide) ?_
  refine go_icmp_ne (tgt := 51) (pc' := 22) dX7_collect_19 rfl (by decide) (fun c_19 => ?_) (fun c_19 => absurd c_19 (by decide))
  refine go_iinc (c := 1) (pc' := 54) dX7_collect_51 rfl rfl (by decide) (by decide) ?_
  refine go_goto (tgt := 7) dX7_collect_54 (by decide) ?_
  refine go_iload_n (i := 2) (pc' := 8) dX7_collect_7 rfl rfl rfl ?_
  refine go_bipush (v := 12) (pc' := 10) dX7_collect_8 rfl (by decide) ?_
  refine go_icmp_ge (tgt := 57) (pc' := 13) dX7_collect_10 rfl (by decide) (fun c_10 => absurd c_10 (by decide)) (fun c_10 => ?_)
  refine go_iload_n (i := 1) (pc' := 14) dX7_collect_13 rfl rfl rfl ?_
  refine go_iload_n (i := 2) (pc' := 15) dX7_collect_14 rfl rfl rfl ?_
  refine go_ishr (pc' := 16) dX7_collect_15 rfl ?_
  refine go_iconst (v := 1) (pc' := 17) dX7_collect_16 rfl (by decide) ?_
  refine go_iand (pc' := 18) dX7_collect_17 rfl ?_
  refine go_iconst (v := 1) (pc' := 19) dX7_collect_18 rfl (by decide) ?_
  refine go_icmp_ne (tgt := 51) (pc' := 22) dX7_collect_19 rfl (by decide) (fun c_19 => ?_) (fun c_19 => absurd c_19 (by decide))
  refine go_iinc (c := 1) (pc' := 54) dX7_collect_51 rfl rfl (by decide) (by decide) ?_
  refine go_goto (tgt := 7) dX7_collect_54 (by decide) ?_
  refine go_iload_n (i := 2) (pc' := 8) dX7_collect_7 rfl rfl rfl ?_
  refine go_bipush (v := 12) (pc' := 10) dX7_collect_8 rfl (by decide) ?_
  refine go_icmp_ge (tgt := 57) (pc' := 13) dX7_collect_10 rfl (by decide) (fun c_10 => absurd c_10 (by decide)) (fun c_10 => ?_)
  refine go_iload_n (i := 1) (pc' := 14) dX7_collect_13 rfl rfl rfl ?_
  refine go_iload_n (i := 2) (pc' := 15) dX7_collect_14 rfl rfl rfl ?_
  refine go_ishr (pc' := 16) dX7_collect_15 rfl ?_
  refine go_iconst (v := 1) (pc' := 17) dX7_collect_16 rfl (by decide) ?_
  refine go_iand (pc' := 18) dX7_collect_17 rfl ?_
  refine go_iconst (v := 1) (pc' := 19) dX7_collect_18 rfl (by decide) ?_
  refine go_icmp_ne (tgt := 51) (pc' := 22) dX7_collect_19 rfl (by decide) (fun c_19 => ?_) (fun c_19 => absurd c_19 (by decide))
  refine go_iinc (c := 1) (pc' := 54) dX7_collect_51 rfl rfl (by decide) (by decide) ?_
  refine go_goto (tgt := 7) dX7_collect_54 (by decide) ?_
  refine go_iload_n (i := 2) (pc' := 8) dX7_collect_7 rfl rfl rfl ?_
  refine go_bipush (v := 12) (pc' := 10) dX7_collect_8 rfl (by decide) ?_
  refine go_icmp_ge (tgt := 57) (pc' := 13) dX7_collect_10 rfl (by decide) (fun c_10 => absurd c_10 (by decide)) (fun c_10 => ?_)
  refine go_iload_n (i := 1) (pc' := 14) dX7_collect_13 rfl rfl rfl ?_
  refine go_iload_n (i := 2) (pc' := 15) dX7_collect_14 rfl rfl rfl ?_
  refine go_ishr (pc' := 16) dX7_collect_15 rfl ?_
  refine go_iconst (v := 1) (pc' := 17) dX7_collect_16 rfl (by decide) ?_
  refine go_iand (pc' := 18) dX7_collect_17 rfl ?_
  refine go_iconst (v := 1) (pc' := 19) dX7_collect_18 rfl (by decide) ?_
  refine go_icmp_ne (tgt := 51) (pc' := 22) dX7_collect_19 rfl (by decide) (fun c_19 => ?_) (fun c_19 => absurd c_19 (by decide))
  refine go_iinc (c := 1) (pc' := 54) dX7_collect_51 rfl rfl (by decide) (by decide) ?_
  refine go_goto (tgt := 7) dX7_collect_54 (by decide) ?_
  refine go_iload_n (i := 2) (pc' := 8) dX7_collect_7 rfl rfl rfl ?_
  refine go_bipush (v := 12) (pc' := 10) dX7_collect_8 rfl (by decide) ?_
  refine go_icmp_ge (tgt := 57) (pc' := 13) dX7_collect_10 rfl (by decide) (fun c_10 => ?_) (fun c_10 => absurd (by decide) c_10)
  exact go_vret dX7_collect_57 rfl rfl
set_option maxHeartbeats 4000000 in
set_option maxRecDepth 100000 in
theorem f_X7_arrange (l : Launch) (L : WL) (σ : ST)  : CtV l L yX7_arrange cX7_arrange 4 none rm_X7_arrange [.ref (L.2.1 11), .int 0, .ref (L.2.1 3)] σ (fun σ2 => σ2 = setI (setI σ 18 0) 17 0) := by
  refine ctV_go (own := RX7) (by decide) rfl (Nat.le_of_ble_eq_true rfl) (fun F hF => ?_)
  subst hF
  refine go_aload_n (i := 0) (pc' := 1) dX7_arrange_0 rfl rfl rfl ?_
  refine go_iload_n (i := 1) (pc' := 2) dX7_arrange_1 rfl rfl rfl ?_
  refine go_cvv (pc' := 5) lk_X7_20 (f_X7_collect _ _ _) rfl rfl (Nat.le_of_ble_eq_true rfl) (by decide) rfl rfl rfl ⟨Nat.le_of_ble_eq_true rfl, Nat.le_of_ble_eq_true rfl⟩ ⟨rfl, rfl⟩ dX7_arrange_2 rfl (fun σ_2 h_2 => ?_)
  have h_2 := h_2.symm
  subst h_2
  refine go_aload_n (i := 0) (pc' := 6) dX7_arrange_5 rfl rfl rfl ?_
  refine go_iconst (v := 0) (pc' := 7) dX7_arrange_6 rfl (by decide) ?_
  refine pf_11_jumps (pc' := 10) dX7_arrange_7 rfl fl_X7_13 ?_
  refine go_aload_n (i := 0) (pc' := 11) dX7_arrange_10 rfl rfl rfl ?_
  refine gf_11_size (pc' := 14) dX7_arrange_11 rfl fl_X7_17 ?_
  refine go_if_ne (tgt := 18) (pc' := 17) dX7_arrange_14 rfl (by decide) (fun c_14 => absurd rfl c_14) (fun c_14 => ?_)
  exact go_vret dX7_arrange_17 rfl rfl
set_option maxHeartbeats 4000000 in
set_option maxRecDepth 100000 in
theorem f_X11_arrange (l : Launch) (L : WL) (σ : ST)  (h3 : σ.1 3 = 0) (h4 : σ.1 4 = 0) : CtI l L yX11_arrange cX11_arrange 2 (some .boolean) rm_X11_arrange [.ref (L.2.1 0), .int 0] σ (fun r σ2 => σ2 = setI (setI σ 18 0) 17 0 ∧ r = 1) := by
  refine ctI_go (own := RX11) (by decide) rfl (Nat.le_of_ble_eq_true rfl) (fun F hF => ?_)
  subst hF
  refine go_aload_n (i := 0) (pc' := 1) dX11_arrange_0 rfl rfl rfl ?_
  refine gf_0_calendar (pc' := 4) dX11_arrange_1 rfl fl_X11_26 ?_
  refine go_aload_n (i := 0) (pc' := 5) dX11_arrange_4 rfl rfl rfl ?_
  refine gf_0_letters (pc' := 8) dX11_arrange_5 rfl fl_X11_19 ?_
  refine go_cvi (pc' := 11) lk_X11_171 (f_X0_settle _ _ _ h3 h4) rfl rfl (Nat.le_of_ble_eq_true rfl) (by decide) rfl rfl rfl ⟨Nat.le_of_ble_eq_true rfl, Nat.le_of_ble_eq_true rfl⟩ ⟨rfl, rfl⟩ dX11_arrange_8 rfl (fun r_8 σ_8 h_8 => ?_)
  obtain ⟨e_8, h_8⟩ := h_8
  have e_8 := e_8.symm
  subst e_8
  subst h_8
  refine go_if_ne (tgt := 16) (pc' := 14) dX11_arrange_11 rfl (by decide) (fun c_11 => ?_) (fun c_11 => absurd c_11 (by decide))
  refine go_aload_n (i := 0) (pc' := 17) dX11_arrange_16 rfl rfl rfl ?_
  refine gf_0_calendar (pc' := 20) dX11_arrange_17 rfl fl_X11_26 ?_
  refine go_aload_n (i := 0) (pc' := 21) dX11_arrange_20 rfl rfl rfl ?_
  refine gf_0_letters (pc' := 24) dX11_arrange_21 rfl fl_X11_19 ?_
  refine gf_2_size (pc' := 27) dX11_arrange_24 rfl fl_X11_185 ?_
  refine go_st (st' := [.int 0, .ref (L.2.1 3)]) (by rw [h3]) ?_
  refine go_cvv (pc' := 30) lk_X11_188 (f_X0_measurePaths _ _ _ h4) rfl rfl (Nat.le_of_ble_eq_true rfl) (by decide) rfl rfl rfl ⟨Nat.le_of_ble_eq_true rfl, Nat.le_of_ble_eq_true rfl⟩ ⟨rfl, rfl⟩ dX11_arrange_27 rfl (fun σ_27 h_27 => ?_)
  have h_27 := h_27.symm
  subst h_27
  refine go_aload_n (i := 0) (pc' := 31) dX11_arrange_30 rfl rfl rfl ?_
  refine gf_0_sequence (pc' := 34) dX11_arrange_31 rfl fl_X11_78 ?_
  refine go_iload_n (i := 1) (pc' := 35) dX11_arrange_34 rfl rfl rfl ?_
  refine go_aload_n (i := 0) (pc' := 36) dX11_arrange_35 rfl rfl rfl ?_
  refine gf_0_calendar (pc' := 39) dX11_arrange_36 rfl fl_X11_26 ?_
  refine go_cvv (pc' := 42) lk_X11_338 (f_X7_arrange _ _ _) rfl rfl (Nat.le_of_ble_eq_true rfl) (by decide) rfl rfl rfl ⟨Nat.le_of_ble_eq_true rfl, Nat.le_of_ble_eq_true rfl⟩ ⟨rfl, rfl⟩ dX11_arrange_39 rfl (fun σ_39 h_39 => ?_)
  have h_39 := h_39.symm
  subst h_39
  refine go_iconst (v := 1) (pc' := 43) dX11_arrange_42 rfl (by decide) ?_
  exact go_zret dX11_arrange_43 rfl rfl ⟨rfl, rfl⟩
set_option maxHeartbeats 4000000 in
set_option maxRecDepth 100000 in
theorem c_J6_bitCount_0f7a4 (l : Launch) (L : WL) (σ : ST) (x : Int32) : CtI l L yJ6_bitCount_0f7a4 cJ6_bitCount_0f7a4 1 (some .int) rm_J6_bitCount_0f7a4 [.int x] σ (fun r σ2 => σ2 = σ ∧ (x = 0 → r = 0)) := by
  refine ctI_go (own := RJ6) (by decide) rfl (Nat.le_of_ble_eq_true rfl) (fun F hF => ?_)
  subst hF
  refine go_iload_n (i := 0) (pc' := 1) dJ6_bitCount_0f7a4_0 rfl rfl rfl ?_
  refine go_iload_n (i := 0) (pc' := 2) dJ6_bitCount_0f7a4_1 rfl rfl rfl ?_
  refine go_iconst (v := 1) (pc' := 3) dJ6_bitCount_0f7a4_2 rfl (by decide) ?_
  refine go_iushr (pc' := 4) dJ6_bitCount_0f7a4_3 rfl rfl ?_
  refine go_ldcw (pc' := 7) dJ6_bitCount_0f7a4_4 rfl cst_J6_265 ?_
  refine go_iand (pc' := 8) dJ6_bitCount_0f7a4_7 rfl ?_
  refine go_isub (pc' := 9) dJ6_bitCount_0f7a4_8 rfl ?_
  refine go_istore_n (i := 0) (pc' := 10) dJ6_bitCount_0f7a4_9 rfl rfl (by decide) ?_
  refine go_iload_n (i := 0) (pc' := 11) dJ6_bitCount_0f7a4_10 rfl rfl rfl ?_
  refine go_ldcw (pc' := 14) dJ6_bitCount_0f7a4_11 rfl cst_J6_266 ?_
  refine go_iand (pc' := 15) dJ6_bitCount_0f7a4_14 rfl ?_
  refine go_iload_n (i := 0) (pc' := 16) dJ6_bitCount_0f7a4_15 rfl rfl rfl ?_
  refine go_iconst (v := 2) (pc' := 17) dJ6_bitCount_0f7a4_16 rfl (by decide) ?_
  refine go_iushr (pc' := 18) dJ6_bitCount_0f7a4_17 rfl rfl ?_
  refine go_ldcw (pc' := 21) dJ6_bitCount_0f7a4_18 rfl cst_J6_266 ?_
  refine go_iand (pc' := 22) dJ6_bitCount_0f7a4_21 rfl ?_
  refine go_iadd (pc' := 23) dJ6_bitCount_0f7a4_22 rfl ?_
  refine go_istore_n (i := 0) (pc' := 24) dJ6_bitCount_0f7a4_23 rfl rfl (by decide) ?_
  refine go_iload_n (i := 0) (pc' := 25) dJ6_bitCount_0f7a4_24 rfl rfl rfl ?_
  refine go_iload_n (i := 0) (pc' := 26) dJ6_bitCount_0f7a4_25 rfl rfl rfl ?_
  refine go_iconst (v := 4) (pc' := 27) dJ6_bitCount_0f7a4_26 rfl (by decide) ?_
  refine go_iushr (pc' := 28) dJ6_bitCount_0f7a4_27 rfl rfl ?_
  refine go_iadd (pc' := 29) dJ6_bitCount_0f7a4_28 rfl ?_
  refine go_ldcw (pc' := 32) dJ6_bitCount_0f7a4_29 rfl cst_J6_267 ?_
  refine go_iand (pc' := 33) dJ6_bitCount_0f7a4_32 rfl ?_
  refine go_istore_n (i := 0) (pc' := 34) dJ6_bitCount_0f7a4_33 rfl rfl (by decide) ?_
  refine go_iload_n (i := 0) (pc' := 35) dJ6_bitCount_0f7a4_34 rfl rfl rfl ?_
  refine go_iload_n (i := 0) (pc' := 36) dJ6_bitCount_0f7a4_35 rfl rfl rfl ?_
  refine go_bipush (v := 8) (pc' := 38) dJ6_bitCount_0f7a4_36 rfl (by decide) ?_
  refine go_iushr (pc' := 39) dJ6_bitCount_0f7a4_38 rfl rfl ?_
  refine go_iadd (pc' := 40) dJ6_bitCount_0f7a4_39 rfl ?_
  refine go_istore_n (i := 0) (pc' := 41) dJ6_bitCount_0f7a4_40 rfl rfl (by decide) ?_
  refine go_iload_n (i := 0) (pc' := 42) dJ6_bitCount_0f7a4_41 rfl rfl rfl ?_
  refine go_iload_n (i := 0) (pc' := 43) dJ6_bitCount_0f7a4_42 rfl rfl rfl ?_
  refine go_bipush (v := 16) (pc' := 45) dJ6_bitCount_0f7a4_43 rfl (by decide) ?_
  refine go_iushr (pc' := 46) dJ6_bitCount_0f7a4_45 rfl rfl ?_
  refine go_iadd (pc' := 47) dJ6_bitCount_0f7a4_46 rfl ?_
  refine go_istore_n (i := 0) (pc' := 48) dJ6_bitCount_0f7a4_47 rfl rfl (by decide) ?_
  refine go_iload_n (i := 0) (pc' := 49) dJ6_bitCount_0f7a4_48 rfl rfl rfl ?_
  refine go_bipush (v := 63) (pc' := 51) dJ6_bitCount_0f7a4_49 rfl (by decide) ?_
  refine go_iand (pc' := 52) dJ6_bitCount_0f7a4_51 rfl ?_
  exact go_iret dJ6_bitCount_0f7a4_52 rfl ⟨rfl, fun e => by subst e; decide⟩
set_option maxHeartbeats 4000000 in
set_option maxRecDepth 100000 in
theorem f_X11_isOrderable (l : Launch) (L : WL) (σ : ST) (x : Int32) (h3 : σ.1 3 = 0) : CtI l L yX11_isOrderable cX11_isOrderable 2 (some .boolean) rm_X11_isOrderable [.ref (L.2.1 0), .int x] σ (fun r σ2 => σ2 = σ ∧ bq (x = 0) r) := by
  refine ctI_go (own := RX11) (by decide) rfl (Nat.le_of_ble_eq_true rfl) (fun F hF => ?_)
  subst hF
  refine go_iload_n (i := 1) (pc' := 1) dX11_isOrderable_0 rfl rfl rfl ?_
  refine go_aload_n (i := 0) (pc' := 2) dX11_isOrderable_1 rfl rfl rfl ?_
  refine gf_0_letters (pc' := 5) dX11_isOrderable_2 rfl fl_X11_19 ?_
  refine gf_2_size (pc' := 8) dX11_isOrderable_5 rfl fl_X11_185 ?_
  refine go_iushr (pc' := 9) dX11_isOrderable_8 rfl rfl ?_
  refine go_if_ne (tgt := 25) (pc' := 12) dX11_isOrderable_9 rfl (by decide) (fun c_9 => ?_) (fun c_9 => ?_)
  · refine go_iconst (v := 0) (pc' := 26) dX11_isOrderable_25 rfl (by decide) ?_
    exact go_zret dX11_isOrderable_26 rfl rfl ⟨rfl, by first | exact bq_t (ush0 h3 c_9) | exact bq_f (fun e => c_9 (ush1 h3 e))⟩
  refine go_iload_n (i := 1) (pc' := 13) dX11_isOrderable_12 rfl rfl rfl ?_
  refine go_csi (pc' := 16) ls_X11_219 (c_J6_bitCount_0f7a4 _ _ _ _) rfl rfl (Nat.le_of_ble_eq_true rfl) ⟨Nat.le_of_ble_eq_true rfl, Nat.le_of_ble_eq_true rfl⟩ ⟨rfl, rfl⟩ dX11_isOrderable_13 rfl (fun r_13 σ_13 h_13 => ?_)
  obtain ⟨e_13, h_13⟩ := h_13
  have e_13 := e_13.symm
  subst e_13
  refine go_bipush (v := 8) (pc' := 18) dX11_isOrderable_16 rfl (by decide) ?_
  refine go_icmp_gt (tgt := 25) (pc' := 21) dX11_isOrderable_18 rfl (by decide) (fun c_18 => absurd c_18 (by rw [h_13 (ush0 h3 c_9)]; decide)) (fun c_18 => ?_)
  refine go_iconst (v := 1) (pc' := 22) dX11_isOrderable_21 rfl (by decide) ?_
  refine go_goto (tgt := 26) dX11_isOrderable_22 (by decide) ?_
  exact go_zret dX11_isOrderable_26 rfl rfl ⟨rfl, by first | exact bq_t (ush0 h3 c_9) | exact bq_f (fun e => c_9 (ush1 h3 e))⟩
set_option maxHeartbeats 4000000 in
set_option maxRecDepth 100000 in
theorem f_X11_jumps (l : Launch) (L : WL) (σ : ST) (x : Int32) (h3 : σ.1 3 = 0) (h4 : σ.1 4 = 0) : CtI l L yX11_jumps cX11_jumps 2 (some .int) rm_X11_jumps [.ref (L.2.1 0), .int x] σ (fun r σ2 => r = (if x = 0 then 0 else -2) ∧ KM σ σ2) := by
  refine ctI_go (own := RX11) (by decide) rfl (Nat.le_of_ble_eq_true rfl) (fun F hF => ?_)
  subst hF
  refine go_aload_n (i := 0) (pc' := 1) dX11_jumps_0 rfl rfl rfl ?_
  refine go_iload_n (i := 1) (pc' := 2) dX11_jumps_1 rfl rfl rfl ?_
  refine go_cvi (pc' := 5) lk_X11_280 (f_X11_isOrderable _ _ _ _ h3) rfl rfl (Nat.le_of_ble_eq_true rfl) (by decide) rfl rfl rfl ⟨Nat.le_of_ble_eq_true rfl, Nat.le_of_ble_eq_true rfl⟩ ⟨rfl, rfl⟩ dX11_jumps_2 rfl (fun r_2 σ_2 h_2 => ?_)
  obtain ⟨e_2, h_2⟩ := h_2
  have e_2 := e_2.symm
  subst e_2
  refine go_neB (tgt := 11) (pc' := 8) h_2 dX11_jumps_5 rfl (by decide) (fun c_5 => ?_) (fun c_5 => ?_)
  · subst c_5
    refine go_aload_n (i := 0) (pc' := 12) dX11_jumps_11 rfl rfl rfl ?_
    refine go_iload_n (i := 1) (pc' := 13) dX11_jumps_12 rfl rfl rfl ?_
    refine go_cvi (pc' := 16) lk_X11_283 (f_X11_arrange _ _ _ h3 h4) rfl rfl (Nat.le_of_ble_eq_true rfl) (by decide) rfl rfl rfl ⟨Nat.le_of_ble_eq_true rfl, Nat.le_of_ble_eq_true rfl⟩ ⟨rfl, rfl⟩ dX11_jumps_13 rfl (fun r_13 σ_13 h_13 => ?_)
    obtain ⟨e_13, h_13⟩ := h_13
    have e_13 := e_13.symm
    subst e_13
    subst h_13
    refine go_if_eq (tgt := 29) (pc' := 19) dX11_jumps_16 rfl (by decide) (fun c_16 => absurd c_16 (by decide)) (fun c_16 => ?_)
    refine go_aload_n (i := 0) (pc' := 20) dX11_jumps_19 rfl rfl rfl ?_
    refine gf_0_sequence (pc' := 23) dX11_jumps_20 rfl fl_X11_78 ?_
    refine gf_11_jumps (pc' := 26) dX11_jumps_23 rfl fl_X11_286 ?_
    refine go_goto (tgt := 30) dX11_jumps_26 (by decide) ?_
    exact go_iret dX11_jumps_30 rfl ⟨rfl, (by repeat (first | exact KM_rfl _ | refine KM_setI ?_ (by decide) | refine KM_setA ?_ (by decide)))⟩
  refine go_bipush (v := (-2)) (pc' := 10) dX11_jumps_8 rfl (by decide) ?_
  exact go_iret dX11_jumps_10 rfl ⟨(if_neg c_5).symm, (by repeat (first | exact KM_rfl _ | refine KM_setI ?_ (by decide) | refine KM_setA ?_ (by decide)))⟩
set_option maxHeartbeats 4000000 in
set_option maxRecDepth 100000 in
theorem f_X11_order (l : Launch) (L : WL) (σ : ST) (x i : Int32) (h3 : σ.1 3 = 0) (h4 : σ.1 4 = 0) : CtI l L yX11_order cX11_order 3 (some .int) rm_X11_order [.ref (L.2.1 0), .int x, .int i] σ (fun r σ2 => r = (if x = 0 then -1 else -2) ∧ KM σ σ2) := by
  refine ctI_go (own := RX11) (by decide) rfl (Nat.le_of_ble_eq_true rfl) (fun F hF => ?_)
  subst hF
  refine go_aload_n (i := 0) (pc' := 1) dX11_order_0 rfl rfl rfl ?_
  refine go_iload_n (i := 1) (pc' := 2) dX11_order_1 rfl rfl rfl ?_
  refine go_cvi (pc' := 5) lk_X11_280 (f_X11_isOrderable _ _ _ _ h3) rfl rfl (Nat.le_of_ble_eq_true rfl) (by decide) rfl rfl rfl ⟨Nat.le_of_ble_eq_true rfl, Nat.le_of_ble_eq_true rfl⟩ ⟨rfl, rfl⟩ dX11_order_2 rfl (fun r_2 σ_2 h_2 => ?_)
  obtain ⟨e_2, h_2⟩ := h_2
  have e_2 := e_2.symm
  subst e_2
  refine go_neB (tgt := 11) (pc' := 8) h_2 dX11_order_5 rfl (by decide) (fun c_5 => ?_) (fun c_5 => ?_)
  · subst c_5
    refine go_iload_n (i := 2) (pc' := 12) dX11_order_11 rfl rfl rfl ?_
    refine go_if_lt (tgt := 43) (pc' := 15) dX11_order_12 rfl (by decide) (fun c_12 => ?_) (fun c_12 => ?_)
    · refine go_iconst (v := (-1)) (pc' := 44) dX11_order_43 rfl (by decide) ?_
      exact go_iret dX11_order_44 rfl ⟨rfl, (by repeat (first | exact KM_rfl _ | refine KM_setI ?_ (by decide) | refine KM_setA ?_ (by decide)))⟩
    refine go_iload_n (i := 2) (pc' := 16) dX11_order_15 rfl rfl rfl ?_
    refine go_iload_n (i := 1) (pc' := 17) dX11_order_16 rfl rfl rfl ?_
    refine go_csi (pc' := 20) ls_X11_219 (c_J6_bitCount_0f7a4 _ _ _ _) rfl rfl (Nat.le_of_ble_eq_true rfl) ⟨Nat.le_of_ble_eq_true rfl, Nat.le_of_ble_eq_true rfl⟩ ⟨rfl, rfl⟩ dX11_order_17 rfl (fun r_17 σ_17 h_17 => ?_)
    obtain ⟨e_17, h_17⟩ := h_17
    have e_17 := e_17.symm
    subst e_17
    refine go_icmp_ge (tgt := 43) (pc' := 23) dX11_order_20 rfl (by decide) (fun c_20 => ?_) (fun c_20 => absurd (by rw [h_17 rfl]; (try simp only [Int32.lt_iff_toInt_lt, Int32.le_iff_toInt_le, ← Int32.toInt_inj, ge_iff_le, gt_iff_lt, ne_eq, Int32.reduceToInt] at *); omega) c_20)
    refine go_iconst (v := (-1)) (pc' := 44) dX11_order_43 rfl (by decide) ?_
    exact go_iret dX11_order_44 rfl ⟨rfl, (by repeat (first | exact KM_rfl _ | refine KM_setI ?_ (by decide) | refine KM_setA ?_ (by decide)))⟩
  refine go_bipush (v := (-2)) (pc' := 10) dX11_order_8 rfl (by decide) ?_
  exact go_iret dX11_order_10 rfl ⟨(if_neg c_5).symm, (by repeat (first | exact KM_rfl _ | refine KM_setI ?_ (by decide) | refine KM_setA ?_ (by decide)))⟩
set_option maxHeartbeats 4000000 in
set_option maxRecDepth 100000 in
theorem f_X11_post (l : Launch) (L : WL) (σ : ST) (a b u v : Int32) : CtI l L yX11_post cX11_post 5 (some .int) rm_X11_post [.ref (L.2.1 0), .int a, .int b, .int u, .int v] σ (fun r σ2 => r = (if (0 ≤ a.toInt ∧ a.toInt < 6) ∧ (0 ≤ b.toInt ∧ b.toInt < 6) ∧ (0 ≤ u.toInt ∧ u.toInt ≤ 400) ∧ (0 ≤ v.toInt ∧ v.toInt ≤ 400) ∧ u.toInt ≤ v.toInt then 1 else -2) ∧ KM σ σ2) := by
  refine ctI_go (own := RX11) (by decide) rfl (Nat.le_of_ble_eq_true rfl) (fun F hF => ?_)
  subst hF
  refine go_iload_n (i := 1) (pc' := 1) dX11_post_0 rfl rfl rfl ?_
  refine go_csi (pc' := 4) ls_X11_100 (c_X11_isPlace _ _ _ _) rfl rfl (Nat.le_of_ble_eq_true rfl) ⟨Nat.le_of_ble_eq_true rfl, Nat.le_of_ble_eq_true rfl⟩ ⟨rfl, rfl⟩ dX11_post_1 rfl (fun r_1 σ_1 h_1 => ?_)
  obtain ⟨e_1, h_1⟩ := h_1
  have e_1 := e_1.symm
  subst e_1
  refine go_eqB (tgt := 35) (pc' := 7) h_1 dX11_post_4 rfl (by decide) (fun c_4 => ?_) (fun c_4 => ?_)
  · refine go_bipush (v := (-2)) (pc' := 37) dX11_post_35 rfl (by decide) ?_
    exact go_iret dX11_post_37 rfl ⟨(by split <;> first | rfl | (exfalso; (try simp only [Int32.lt_iff_toInt_lt, Int32.le_iff_toInt_le, ← Int32.toInt_inj, ge_iff_le, gt_iff_lt, ne_eq, Int32.reduceToInt] at *); omega)), (by repeat (first | exact KM_rfl _ | refine KM_setI ?_ (by decide) | refine KM_setA ?_ (by decide)))⟩
  refine go_iload_n (i := 2) (pc' := 8) dX11_post_7 rfl rfl rfl ?_
  refine go_csi (pc' := 11) ls_X11_100 (c_X11_isPlace _ _ _ _) rfl rfl (Nat.le_of_ble_eq_true rfl) ⟨Nat.le_of_ble_eq_true rfl, Nat.le_of_ble_eq_true rfl⟩ ⟨rfl, rfl⟩ dX11_post_8 rfl (fun r_8 σ_8 h_8 => ?_)
  obtain ⟨e_8, h_8⟩ := h_8
  have e_8 := e_8.symm
  subst e_8
  refine go_eqB (tgt := 35) (pc' := 14) h_8 dX11_post_11 rfl (by decide) (fun c_11 => ?_) (fun c_11 => ?_)
  · refine go_bipush (v := (-2)) (pc' := 37) dX11_post_35 rfl (by decide) ?_
    exact go_iret dX11_post_37 rfl ⟨(by split <;> first | rfl | (exfalso; (try simp only [Int32.lt_iff_toInt_lt, Int32.le_iff_toInt_le, ← Int32.toInt_inj, ge_iff_le, gt_iff_lt, ne_eq, Int32.reduceToInt] at *); omega)), (by repeat (first | exact KM_rfl _ | refine KM_setI ?_ (by decide) | refine KM_setA ?_ (by decide)))⟩
  refine go_iload_n (i := 3) (pc' := 15) dX11_post_14 rfl rfl rfl ?_
  refine go_csi (pc' := 18) ls_X11_196 (c_X5_isTime _ _ _ _) rfl rfl (Nat.le_of_ble_eq_true rfl) ⟨Nat.le_of_ble_eq_true rfl, Nat.le_of_ble_eq_true rfl⟩ ⟨rfl, rfl⟩ dX11_post_15 rfl (fun r_15 σ_15 h_15 => ?_)
  obtain ⟨e_15, h_15⟩ := h_15
  have e_15 := e_15.symm
  subst e_15
  refine go_eqB (tgt := 35) (pc' := 21) h_15 dX11_post_18 rfl (by decide) (fun c_18 => ?_) (fun c_18 => ?_)
  · refine go_bipush (v := (-2)) (pc' := 37) dX11_post_35 rfl (by decide) ?_
    exact go_iret dX11_post_37 rfl ⟨(by split <;> first | rfl | (exfalso; (try simp only [Int32.lt_iff_toInt_lt, Int32.le_iff_toInt_le, ← Int32.toInt_inj, ge_iff_le, gt_iff_lt, ne_eq, Int32.reduceToInt] at *); omega)), (by repeat (first | exact KM_rfl _ | refine KM_setI ?_ (by decide) | refine KM_setA ?_ (by decide)))⟩
  refine go_iload (pc' := 23) dX11_post_21 rfl rfl ?_
  refine go_csi (pc' := 26) ls_X11_196 (c_X5_isTime _ _ _ _) rfl rfl (Nat.le_of_ble_eq_true rfl) ⟨Nat.le_of_ble_eq_true rfl, Nat.le_of_ble_eq_true rfl⟩ ⟨rfl, rfl⟩ dX11_post_23 rfl (fun r_23 σ_23 h_23 => ?_)
  obtain ⟨e_23, h_23⟩ := h_23
  have e_23 := e_23.symm
  subst e_23
  refine go_eqB (tgt := 35) (pc' := 29) h_23 dX11_post_26 rfl (by decide) (fun c_26 => ?_) (fun c_26 => ?_)
  · refine go_bipush (v := (-2)) (pc' := 37) dX11_post_35 rfl (by decide) ?_
    exact go_iret dX11_post_37 rfl ⟨(by split <;> first | rfl | (exfalso; (try simp only [Int32.lt_iff_toInt_lt, Int32.le_iff_toInt_le, ← Int32.toInt_inj, ge_iff_le, gt_iff_lt, ne_eq, Int32.reduceToInt] at *); omega)), (by repeat (first | exact KM_rfl _ | refine KM_setI ?_ (by decide) | refine KM_setA ?_ (by decide)))⟩
  refine go_iload_n (i := 3) (pc' := 30) dX11_post_29 rfl rfl rfl ?_
  refine go_iload (pc' := 32) dX11_post_30 rfl rfl ?_
  refine go_icmp_le (tgt := 38) (pc' := 35) dX11_post_32 rfl (by decide) (fun c_32 => ?_) (fun c_32 => ?_)
  · refine go_aload_n (i := 0) (pc' := 39) dX11_post_38 rfl rfl rfl ?_
    refine gf_0_posts (pc' := 42) dX11_post_39 rfl fl_X11_33 ?_
    refine gf_4_leasts (pc' := 45) dX11_post_42 rfl fl_X11_199 ?_
    refine go_iload_n (i := 1) (pc' := 46) dX11_post_45 rfl rfl rfl ?_
    refine go_aald (b := 80) (pc' := 47) dX11_post_46 rfl (by decide) (by decide) ⟨_, rfl⟩ (vin_of (n := 6) c_4.1 c_4.2) rfl ?_
    refine go_iload_n (i := 2) (pc' := 48) dX11_post_47 rfl rfl rfl ?_
    refine go_iload_n (i := 3) (pc' := 49) dX11_post_48 rfl rfl rfl ?_
    refine go_iast (pc' := 50) dX11_post_49 rfl (by have := vinlt (vin_of (n := 6) c_4.1 c_4.2); omega) (by have := vinlt (vin_of (n := 6) c_4.1 c_4.2); omega) (rowt_80 (vinlt (vin_of (n := 6) c_4.1 c_4.2))) (by rw [rowl_80 (vinlt (vin_of (n := 6) c_4.1 c_4.2))]; exact vin_of c_11.1 c_11.2) ?_
    refine go_aload_n (i := 0) (pc' := 51) dX11_post_50 rfl rfl rfl ?_
    refine gf_0_posts (pc' := 54) dX11_post_51 rfl fl_X11_33 ?_
    refine gf_4_mosts (pc' := 57) dX11_post_54 rfl fl_X11_202 ?_
    refine go_iload_n (i := 1) (pc' := 58) dX11_post_57 rfl rfl rfl ?_
    refine go_aald (b := 86) (pc' := 59) dX11_post_58 rfl (by decide) (by decide) ⟨_, rfl⟩ (vin_of (n := 6) c_4.1 c_4.2) rfl ?_
    refine go_iload_n (i := 2) (pc' := 60) dX11_post_59 rfl rfl rfl ?_
    refine go_iload (pc' := 62) dX11_post_60 rfl rfl ?_
    refine go_iast (pc' := 63) dX11_post_62 rfl (by have := vinlt (vin_of (n := 6) c_4.1 c_4.2); omega) (by have := vinlt (vin_of (n := 6) c_4.1 c_4.2); omega) (rowt_86 (vinlt (vin_of (n := 6) c_4.1 c_4.2))) (by rw [rowl_86 (vinlt (vin_of (n := 6) c_4.1 c_4.2))]; exact vin_of c_11.1 c_11.2) ?_
    refine go_iconst (v := 1) (pc' := 64) dX11_post_63 rfl (by decide) ?_
    exact go_iret dX11_post_64 rfl ⟨(by split <;> first | rfl | (exfalso; (try simp only [Int32.lt_iff_toInt_lt, Int32.le_iff_toInt_le, ← Int32.toInt_inj, ge_iff_le, gt_iff_lt, ne_eq, Int32.reduceToInt] at *); omega)), KM_setA (KM_setA (KM_rfl _) (by have := vinlt (vin_of (n := 6) c_4.1 c_4.2); omega)) (by have := vinlt (vin_of (n := 6) c_4.1 c_4.2); omega)⟩
  refine go_bipush (v := (-2)) (pc' := 37) dX11_post_35 rfl (by decide) ?_
  exact go_iret dX11_post_37 rfl ⟨(by split <;> first | rfl | (exfalso; (try simp only [Int32.lt_iff_toInt_lt, Int32.le_iff_toInt_le, ← Int32.toInt_inj, ge_iff_le, gt_iff_lt, ne_eq, Int32.reduceToInt] at *); omega)), (by repeat (first | exact KM_rfl _ | refine KM_setI ?_ (by decide) | refine KM_setA ?_ (by decide)))⟩
set_option maxHeartbeats 4000000 in
set_option maxRecDepth 100000 in
theorem c_X8_add (l : Launch) (L : WL) (σ : ST) (b : Int32) (hv : vp_in (σ.1 6) 160) : CtV l L yX8_add cX8_add 2 none rm_X8_add [.ref (L.2.1 6), .int b] σ (fun σ2 => σ2 = setI (setA σ 43 (σ.1 6).toNatClampNeg b.toInt8.toInt32) 6 (σ.1 6 + 1)) := by
  refine ctV_go (own := RX8) (by decide) rfl (Nat.le_of_ble_eq_true rfl) (fun F hF => ?_)
  subst hF
  refine go_aload_n (i := 0) (pc' := 1) dX8_add_0 rfl rfl rfl ?_
  refine gf_6_size (pc' := 4) dX8_add_1 rfl fl_X8_15 ?_
  refine go_sipush (v := 160) (pc' := 7) dX8_add_4 rfl (by decide) ?_
  refine go_icmp_ge (tgt := 30) (pc' := 10) dX8_add_7 rfl (by decide) (fun c_7 => absurd c_7 (by have h9 := vp_in_iff.mp hv; (try simp only [Int32.lt_iff_toInt_lt, Int32.le_iff_toInt_le, ← Int32.toInt_inj, ge_iff_le, gt_iff_lt, ne_eq, Int32.reduceToInt] at *); omega)) (fun c_7 => ?_)
  refine go_aload_n (i := 0) (pc' := 11) dX8_add_10 rfl rfl rfl ?_
  refine gf_6_bytes (pc' := 14) dX8_add_11 rfl fl_X8_9 ?_
  refine go_aload_n (i := 0) (pc' := 15) dX8_add_14 rfl rfl rfl ?_
  refine gf_6_size (pc' := 18) dX8_add_15 rfl fl_X8_15 ?_
  refine go_iload_n (i := 1) (pc' := 19) dX8_add_18 rfl rfl rfl ?_
  refine go_bast (pc' := 20) dX8_add_19 rfl (by decide) (by decide) rfl hv ?_
  refine go_aload_n (i := 0) (pc' := 21) dX8_add_20 rfl rfl rfl ?_
  refine go_dup (pc' := 22) dX8_add_21 rfl rfl ?_
  refine gf_6_size (pc' := 25) dX8_add_22 rfl fl_X8_15 ?_
  refine go_iconst (v := 1) (pc' := 26) dX8_add_25 rfl (by decide) ?_
  refine go_iadd (pc' := 27) dX8_add_26 rfl ?_
  refine pf_6_size (pc' := 30) dX8_add_27 rfl fl_X8_15 ?_
  exact go_vret dX8_add_30 rfl rfl
set_option maxHeartbeats 4000000 in
set_option maxRecDepth 100000 in
theorem f_X11_feed (l : Launch) (L : WL) (σ : ST) (n : Int32) (b : Int64) (h6 : σ.1 6 = 0) : CtI l L yX11_feed cX11_feed 5 (some .int) rm_X11_feed [.ref (L.2.1 0), .int n, .long b] σ (fun r σ2 => r = (if 1 ≤ n.toInt ∧ n.toInt ≤ 8 then n else -2) ∧ KM σ σ2) := by
  refine ctI_go (own := RX11) (by decide) rfl (Nat.le_of_ble_eq_true rfl) (fun F hF => ?_)
  subst hF
  have loop : ∀ k : Nat, k ≤ 8 → n = nI k → (1 ≤ n.toInt ∧ n.toInt ≤ 8) → ∀ (d i : Nat) (σ1 : ST), i + d = k → σ1.1 6 = nI i → KM σ σ1 → Go F L RX11 cX11_feed 5 rm_X11_feed (some .int) (RI F L (fun r σ2 => r = (if 1 ≤ n.toInt ∧ n.toInt ≤ 8 then n else -2) ∧ KM σ σ2)) σ1 35 [(0, .ref (L.2.1 0)), (1, .int (nI k)), (2, .long b), (4, .int (nI i))] [] := by
    intro k hk hn hr d
    induction d with
    | zero =>
      intro i σ1 hi hs hkm
      refine go_iload (pc' := 37) dX11_feed_35 rfl rfl ?_
      refine go_iload_n (i := 1) (pc' := 38) dX11_feed_37 rfl rfl rfl ?_
      refine go_icmp_ge (tgt := 63) (pc' := 41) dX11_feed_38 rfl (by decide) (fun c_38 => ?_) (fun c_38 => absurd (by exact nI_le (by omega) (by omega)) c_38)
      refine go_aload_n (i := 0) (pc' := 64) dX11_feed_63 rfl rfl rfl ?_
      refine gf_0_tape (pc' := 67) dX11_feed_64 rfl fl_X11_47 ?_
      refine gf_6_size (pc' := 70) dX11_feed_67 rfl fl_X11_234 ?_
      exact go_iret dX11_feed_70 rfl ⟨(by rw [hs, if_pos hr, hn, show i = k by omega]), hkm⟩
    | succ d ih =>
      intro i σ1 hi hs hkm
      refine go_iload (pc' := 37) dX11_feed_35 rfl rfl ?_
      refine go_iload_n (i := 1) (pc' := 38) dX11_feed_37 rfl rfl rfl ?_
      refine go_icmp_ge (tgt := 63) (pc' := 41) dX11_feed_38 rfl (by decide) (fun c_38 => absurd c_38 (by exact nI_ge (by omega) (by omega))) (fun c_38 => ?_)
      refine go_aload_n (i := 0) (pc' := 42) dX11_feed_41 rfl rfl rfl ?_
      refine gf_0_tape (pc' := 45) dX11_feed_42 rfl fl_X11_47 ?_
      refine go_lload_n (i := 2) (pc' := 46) dX11_feed_45 rfl rfl rfl ?_
      refine go_bipush (v := 8) (pc' := 48) dX11_feed_46 rfl (by decide) ?_
      refine go_iload (pc' := 50) dX11_feed_48 rfl rfl ?_
      refine go_imul (pc' := 51) dX11_feed_50 rfl ?_
      refine go_lushr (pc' := 52) dX11_feed_51 rfl rfl ?_
      refine go_l2i (pc' := 53) dX11_feed_52 rfl ?_
      refine go_i2b (pc' := 54) dX11_feed_53 rfl ?_
      refine go_cvv (pc' := 57) lk_X11_235 (c_X8_add _ _ _ _ (by rw [hs]; exact vp_in_nI (by omega) (by omega))) rfl rfl (Nat.le_of_ble_eq_true rfl) (by decide) rfl rfl rfl ⟨Nat.le_of_ble_eq_true rfl, Nat.le_of_ble_eq_true rfl⟩ ⟨rfl, rfl⟩ dX11_feed_54 rfl (fun σ_54 h_54 => ?_)
      have h_54 := h_54.symm
      subst h_54
      refine go_iinc (c := 1) (pc' := 60) dX11_feed_57 rfl rfl (by decide) (by decide) ?_
      refine go_goto (tgt := 35) dX11_feed_60 (by decide) ?_
      exact go_lv (lv' := [(0, .ref (L.2.1 0)), (1, .int (nI k)), (2, .long b), (4, .int (nI (i + 1)))]) (by rw [nI_succ]; rfl) (ih (i + 1) _ (by omega) (by show σ1.1 6 + 1 = nI (i + 1); rw [hs, nI_succ]) (KM_setI (KM_setA hkm (by decide)) (by decide)))
  have feed2 : (1 ≤ n.toInt ∧ n.toInt ≤ 8) → Go F L RX11 cX11_feed 5 rm_X11_feed (some .int) (RI F L (fun r σ2 => r = (if 1 ≤ n.toInt ∧ n.toInt ≤ 8 then n else -2) ∧ KM σ σ2)) σ 35 [(0, .ref (L.2.1 0)), (1, .int n), (2, .long b), (4, .int (nI 0))] [] := by
    intro hr
    obtain ⟨k, hk, rfl⟩ := nI_of2 (x := n) (M := 8) (n := 8) (by decide) (by (try simp only [Int32.lt_iff_toInt_lt, Int32.le_iff_toInt_le, ← Int32.toInt_inj, ge_iff_le, gt_iff_lt, ne_eq, Int32.reduceToInt] at *); omega) (by (try simp only [Int32.lt_iff_toInt_lt, Int32.le_iff_toInt_le, ← Int32.toInt_inj, ge_iff_le, gt_iff_lt, ne_eq, Int32.reduceToInt] at *); omega)
    exact loop k hk rfl hr k 0 σ (by omega) h6 (KM_rfl _)
  refine go_iload_n (i := 1) (pc' := 1) dX11_feed_0 rfl rfl rfl ?_
  refine go_iconst (v := 1) (pc' := 2) dX11_feed_1 rfl (by decide) ?_
  refine go_icmp_lt (tgt := 11) (pc' := 5) dX11_feed_2 rfl (by decide) (fun c_2 => ?_) (fun c_2 => ?_)
  · refine go_bipush (v := (-2)) (pc' := 13) dX11_feed_11 rfl (by decide) ?_
    exact go_iret dX11_feed_13 rfl ⟨(by split <;> first | rfl | (exfalso; (try simp only [Int32.lt_iff_toInt_lt, Int32.le_iff_toInt_le, ← Int32.toInt_inj, ge_iff_le, gt_iff_lt, ne_eq, Int32.reduceToInt] at *); omega)), (by repeat (first | exact KM_rfl _ | refine KM_setI ?_ (by decide) | refine KM_setA ?_ (by decide)))⟩
  refine go_iload_n (i := 1) (pc' := 6) dX11_feed_5 rfl rfl rfl ?_
  refine go_bipush (v := 8) (pc' := 8) dX11_feed_6 rfl (by decide) ?_
  refine go_icmp_le (tgt := 14) (pc' := 11) dX11_feed_8 rfl (by decide) (fun c_8 => ?_) (fun c_8 => ?_)
  · refine go_iload_n (i := 1) (pc' := 15) dX11_feed_14 rfl rfl rfl ?_
    refine go_sipush (v := 160) (pc' := 18) dX11_feed_15 rfl (by decide) ?_
    refine go_aload_n (i := 0) (pc' := 19) dX11_feed_18 rfl rfl rfl ?_
    refine gf_0_tape (pc' := 22) dX11_feed_19 rfl fl_X11_47 ?_
    refine gf_6_size (pc' := 25) dX11_feed_22 rfl fl_X11_234 ?_
    refine go_isub (pc' := 26) dX11_feed_25 rfl ?_
    refine go_icmp_le (tgt := 32) (pc' := 29) dX11_feed_26 rfl (by decide) (fun c_26 => ?_) (fun c_26 => absurd (by rw [h6, show (160 : Int32) - 0 = 160 from by decide]; (try simp only [Int32.lt_iff_toInt_lt, Int32.le_iff_toInt_le, ← Int32.toInt_inj, ge_iff_le, gt_iff_lt, ne_eq, Int32.reduceToInt] at *); omega) c_26)
    refine go_iconst (v := 0) (pc' := 33) dX11_feed_32 rfl (by decide) ?_
    refine go_istore (pc' := 35) dX11_feed_33 rfl (by decide) ?_
    exact go_lv (lv' := [(0, .ref (L.2.1 0)), (1, .int n), (2, .long b), (4, .int (nI 0))]) rfl (feed2 (by (try simp only [Int32.lt_iff_toInt_lt, Int32.le_iff_toInt_le, ← Int32.toInt_inj, ge_iff_le, gt_iff_lt, ne_eq, Int32.reduceToInt] at *); omega))
  refine go_bipush (v := (-2)) (pc' := 13) dX11_feed_11 rfl (by decide) ?_
  exact go_iret dX11_feed_13 rfl ⟨(by split <;> first | rfl | (exfalso; (try simp only [Int32.lt_iff_toInt_lt, Int32.le_iff_toInt_le, ← Int32.toInt_inj, ge_iff_le, gt_iff_lt, ne_eq, Int32.reduceToInt] at *); omega)), (by repeat (first | exact KM_rfl _ | refine KM_setI ?_ (by decide) | refine KM_setA ?_ (by decide)))⟩
set_option maxHeartbeats 4000000 in
set_option maxRecDepth 100000 in
theorem f_X11_fault (l : Launch) (L : WL) (σ : ST) (x : Int32) (h0 : σ.1 0 = 0) (h1 : σ.1 1 = -1) : CtI l L yX11_fault cX11_fault 2 (some .int) rm_X11_fault [.ref (L.2.1 0), .int x] σ (fun r σ2 => r = (if x = 0 then 0 else if x = 1 then -1 else -2) ∧ KM σ σ2) := by
  refine ctI_go (own := RX11) (by decide) rfl (Nat.le_of_ble_eq_true rfl) (fun F hF => ?_)
  subst hF
  refine go_iload_n (i := 1) (pc' := 1) dX11_fault_0 rfl rfl rfl ?_
  refine go_if_ne (tgt := 9) (pc' := 4) dX11_fault_1 rfl (by decide) (fun c_1 => ?_) (fun c_1 => ?_)
  · refine go_iload_n (i := 1) (pc' := 10) dX11_fault_9 rfl rfl rfl ?_
    refine go_iconst (v := 1) (pc' := 11) dX11_fault_10 rfl (by decide) ?_
    refine go_icmp_ne (tgt := 21) (pc' := 14) dX11_fault_11 rfl (by decide) (fun c_11 => ?_) (fun c_11 => ?_)
    · refine go_bipush (v := (-2)) (pc' := 23) dX11_fault_21 rfl (by decide) ?_
      exact go_iret dX11_fault_23 rfl ⟨(by first | (show σ.1 1 = _; rw [h1, if_neg c_1, if_pos c_11]; done) | (rw [if_neg c_1, if_neg c_11])), (by repeat (first | exact KM_rfl _ | refine KM_setI ?_ (by decide) | refine KM_setA ?_ (by decide)))⟩
    refine go_aload_n (i := 0) (pc' := 15) dX11_fault_14 rfl rfl rfl ?_
    refine gf_0_faultPlace (pc' := 18) dX11_fault_15 rfl fl_X11_93 ?_
    refine go_goto (tgt := 23) dX11_fault_18 (by decide) ?_
    exact go_iret dX11_fault_23 rfl ⟨(by first | (show σ.1 1 = _; rw [h1, if_neg c_1, if_pos c_11]; done) | (rw [if_neg c_1, if_neg c_11])), (by repeat (first | exact KM_rfl _ | refine KM_setI ?_ (by decide) | refine KM_setA ?_ (by decide)))⟩
  refine go_aload_n (i := 0) (pc' := 5) dX11_fault_4 rfl rfl rfl ?_
  refine gf_0_faultKind (pc' := 8) dX11_fault_5 rfl fl_X11_89 ?_
  exact go_iret dX11_fault_8 rfl ⟨(by show σ.1 0 = _; rw [h0, if_pos c_1]), (by repeat (first | exact KM_rfl _ | refine KM_setI ?_ (by decide) | refine KM_setA ?_ (by decide)))⟩
set_option maxHeartbeats 4000000 in
set_option maxRecDepth 100000 in
theorem f_X2_stillLost (l : Launch) (L : WL) (σ : ST)  (h3 : σ.1 3 = 0) : CtI l L yX2_stillLost cX2_stillLost 3 (some .int) rm_X2_stillLost [.ref (L.2.1 2)] σ (fun r σ2 => σ2 = σ ∧ r = 0) := by
  refine ctI_go (own := RX2) (by decide) rfl (Nat.le_of_ble_eq_true rfl) (fun F hF => ?_)
  subst hF
  refine go_iconst (v := 0) (pc' := 1) dX2_stillLost_0 rfl (by decide) ?_
  refine go_istore_n (i := 1) (pc' := 2) dX2_stillLost_1 rfl rfl (by decide) ?_
  refine go_iconst (v := 0) (pc' := 3) dX2_stillLost_2 rfl (by decide) ?_
  refine go_istore_n (i := 2) (pc' := 4) dX2_stillLost_3 rfl rfl (by decide) ?_
  refine go_iload_n (i := 2) (pc' := 5) dX2_stillLost_4 rfl rfl rfl ?_
  refine go_aload_n (i := 0) (pc' := 6) dX2_stillLost_5 rfl rfl rfl ?_
  refine gf_2_size (pc' := 9) dX2_stillLost_6 rfl fl_X2_44 ?_
  refine go_icmp_ge (tgt := 39) (pc' := 12) dX2_stillLost_9 rfl (by decide) (fun c_9 => ?_) (fun c_9 => absurd (by rw [h3]; decide) c_9)
  refine go_iload_n (i := 1) (pc' := 40) dX2_stillLost_39 rfl rfl rfl ?_
  exact go_iret dX2_stillLost_40 rfl ⟨rfl, rfl⟩
set_option maxHeartbeats 4000000 in
set_option maxRecDepth 100000 in
theorem f_X11_count (l : Launch) (L : WL) (σ : ST) (x : Int32) (h2 : σ.1 2 = 0) (h3 : σ.1 3 = 0) (h4 : σ.1 4 = 0) (h5 : σ.1 5 = 0) (h6 : σ.1 6 = 0) : CtI l L yX11_count cX11_count 2 (some .int) rm_X11_count [.ref (L.2.1 0), .int x] σ (fun r σ2 => r = (if 0 ≤ x.toInt ∧ x.toInt ≤ 5 then 0 else -2) ∧ KM σ σ2) := by
  refine ctI_go (own := RX11) (by decide) rfl (Nat.le_of_ble_eq_true rfl) (fun F hF => ?_)
  subst hF
  refine go_iload_n (i := 1) (pc' := 1) dX11_count_0 rfl rfl rfl ?_
  have hx6 : x = 0 ∨ x = 1 ∨ x = 2 ∨ x = 3 ∨ x = 4 ∨ x = 5 ∨ ¬ (0 ≤ x.toInt ∧ x.toInt ≤ 5) := by
    (try simp only [Int32.lt_iff_toInt_lt, Int32.le_iff_toInt_le, ← Int32.toInt_inj, ge_iff_le, gt_iff_lt, ne_eq, Int32.reduceToInt] at *); omega
  rcases hx6 with rfl | rfl | rfl | rfl | rfl | rfl | hx6
  · refine go_swIn (tgt := 40) dX11_count_1 (by decide) (by decide) rfl (by decide) ?_
    refine go_aload_n (i := 0) (pc' := 41) dX11_count_40 rfl rfl rfl ?_
    refine gf_0_people (pc' := 44) dX11_count_41 rfl fl_X11_10 ?_
    refine gf_1_size (pc' := 47) dX11_count_44 rfl fl_X11_292 ?_
    exact go_iret dX11_count_47 rfl ⟨(by show σ.1 2 = _; rw [h2]; decide), (by repeat (first | exact KM_rfl _ | refine KM_setI ?_ (by decide) | refine KM_setA ?_ (by decide)))⟩
  · refine go_swIn (tgt := 48) dX11_count_1 (by decide) (by decide) rfl (by decide) ?_
    refine go_aload_n (i := 0) (pc' := 49) dX11_count_48 rfl rfl rfl ?_
    refine gf_0_letters (pc' := 52) dX11_count_49 rfl fl_X11_19 ?_
    refine gf_2_size (pc' := 55) dX11_count_52 rfl fl_X11_185 ?_
    exact go_iret dX11_count_55 rfl ⟨(by show σ.1 3 = _; rw [h3]; decide), (by repeat (first | exact KM_rfl _ | refine KM_setI ?_ (by decide) | refine KM_setA ?_ (by decide)))⟩
  · refine go_swIn (tgt := 56) dX11_count_1 (by decide) (by decide) rfl (by decide) ?_
    refine go_aload_n (i := 0) (pc' := 57) dX11_count_56 rfl rfl rfl ?_
    refine gf_0_calendar (pc' := 60) dX11_count_57 rfl fl_X11_26 ?_
    refine gf_3_size (pc' := 63) dX11_count_60 rfl fl_X11_293 ?_
    exact go_iret dX11_count_63 rfl ⟨(by show σ.1 4 = _; rw [h4]; decide), (by repeat (first | exact KM_rfl _ | refine KM_setI ?_ (by decide) | refine KM_setA ?_ (by decide)))⟩
  · refine go_swIn (tgt := 64) dX11_count_1 (by decide) (by decide) rfl (by decide) ?_
    refine go_aload_n (i := 0) (pc' := 65) dX11_count_64 rfl rfl rfl ?_
    refine gf_0_letters (pc' := 68) dX11_count_65 rfl fl_X11_19 ?_
    refine go_cvi (pc' := 71) lk_X11_294 (f_X2_stillLost _ _ _ h3) rfl rfl (Nat.le_of_ble_eq_true rfl) (by decide) rfl rfl rfl ⟨Nat.le_of_ble_eq_true rfl, Nat.le_of_ble_eq_true rfl⟩ ⟨rfl, rfl⟩ dX11_count_68 rfl (fun r_68 σ_68 h_68 => ?_)
    obtain ⟨e_68, h_68⟩ := h_68
    have e_68 := e_68.symm
    subst e_68
    subst h_68
    exact go_iret dX11_count_71 rfl ⟨(by decide), (by repeat (first | exact KM_rfl _ | refine KM_setI ?_ (by decide) | refine KM_setA ?_ (by decide)))⟩
  · refine go_swIn (tgt := 72) dX11_count_1 (by decide) (by decide) rfl (by decide) ?_
    refine go_aload_n (i := 0) (pc' := 73) dX11_count_72 rfl rfl rfl ?_
    refine gf_0_tape (pc' := 76) dX11_count_73 rfl fl_X11_47 ?_
    refine gf_6_size (pc' := 79) dX11_count_76 rfl fl_X11_234 ?_
    exact go_iret dX11_count_79 rfl ⟨(by show σ.1 6 = _; rw [h6]; decide), (by repeat (first | exact KM_rfl _ | refine KM_setI ?_ (by decide) | refine KM_setA ?_ (by decide)))⟩
  · refine go_swIn (tgt := 80) dX11_count_1 (by decide) (by decide) rfl (by decide) ?_
    refine go_aload_n (i := 0) (pc' := 81) dX11_count_80 rfl rfl rfl ?_
    refine gf_0_hands (pc' := 84) dX11_count_81 rfl fl_X11_40 ?_
    refine gf_5_size (pc' := 87) dX11_count_84 rfl fl_X11_297 ?_
    exact go_iret dX11_count_87 rfl ⟨(by show σ.1 5 = _; rw [h5]; decide), (by repeat (first | exact KM_rfl _ | refine KM_setI ?_ (by decide) | refine KM_setA ?_ (by decide)))⟩
  · refine go_swOut (tgt := 88) dX11_count_1 (by omega) (by decide) ?_
    refine go_bipush (v := (-2)) (pc' := 90) dX11_count_88 rfl (by decide) ?_
    exact go_iret dX11_count_90 rfl ⟨(if_neg hx6).symm, (by repeat (first | exact KM_rfl _ | refine KM_setI ?_ (by decide) | refine KM_setA ?_ (by decide)))⟩
  
set_option maxHeartbeats 4000000 in
set_option maxRecDepth 100000 in
theorem f_X9_empty (l : Launch) (L : WL) (σ : ST) (a n : Int32) (ha : 0 ≤ a.toInt ∧ a.toInt < 4) : CtV l L yX9_empty cX9_empty 4 none rm_X9_empty [.ref (L.2.1 12), .int a, .int n] σ (fun σ2 => KM σ σ2) := by
  refine ctV_go (own := RX9) (by decide) rfl (Nat.le_of_ble_eq_true rfl) (fun F hF => ?_)
  subst hF
  have loop : ∀ (d i : Nat) (σ1 : ST), i + d = 60 → KM σ σ1 → Go F L RX9 cX9_empty 4 rm_X9_empty none (RV F L (fun σ2 => KM σ σ2)) σ1 9 [(0, .ref (L.2.1 12)), (1, .int a), (2, .int n), (3, .int (nI i))] [] := by
    intro d
    induction d with
    | zero =>
      intro i σ1 hi hkm
      refine go_iload_n (i := 3) (pc' := 10) dX9_empty_9 rfl rfl rfl ?_
      refine go_bipush (v := 60) (pc' := 12) dX9_empty_10 rfl (by decide) ?_
      refine go_icmp_ge (tgt := 30) (pc' := 15) dX9_empty_12 rfl (by decide) (fun c_12 => ?_) (fun c_12 => absurd (by exact nI_le (a := 60) (by omega) (by omega)) c_12)
      exact go_vret dX9_empty_30 rfl hkm
    | succ d ih =>
      intro i σ1 hi hkm
      refine go_iload_n (i := 3) (pc' := 10) dX9_empty_9 rfl rfl rfl ?_
      refine go_bipush (v := 60) (pc' := 12) dX9_empty_10 rfl (by decide) ?_
      refine go_icmp_ge (tgt := 30) (pc' := 15) dX9_empty_12 rfl (by decide) (fun c_12 => absurd c_12 (by exact nI_ge (b := 60) (by omega) (by omega))) (fun c_12 => ?_)
      refine go_aload_n (i := 0) (pc' := 16) dX9_empty_15 rfl rfl rfl ?_
      refine gf_12_rows (pc' := 19) dX9_empty_16 rfl fl_X9_13 ?_
      refine go_iload_n (i := 1) (pc' := 20) dX9_empty_19 rfl rfl rfl ?_
      refine go_aald (b := 92) (pc' := 21) dX9_empty_20 rfl (by decide) (by decide) ⟨_, rfl⟩ (vin_of (n := 4) ha.1 ha.2) rfl ?_
      refine go_iload_n (i := 3) (pc' := 22) dX9_empty_21 rfl rfl rfl ?_
      refine go_iconst (v := 0) (pc' := 23) dX9_empty_22 rfl (by decide) ?_
      refine go_bast (pc' := 24) dX9_empty_23 rfl (by have := vinlt (vin_of (n := 4) ha.1 ha.2); omega) (by have := vinlt (vin_of (n := 4) ha.1 ha.2); omega) (rowt_92 (vinlt (vin_of (n := 4) ha.1 ha.2))) (by rw [rowl_92 (vinlt (vin_of (n := 4) ha.1 ha.2))]; exact vp_in_nI (by omega) (by omega)) ?_
      refine go_iinc (c := 1) (pc' := 27) dX9_empty_24 rfl rfl (by decide) (by decide) ?_
      refine go_goto (tgt := 9) dX9_empty_27 (by decide) ?_
      exact go_lv (lv' := [(0, .ref (L.2.1 12)), (1, .int a), (2, .int n), (3, .int (nI (i + 1)))]) (by rw [nI_succ]; rfl) (ih (i + 1) _ (by omega) (KM_setA hkm (by have := vinlt (vin_of (n := 4) ha.1 ha.2); omega)))
  refine go_aload_n (i := 0) (pc' := 1) dX9_empty_0 rfl rfl rfl ?_
  refine gf_12_sizes (pc' := 4) dX9_empty_1 rfl fl_X9_16 ?_
  refine go_iload_n (i := 1) (pc' := 5) dX9_empty_4 rfl rfl rfl ?_
  refine go_iload_n (i := 2) (pc' := 6) dX9_empty_5 rfl rfl rfl ?_
  refine go_iast (pc' := 7) dX9_empty_6 rfl (by decide) (by decide) rfl (vin_of (n := 4) ha.1 ha.2) ?_
  refine go_iconst (v := 0) (pc' := 8) dX9_empty_7 rfl (by decide) ?_
  refine go_istore_n (i := 3) (pc' := 9) dX9_empty_8 rfl rfl (by decide) ?_
  exact go_lv (lv' := [(0, .ref (L.2.1 12)), (1, .int a), (2, .int n), (3, .int (nI 0))]) rfl (loop 60 0 _ (by omega) (KM_setA (KM_rfl _) (by decide)))
set_option maxHeartbeats 4000000 in
set_option maxRecDepth 100000 in
theorem f_X11_tray (l : Launch) (L : WL) (σ : ST) (a n : Int32) : CtI l L yX11_tray cX11_tray 3 (some .int) rm_X11_tray [.ref (L.2.1 0), .int a, .int n] σ (fun r σ2 => r = (if ¬ (0 ≤ a.toInt ∧ a.toInt < 4) ∨ 60 < n.toInt then -2 else if n.toInt < -1 then -14 else 1) ∧ KM σ σ2) := by
  refine ctI_go (own := RX11) (by decide) rfl (Nat.le_of_ble_eq_true rfl) (fun F hF => ?_)
  subst hF
  refine go_iload_n (i := 1) (pc' := 1) dX11_tray_0 rfl rfl rfl ?_
  refine go_csi (pc' := 4) ls_X11_298 (c_X9_has _ _ _ _) rfl rfl (Nat.le_of_ble_eq_true rfl) ⟨Nat.le_of_ble_eq_true rfl, Nat.le_of_ble_eq_true rfl⟩ ⟨rfl, rfl⟩ dX11_tray_1 rfl (fun r_1 σ_1 h_1 => ?_)
  obtain ⟨e_1, h_1⟩ := h_1
  have e_1 := e_1.symm
  subst e_1
  refine go_eqB (tgt := 13) (pc' := 7) h_1 dX11_tray_4 rfl (by decide) (fun c_4 => ?_) (fun c_4 => ?_)
  · refine go_bipush (v := (-2)) (pc' := 15) dX11_tray_13 rfl (by decide) ?_
    exact go_iret dX11_tray_15 rfl ⟨(by split <;> (try split) <;> (first | rfl | (exfalso; (try simp only [Int32.lt_iff_toInt_lt, Int32.le_iff_toInt_le, ← Int32.toInt_inj, ge_iff_le, gt_iff_lt, ne_eq, Int32.reduceToInt] at *); omega))), (by repeat (first | exact KM_rfl _ | refine KM_setI ?_ (by decide) | refine KM_setA ?_ (by decide)))⟩
  refine go_iload_n (i := 2) (pc' := 8) dX11_tray_7 rfl rfl rfl ?_
  refine go_bipush (v := 60) (pc' := 10) dX11_tray_8 rfl (by decide) ?_
  refine go_icmp_le (tgt := 16) (pc' := 13) dX11_tray_10 rfl (by decide) (fun c_10 => ?_) (fun c_10 => ?_)
  · refine go_iload_n (i := 2) (pc' := 17) dX11_tray_16 rfl rfl rfl ?_
    refine go_iconst (v := (-1)) (pc' := 18) dX11_tray_17 rfl (by decide) ?_
    refine go_icmp_ge (tgt := 24) (pc' := 21) dX11_tray_18 rfl (by decide) (fun c_18 => ?_) (fun c_18 => ?_)
    · refine go_aload_n (i := 0) (pc' := 25) dX11_tray_24 rfl rfl rfl ?_
      refine gf_0_trays (pc' := 28) dX11_tray_25 rfl fl_X11_85 ?_
      refine go_iload_n (i := 1) (pc' := 29) dX11_tray_28 rfl rfl rfl ?_
      refine go_iload_n (i := 2) (pc' := 30) dX11_tray_29 rfl rfl rfl ?_
      refine go_cvv (pc' := 33) lk_X11_299 (f_X9_empty _ _ _ _ _ c_4) rfl rfl (Nat.le_of_ble_eq_true rfl) (by decide) rfl rfl rfl ⟨Nat.le_of_ble_eq_true rfl, Nat.le_of_ble_eq_true rfl⟩ ⟨rfl, rfl⟩ dX11_tray_30 rfl (fun σ_30 h_30 => ?_)
      refine go_iconst (v := 1) (pc' := 34) dX11_tray_33 rfl (by decide) ?_
      exact go_iret dX11_tray_34 rfl ⟨(by split <;> (try split) <;> (first | rfl | (exfalso; (try simp only [Int32.lt_iff_toInt_lt, Int32.le_iff_toInt_le, ← Int32.toInt_inj, ge_iff_le, gt_iff_lt, ne_eq, Int32.reduceToInt] at *); omega))), h_30⟩
    refine go_bipush (v := (-14)) (pc' := 23) dX11_tray_21 rfl (by decide) ?_
    exact go_iret dX11_tray_23 rfl ⟨(by split <;> (try split) <;> (first | rfl | (exfalso; (try simp only [Int32.lt_iff_toInt_lt, Int32.le_iff_toInt_le, ← Int32.toInt_inj, ge_iff_le, gt_iff_lt, ne_eq, Int32.reduceToInt] at *); omega))), (by repeat (first | exact KM_rfl _ | refine KM_setI ?_ (by decide) | refine KM_setA ?_ (by decide)))⟩
  refine go_bipush (v := (-2)) (pc' := 15) dX11_tray_13 rfl (by decide) ?_
  exact go_iret dX11_tray_15 rfl ⟨(by split <;> (try split) <;> (first | rfl | (exfalso; (try simp only [Int32.lt_iff_toInt_lt, Int32.le_iff_toInt_le, ← Int32.toInt_inj, ge_iff_le, gt_iff_lt, ne_eq, Int32.reduceToInt] at *); omega))), (by repeat (first | exact KM_rfl _ | refine KM_setI ?_ (by decide) | refine KM_setA ?_ (by decide)))⟩
set_option maxHeartbeats 4000000 in
set_option maxRecDepth 100000 in
theorem f_X11_cell (l : Launch) (L : WL) (σ : ST) (a i v : Int32) (ht : ∀ j : Nat, j < 4 → σ.2 55 j = -1) : CtI l L yX11_cell cX11_cell 4 (some .int) rm_X11_cell [.ref (L.2.1 0), .int a, .int i, .int v] σ (fun r σ2 => r = (if 0 ≤ a.toInt ∧ a.toInt < 4 then -11 else -2) ∧ KM σ σ2) := by
  refine ctI_go (own := RX11) (by decide) rfl (Nat.le_of_ble_eq_true rfl) (fun F hF => ?_)
  subst hF
  refine go_iload_n (i := 1) (pc' := 1) dX11_cell_0 rfl rfl rfl ?_
  refine go_csi (pc' := 4) ls_X11_298 (c_X9_has _ _ _ _) rfl rfl (Nat.le_of_ble_eq_true rfl) ⟨Nat.le_of_ble_eq_true rfl, Nat.le_of_ble_eq_true rfl⟩ ⟨rfl, rfl⟩ dX11_cell_1 rfl (fun r_1 σ_1 h_1 => ?_)
  obtain ⟨e_1, h_1⟩ := h_1
  have e_1 := e_1.symm
  subst e_1
  refine go_neB (tgt := 10) (pc' := 7) h_1 dX11_cell_4 rfl (by decide) (fun c_4 => ?_) (fun c_4 => ?_)
  · refine go_aload_n (i := 0) (pc' := 11) dX11_cell_10 rfl rfl rfl ?_
    refine gf_0_trays (pc' := 14) dX11_cell_11 rfl fl_X11_85 ?_
    refine gf_12_sizes (pc' := 17) dX11_cell_14 rfl fl_X11_303 ?_
    refine go_iload_n (i := 1) (pc' := 18) dX11_cell_17 rfl rfl rfl ?_
    refine go_iald (pc' := 19) dX11_cell_18 rfl (by decide) (by decide) rfl (vin_of (n := 4) c_4.1 c_4.2) ?_
    refine go_iconst (v := (-1)) (pc' := 20) dX11_cell_19 rfl (by decide) ?_
    refine go_icmp_ne (tgt := 26) (pc' := 23) dX11_cell_20 rfl (by decide) (fun c_20 => absurd (ht _ (vinlt (vin_of (n := 4) c_4.1 c_4.2))) c_20) (fun c_20 => ?_)
    refine go_bipush (v := (-11)) (pc' := 25) dX11_cell_23 rfl (by decide) ?_
    exact go_iret dX11_cell_25 rfl ⟨(if_pos c_4).symm, (by repeat (first | exact KM_rfl _ | refine KM_setI ?_ (by decide) | refine KM_setA ?_ (by decide)))⟩
  refine go_bipush (v := (-2)) (pc' := 9) dX11_cell_7 rfl (by decide) ?_
  exact go_iret dX11_cell_9 rfl ⟨(if_neg c_4).symm, (by repeat (first | exact KM_rfl _ | refine KM_setI ?_ (by decide) | refine KM_setA ?_ (by decide)))⟩
set_option maxHeartbeats 4000000 in
set_option maxRecDepth 100000 in
theorem f_X11_lay (l : Launch) (L : WL) (σ : ST) (a i n : Int32) (ht : ∀ j : Nat, j < 4 → σ.2 55 j = -1) : CtI l L yX11_lay cX11_lay 5 (some .int) rm_X11_lay [.ref (L.2.1 0), .int a, .int i, .int n] σ (fun r σ2 => r = (if (0 ≤ a.toInt ∧ a.toInt < 4) ∧ 0 ≤ n.toInt then -11 else -2) ∧ KM σ σ2) := by
  refine ctI_go (own := RX11) (by decide) rfl (Nat.le_of_ble_eq_true rfl) (fun F hF => ?_)
  subst hF
  refine go_iload_n (i := 1) (pc' := 1) dX11_lay_0 rfl rfl rfl ?_
  refine go_csi (pc' := 4) ls_X11_298 (c_X9_has _ _ _ _) rfl rfl (Nat.le_of_ble_eq_true rfl) ⟨Nat.le_of_ble_eq_true rfl, Nat.le_of_ble_eq_true rfl⟩ ⟨rfl, rfl⟩ dX11_lay_1 rfl (fun r_1 σ_1 h_1 => ?_)
  obtain ⟨e_1, h_1⟩ := h_1
  have e_1 := e_1.symm
  subst e_1
  refine go_eqB (tgt := 11) (pc' := 7) h_1 dX11_lay_4 rfl (by decide) (fun c_4 => ?_) (fun c_4 => ?_)
  · refine go_bipush (v := (-2)) (pc' := 13) dX11_lay_11 rfl (by decide) ?_
    exact go_iret dX11_lay_13 rfl ⟨(by split <;> first | rfl | (exfalso; (try simp only [Int32.lt_iff_toInt_lt, Int32.le_iff_toInt_le, ← Int32.toInt_inj, ge_iff_le, gt_iff_lt, ne_eq, Int32.reduceToInt] at *); omega)), (by repeat (first | exact KM_rfl _ | refine KM_setI ?_ (by decide) | refine KM_setA ?_ (by decide)))⟩
  refine go_iload_n (i := 3) (pc' := 8) dX11_lay_7 rfl rfl rfl ?_
  refine go_if_ge (tgt := 14) (pc' := 11) dX11_lay_8 rfl (by decide) (fun c_8 => ?_) (fun c_8 => ?_)
  · refine go_aload_n (i := 0) (pc' := 15) dX11_lay_14 rfl rfl rfl ?_
    refine gf_0_trays (pc' := 18) dX11_lay_15 rfl fl_X11_85 ?_
    refine gf_12_sizes (pc' := 21) dX11_lay_18 rfl fl_X11_303 ?_
    refine go_iload_n (i := 1) (pc' := 22) dX11_lay_21 rfl rfl rfl ?_
    refine go_iald (pc' := 23) dX11_lay_22 rfl (by decide) (by decide) rfl (vin_of (n := 4) c_4.1 c_4.2) ?_
    refine go_iconst (v := (-1)) (pc' := 24) dX11_lay_23 rfl (by decide) ?_
    refine go_icmp_ne (tgt := 30) (pc' := 27) dX11_lay_24 rfl (by decide) (fun c_24 => absurd (ht _ (vinlt (vin_of (n := 4) c_4.1 c_4.2))) c_24) (fun c_24 => ?_)
    refine go_bipush (v := (-11)) (pc' := 29) dX11_lay_27 rfl (by decide) ?_
    exact go_iret dX11_lay_29 rfl ⟨(by split <;> first | rfl | (exfalso; (try simp only [Int32.lt_iff_toInt_lt, Int32.le_iff_toInt_le, ← Int32.toInt_inj, ge_iff_le, gt_iff_lt, ne_eq, Int32.reduceToInt] at *); omega)), (by repeat (first | exact KM_rfl _ | refine KM_setI ?_ (by decide) | refine KM_setA ?_ (by decide)))⟩
  refine go_bipush (v := (-2)) (pc' := 13) dX11_lay_11 rfl (by decide) ?_
  exact go_iret dX11_lay_13 rfl ⟨(by split <;> first | rfl | (exfalso; (try simp only [Int32.lt_iff_toInt_lt, Int32.le_iff_toInt_le, ← Int32.toInt_inj, ge_iff_le, gt_iff_lt, ne_eq, Int32.reduceToInt] at *); omega)), (by repeat (first | exact KM_rfl _ | refine KM_setI ?_ (by decide) | refine KM_setA ?_ (by decide)))⟩
set_option maxHeartbeats 4000000 in
set_option maxRecDepth 100000 in
theorem f_X11_taken (l : Launch) (L : WL) (σ : ST) (a k : Int32) (h3 : σ.1 3 = 0) : CtI l L yX11_taken cX11_taken 3 (some .int) rm_X11_taken [.ref (L.2.1 0), .int a, .int k] σ (fun r σ2 => r = (if 0 ≤ k.toInt ∧ k.toInt < 6 then -11 else -2) ∧ KM σ σ2) := by
  refine ctI_go (own := RX11) (by decide) rfl (Nat.le_of_ble_eq_true rfl) (fun F hF => ?_)
  subst hF
  refine go_iload_n (i := 2) (pc' := 1) dX11_taken_0 rfl rfl rfl ?_
  refine go_csi (pc' := 4) ls_X11_124 (c_X2_isKind _ _ _ _) rfl rfl (Nat.le_of_ble_eq_true rfl) ⟨Nat.le_of_ble_eq_true rfl, Nat.le_of_ble_eq_true rfl⟩ ⟨rfl, rfl⟩ dX11_taken_1 rfl (fun r_1 σ_1 h_1 => ?_)
  obtain ⟨e_1, h_1⟩ := h_1
  have e_1 := e_1.symm
  subst e_1
  refine go_neB (tgt := 10) (pc' := 7) h_1 dX11_taken_4 rfl (by decide) (fun c_4 => ?_) (fun c_4 => ?_)
  · refine go_aload_n (i := 0) (pc' := 11) dX11_taken_10 rfl rfl rfl ?_
    refine gf_0_letters (pc' := 14) dX11_taken_11 rfl fl_X11_19 ?_
    refine go_iload_n (i := 1) (pc' := 15) dX11_taken_14 rfl rfl rfl ?_
    refine go_cvi (pc' := 18) lk_X11_130 (c_X2_has _ _ _ _) rfl rfl (Nat.le_of_ble_eq_true rfl) (by decide) rfl rfl rfl ⟨Nat.le_of_ble_eq_true rfl, Nat.le_of_ble_eq_true rfl⟩ ⟨rfl, rfl⟩ dX11_taken_15 rfl (fun r_15 σ_15 h_15 => ?_)
    obtain ⟨e_15, h_15⟩ := h_15
    have e_15 := e_15.symm
    subst e_15
    refine go_neB (tgt := 24) (pc' := 21) h_15 dX11_taken_18 rfl (by decide) (fun c_18 => absurd c_18 (nohas h3)) (fun c_18 => ?_)
    refine go_bipush (v := (-11)) (pc' := 23) dX11_taken_21 rfl (by decide) ?_
    exact go_iret dX11_taken_23 rfl ⟨(by split <;> first | rfl | (exfalso; (try simp only [Int32.lt_iff_toInt_lt, Int32.le_iff_toInt_le, ← Int32.toInt_inj, ge_iff_le, gt_iff_lt, ne_eq, Int32.reduceToInt] at *); omega)), (by repeat (first | exact KM_rfl _ | refine KM_setI ?_ (by decide) | refine KM_setA ?_ (by decide)))⟩
  refine go_bipush (v := (-2)) (pc' := 9) dX11_taken_7 rfl (by decide) ?_
  exact go_iret dX11_taken_9 rfl ⟨(by split <;> first | rfl | (exfalso; (try simp only [Int32.lt_iff_toInt_lt, Int32.le_iff_toInt_le, ← Int32.toInt_inj, ge_iff_le, gt_iff_lt, ne_eq, Int32.reduceToInt] at *); omega)), (by repeat (first | exact KM_rfl _ | refine KM_setI ?_ (by decide) | refine KM_setA ?_ (by decide)))⟩
