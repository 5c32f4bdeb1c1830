set_option maxHeartbeats 4000000 in
set_option maxRecDepth 100000 in
theorem f_X12_person (l : Launch) (L : WL) (σ : ST) (n q : Int32) (h19 : σ.1 19 = 0) : CtI l L yX12_person cX12_person 3 (some .int) rm_X12_person [.ref (L.2.1 13), .int n, .int q] σ (fun r _ => r = (if (1 ≤ n.toInt ∧ n.toInt ≤ 99) ∧ (0 ≤ q.toInt ∧ q.toInt < 6) then 0 else -2)) := by
  refine ctI_go (own := RX12) (by decide) rfl (Nat.le_of_ble_eq_true rfl) (fun F hF => ?_)
  subst hF
  refine go_iload_n (i := 1) (pc' := 1) dX12_person_0 rfl rfl rfl ?_
  refine go_iconst (v := 1) (pc' := 2) dX12_person_1 rfl (by decide) ?_
  refine go_isub (pc' := 3) dX12_person_2 rfl ?_
  refine go_bipush (v := 99) (pc' := 5) dX12_person_3 rfl (by decide) ?_
  refine go_csi (pc' := 8) ls_X12_135 (c_X12_isIn _ _ _ _ _) rfl rfl (Nat.le_of_ble_eq_true rfl) ⟨Nat.le_of_ble_eq_true rfl, Nat.le_of_ble_eq_true rfl⟩ ⟨rfl, rfl⟩ dX12_person_5 rfl (fun r_5 σ_5 h_5 => ?_)
  obtain ⟨e_5, h_5⟩ := h_5
  have e_5 := e_5.symm
  subst e_5
  have h_5 := bq_c (sub1c _ _) h_5
  rw [show (99 : Int32).toInt = 99 from by decide] at h_5
  refine go_eqB (tgt := 20) (pc' := 11) h_5 dX12_person_8 rfl (by decide) (fun c_8 => ?_) (fun c_8 => ?_)
  · refine go_bipush (v := (-2)) (pc' := 22) dX12_person_20 rfl (by decide) ?_
    exact go_iret dX12_person_22 rfl (by split <;> first | rfl | (exfalso; (try simp only [Int32.lt_iff_toInt_lt, Int32.le_iff_toInt_le, ← Int32.toInt_inj, ge_iff_le, gt_iff_lt, ne_eq, Int32.reduceToInt] at *); omega))
  refine go_iload_n (i := 2) (pc' := 12) dX12_person_11 rfl rfl rfl ?_
  refine go_bipush (v := 6) (pc' := 14) dX12_person_12 rfl (by decide) ?_
  refine go_csi (pc' := 17) ls_X12_135 (c_X12_isIn _ _ _ _ _) rfl rfl (Nat.le_of_ble_eq_true rfl) ⟨Nat.le_of_ble_eq_true rfl, Nat.le_of_ble_eq_true rfl⟩ ⟨rfl, rfl⟩ dX12_person_14 rfl (fun r_14 σ_14 h_14 => ?_)
  obtain ⟨e_14, h_14⟩ := h_14
  have e_14 := e_14.symm
  subst e_14
  rw [show (6 : Int32).toInt = 6 from by decide] at h_14
  refine go_neB (tgt := 23) (pc' := 20) h_14 dX12_person_17 rfl (by decide) (fun c_17 => ?_) (fun c_17 => ?_)
  · refine go_aload_n (i := 0) (pc' := 24) dX12_person_23 rfl rfl rfl ?_
    refine gf_13_persons (pc' := 27) dX12_person_24 rfl fl_X12_139 ?_
    refine go_bipush (v := 10) (pc' := 29) dX12_person_27 rfl (by decide) ?_
    refine go_icmp_ne (tgt := 35) (pc' := 32) dX12_person_29 rfl (by decide) (fun c_29 => ?_) (fun c_29 => absurd c_29 (by rw [h19]; decide))
    refine go_aload_n (i := 0) (pc' := 36) dX12_person_35 rfl rfl rfl ?_
    refine gf_13_name (pc' := 39) dX12_person_36 rfl fl_X12_9 ?_
    refine go_aload_n (i := 0) (pc' := 40) dX12_person_39 rfl rfl rfl ?_
    refine gf_13_persons (pc' := 43) dX12_person_40 rfl fl_X12_139 ?_
    refine go_iload_n (i := 1) (pc' := 44) dX12_person_43 rfl rfl rfl ?_
    refine go_iast (pc' := 45) dX12_person_44 rfl (by decide) (by decide) rfl (vin0 h19 (by decide)) ?_
    refine go_aload_n (i := 0) (pc' := 46) dX12_person_45 rfl rfl rfl ?_
    refine gf_13_home (pc' := 49) dX12_person_46 rfl fl_X12_13 ?_
    refine go_aload_n (i := 0) (pc' := 50) dX12_person_49 rfl rfl rfl ?_
    refine gf_13_persons (pc' := 53) dX12_person_50 rfl fl_X12_139 ?_
    refine go_iload_n (i := 2) (pc' := 54) dX12_person_53 rfl rfl rfl ?_
    refine go_iast (pc' := 55) dX12_person_54 rfl (by decide) (by decide) rfl (vin0 h19 (by decide)) ?_
    refine go_aload_n (i := 0) (pc' := 56) dX12_person_55 rfl rfl rfl ?_
    refine gf_13_first (pc' := 59) dX12_person_56 rfl fl_X12_16 ?_
    refine go_aload_n (i := 0) (pc' := 60) dX12_person_59 rfl rfl rfl ?_
    refine gf_13_persons (pc' := 63) dX12_person_60 rfl fl_X12_139 ?_
    refine go_iconst (v := 0) (pc' := 64) dX12_person_63 rfl (by decide) ?_
    refine go_iast (pc' := 65) dX12_person_64 rfl (by decide) (by decide) rfl (vin0 h19 (by decide)) ?_
    refine go_aload_n (i := 0) (pc' := 66) dX12_person_65 rfl rfl rfl ?_
    refine gf_13_last (pc' := 69) dX12_person_66 rfl fl_X12_19 ?_
    refine go_aload_n (i := 0) (pc' := 70) dX12_person_69 rfl rfl rfl ?_
    refine gf_13_persons (pc' := 73) dX12_person_70 rfl fl_X12_139 ?_
    refine go_sipush (v := 9999) (pc' := 76) dX12_person_73 rfl (by decide) ?_
    refine go_iast (pc' := 77) dX12_person_76 rfl (by decide) (by decide) rfl (vin0 h19 (by decide)) ?_
    refine go_aload_n (i := 0) (pc' := 78) dX12_person_77 rfl rfl rfl ?_
    refine go_dup (pc' := 79) dX12_person_78 rfl rfl ?_
    refine gf_13_persons (pc' := 82) dX12_person_79 rfl fl_X12_139 ?_
    refine go_iconst (v := 1) (pc' := 83) dX12_person_82 rfl (by decide) ?_
    refine go_iadd (pc' := 84) dX12_person_83 rfl ?_
    refine pf_13_persons (pc' := 87) dX12_person_84 rfl fl_X12_139 ?_
    refine go_aload_n (i := 0) (pc' := 88) dX12_person_87 rfl rfl rfl ?_
    refine gf_13_persons (pc' := 91) dX12_person_88 rfl fl_X12_139 ?_
    refine go_iconst (v := 1) (pc' := 92) dX12_person_91 rfl (by decide) ?_
    refine go_isub (pc' := 93) dX12_person_92 rfl ?_
    exact go_iret dX12_person_93 rfl (by show σ.1 19 + 1 - 1 = _; rw [h19, if_pos ⟨c_8, c_17⟩]; decide)
  refine go_bipush (v := (-2)) (pc' := 22) dX12_person_20 rfl (by decide) ?_
  exact go_iret dX12_person_22 rfl (by split <;> first | rfl | (exfalso; (try simp only [Int32.lt_iff_toInt_lt, Int32.le_iff_toInt_le, ← Int32.toInt_inj, ge_iff_le, gt_iff_lt, ne_eq, Int32.reduceToInt] at *); omega))
set_option maxHeartbeats 4000000 in
set_option maxRecDepth 100000 in
theorem f_X12_lived (l : Launch) (L : WL) (σ : ST) (p a b : Int32) (h19 : σ.1 19 = 0) : CtI l L yX12_lived cX12_lived 4 (some .int) rm_X12_lived [.ref (L.2.1 13), .int p, .int a, .int b] σ (fun r _ => r = -2) := by
  refine ctI_go (own := RX12) (by decide) rfl (Nat.le_of_ble_eq_true rfl) (fun F hF => ?_)
  subst hF
  refine go_aload_n (i := 0) (pc' := 1) dX12_lived_0 rfl rfl rfl ?_
  refine go_iload_n (i := 1) (pc' := 2) dX12_lived_1 rfl rfl rfl ?_
  refine go_cvi (pc' := 5) lk_X12_145 (c_X12_isPerson _ _ _ _) rfl rfl (Nat.le_of_ble_eq_true rfl) (by decide) rfl rfl rfl ⟨Nat.le_of_ble_eq_true rfl, Nat.le_of_ble_eq_true rfl⟩ ⟨rfl, rfl⟩ dX12_lived_2 rfl (fun r_2 σ_2 h_2 => ?_)
  obtain ⟨e_2, h_2⟩ := h_2
  have e_2 := e_2.symm
  subst e_2
  refine go_eqB (tgt := 27) (pc' := 8) h_2 dX12_lived_5 rfl (by decide) (fun c_5 => ?_) (fun c_5 => absurd c_5 (nohas h19))
  refine go_bipush (v := (-2)) (pc' := 29) dX12_lived_27 rfl (by decide) ?_
  exact go_iret dX12_lived_29 rfl rfl
set_option maxHeartbeats 4000000 in
set_option maxRecDepth 100000 in
theorem f_X12_knows (l : Launch) (L : WL) (σ : ST) (a b c : Int32) (h19 : σ.1 19 = 0) : CtI l L yX12_knows cX12_knows 5 (some .int) rm_X12_knows [.ref (L.2.1 13), .int a, .int b, .int c] σ (fun r _ => r = -2) := by
  refine ctI_go (own := RX12) (by decide) rfl (Nat.le_of_ble_eq_true rfl) (fun F hF => ?_)
  subst hF
  refine go_aload_n (i := 0) (pc' := 1) dX12_knows_0 rfl rfl rfl ?_
  refine go_iload_n (i := 1) (pc' := 2) dX12_knows_1 rfl rfl rfl ?_
  refine go_cvi (pc' := 5) lk_X12_145 (c_X12_isPerson _ _ _ _) rfl rfl (Nat.le_of_ble_eq_true rfl) (by decide) rfl rfl rfl ⟨Nat.le_of_ble_eq_true rfl, Nat.le_of_ble_eq_true rfl⟩ ⟨rfl, rfl⟩ dX12_knows_2 rfl (fun r_2 σ_2 h_2 => ?_)
  obtain ⟨e_2, h_2⟩ := h_2
  have e_2 := e_2.symm
  subst e_2
  refine go_eqB (tgt := 16) (pc' := 8) h_2 dX12_knows_5 rfl (by decide) (fun c_5 => ?_) (fun c_5 => absurd c_5 (nohas h19))
  refine go_bipush (v := (-2)) (pc' := 18) dX12_knows_16 rfl (by decide) ?_
  exact go_iret dX12_knows_18 rfl rfl
set_option maxHeartbeats 4000000 in
set_option maxRecDepth 100000 in
theorem f_X12_letter (l : Launch) (L : WL) (σ : ST) (k a b q : Int32) (h19 : σ.1 19 = 0) : CtI l L yX12_letter cX12_letter 5 (some .int) rm_X12_letter [.ref (L.2.1 13), .int k, .int a, .int b, .int q] σ (fun r _ => r = -2) := by
  refine ctI_go (own := RX12) (by decide) rfl (Nat.le_of_ble_eq_true rfl) (fun F hF => ?_)
  subst hF
  refine go_iload_n (i := 1) (pc' := 1) dX12_letter_0 rfl rfl rfl ?_
  refine go_bipush (v := 6) (pc' := 3) dX12_letter_1 rfl (by decide) ?_
  refine go_csi (pc' := 6) ls_X12_135 (c_X12_isIn _ _ _ _ _) rfl rfl (Nat.le_of_ble_eq_true rfl) ⟨Nat.le_of_ble_eq_true rfl, Nat.le_of_ble_eq_true rfl⟩ ⟨rfl, rfl⟩ dX12_letter_3 rfl (fun r_3 σ_3 h_3 => ?_)
  obtain ⟨e_3, h_3⟩ := h_3
  have e_3 := e_3.symm
  subst e_3
  rw [show (6 : Int32).toInt = 6 from by decide] at h_3
  refine go_eqB (tgt := 35) (pc' := 9) h_3 dX12_letter_6 rfl (by decide) (fun c_6 => ?_) (fun c_6 => ?_)
  · refine go_bipush (v := (-2)) (pc' := 37) dX12_letter_35 rfl (by decide) ?_
    exact go_iret dX12_letter_37 rfl rfl
  refine go_aload_n (i := 0) (pc' := 10) dX12_letter_9 rfl rfl rfl ?_
  refine go_iload_n (i := 2) (pc' := 11) dX12_letter_10 rfl rfl rfl ?_
  refine go_cvi (pc' := 14) lk_X12_145 (c_X12_isPerson _ _ _ _) rfl rfl (Nat.le_of_ble_eq_true rfl) (by decide) rfl rfl rfl ⟨Nat.le_of_ble_eq_true rfl, Nat.le_of_ble_eq_true rfl⟩ ⟨rfl, rfl⟩ dX12_letter_11 rfl (fun r_11 σ_11 h_11 => ?_)
  obtain ⟨e_11, h_11⟩ := h_11
  have e_11 := e_11.symm
  subst e_11
  refine go_eqB (tgt := 35) (pc' := 17) h_11 dX12_letter_14 rfl (by decide) (fun c_14 => ?_) (fun c_14 => absurd c_14 (nohas h19))
  refine go_bipush (v := (-2)) (pc' := 37) dX12_letter_35 rfl (by decide) ?_
  exact go_iret dX12_letter_37 rfl rfl
set_option maxHeartbeats 4000000 in
set_option maxRecDepth 100000 in
theorem f_X12_told (l : Launch) (L : WL) (σ : ST) (a b : Int32) (h20 : σ.1 20 = 0) : CtI l L yX12_told cX12_told 3 (some .int) rm_X12_told [.ref (L.2.1 13), .int a, .int b] σ (fun r _ => r = -2) := by
  refine ctI_go (own := RX12) (by decide) rfl (Nat.le_of_ble_eq_true rfl) (fun F hF => ?_)
  subst hF
  refine go_aload_n (i := 0) (pc' := 1) dX12_told_0 rfl rfl rfl ?_
  refine go_iload_n (i := 1) (pc' := 2) dX12_told_1 rfl rfl rfl ?_
  refine go_cvi (pc' := 5) lk_X12_152 (c_X12_isLetter _ _ _ _) rfl rfl (Nat.le_of_ble_eq_true rfl) (by decide) rfl rfl rfl ⟨Nat.le_of_ble_eq_true rfl, Nat.le_of_ble_eq_true rfl⟩ ⟨rfl, rfl⟩ dX12_told_2 rfl (fun r_2 σ_2 h_2 => ?_)
  obtain ⟨e_2, h_2⟩ := h_2
  have e_2 := e_2.symm
  subst e_2
  refine go_neB (tgt := 11) (pc' := 8) h_2 dX12_told_5 rfl (by decide) (fun c_5 => absurd c_5 (nohas h20)) (fun c_5 => ?_)
  refine go_bipush (v := (-2)) (pc' := 10) dX12_told_8 rfl (by decide) ?_
  exact go_iret dX12_told_10 rfl rfl
set_option maxHeartbeats 4000000 in
set_option maxRecDepth 100000 in
theorem f_X12_days (l : Launch) (L : WL) (σ : ST) (a b c : Int32) (h20 : σ.1 20 = 0) : CtI l L yX12_days cX12_days 4 (some .int) rm_X12_days [.ref (L.2.1 13), .int a, .int b, .int c] σ (fun r _ => r = -2) := by
  refine ctI_go (own := RX12) (by decide) rfl (Nat.le_of_ble_eq_true rfl) (fun F hF => ?_)
  subst hF
  refine go_aload_n (i := 0) (pc' := 1) dX12_days_0 rfl rfl rfl ?_
  refine go_iload_n (i := 1) (pc' := 2) dX12_days_1 rfl rfl rfl ?_
  refine go_cvi (pc' := 5) lk_X12_152 (c_X12_isLetter _ _ _ _) rfl rfl (Nat.le_of_ble_eq_true rfl) (by decide) rfl rfl rfl ⟨Nat.le_of_ble_eq_true rfl, Nat.le_of_ble_eq_true rfl⟩ ⟨rfl, rfl⟩ dX12_days_2 rfl (fun r_2 σ_2 h_2 => ?_)
  obtain ⟨e_2, h_2⟩ := h_2
  have e_2 := e_2.symm
  subst e_2
  refine go_eqB (tgt := 27) (pc' := 8) h_2 dX12_days_5 rfl (by decide) (fun c_5 => ?_) (fun c_5 => absurd c_5 (nohas h20))
  refine go_bipush (v := (-2)) (pc' := 29) dX12_days_27 rfl (by decide) ?_
  exact go_iret dX12_days_29 rfl rfl
set_option maxHeartbeats 4000000 in
set_option maxRecDepth 100000 in
theorem f_X12_week (l : Launch) (L : WL) (σ : ST) (a b : Int32) (h20 : σ.1 20 = 0) : CtI l L yX12_week cX12_week 3 (some .int) rm_X12_week [.ref (L.2.1 13), .int a, .int b] σ (fun r _ => r = -2) := by
  refine ctI_go (own := RX12) (by decide) rfl (Nat.le_of_ble_eq_true rfl) (fun F hF => ?_)
  subst hF
  refine go_aload_n (i := 0) (pc' := 1) dX12_week_0 rfl rfl rfl ?_
  refine go_iload_n (i := 1) (pc' := 2) dX12_week_1 rfl rfl rfl ?_
  refine go_cvi (pc' := 5) lk_X12_152 (c_X12_isLetter _ _ _ _) rfl rfl (Nat.le_of_ble_eq_true rfl) (by decide) rfl rfl rfl ⟨Nat.le_of_ble_eq_true rfl, Nat.le_of_ble_eq_true rfl⟩ ⟨rfl, rfl⟩ dX12_week_2 rfl (fun r_2 σ_2 h_2 => ?_)
  obtain ⟨e_2, h_2⟩ := h_2
  have e_2 := e_2.symm
  subst e_2
  refine go_eqB (tgt := 22) (pc' := 8) h_2 dX12_week_5 rfl (by decide) (fun c_5 => ?_) (fun c_5 => absurd c_5 (nohas h20))
  refine go_bipush (v := (-2)) (pc' := 24) dX12_week_22 rfl (by decide) ?_
  exact go_iret dX12_week_24 rfl rfl
set_option maxHeartbeats 4000000 in
set_option maxRecDepth 100000 in
theorem f_X12_bound (l : Launch) (L : WL) (σ : ST) (a b c : Int32) (h20 : σ.1 20 = 0) : CtI l L yX12_bound cX12_bound 4 (some .int) rm_X12_bound [.ref (L.2.1 13), .int a, .int b, .int c] σ (fun r _ => r = -2) := by
  refine ctI_go (own := RX12) (by decide) rfl (Nat.le_of_ble_eq_true rfl) (fun F hF => ?_)
  subst hF
  refine go_aload_n (i := 0) (pc' := 1) dX12_bound_0 rfl rfl rfl ?_
  refine go_iload_n (i := 1) (pc' := 2) dX12_bound_1 rfl rfl rfl ?_
  refine go_cvi (pc' := 5) lk_X12_152 (c_X12_isLetter _ _ _ _) rfl rfl (Nat.le_of_ble_eq_true rfl) (by decide) rfl rfl rfl ⟨Nat.le_of_ble_eq_true rfl, Nat.le_of_ble_eq_true rfl⟩ ⟨rfl, rfl⟩ dX12_bound_2 rfl (fun r_2 σ_2 h_2 => ?_)
  obtain ⟨e_2, h_2⟩ := h_2
  have e_2 := e_2.symm
  subst e_2
  refine go_eqB (tgt := 35) (pc' := 8) h_2 dX12_bound_5 rfl (by decide) (fun c_5 => ?_) (fun c_5 => absurd c_5 (nohas h20))
  refine go_bipush (v := (-2)) (pc' := 37) dX12_bound_35 rfl (by decide) ?_
  exact go_iret dX12_bound_37 rfl rfl
set_option maxHeartbeats 4000000 in
set_option maxRecDepth 100000 in
theorem f_X12_found (l : Launch) (L : WL) (σ : ST) (a b : Int32) (h20 : σ.1 20 = 0) : CtI l L yX12_found cX12_found 3 (some .int) rm_X12_found [.ref (L.2.1 13), .int a, .int b] σ (fun r _ => r = -2) := by
  refine ctI_go (own := RX12) (by decide) rfl (Nat.le_of_ble_eq_true rfl) (fun F hF => ?_)
  subst hF
  refine go_aload_n (i := 0) (pc' := 1) dX12_found_0 rfl rfl rfl ?_
  refine go_iload_n (i := 1) (pc' := 2) dX12_found_1 rfl rfl rfl ?_
  refine go_cvi (pc' := 5) lk_X12_152 (c_X12_isLetter _ _ _ _) rfl rfl (Nat.le_of_ble_eq_true rfl) (by decide) rfl rfl rfl ⟨Nat.le_of_ble_eq_true rfl, Nat.le_of_ble_eq_true rfl⟩ ⟨rfl, rfl⟩ dX12_found_2 rfl (fun r_2 σ_2 h_2 => ?_)
  obtain ⟨e_2, h_2⟩ := h_2
  have e_2 := e_2.symm
  subst e_2
  refine go_eqB (tgt := 36) (pc' := 8) h_2 dX12_found_5 rfl (by decide) (fun c_5 => ?_) (fun c_5 => absurd c_5 (nohas h20))
  refine go_bipush (v := (-2)) (pc' := 38) dX12_found_36 rfl (by decide) ?_
  exact go_iret dX12_found_38 rfl rfl
set_option maxHeartbeats 4000000 in
set_option maxRecDepth 100000 in
theorem f_X12_lose (l : Launch) (L : WL) (σ : ST) (a : Int32) (h20 : σ.1 20 = 0) : CtI l L yX12_lose cX12_lose 2 (some .int) rm_X12_lose [.ref (L.2.1 13), .int a] σ (fun r _ => r = -2) := by
  refine ctI_go (own := RX12) (by decide) rfl (Nat.le_of_ble_eq_true rfl) (fun F hF => ?_)
  subst hF
  refine go_aload_n (i := 0) (pc' := 1) dX12_lose_0 rfl rfl rfl ?_
  refine go_iload_n (i := 1) (pc' := 2) dX12_lose_1 rfl rfl rfl ?_
  refine go_cvi (pc' := 5) lk_X12_152 (c_X12_isLetter _ _ _ _) rfl rfl (Nat.le_of_ble_eq_true rfl) (by decide) rfl rfl rfl ⟨Nat.le_of_ble_eq_true rfl, Nat.le_of_ble_eq_true rfl⟩ ⟨rfl, rfl⟩ dX12_lose_2 rfl (fun r_2 σ_2 h_2 => ?_)
  obtain ⟨e_2, h_2⟩ := h_2
  have e_2 := e_2.symm
  subst e_2
  refine go_neB (tgt := 11) (pc' := 8) h_2 dX12_lose_5 rfl (by decide) (fun c_5 => absurd c_5 (nohas h20)) (fun c_5 => ?_)
  refine go_bipush (v := (-2)) (pc' := 10) dX12_lose_8 rfl (by decide) ?_
  exact go_iret dX12_lose_10 rfl rfl
set_option maxHeartbeats 4000000 in
set_option maxRecDepth 100000 in
theorem f_X12_span (l : Launch) (L : WL) (σ : ST) (a b : Int32) (h20 : σ.1 20 = 0) : CtI l L yX12_span cX12_span 3 (some .int) rm_X12_span [.ref (L.2.1 13), .int a, .int b] σ (fun r _ => r = -2) := by
  refine ctI_go (own := RX12) (by decide) rfl (Nat.le_of_ble_eq_true rfl) (fun F hF => ?_)
  subst hF
  refine go_aload_n (i := 0) (pc' := 1) dX12_span_0 rfl rfl rfl ?_
  refine go_iload_n (i := 1) (pc' := 2) dX12_span_1 rfl rfl rfl ?_
  refine go_cvi (pc' := 5) lk_X12_152 (c_X12_isLetter _ _ _ _) rfl rfl (Nat.le_of_ble_eq_true rfl) (by decide) rfl rfl rfl ⟨Nat.le_of_ble_eq_true rfl, Nat.le_of_ble_eq_true rfl⟩ ⟨rfl, rfl⟩ dX12_span_2 rfl (fun r_2 σ_2 h_2 => ?_)
  obtain ⟨e_2, h_2⟩ := h_2
  have e_2 := e_2.symm
  subst e_2
  refine go_eqB (tgt := 16) (pc' := 8) h_2 dX12_span_5 rfl (by decide) (fun c_5 => ?_) (fun c_5 => absurd c_5 (nohas h20))
  refine go_bipush (v := (-2)) (pc' := 18) dX12_span_16 rfl (by decide) ?_
  exact go_iret dX12_span_18 rfl rfl
set_option maxHeartbeats 4000000 in
set_option maxRecDepth 100000 in
theorem f_X12_before (l : Launch) (L : WL) (σ : ST) (a b : Int32) (h20 : σ.1 20 = 0) : CtI l L yX12_before cX12_before 3 (some .int) rm_X12_before [.ref (L.2.1 13), .int a, .int b] σ (fun r _ => r = -2) := by
  refine ctI_go (own := RX12) (by decide) rfl (Nat.le_of_ble_eq_true rfl) (fun F hF => ?_)
  subst hF
  refine go_aload_n (i := 0) (pc' := 1) dX12_before_0 rfl rfl rfl ?_
  refine go_iload_n (i := 1) (pc' := 2) dX12_before_1 rfl rfl rfl ?_
  refine go_cvi (pc' := 5) lk_X12_152 (c_X12_isLetter _ _ _ _) rfl rfl (Nat.le_of_ble_eq_true rfl) (by decide) rfl rfl rfl ⟨Nat.le_of_ble_eq_true rfl, Nat.le_of_ble_eq_true rfl⟩ ⟨rfl, rfl⟩ dX12_before_2 rfl (fun r_2 σ_2 h_2 => ?_)
  obtain ⟨e_2, h_2⟩ := h_2
  have e_2 := e_2.symm
  subst e_2
  refine go_eqB (tgt := 21) (pc' := 8) h_2 dX12_before_5 rfl (by decide) (fun c_5 => ?_) (fun c_5 => absurd c_5 (nohas h20))
  refine go_bipush (v := (-2)) (pc' := 23) dX12_before_21 rfl (by decide) ?_
  exact go_iret dX12_before_23 rfl rfl
set_option maxHeartbeats 4000000 in
set_option maxRecDepth 100000 in
theorem f_X12_means (l : Launch) (L : WL) (σ : ST) (a b : Int32) (h20 : σ.1 20 = 0) : CtI l L yX12_means cX12_means 3 (some .int) rm_X12_means [.ref (L.2.1 13), .int a, .int b] σ (fun r _ => r = -2) := by
  refine ctI_go (own := RX12) (by decide) rfl (Nat.le_of_ble_eq_true rfl) (fun F hF => ?_)
  subst hF
  refine go_aload_n (i := 0) (pc' := 1) dX12_means_0 rfl rfl rfl ?_
  refine go_iload_n (i := 1) (pc' := 2) dX12_means_1 rfl rfl rfl ?_
  refine go_cvi (pc' := 5) lk_X12_152 (c_X12_isLetter _ _ _ _) rfl rfl (Nat.le_of_ble_eq_true rfl) (by decide) rfl rfl rfl ⟨Nat.le_of_ble_eq_true rfl, Nat.le_of_ble_eq_true rfl⟩ ⟨rfl, rfl⟩ dX12_means_2 rfl (fun r_2 σ_2 h_2 => ?_)
  obtain ⟨e_2, h_2⟩ := h_2
  have e_2 := e_2.symm
  subst e_2
  refine go_eqB (tgt := 28) (pc' := 8) h_2 dX12_means_5 rfl (by decide) (fun c_5 => ?_) (fun c_5 => absurd c_5 (nohas h20))
  refine go_bipush (v := (-2)) (pc' := 30) dX12_means_28 rfl (by decide) ?_
  exact go_iret dX12_means_30 rfl rfl
set_option maxHeartbeats 4000000 in
set_option maxRecDepth 100000 in
theorem f_X12_who (l : Launch) (L : WL) (σ : ST) (a b : Int32) (h20 : σ.1 20 = 0) : CtI l L yX12_who cX12_who 3 (some .int) rm_X12_who [.ref (L.2.1 13), .int a, .int b] σ (fun r _ => r = -2) := by
  refine ctI_go (own := RX12) (by decide) rfl (Nat.le_of_ble_eq_true rfl) (fun F hF => ?_)
  subst hF
  refine go_aload_n (i := 0) (pc' := 1) dX12_who_0 rfl rfl rfl ?_
  refine go_iload_n (i := 1) (pc' := 2) dX12_who_1 rfl rfl rfl ?_
  refine go_cvi (pc' := 5) lk_X12_152 (c_X12_isLetter _ _ _ _) rfl rfl (Nat.le_of_ble_eq_true rfl) (by decide) rfl rfl rfl ⟨Nat.le_of_ble_eq_true rfl, Nat.le_of_ble_eq_true rfl⟩ ⟨rfl, rfl⟩ dX12_who_2 rfl (fun r_2 σ_2 h_2 => ?_)
  obtain ⟨e_2, h_2⟩ := h_2
  have e_2 := e_2.symm
  subst e_2
  refine go_eqB (tgt := 19) (pc' := 8) h_2 dX12_who_5 rfl (by decide) (fun c_5 => ?_) (fun c_5 => absurd c_5 (nohas h20))
  refine go_bipush (v := (-2)) (pc' := 21) dX12_who_19 rfl (by decide) ?_
  exact go_iret dX12_who_21 rfl rfl
set_option maxHeartbeats 4000000 in
set_option maxRecDepth 100000 in
theorem f_X12_hand (l : Launch) (L : WL) (σ : ST) (a b c : Int32) (h20 : σ.1 20 = 0) : CtI l L yX12_hand cX12_hand 5 (some .int) rm_X12_hand [.ref (L.2.1 13), .int a, .int b, .int c] σ (fun r _ => r = -2) := by
  refine ctI_go (own := RX12) (by decide) rfl (Nat.le_of_ble_eq_true rfl) (fun F hF => ?_)
  subst hF
  refine go_aload_n (i := 0) (pc' := 1) dX12_hand_0 rfl rfl rfl ?_
  refine go_iload_n (i := 1) (pc' := 2) dX12_hand_1 rfl rfl rfl ?_
  refine go_cvi (pc' := 5) lk_X12_152 (c_X12_isLetter _ _ _ _) rfl rfl (Nat.le_of_ble_eq_true rfl) (by decide) rfl rfl rfl ⟨Nat.le_of_ble_eq_true rfl, Nat.le_of_ble_eq_true rfl⟩ ⟨rfl, rfl⟩ dX12_hand_2 rfl (fun r_2 σ_2 h_2 => ?_)
  obtain ⟨e_2, h_2⟩ := h_2
  have e_2 := e_2.symm
  subst e_2
  refine go_eqB (tgt := 27) (pc' := 8) h_2 dX12_hand_5 rfl (by decide) (fun c_5 => ?_) (fun c_5 => absurd c_5 (nohas h20))
  refine go_bipush (v := (-2)) (pc' := 29) dX12_hand_27 rfl (by decide) ?_
  exact go_iret dX12_hand_29 rfl rfl
set_option maxHeartbeats 4000000 in
set_option maxRecDepth 100000 in
theorem f_X12_text (l : Launch) (L : WL) (σ : ST) (a : Int32) (h20 : σ.1 20 = 0) : CtI l L yX12_text cX12_text 4 (some .int) rm_X12_text [.ref (L.2.1 13), .int a] σ (fun r _ => r = -2) := by
  refine ctI_go (own := RX12) (by decide) rfl (Nat.le_of_ble_eq_true rfl) (fun F hF => ?_)
  subst hF
  refine go_aload_n (i := 0) (pc' := 1) dX12_text_0 rfl rfl rfl ?_
  refine go_iload_n (i := 1) (pc' := 2) dX12_text_1 rfl rfl rfl ?_
  refine go_cvi (pc' := 5) lk_X12_152 (c_X12_isLetter _ _ _ _) rfl rfl (Nat.le_of_ble_eq_true rfl) (by decide) rfl rfl rfl ⟨Nat.le_of_ble_eq_true rfl, Nat.le_of_ble_eq_true rfl⟩ ⟨rfl, rfl⟩ dX12_text_2 rfl (fun r_2 σ_2 h_2 => ?_)
  obtain ⟨e_2, h_2⟩ := h_2
  have e_2 := e_2.symm
  subst e_2
  refine go_neB (tgt := 11) (pc' := 8) h_2 dX12_text_5 rfl (by decide) (fun c_5 => absurd c_5 (nohas h20)) (fun c_5 => ?_)
  refine go_bipush (v := (-2)) (pc' := 10) dX12_text_8 rfl (by decide) ?_
  exact go_iret dX12_text_10 rfl rfl
set_option maxHeartbeats 4000000 in
set_option maxRecDepth 100000 in
theorem f_X12_words (l : Launch) (L : WL) (σ : ST) (a : Int32) (h20 : σ.1 20 = 0) : CtI l L yX12_words cX12_words 2 (some .int) rm_X12_words [.ref (L.2.1 13), .int a] σ (fun r _ => r = -2) := by
  refine ctI_go (own := RX12) (by decide) rfl (Nat.le_of_ble_eq_true rfl) (fun F hF => ?_)
  subst hF
  refine go_aload_n (i := 0) (pc' := 1) dX12_words_0 rfl rfl rfl ?_
  refine go_iload_n (i := 1) (pc' := 2) dX12_words_1 rfl rfl rfl ?_
  refine go_cvi (pc' := 5) lk_X12_152 (c_X12_isLetter _ _ _ _) rfl rfl (Nat.le_of_ble_eq_true rfl) (by decide) rfl rfl rfl ⟨Nat.le_of_ble_eq_true rfl, Nat.le_of_ble_eq_true rfl⟩ ⟨rfl, rfl⟩ dX12_words_2 rfl (fun r_2 σ_2 h_2 => ?_)
  obtain ⟨e_2, h_2⟩ := h_2
  have e_2 := e_2.symm
  subst e_2
  refine go_neB (tgt := 11) (pc' := 8) h_2 dX12_words_5 rfl (by decide) (fun c_5 => absurd c_5 (nohas h20)) (fun c_5 => ?_)
  refine go_bipush (v := (-2)) (pc' := 10) dX12_words_8 rfl (by decide) ?_
  exact go_iret dX12_words_10 rfl rfl
set_option maxHeartbeats 4000000 in
set_option maxRecDepth 100000 in
theorem f_X12_differ (l : Launch) (L : WL) (σ : ST) (a b : Int32) (h20 : σ.1 20 = 0) : CtI l L yX12_differ cX12_differ 7 (some .int) rm_X12_differ [.ref (L.2.1 13), .int a, .int b] σ (fun r _ => r = -2) := by
  refine ctI_go (own := RX12) (by decide) rfl (Nat.le_of_ble_eq_true rfl) (fun F hF => ?_)
  subst hF
  refine go_aload_n (i := 0) (pc' := 1) dX12_differ_0 rfl rfl rfl ?_
  refine go_iload_n (i := 1) (pc' := 2) dX12_differ_1 rfl rfl rfl ?_
  refine go_cvi (pc' := 5) lk_X12_152 (c_X12_isLetter _ _ _ _) rfl rfl (Nat.le_of_ble_eq_true rfl) (by decide) rfl rfl rfl ⟨Nat.le_of_ble_eq_true rfl, Nat.le_of_ble_eq_true rfl⟩ ⟨rfl, rfl⟩ dX12_differ_2 rfl (fun r_2 σ_2 h_2 => ?_)
  obtain ⟨e_2, h_2⟩ := h_2
  have e_2 := e_2.symm
  subst e_2
  refine go_eqB (tgt := 16) (pc' := 8) h_2 dX12_differ_5 rfl (by decide) (fun c_5 => ?_) (fun c_5 => absurd c_5 (nohas h20))
  refine go_bipush (v := (-2)) (pc' := 18) dX12_differ_16 rfl (by decide) ?_
  exact go_iret dX12_differ_18 rfl rfl
set_option maxHeartbeats 4000000 in
set_option maxRecDepth 100000 in
theorem f_X12_note (l : Launch) (L : WL) (σ : ST) (a b : Int32) (h20 : σ.1 20 = 0) : CtI l L yX12_note cX12_note 7 (some .int) rm_X12_note [.ref (L.2.1 13), .int a, .int b] σ (fun r _ => r = -2) := by
  refine ctI_go (own := RX12) (by decide) rfl (Nat.le_of_ble_eq_true rfl) (fun F hF => ?_)
  subst hF
  refine go_aload_n (i := 0) (pc' := 1) dX12_note_0 rfl rfl rfl ?_
  refine go_iload_n (i := 1) (pc' := 2) dX12_note_1 rfl rfl rfl ?_
  refine go_cvi (pc' := 5) lk_X12_152 (c_X12_isLetter _ _ _ _) rfl rfl (Nat.le_of_ble_eq_true rfl) (by decide) rfl rfl rfl ⟨Nat.le_of_ble_eq_true rfl, Nat.le_of_ble_eq_true rfl⟩ ⟨rfl, rfl⟩ dX12_note_2 rfl (fun r_2 σ_2 h_2 => ?_)
  obtain ⟨e_2, h_2⟩ := h_2
  have e_2 := e_2.symm
  subst e_2
  refine go_neB (tgt := 11) (pc' := 8) h_2 dX12_note_5 rfl (by decide) (fun c_5 => absurd c_5 (nohas h20)) (fun c_5 => ?_)
  refine go_bipush (v := (-2)) (pc' := 10) dX12_note_8 rfl (by decide) ?_
  exact go_iret dX12_note_10 rfl rfl
set_option maxHeartbeats 4000000 in
set_option maxRecDepth 100000 in
theorem f_X12_read (l : Launch) (L : WL) (σ : ST) (a b c d : Int32) (h20 : σ.1 20 = 0) : CtI l L yX12_read cX12_read 5 (some .int) rm_X12_read [.ref (L.2.1 13), .int a, .int b, .int c, .int d] σ (fun r _ => r = -2) := by
  refine ctI_go (own := RX12) (by decide) rfl (Nat.le_of_ble_eq_true rfl) (fun F hF => ?_)
  subst hF
  refine go_aload_n (i := 0) (pc' := 1) dX12_read_0 rfl rfl rfl ?_
  refine go_iload_n (i := 1) (pc' := 2) dX12_read_1 rfl rfl rfl ?_
  refine go_cvi (pc' := 5) lk_X12_152 (c_X12_isLetter _ _ _ _) rfl rfl (Nat.le_of_ble_eq_true rfl) (by decide) rfl rfl rfl ⟨Nat.le_of_ble_eq_true rfl, Nat.le_of_ble_eq_true rfl⟩ ⟨rfl, rfl⟩ dX12_read_2 rfl (fun r_2 σ_2 h_2 => ?_)
  obtain ⟨e_2, h_2⟩ := h_2
  have e_2 := e_2.symm
  subst e_2
  refine go_eqB (tgt := 32) (pc' := 8) h_2 dX12_read_5 rfl (by decide) (fun c_5 => ?_) (fun c_5 => absurd c_5 (nohas h20))
  refine go_bipush (v := (-2)) (pc' := 34) dX12_read_32 rfl (by decide) ?_
  exact go_iret dX12_read_34 rfl rfl
set_option maxHeartbeats 4000000 in
set_option maxRecDepth 100000 in
theorem f_X12_print (l : Launch) (L : WL) (σ : ST) (a b c : Int32) (h20 : σ.1 20 = 0) : CtI l L yX12_print cX12_print 4 (some .int) rm_X12_print [.ref (L.2.1 13), .int a, .int b, .int c] σ (fun r _ => r = -2) := by
  refine ctI_go (own := RX12) (by decide) rfl (Nat.le_of_ble_eq_true rfl) (fun F hF => ?_)
  subst hF
  refine go_aload_n (i := 0) (pc' := 1) dX12_print_0 rfl rfl rfl ?_
  refine go_iload_n (i := 1) (pc' := 2) dX12_print_1 rfl rfl rfl ?_
  refine go_cvi (pc' := 5) lk_X12_152 (c_X12_isLetter _ _ _ _) rfl rfl (Nat.le_of_ble_eq_true rfl) (by decide) rfl rfl rfl ⟨Nat.le_of_ble_eq_true rfl, Nat.le_of_ble_eq_true rfl⟩ ⟨rfl, rfl⟩ dX12_print_2 rfl (fun r_2 σ_2 h_2 => ?_)
  obtain ⟨e_2, h_2⟩ := h_2
  have e_2 := e_2.symm
  subst e_2
  refine go_eqB (tgt := 23) (pc' := 8) h_2 dX12_print_5 rfl (by decide) (fun c_5 => ?_) (fun c_5 => absurd c_5 (nohas h20))
  refine go_bipush (v := (-2)) (pc' := 25) dX12_print_23 rfl (by decide) ?_
  exact go_iret dX12_print_25 rfl rfl
set_option maxHeartbeats 4000000 in
set_option maxRecDepth 100000 in
theorem f_X12_printed (l : Launch) (L : WL) (σ : ST) (a b c d : Int32) (h20 : σ.1 20 = 0) : CtI l L yX12_printed cX12_printed 5 (some .int) rm_X12_printed [.ref (L.2.1 13), .int a, .int b, .int c, .int d] σ (fun r _ => r = -2) := by
  refine ctI_go (own := RX12) (by decide) rfl (Nat.le_of_ble_eq_true rfl) (fun F hF => ?_)
  subst hF
  refine go_aload_n (i := 0) (pc' := 1) dX12_printed_0 rfl rfl rfl ?_
  refine go_iload_n (i := 1) (pc' := 2) dX12_printed_1 rfl rfl rfl ?_
  refine go_cvi (pc' := 5) lk_X12_152 (c_X12_isLetter _ _ _ _) rfl rfl (Nat.le_of_ble_eq_true rfl) (by decide) rfl rfl rfl ⟨Nat.le_of_ble_eq_true rfl, Nat.le_of_ble_eq_true rfl⟩ ⟨rfl, rfl⟩ dX12_printed_2 rfl (fun r_2 σ_2 h_2 => ?_)
  obtain ⟨e_2, h_2⟩ := h_2
  have e_2 := e_2.symm
  subst e_2
  refine go_eqB (tgt := 23) (pc' := 8) h_2 dX12_printed_5 rfl (by decide) (fun c_5 => ?_) (fun c_5 => absurd c_5 (nohas h20))
  refine go_bipush (v := (-2)) (pc' := 25) dX12_printed_23 rfl (by decide) ?_
  exact go_iret dX12_printed_25 rfl rfl
set_option maxHeartbeats 4000000 in
set_option maxRecDepth 100000 in
theorem f_X12_reads (l : Launch) (L : WL) (σ : ST) (a b c : Int32) (h19 : σ.1 19 = 0) : CtI l L yX12_reads cX12_reads 6 (some .int) rm_X12_reads [.ref (L.2.1 13), .int a, .int b, .int c] σ (fun r _ => r = -2) := by
  refine ctI_go (own := RX12) (by decide) rfl (Nat.le_of_ble_eq_true rfl) (fun F hF => ?_)
  subst hF
  refine go_aload_n (i := 0) (pc' := 1) dX12_reads_0 rfl rfl rfl ?_
  refine go_iload_n (i := 1) (pc' := 2) dX12_reads_1 rfl rfl rfl ?_
  refine go_cvi (pc' := 5) lk_X12_145 (c_X12_isPerson _ _ _ _) rfl rfl (Nat.le_of_ble_eq_true rfl) (by decide) rfl rfl rfl ⟨Nat.le_of_ble_eq_true rfl, Nat.le_of_ble_eq_true rfl⟩ ⟨rfl, rfl⟩ dX12_reads_2 rfl (fun r_2 σ_2 h_2 => ?_)
  obtain ⟨e_2, h_2⟩ := h_2
  have e_2 := e_2.symm
  subst e_2
  refine go_eqB (tgt := 23) (pc' := 8) h_2 dX12_reads_5 rfl (by decide) (fun c_5 => ?_) (fun c_5 => absurd c_5 (nohas h19))
  refine go_bipush (v := (-2)) (pc' := 25) dX12_reads_23 rfl (by decide) ?_
  exact go_iret dX12_reads_25 rfl rfl
set_option maxHeartbeats 4000000 in
set_option maxRecDepth 100000 in
theorem f_X12_loose (l : Launch) (L : WL) (σ : ST)  (h21 : σ.1 21 = 0) : CtI l L yX12_loose cX12_loose 1 (some .int) rm_X12_loose [.ref (L.2.1 13)] σ (fun r _ => r = -3) := by
  refine ctI_go (own := RX12) (by decide) rfl (Nat.le_of_ble_eq_true rfl) (fun F hF => ?_)
  subst hF
  refine go_aload_n (i := 0) (pc' := 1) dX12_loose_0 rfl rfl rfl ?_
  refine gf_13_bounds (pc' := 4) dX12_loose_1 rfl fl_X12_155 ?_
  refine go_if_ne (tgt := 10) (pc' := 7) dX12_loose_4 rfl (by decide) (fun c_4 => absurd h21 c_4) (fun c_4 => ?_)
  refine go_bipush (v := (-3)) (pc' := 9) dX12_loose_7 rfl (by decide) ?_
  exact go_iret dX12_loose_9 rfl rfl
set_option maxHeartbeats 4000000 in
set_option maxRecDepth 100000 in
theorem f_X12_clashes (l : Launch) (L : WL) (σ : ST) (kk : Int32) (h20 : σ.1 20 = 0) (h21 : σ.1 21 = 0) : CtI l L yX12_clashes cX12_clashes 3 (some .boolean) rm_X12_clashes [.ref (L.2.1 13), .int kk] σ (fun r σ2 => σ2 = setI (setI σ 24 1) 24 0 ∧ r = 0) := by
  refine ctI_go (own := RX12) (by decide) rfl (Nat.le_of_ble_eq_true rfl) (fun F hF => ?_)
  subst hF
  refine go_iconst (v := 0) (pc' := 1) dX12_clashes_0 rfl (by decide) ?_
  refine go_istore_n (i := 2) (pc' := 2) dX12_clashes_1 rfl rfl (by decide) ?_
  refine go_iload_n (i := 2) (pc' := 3) dX12_clashes_2 rfl rfl rfl ?_
  refine go_aload_n (i := 0) (pc' := 4) dX12_clashes_3 rfl rfl rfl ?_
  refine gf_13_letters (pc' := 7) dX12_clashes_4 rfl fl_X12_142 ?_
  refine go_icmp_ge (tgt := 54) (pc' := 10) dX12_clashes_7 rfl (by decide) (fun c_7 => ?_) (fun c_7 => absurd (by rw [h20]; decide) c_7)
  refine go_aload_n (i := 0) (pc' := 55) dX12_clashes_54 rfl rfl rfl ?_
  refine go_iconst (v := 1) (pc' := 56) dX12_clashes_55 rfl (by decide) ?_
  refine pf_13_moved (pc' := 59) dX12_clashes_56 rfl fl_X12_158 rfl rfl ?_
  refine go_aload_n (i := 0) (pc' := 60) dX12_clashes_59 rfl rfl rfl ?_
  refine gf_13_moved (pc' := 63) dX12_clashes_60 rfl fl_X12_158 ?_
  refine go_if_eq (tgt := 291) (pc' := 66) dX12_clashes_63 rfl (by decide) (fun c_63 => absurd c_63 (show ¬ ((1 : Int32) = 0) by decide)) (fun c_63 => ?_)
  refine go_aload_n (i := 0) (pc' := 67) dX12_clashes_66 rfl rfl rfl ?_
  refine go_iconst (v := 0) (pc' := 68) dX12_clashes_67 rfl (by decide) ?_
  refine pf_13_moved (pc' := 71) dX12_clashes_68 rfl fl_X12_158 rfl rfl ?_
  refine go_iconst (v := 0) (pc' := 72) dX12_clashes_71 rfl (by decide) ?_
  refine go_istore_n (i := 2) (pc' := 73) dX12_clashes_72 rfl rfl (by decide) ?_
  refine go_iload_n (i := 2) (pc' := 74) dX12_clashes_73 rfl rfl rfl ?_
  refine go_aload_n (i := 0) (pc' := 75) dX12_clashes_74 rfl rfl rfl ?_
  refine gf_13_letters (pc' := 78) dX12_clashes_75 rfl fl_X12_142 ?_
  refine go_icmp_ge (tgt := 195) (pc' := 81) dX12_clashes_78 rfl (by decide) (fun c_78 => ?_) (fun c_78 => absurd (show σ.1 20 ≤ 0 by rw [h20]; decide) c_78)
  refine go_iconst (v := 0) (pc' := 196) dX12_clashes_195 rfl (by decide) ?_
  refine go_istore_n (i := 2) (pc' := 197) dX12_clashes_196 rfl rfl (by decide) ?_
  refine go_iload_n (i := 2) (pc' := 198) dX12_clashes_197 rfl rfl rfl ?_
  refine go_aload_n (i := 0) (pc' := 199) dX12_clashes_198 rfl rfl rfl ?_
  refine gf_13_bounds (pc' := 202) dX12_clashes_199 rfl fl_X12_155 ?_
  refine go_icmp_ge (tgt := 288) (pc' := 205) dX12_clashes_202 rfl (by decide) (fun c_202 => ?_) (fun c_202 => absurd (show σ.1 21 ≤ 0 by rw [h21]; decide) c_202)
  refine go_goto (tgt := 59) dX12_clashes_288 (by decide) ?_
  refine go_aload_n (i := 0) (pc' := 60) dX12_clashes_59 rfl rfl rfl ?_
  refine gf_13_moved (pc' := 63) dX12_clashes_60 rfl fl_X12_158 ?_
  refine go_if_eq (tgt := 291) (pc' := 66) dX12_clashes_63 rfl (by decide) (fun c_63 => ?_) (fun c_63 => absurd (show (0 : Int32) = 0 from rfl) c_63)
  refine go_iconst (v := 0) (pc' := 292) dX12_clashes_291 rfl (by decide) ?_
  exact go_zret dX12_clashes_292 rfl rfl ⟨rfl, rfl⟩
set_option maxHeartbeats 4000000 in
set_option maxRecDepth 100000 in
theorem f_X12_clashAll (l : Launch) (L : WL) (σ : ST)  (h20 : σ.1 20 = 0) (h21 : σ.1 21 = 0) : CtI l L yX12_clashAll cX12_clashAll 1 (some .boolean) rm_X12_clashAll [.ref (L.2.1 13)] σ (fun r σ2 => σ2 = setI (setI σ 24 1) 24 0 ∧ r = 0) := by
  refine ctI_go (own := RX12) (by decide) rfl (Nat.le_of_ble_eq_true rfl) (fun F hF => ?_)
  subst hF
  refine go_aload_n (i := 0) (pc' := 1) dX12_clashAll_0 rfl rfl rfl ?_
  refine go_iconst (v := 1) (pc' := 2) dX12_clashAll_1 rfl (by decide) ?_
  refine go_aload_n (i := 0) (pc' := 3) dX12_clashAll_2 rfl rfl rfl ?_
  refine gf_13_bounds (pc' := 6) dX12_clashAll_3 rfl fl_X12_155 ?_
  refine go_ishl (pc' := 7) dX12_clashAll_6 rfl ?_
  refine go_iconst (v := 1) (pc' := 8) dX12_clashAll_7 rfl (by decide) ?_
  refine go_isub (pc' := 9) dX12_clashAll_8 rfl ?_
  refine go_cvi (pc' := 12) lk_X12_181 (f_X12_clashes _ _ _ _ h20 h21) rfl rfl (Nat.le_of_ble_eq_true rfl) (by decide) rfl rfl rfl ⟨Nat.le_of_ble_eq_true rfl, Nat.le_of_ble_eq_true rfl⟩ ⟨rfl, rfl⟩ dX12_clashAll_9 rfl (fun r_9 σ_9 h_9 => ?_)
  obtain ⟨e_9, h_9⟩ := h_9
  have e_9 := e_9.symm
  subst e_9
  subst h_9
  exact go_zret dX12_clashAll_12 rfl rfl ⟨rfl, rfl⟩
set_option maxHeartbeats 4000000 in
set_option maxRecDepth 100000 in
theorem f_X12_clash (l : Launch) (L : WL) (σ : ST)  (h20 : σ.1 20 = 0) (h21 : σ.1 21 = 0) : CtI l L yX12_clash cX12_clash 3 (some .int) rm_X12_clash [.ref (L.2.1 13)] σ (fun r _ => r = -1) := by
  refine ctI_go (own := RX12) (by decide) rfl (Nat.le_of_ble_eq_true rfl) (fun F hF => ?_)
  subst hF
  refine go_aload_n (i := 0) (pc' := 1) dX12_clash_0 rfl rfl rfl ?_
  refine go_cvi (pc' := 4) lk_X12_184 (f_X12_clashAll _ _ _ h20 h21) rfl rfl (Nat.le_of_ble_eq_true rfl) (by decide) rfl rfl rfl ⟨Nat.le_of_ble_eq_true rfl, Nat.le_of_ble_eq_true rfl⟩ ⟨rfl, rfl⟩ dX12_clash_1 rfl (fun r_1 σ_1 h_1 => ?_)
  obtain ⟨e_1, h_1⟩ := h_1
  have e_1 := e_1.symm
  subst e_1
  subst h_1
  refine go_if_ne (tgt := 9) (pc' := 7) dX12_clash_4 rfl (by decide) (fun c_4 => absurd (by decide) c_4) (fun c_4 => ?_)
  refine go_iconst (v := (-1)) (pc' := 8) dX12_clash_7 rfl (by decide) ?_
  exact go_iret dX12_clash_8 rfl rfl
set_option maxHeartbeats 4000000 in
set_option maxRecDepth 100000 in
theorem f_X12_post (l : Launch) (L : WL) (σ : ST) (a b u v : Int32) : CtI l L yX12_post cX12_post 5 (some .int) rm_X12_post [.ref (L.2.1 13), .int a, .int b, .int u, .int v] σ (fun r _ => r = (if (0 ≤ a.toInt ∧ a.toInt < 6) ∧ (0 ≤ b.toInt ∧ b.toInt < 6) ∧ (0 ≤ u.toInt ∧ u.toInt ≤ 400) ∧ (0 ≤ v.toInt ∧ v.toInt ≤ 400) ∧ u.toInt ≤ v.toInt then 1 else -2)) := by
  refine ctI_go (own := RX12) (by decide) rfl (Nat.le_of_ble_eq_true rfl) (fun F hF => ?_)
  subst hF
  refine go_iload_n (i := 1) (pc' := 1) dX12_post_0 rfl rfl rfl ?_
  refine go_bipush (v := 6) (pc' := 3) dX12_post_1 rfl (by decide) ?_
  refine go_csi (pc' := 6) ls_X12_135 (c_X12_isIn _ _ _ _ _) rfl rfl (Nat.le_of_ble_eq_true rfl) ⟨Nat.le_of_ble_eq_true rfl, Nat.le_of_ble_eq_true rfl⟩ ⟨rfl, rfl⟩ dX12_post_3 rfl (fun r_3 σ_3 h_3 => ?_)
  obtain ⟨e_3, h_3⟩ := h_3
  have e_3 := e_3.symm
  subst e_3
  rw [show (6 : Int32).toInt = 6 from by decide] at h_3
  refine go_eqB (tgt := 45) (pc' := 9) h_3 dX12_post_6 rfl (by decide) (fun c_6 => ?_) (fun c_6 => ?_)
  · refine go_bipush (v := (-2)) (pc' := 47) dX12_post_45 rfl (by decide) ?_
    exact go_iret dX12_post_47 rfl (by split <;> first | rfl | (exfalso; (try simp only [Int32.lt_iff_toInt_lt, Int32.le_iff_toInt_le, ← Int32.toInt_inj, ge_iff_le, gt_iff_lt, ne_eq, Int32.reduceToInt] at *); omega))
  refine go_iload_n (i := 2) (pc' := 10) dX12_post_9 rfl rfl rfl ?_
  refine go_bipush (v := 6) (pc' := 12) dX12_post_10 rfl (by decide) ?_
  refine go_csi (pc' := 15) ls_X12_135 (c_X12_isIn _ _ _ _ _) rfl rfl (Nat.le_of_ble_eq_true rfl) ⟨Nat.le_of_ble_eq_true rfl, Nat.le_of_ble_eq_true rfl⟩ ⟨rfl, rfl⟩ dX12_post_12 rfl (fun r_12 σ_12 h_12 => ?_)
  obtain ⟨e_12, h_12⟩ := h_12
  have e_12 := e_12.symm
  subst e_12
  rw [show (6 : Int32).toInt = 6 from by decide] at h_12
  refine go_eqB (tgt := 45) (pc' := 18) h_12 dX12_post_15 rfl (by decide) (fun c_15 => ?_) (fun c_15 => ?_)
  · refine go_bipush (v := (-2)) (pc' := 47) dX12_post_45 rfl (by decide) ?_
    exact go_iret dX12_post_47 rfl (by split <;> first | rfl | (exfalso; (try simp only [Int32.lt_iff_toInt_lt, Int32.le_iff_toInt_le, ← Int32.toInt_inj, ge_iff_le, gt_iff_lt, ne_eq, Int32.reduceToInt] at *); omega))
  refine go_iload_n (i := 3) (pc' := 19) dX12_post_18 rfl rfl rfl ?_
  refine go_sipush (v := 401) (pc' := 22) dX12_post_19 rfl (by decide) ?_
  refine go_csi (pc' := 25) ls_X12_135 (c_X12_isIn _ _ _ _ _) rfl rfl (Nat.le_of_ble_eq_true rfl) ⟨Nat.le_of_ble_eq_true rfl, Nat.le_of_ble_eq_true rfl⟩ ⟨rfl, rfl⟩ dX12_post_22 rfl (fun r_22 σ_22 h_22 => ?_)
  obtain ⟨e_22, h_22⟩ := h_22
  have e_22 := e_22.symm
  subst e_22
  rw [show (401 : Int32).toInt = 401 from by decide] at h_22
  refine go_eqB (tgt := 45) (pc' := 28) h_22 dX12_post_25 rfl (by decide) (fun c_25 => ?_) (fun c_25 => ?_)
  · refine go_bipush (v := (-2)) (pc' := 47) dX12_post_45 rfl (by decide) ?_
    exact go_iret dX12_post_47 rfl (by split <;> first | rfl | (exfalso; (try simp only [Int32.lt_iff_toInt_lt, Int32.le_iff_toInt_le, ← Int32.toInt_inj, ge_iff_le, gt_iff_lt, ne_eq, Int32.reduceToInt] at *); omega))
  refine go_iload (pc' := 30) dX12_post_28 rfl rfl ?_
  refine go_sipush (v := 401) (pc' := 33) dX12_post_30 rfl (by decide) ?_
  refine go_csi (pc' := 36) ls_X12_135 (c_X12_isIn _ _ _ _ _) rfl rfl (Nat.le_of_ble_eq_true rfl) ⟨Nat.le_of_ble_eq_true rfl, Nat.le_of_ble_eq_true rfl⟩ ⟨rfl, rfl⟩ dX12_post_33 rfl (fun r_33 σ_33 h_33 => ?_)
  obtain ⟨e_33, h_33⟩ := h_33
  have e_33 := e_33.symm
  subst e_33
  rw [show (401 : Int32).toInt = 401 from by decide] at h_33
  refine go_eqB (tgt := 45) (pc' := 39) h_33 dX12_post_36 rfl (by decide) (fun c_36 => ?_) (fun c_36 => ?_)
  · refine go_bipush (v := (-2)) (pc' := 47) dX12_post_45 rfl (by decide) ?_
    exact go_iret dX12_post_47 rfl (by split <;> first | rfl | (exfalso; (try simp only [Int32.lt_iff_toInt_lt, Int32.le_iff_toInt_le, ← Int32.toInt_inj, ge_iff_le, gt_iff_lt, ne_eq, Int32.reduceToInt] at *); omega))
  refine go_iload_n (i := 3) (pc' := 40) dX12_post_39 rfl rfl rfl ?_
  refine go_iload (pc' := 42) dX12_post_40 rfl rfl ?_
  refine go_icmp_le (tgt := 48) (pc' := 45) dX12_post_42 rfl (by decide) (fun c_42 => ?_) (fun c_42 => ?_)
  · refine go_aload_n (i := 0) (pc' := 49) dX12_post_48 rfl rfl rfl ?_
    refine gf_13_postLeast (pc' := 52) dX12_post_49 rfl fl_X12_65 ?_
    refine go_bipush (v := 6) (pc' := 54) dX12_post_52 rfl (by decide) ?_
    refine go_iload_n (i := 1) (pc' := 55) dX12_post_54 rfl rfl rfl ?_
    refine go_imul (pc' := 56) dX12_post_55 rfl ?_
    refine go_iload_n (i := 2) (pc' := 57) dX12_post_56 rfl rfl rfl ?_
    refine go_iadd (pc' := 58) dX12_post_57 rfl ?_
    refine go_iload_n (i := 3) (pc' := 59) dX12_post_58 rfl rfl rfl ?_
    refine go_iast (pc' := 60) dX12_post_59 rfl (by decide) (by decide) rfl (vin6 c_6 c_15) ?_
    refine go_aload_n (i := 0) (pc' := 61) dX12_post_60 rfl rfl rfl ?_
    refine gf_13_postMost (pc' := 64) dX12_post_61 rfl fl_X12_68 ?_
    refine go_bipush (v := 6) (pc' := 66) dX12_post_64 rfl (by decide) ?_
    refine go_iload_n (i := 1) (pc' := 67) dX12_post_66 rfl rfl rfl ?_
    refine go_imul (pc' := 68) dX12_post_67 rfl ?_
    refine go_iload_n (i := 2) (pc' := 69) dX12_post_68 rfl rfl rfl ?_
    refine go_iadd (pc' := 70) dX12_post_69 rfl ?_
    refine go_iload (pc' := 72) dX12_post_70 rfl rfl ?_
    refine go_iast (pc' := 73) dX12_post_72 rfl (by decide) (by decide) rfl (vin6 c_6 c_15) ?_
    refine go_iconst (v := 1) (pc' := 74) dX12_post_73 rfl (by decide) ?_
    exact go_iret dX12_post_74 rfl (by split <;> first | rfl | (exfalso; (try simp only [Int32.lt_iff_toInt_lt, Int32.le_iff_toInt_le, ← Int32.toInt_inj, ge_iff_le, gt_iff_lt, ne_eq, Int32.reduceToInt] at *); omega))
  refine go_bipush (v := (-2)) (pc' := 47) dX12_post_45 rfl (by decide) ?_
  exact go_iret dX12_post_47 rfl (by split <;> first | rfl | (exfalso; (try simp only [Int32.lt_iff_toInt_lt, Int32.le_iff_toInt_le, ← Int32.toInt_inj, ge_iff_le, gt_iff_lt, ne_eq, Int32.reduceToInt] at *); omega))
set_option maxHeartbeats 4000000 in
set_option maxRecDepth 100000 in
theorem f_X12_feed (l : Launch) (L : WL) (σ : ST) (n : Int32) (b : Int64) (h23 : σ.1 23 = 0) : CtI l L yX12_feed cX12_feed 5 (some .int) rm_X12_feed [.ref (L.2.1 13), .int n, .long b] σ (fun r _ => r = (if 1 ≤ n.toInt ∧ n.toInt ≤ 8 then n else -2)) := by
  refine ctI_go (own := RX12) (by decide) rfl (Nat.le_of_ble_eq_true rfl) (fun F hF => ?_)
  subst hF
  have loop : ∀ k : Nat, k ≤ 8 → n = nI k → (1 ≤ n.toInt ∧ n.toInt ≤ 8) → ∀ (d i : Nat) (σ1 : ST), i + d = k → σ1.1 23 = nI i → Go F L RX12 cX12_feed 5 rm_X12_feed (some .int) (RI F L (fun r _ => r = (if 1 ≤ n.toInt ∧ n.toInt ≤ 8 then n else -2))) σ1 32 [(0, .ref (L.2.1 13)), (1, .int (nI k)), (2, .long b), (4, .int (nI i))] [] := by
    intro k hk hn hr d
    induction d with
    | zero =>
      intro i σ1 hi hs
      refine go_iload (pc' := 34) dX12_feed_32 rfl rfl ?_
      refine go_iload_n (i := 1) (pc' := 35) dX12_feed_34 rfl rfl rfl ?_
      refine go_icmp_ge (tgt := 75) (pc' := 38) dX12_feed_35 rfl (by decide) (fun c_35 => ?_) (fun c_35 => absurd (by exact nI_le (by omega) (by omega)) c_35)
      refine go_aload_n (i := 0) (pc' := 76) dX12_feed_75 rfl rfl rfl ?_
      refine gf_13_size (pc' := 79) dX12_feed_76 rfl fl_X12_215 ?_
      exact go_iret dX12_feed_79 rfl (by rw [hs, if_pos hr, hn, show i = k by omega])
    | succ d ih =>
      intro i σ1 hi hs
      refine go_iload (pc' := 34) dX12_feed_32 rfl rfl ?_
      refine go_iload_n (i := 1) (pc' := 35) dX12_feed_34 rfl rfl rfl ?_
      refine go_icmp_ge (tgt := 75) (pc' := 38) dX12_feed_35 rfl (by decide) (fun c_35 => absurd c_35 (by exact nI_ge (by omega) (by omega))) (fun c_35 => ?_)
      refine go_aload_n (i := 0) (pc' := 39) dX12_feed_38 rfl rfl rfl ?_
      refine gf_13_tape (pc' := 42) dX12_feed_39 rfl fl_X12_80 ?_
      refine go_aload_n (i := 0) (pc' := 43) dX12_feed_42 rfl rfl rfl ?_
      refine gf_13_size (pc' := 46) dX12_feed_43 rfl fl_X12_215 ?_
      refine go_lload_n (i := 2) (pc' := 47) dX12_feed_46 rfl rfl rfl ?_
      refine go_bipush (v := 8) (pc' := 49) dX12_feed_47 rfl (by decide) ?_
      refine go_iload (pc' := 51) dX12_feed_49 rfl rfl ?_
      refine go_imul (pc' := 52) dX12_feed_51 rfl ?_
      refine go_lshr (pc' := 53) dX12_feed_52 rfl ?_
      refine go_l2i (pc' := 54) dX12_feed_53 rfl ?_
      refine go_sipush (v := 255) (pc' := 57) dX12_feed_54 rfl (by decide) ?_
      refine go_iand (pc' := 58) dX12_feed_57 rfl ?_
      refine go_iast (pc' := 59) dX12_feed_58 rfl (by decide) (by decide) rfl (by rw [hs]; exact vp_in_nI (N := 160) (by omega) (by decide)) ?_
      refine go_aload_n (i := 0) (pc' := 60) dX12_feed_59 rfl rfl rfl ?_
      refine go_dup (pc' := 61) dX12_feed_60 rfl rfl ?_
      refine gf_13_size (pc' := 64) dX12_feed_61 rfl fl_X12_215 ?_
      refine go_iconst (v := 1) (pc' := 65) dX12_feed_64 rfl (by decide) ?_
      refine go_iadd (pc' := 66) dX12_feed_65 rfl ?_
      refine pf_13_size (pc' := 69) dX12_feed_66 rfl fl_X12_215 ?_
      refine go_iinc (c := 1) (pc' := 72) dX12_feed_69 rfl rfl (by decide) (by decide) ?_
      refine go_goto (tgt := 32) dX12_feed_72 (by decide) ?_
      exact go_lv (lv' := [(0, .ref (L.2.1 13)), (1, .int (nI k)), (2, .long b), (4, .int (nI (i + 1)))]) (by rw [nI_succ]; rfl) (ih (i + 1) _ (by omega) (by show σ1.1 23 + 1 = nI (i + 1); rw [hs, nI_succ]))
  have feed2 : (1 ≤ n.toInt ∧ n.toInt ≤ 8) → Go F L RX12 cX12_feed 5 rm_X12_feed (some .int) (RI F L (fun r _ => r = (if 1 ≤ n.toInt ∧ n.toInt ≤ 8 then n else -2))) σ 32 [(0, .ref (L.2.1 13)), (1, .int n), (2, .long b), (4, .int (nI 0))] [] := by
    intro hr
    obtain ⟨k, hk, rfl⟩ := nI_of2 (x := n) (M := 8) (n := 8) (by decide) (by (try simp only [Int32.lt_iff_toInt_lt, Int32.le_iff_toInt_le, ← Int32.toInt_inj, ge_iff_le, gt_iff_lt, ne_eq, Int32.reduceToInt] at *); omega) (by (try simp only [Int32.lt_iff_toInt_lt, Int32.le_iff_toInt_le, ← Int32.toInt_inj, ge_iff_le, gt_iff_lt, ne_eq, Int32.reduceToInt] at *); omega)
    exact loop k hk rfl hr k 0 σ (by omega) h23
  refine go_iload_n (i := 1) (pc' := 1) dX12_feed_0 rfl rfl rfl ?_
  refine go_iconst (v := 1) (pc' := 2) dX12_feed_1 rfl (by decide) ?_
  refine go_isub (pc' := 3) dX12_feed_2 rfl ?_
  refine go_bipush (v := 8) (pc' := 5) dX12_feed_3 rfl (by decide) ?_
  refine go_csi (pc' := 8) ls_X12_135 (c_X12_isIn _ _ _ _ _) rfl rfl (Nat.le_of_ble_eq_true rfl) ⟨Nat.le_of_ble_eq_true rfl, Nat.le_of_ble_eq_true rfl⟩ ⟨rfl, rfl⟩ dX12_feed_5 rfl (fun r_5 σ_5 h_5 => ?_)
  obtain ⟨e_5, h_5⟩ := h_5
  have e_5 := e_5.symm
  subst e_5
  have h_5 := bq_c (sub1c _ _) h_5
  rw [show (8 : Int32).toInt = 8 from by decide] at h_5
  refine go_neB (tgt := 14) (pc' := 11) h_5 dX12_feed_8 rfl (by decide) (fun c_8 => ?_) (fun c_8 => ?_)
  · refine go_aload_n (i := 0) (pc' := 15) dX12_feed_14 rfl rfl rfl ?_
    refine gf_13_size (pc' := 18) dX12_feed_15 rfl fl_X12_215 ?_
    refine go_iload_n (i := 1) (pc' := 19) dX12_feed_18 rfl rfl rfl ?_
    refine go_iadd (pc' := 20) dX12_feed_19 rfl ?_
    refine go_sipush (v := 160) (pc' := 23) dX12_feed_20 rfl (by decide) ?_
    refine go_icmp_le (tgt := 29) (pc' := 26) dX12_feed_23 rfl (by decide) (fun c_23 => ?_) (fun c_23 => absurd (by rw [show σ.1 23 + n = n from (by rw [h23]; exact Int32.zero_add n)]; (try simp only [Int32.lt_iff_toInt_lt, Int32.le_iff_toInt_le, ← Int32.toInt_inj, ge_iff_le, gt_iff_lt, ne_eq, Int32.reduceToInt] at *); omega) c_23)
    refine go_iconst (v := 0) (pc' := 30) dX12_feed_29 rfl (by decide) ?_
    refine go_istore (pc' := 32) dX12_feed_30 rfl (by decide) ?_
    exact go_lv (lv' := [(0, .ref (L.2.1 13)), (1, .int n), (2, .long b), (4, .int (nI 0))]) rfl (feed2 c_8)
  refine go_bipush (v := (-2)) (pc' := 13) dX12_feed_11 rfl (by decide) ?_
  exact go_iret dX12_feed_13 rfl (by split <;> first | rfl | (exfalso; (try simp only [Int32.lt_iff_toInt_lt, Int32.le_iff_toInt_le, ← Int32.toInt_inj, ge_iff_le, gt_iff_lt, ne_eq, Int32.reduceToInt] at *); omega))
set_option maxHeartbeats 4000000 in
set_option maxRecDepth 100000 in
theorem f_X12_fault (l : Launch) (L : WL) (σ : ST) (x : Int32) (h26 : σ.1 26 = 0) (h27 : σ.1 27 = -1) : CtI l L yX12_fault cX12_fault 2 (some .int) rm_X12_fault [.ref (L.2.1 13), .int x] σ (fun r _ => r = (if x = 0 then 0 else if x = 1 then -1 else -2)) := by
  refine ctI_go (own := RX12) (by decide) rfl (Nat.le_of_ble_eq_true rfl) (fun F hF => ?_)
  subst hF
  refine go_iload_n (i := 1) (pc' := 1) dX12_fault_0 rfl rfl rfl ?_
  refine go_if_ne (tgt := 11) (pc' := 4) dX12_fault_1 rfl (by decide) (fun c_1 => ?_) (fun c_1 => ?_)
  · refine go_iload_n (i := 1) (pc' := 12) dX12_fault_11 rfl rfl rfl ?_
    refine go_iconst (v := 1) (pc' := 13) dX12_fault_12 rfl (by decide) ?_
    refine go_icmp_ne (tgt := 23) (pc' := 16) dX12_fault_13 rfl (by decide) (fun c_13 => ?_) (fun c_13 => ?_)
    · refine go_bipush (v := (-2)) (pc' := 25) dX12_fault_23 rfl (by decide) ?_
      exact go_iret dX12_fault_25 rfl (by first | (show σ.1 26 = _; rw [h26, if_pos c_1]; done) | (show σ.1 27 = _; rw [h27, if_neg c_1, if_pos c_13]; done) | (rw [if_neg c_1, if_neg c_13]))
    refine go_aload_n (i := 0) (pc' := 17) dX12_fault_16 rfl rfl rfl ?_
    refine gf_13_faultAt (pc' := 20) dX12_fault_17 rfl fl_X12_92 ?_
    refine go_goto (tgt := 25) dX12_fault_20 (by decide) ?_
    exact go_iret dX12_fault_25 rfl (by first | (show σ.1 26 = _; rw [h26, if_pos c_1]; done) | (show σ.1 27 = _; rw [h27, if_neg c_1, if_pos c_13]; done) | (rw [if_neg c_1, if_neg c_13]))
  refine go_aload_n (i := 0) (pc' := 5) dX12_fault_4 rfl rfl rfl ?_
  refine gf_13_faultKind (pc' := 8) dX12_fault_5 rfl fl_X12_236 ?_
  refine go_goto (tgt := 25) dX12_fault_8 (by decide) ?_
  exact go_iret dX12_fault_25 rfl (by first | (show σ.1 26 = _; rw [h26, if_pos c_1]; done) | (show σ.1 27 = _; rw [h27, if_neg c_1, if_pos c_13]; done) | (rw [if_neg c_1, if_neg c_13]))
set_option maxHeartbeats 4000000 in
set_option maxRecDepth 100000 in
theorem f_X12_findWays (l : Launch) (L : WL) (σ : ST) (h20 : σ.1 20 = 0) (h21 : σ.1 21 = 0) : CtV l L yX12_findWays cX12_findWays 4 none rm_X12_findWays [.ref (L.2.1 13)] σ (fun σ2 => σ2.1 = σ.1) := by
  refine ctV_go (own := RX12) (by decide) rfl (Nat.le_of_ble_eq_true rfl) (fun F hF => ?_)
  subst hF
  have loop : ∀ (d i : Nat) (σ1 : ST), i + d = 144 → σ1.1 = σ.1 → Go F L RX12 cX12_findWays 4 rm_X12_findWays none (RV F L (fun σ2 => σ2.1 = σ.1)) σ1 2 [(0, .ref (L.2.1 13)), (1, .int (nI i))] [] := by
    intro d
    induction d with
    | zero =>
      intro i σ1 hi hs
      have e20 : σ1.1 20 = 0 := by rw [hs]; exact h20
      have e21 : σ1.1 21 = 0 := by rw [hs]; exact h21
      refine go_iload_n (i := 1) (pc' := 3) dX12_findWays_2 rfl rfl rfl ?_
      refine go_sipush (v := 144) (pc' := 6) dX12_findWays_3 rfl (by decide) ?_
      refine go_icmp_ge (tgt := 23) (pc' := 9) dX12_findWays_6 rfl (by decide) (fun c_6 => ?_) (fun c_6 => absurd (by exact nI_le (a := 144) (by omega) (by omega)) c_6)
      refine go_iconst (v := 0) (pc' := 24) dX12_findWays_23 rfl (by decide) ?_
      refine go_istore_n (i := 1) (pc' := 25) dX12_findWays_24 rfl rfl (by decide) ?_
      refine go_iload_n (i := 1) (pc' := 26) dX12_findWays_25 rfl rfl rfl ?_
      refine go_aload_n (i := 0) (pc' := 27) dX12_findWays_26 rfl rfl rfl ?_
      refine gf_13_letters (pc' := 30) dX12_findWays_27 rfl fl_X12_142 ?_
      refine go_icmp_ge (tgt := 75) (pc' := 33) dX12_findWays_30 rfl (by decide) (fun c_30 => ?_) (fun c_30 => absurd (by rw [e20]; decide) c_30)
      refine go_iconst (v := 0) (pc' := 76) dX12_findWays_75 rfl (by decide) ?_
      refine go_istore_n (i := 1) (pc' := 77) dX12_findWays_76 rfl rfl (by decide) ?_
      refine go_iload_n (i := 1) (pc' := 78) dX12_findWays_77 rfl rfl rfl ?_
      refine go_aload_n (i := 0) (pc' := 79) dX12_findWays_78 rfl rfl rfl ?_
      refine gf_13_bounds (pc' := 82) dX12_findWays_79 rfl fl_X12_155 ?_
      refine go_icmp_ge (tgt := 113) (pc' := 85) dX12_findWays_82 rfl (by decide) (fun c_82 => ?_) (fun c_82 => absurd (by rw [e21]; decide) c_82)
      refine go_iconst (v := 0) (pc' := 114) dX12_findWays_113 rfl (by decide) ?_
      refine go_istore_n (i := 1) (pc' := 115) dX12_findWays_114 rfl rfl (by decide) ?_
      refine go_iload_n (i := 1) (pc' := 116) dX12_findWays_115 rfl rfl rfl ?_
      refine go_aload_n (i := 0) (pc' := 117) dX12_findWays_116 rfl rfl rfl ?_
      refine gf_13_letters (pc' := 120) dX12_findWays_117 rfl fl_X12_142 ?_
      refine go_icmp_ge (tgt := 222) (pc' := 123) dX12_findWays_120 rfl (by decide) (fun c_120 => ?_) (fun c_120 => absurd (by rw [e20]; decide) c_120)
      exact go_vret dX12_findWays_222 rfl hs
    | succ d ih =>
      intro i σ1 hi hs
      refine go_iload_n (i := 1) (pc' := 3) dX12_findWays_2 rfl rfl rfl ?_
      refine go_sipush (v := 144) (pc' := 6) dX12_findWays_3 rfl (by decide) ?_
      refine go_icmp_ge (tgt := 23) (pc' := 9) dX12_findWays_6 rfl (by decide) (fun c_6 => absurd c_6 (by exact nI_ge (b := 144) (by omega) (by omega))) (fun c_6 => ?_)
      refine go_aload_n (i := 0) (pc' := 10) dX12_findWays_9 rfl rfl rfl ?_
      refine gf_13_way (pc' := 13) dX12_findWays_10 rfl fl_X12_89 ?_
      refine go_iload_n (i := 1) (pc' := 14) dX12_findWays_13 rfl rfl rfl ?_
      refine go_ldc (pc' := 16) dX12_findWays_14 rfl cst_X12_188 ?_
      refine go_iast (pc' := 17) dX12_findWays_16 rfl (by decide) (by decide) rfl (vp_in_nI (by show i < 144; omega) (by decide)) ?_
      refine go_iinc (c := 1) (pc' := 20) dX12_findWays_17 rfl rfl (by decide) (by decide) ?_
      refine go_goto (tgt := 2) dX12_findWays_20 (by decide) ?_
      exact go_lv (lv' := [(0, .ref (L.2.1 13)), (1, .int (nI (i + 1)))]) (by rw [nI_succ]; rfl) (ih (i + 1) _ (by omega) hs)
  refine go_iconst (v := 0) (pc' := 1) dX12_findWays_0 rfl (by decide) ?_
  refine go_istore_n (i := 1) (pc' := 2) dX12_findWays_1 rfl rfl (by decide) ?_
  exact go_lv (lv' := [(0, .ref (L.2.1 13)), (1, .int (nI 0))]) rfl (loop 144 0 _ (by omega) rfl)
set_option maxHeartbeats 4000000 in
set_option maxRecDepth 100000 in
theorem f_X12_finds (l : Launch) (L : WL) (σ : ST)  (h20 : σ.1 20 = 0) (h21 : σ.1 21 = 0) : CtI l L yX12_finds cX12_finds 5 (some .int) rm_X12_finds [.ref (L.2.1 13), .int 0] σ (fun r σ2 => r = 0 ∧ σ2.1 30 = 0) := by
  refine ctI_go (own := RX12) (by decide) rfl (Nat.le_of_ble_eq_true rfl) (fun F hF => ?_)
  subst hF
  refine go_iload_n (i := 1) (pc' := 1) dX12_finds_0 rfl rfl rfl ?_
  refine go_if_lt (tgt := 14) (pc' := 4) dX12_finds_1 rfl (by decide) (fun c_1 => absurd c_1 (by decide)) (fun c_1 => ?_)
  refine go_iload_n (i := 1) (pc' := 5) dX12_finds_4 rfl rfl rfl ?_
  refine go_iconst (v := 1) (pc' := 6) dX12_finds_5 rfl (by decide) ?_
  refine go_aload_n (i := 0) (pc' := 7) dX12_finds_6 rfl rfl rfl ?_
  refine gf_13_letters (pc' := 10) dX12_finds_7 rfl fl_X12_142 ?_
  refine go_ishl (pc' := 11) dX12_finds_10 rfl ?_
  refine go_icmp_lt (tgt := 17) (pc' := 14) dX12_finds_11 rfl (by decide) (fun c_11 => ?_) (fun c_11 => absurd (by rw [h20]; decide) c_11)
  refine go_aload_n (i := 0) (pc' := 18) dX12_finds_17 rfl rfl rfl ?_
  refine go_iconst (v := 0) (pc' := 19) dX12_finds_18 rfl (by decide) ?_
  refine pf_13_many (pc' := 22) dX12_finds_19 rfl fl_X12_272 ?_
  refine go_iconst (v := 0) (pc' := 23) dX12_finds_22 rfl (by decide) ?_
  refine go_istore_n (i := 2) (pc' := 24) dX12_finds_23 rfl rfl (by decide) ?_
  refine go_iload_n (i := 2) (pc' := 25) dX12_finds_24 rfl rfl rfl ?_
  refine go_aload_n (i := 0) (pc' := 26) dX12_finds_25 rfl rfl rfl ?_
  refine gf_13_letters (pc' := 29) dX12_finds_26 rfl fl_X12_142 ?_
  refine go_icmp_ge (tgt := 81) (pc' := 32) dX12_finds_29 rfl (by decide) (fun c_29 => ?_) (fun c_29 => absurd (show σ.1 20 ≤ 0 by rw [h20]; decide) c_29)
  refine go_aload_n (i := 0) (pc' := 82) dX12_finds_81 rfl rfl rfl ?_
  refine go_cvi (pc' := 85) lk_X12_184 (f_X12_clashAll _ _ _ h20 h21) rfl rfl (Nat.le_of_ble_eq_true rfl) (by decide) rfl rfl rfl ⟨Nat.le_of_ble_eq_true rfl, Nat.le_of_ble_eq_true rfl⟩ ⟨rfl, rfl⟩ dX12_finds_82 rfl (fun r_82 σ_82 h_82 => ?_)
  obtain ⟨e_82, h_82⟩ := h_82
  have e_82 := e_82.symm
  subst e_82
  subst h_82
  refine go_if_eq (tgt := 90) (pc' := 88) dX12_finds_85 rfl (by decide) (fun c_85 => ?_) (fun c_85 => absurd (by decide) c_85)
  refine go_aload_n (i := 0) (pc' := 91) dX12_finds_90 rfl rfl rfl ?_
  refine go_cvv (pc' := 94) lk_X12_193 (f_X12_findWays _ _ _ h20 h21) rfl rfl (Nat.le_of_ble_eq_true rfl) (by decide) rfl rfl rfl ⟨Nat.le_of_ble_eq_true rfl, Nat.le_of_ble_eq_true rfl⟩ ⟨rfl, rfl⟩ dX12_finds_91 rfl (fun σ_91 h_91 => ?_)
  refine go_iconst (v := 1) (pc' := 95) dX12_finds_94 rfl (by decide) ?_
  refine go_aload_n (i := 0) (pc' := 96) dX12_finds_95 rfl rfl rfl ?_
  refine gf_13_many (pc' := 99) dX12_finds_96 rfl fl_X12_272 ?_
  refine go_ishl (pc' := 100) dX12_finds_99 rfl ?_
  refine go_iconst (v := 1) (pc' := 101) dX12_finds_100 rfl (by decide) ?_
  refine go_isub (pc' := 102) dX12_finds_101 rfl ?_
  refine go_st (st' := [.int 0]) (by rw [h_91]; exact congrArg (fun z => [Value.int z]) (by decide : (1 : Int32) <<< ((0 : Int32) &&& 31) - 1 = 0)) ?_
  refine go_istore_n (i := 2) (pc' := 103) dX12_finds_102 rfl rfl (by decide) ?_
  refine go_iload_n (i := 2) (pc' := 104) dX12_finds_103 rfl rfl rfl ?_
  refine go_istore_n (i := 3) (pc' := 105) dX12_finds_104 rfl rfl (by decide) ?_
  refine go_iload_n (i := 3) (pc' := 106) dX12_finds_105 rfl rfl rfl ?_
  refine go_if_lt (tgt := 161) (pc' := 109) dX12_finds_106 rfl (by decide) (fun c_106 => absurd c_106 (by decide)) (fun c_106 => ?_)
  refine go_iconst (v := 0) (pc' := 110) dX12_finds_109 rfl (by decide) ?_
  refine go_istore (pc' := 112) dX12_finds_110 rfl (by decide) ?_
  refine go_iload (pc' := 114) dX12_finds_112 rfl rfl ?_
  refine go_aload_n (i := 0) (pc' := 115) dX12_finds_114 rfl rfl rfl ?_
  refine gf_13_many (pc' := 118) dX12_finds_115 rfl fl_X12_272 ?_
  refine go_icmp_ge (tgt := 155) (pc' := 121) dX12_finds_118 rfl (by decide) (fun c_118 => ?_) (fun c_118 => absurd (show (σ_91.1 30) ≤ 0 by rw [h_91]; exact (by decide : (0 : Int32) ≤ 0)) c_118)
  refine go_iinc (c := (-1)) (pc' := 158) dX12_finds_155 rfl rfl (by decide) (by decide) ?_
  refine go_goto (tgt := 105) dX12_finds_158 (by decide) ?_
  refine go_iload_n (i := 3) (pc' := 106) dX12_finds_105 rfl rfl rfl ?_
  refine go_if_lt (tgt := 161) (pc' := 109) dX12_finds_106 rfl (by decide) (fun c_106 => ?_) (fun c_106 => absurd (by decide) c_106)
  refine go_iconst (v := 0) (pc' := 162) dX12_finds_161 rfl (by decide) ?_
  exact go_iret dX12_finds_162 rfl ⟨rfl, by rw [h_91]; rfl⟩
set_option maxHeartbeats 4000000 in
set_option maxRecDepth 100000 in
theorem f_X12_findsN (l : Launch) (L : WL) (σ : ST) (x : Int32) (hx : ¬ x = 0) (h20 : σ.1 20 = 0) : CtI l L yX12_finds cX12_finds 5 (some .int) rm_X12_finds [.ref (L.2.1 13), .int x] σ (fun r _ => r = -2) := by
  refine ctI_go (own := RX12) (by decide) rfl (Nat.le_of_ble_eq_true rfl) (fun F hF => ?_)
  subst hF
  refine go_iload_n (i := 1) (pc' := 1) dX12_finds_0 rfl rfl rfl ?_
  refine go_if_lt (tgt := 14) (pc' := 4) dX12_finds_1 rfl (by decide) (fun c_1 => ?_) (fun c_1 => ?_)
  · refine go_bipush (v := (-2)) (pc' := 16) dX12_finds_14 rfl (by decide) ?_
    exact go_iret dX12_finds_16 rfl rfl
  refine go_iload_n (i := 1) (pc' := 5) dX12_finds_4 rfl rfl rfl ?_
  refine go_iconst (v := 1) (pc' := 6) dX12_finds_5 rfl (by decide) ?_
  refine go_aload_n (i := 0) (pc' := 7) dX12_finds_6 rfl rfl rfl ?_
  refine gf_13_letters (pc' := 10) dX12_finds_7 rfl fl_X12_142 ?_
  refine go_ishl (pc' := 11) dX12_finds_10 rfl ?_
  refine go_icmp_lt (tgt := 17) (pc' := 14) dX12_finds_11 rfl (by decide) (fun c_11 => absurd c_11 (by rw [h20, show (1 : Int32) <<< ((0 : Int32) &&& 31) = 1 from by decide]; (try simp only [Int32.lt_iff_toInt_lt, Int32.le_iff_toInt_le, ← Int32.toInt_inj, ge_iff_le, gt_iff_lt, ne_eq, Int32.reduceToInt] at *); omega)) (fun c_11 => ?_)
  refine go_bipush (v := (-2)) (pc' := 16) dX12_finds_14 rfl (by decide) ?_
  exact go_iret dX12_finds_16 rfl rfl
set_option maxHeartbeats 4000000 in
set_option maxRecDepth 100000 in
theorem f_X12_leastOf (l : Launch) (L : WL) (σ : ST)  (h30 : σ.1 30 = 0) : CtI l L yX12_leastOf cX12_leastOf 3 (some .int) rm_X12_leastOf [.ref (L.2.1 13)] σ (fun r σ2 => σ2 = σ ∧ r = 0) := by
  refine ctI_go (own := RX12) (by decide) rfl (Nat.le_of_ble_eq_true rfl) (fun F hF => ?_)
  subst hF
  refine go_aload_n (i := 0) (pc' := 1) dX12_leastOf_0 rfl rfl rfl ?_
  refine gf_13_many (pc' := 4) dX12_leastOf_1 rfl fl_X12_272 ?_
  refine go_if_ne (tgt := 9) (pc' := 7) dX12_leastOf_4 rfl (by decide) (fun c_4 => absurd h30 c_4) (fun c_4 => ?_)
  refine go_iconst (v := 0) (pc' := 8) dX12_leastOf_7 rfl (by decide) ?_
  exact go_iret dX12_leastOf_8 rfl ⟨rfl, rfl⟩
set_option maxHeartbeats 4000000 in
set_option maxRecDepth 100000 in
theorem f_X12_jumps (l : Launch) (L : WL) (σ : ST) (x : Int32) (h20 : σ.1 20 = 0) (h21 : σ.1 21 = 0) : CtI l L yX12_jumps cX12_jumps 4 (some .int) rm_X12_jumps [.ref (L.2.1 13), .int x] σ (fun r _ => r = (if x = 0 then 0 else -2)) := by
  refine ctI_go (own := RX12) (by decide) rfl (Nat.le_of_ble_eq_true rfl) (fun F hF => ?_)
  subst hF
  by_cases hx : x = 0
  · subst hx
    refine go_aload_n (i := 0) (pc' := 1) dX12_jumps_0 rfl rfl rfl ?_
    refine go_iload_n (i := 1) (pc' := 2) dX12_jumps_1 rfl rfl rfl ?_
    refine go_cvi (pc' := 5) lk_X12_289 (f_X12_finds _ _ _ h20 h21) rfl rfl (Nat.le_of_ble_eq_true rfl) (by decide) rfl rfl rfl ⟨Nat.le_of_ble_eq_true rfl, Nat.le_of_ble_eq_true rfl⟩ ⟨rfl, rfl⟩ dX12_jumps_2 rfl (fun r_2 σ_2 h_2 => ?_)
    obtain ⟨rfl, h_2⟩ := h_2
    refine go_istore_n (i := 2) (pc' := 6) dX12_jumps_5 rfl rfl (by decide) ?_
    refine go_iload_n (i := 2) (pc' := 7) dX12_jumps_6 rfl rfl rfl ?_
    refine go_if_eq (tgt := 12) (pc' := 10) dX12_jumps_7 rfl (by decide) (fun c_7 => ?_) (fun c_7 => absurd (by decide) c_7)
    refine go_aload_n (i := 0) (pc' := 13) dX12_jumps_12 rfl rfl rfl ?_
    refine go_cvi (pc' := 16) lk_X12_292 (f_X12_leastOf _ _ _ h_2) rfl rfl (Nat.le_of_ble_eq_true rfl) (by decide) rfl rfl rfl ⟨Nat.le_of_ble_eq_true rfl, Nat.le_of_ble_eq_true rfl⟩ ⟨rfl, rfl⟩ dX12_jumps_13 rfl (fun r_13 σ_13 h_13 => ?_)
    obtain ⟨e_13, h_13⟩ := h_13
    have e_13 := e_13.symm
    subst e_13
    subst h_13
    refine go_istore_n (i := 3) (pc' := 17) dX12_jumps_16 rfl rfl (by decide) ?_
    refine go_iload_n (i := 3) (pc' := 18) dX12_jumps_17 rfl rfl rfl ?_
    refine go_ldcw (pc' := 21) dX12_jumps_18 rfl cst_X12_282 ?_
    refine go_icmp_lt (tgt := 28) (pc' := 24) dX12_jumps_21 rfl (by decide) (fun c_21 => ?_) (fun c_21 => absurd (by decide) c_21)
    refine go_iload_n (i := 3) (pc' := 29) dX12_jumps_28 rfl rfl rfl ?_
    exact go_iret dX12_jumps_29 rfl rfl
  · refine go_aload_n (i := 0) (pc' := 1) dX12_jumps_0 rfl rfl rfl ?_
    refine go_iload_n (i := 1) (pc' := 2) dX12_jumps_1 rfl rfl rfl ?_
    refine go_cvi (pc' := 5) lk_X12_289 (f_X12_findsN _ _ _ _ hx h20) rfl rfl (Nat.le_of_ble_eq_true rfl) (by decide) rfl rfl rfl ⟨Nat.le_of_ble_eq_true rfl, Nat.le_of_ble_eq_true rfl⟩ ⟨rfl, rfl⟩ dX12_jumps_2 rfl (fun r_2 σ_2 h_2 => ?_)
    subst h_2
    refine go_istore_n (i := 2) (pc' := 6) dX12_jumps_5 rfl rfl (by decide) ?_
    refine go_iload_n (i := 2) (pc' := 7) dX12_jumps_6 rfl rfl rfl ?_
    refine go_if_eq (tgt := 12) (pc' := 10) dX12_jumps_7 rfl (by decide) (fun c_7 => absurd c_7 (by decide)) (fun c_7 => ?_)
    refine go_iload_n (i := 2) (pc' := 11) dX12_jumps_10 rfl rfl rfl ?_
    exact go_iret dX12_jumps_11 rfl (if_neg hx).symm
set_option maxHeartbeats 4000000 in
set_option maxRecDepth 100000 in
theorem f_X12_order (l : Launch) (L : WL) (σ : ST) (x i : Int32) (h20 : σ.1 20 = 0) (h21 : σ.1 21 = 0) : CtI l L yX12_order cX12_order 9 (some .int) rm_X12_order [.ref (L.2.1 13), .int x, .int i] σ (fun r _ => r = (if x = 0 then -1 else -2)) := by
  refine ctI_go (own := RX12) (by decide) rfl (Nat.le_of_ble_eq_true rfl) (fun F hF => ?_)
  subst hF
  by_cases hx : x = 0
  · subst hx
    refine go_aload_n (i := 0) (pc' := 1) dX12_order_0 rfl rfl rfl ?_
    refine go_iload_n (i := 1) (pc' := 2) dX12_order_1 rfl rfl rfl ?_
    refine go_cvi (pc' := 5) lk_X12_289 (f_X12_finds _ _ _ h20 h21) rfl rfl (Nat.le_of_ble_eq_true rfl) (by decide) rfl rfl rfl ⟨Nat.le_of_ble_eq_true rfl, Nat.le_of_ble_eq_true rfl⟩ ⟨rfl, rfl⟩ dX12_order_2 rfl (fun r_2 σ_2 h_2 => ?_)
    obtain ⟨rfl, h_2⟩ := h_2
    refine go_istore_n (i := 3) (pc' := 6) dX12_order_5 rfl rfl (by decide) ?_
    refine go_iload_n (i := 3) (pc' := 7) dX12_order_6 rfl rfl rfl ?_
    refine go_if_eq (tgt := 12) (pc' := 10) dX12_order_7 rfl (by decide) (fun c_7 => ?_) (fun c_7 => absurd (by decide) c_7)
    refine go_iload_n (i := 2) (pc' := 13) dX12_order_12 rfl rfl rfl ?_
    refine go_aload_n (i := 0) (pc' := 14) dX12_order_13 rfl rfl rfl ?_
    refine gf_13_many (pc' := 17) dX12_order_14 rfl fl_X12_272 ?_
    refine go_csi (pc' := 20) ls_X12_135 (c_X12_isIn _ _ _ _ _) rfl rfl (Nat.le_of_ble_eq_true rfl) ⟨Nat.le_of_ble_eq_true rfl, Nat.le_of_ble_eq_true rfl⟩ ⟨rfl, rfl⟩ dX12_order_17 rfl (fun r_17 σ_17 h_17 => ?_)
    obtain ⟨e_17, h_17⟩ := h_17
    have e_17 := e_17.symm
    subst e_17
    refine go_eqB (tgt := 33) (pc' := 23) h_17 dX12_order_20 rfl (by decide) (fun c_20 => ?_) (fun c_20 => absurd c_20 (nohas h_2))
    refine go_iconst (v := (-1)) (pc' := 34) dX12_order_33 rfl (by decide) ?_
    exact go_iret dX12_order_34 rfl rfl
  · refine go_aload_n (i := 0) (pc' := 1) dX12_order_0 rfl rfl rfl ?_
    refine go_iload_n (i := 1) (pc' := 2) dX12_order_1 rfl rfl rfl ?_
    refine go_cvi (pc' := 5) lk_X12_289 (f_X12_findsN _ _ _ _ hx h20) rfl rfl (Nat.le_of_ble_eq_true rfl) (by decide) rfl rfl rfl ⟨Nat.le_of_ble_eq_true rfl, Nat.le_of_ble_eq_true rfl⟩ ⟨rfl, rfl⟩ dX12_order_2 rfl (fun r_2 σ_2 h_2 => ?_)
    subst h_2
    refine go_istore_n (i := 3) (pc' := 6) dX12_order_5 rfl rfl (by decide) ?_
    refine go_iload_n (i := 3) (pc' := 7) dX12_order_6 rfl rfl rfl ?_
    refine go_if_eq (tgt := 12) (pc' := 10) dX12_order_7 rfl (by decide) (fun c_7 => absurd c_7 (by decide)) (fun c_7 => ?_)
    refine go_iload_n (i := 3) (pc' := 11) dX12_order_10 rfl rfl rfl ?_
    exact go_iret dX12_order_11 rfl (if_neg hx).symm
set_option maxHeartbeats 4000000 in
set_option maxRecDepth 100000 in
theorem f_X12_count (l : Launch) (L : WL) (σ : ST) (x : Int32) (h19 : σ.1 19 = 0) (h20 : σ.1 20 = 0) (h21 : σ.1 21 = 0) (h22 : σ.1 22 = 0) (h23 : σ.1 23 = 0) : CtI l L yX12_count cX12_count 4 (some .int) rm_X12_count [.ref (L.2.1 13), .int x] σ (fun r _ => r = (if 0 ≤ x.toInt ∧ x.toInt ≤ 5 then 0 else -2)) := by
  refine ctI_go (own := RX12) (by decide) rfl (Nat.le_of_ble_eq_true rfl) (fun F hF => ?_)
  subst hF
  refine go_iconst (v := 0) (pc' := 1) dX12_count_0 rfl (by decide) ?_
  refine go_istore_n (i := 2) (pc' := 2) dX12_count_1 rfl rfl (by decide) ?_
  refine go_iload_n (i := 1) (pc' := 3) dX12_count_2 rfl rfl rfl ?_
  have hx6 : x = 0 ∨ x = 1 ∨ x = 2 ∨ x = 3 ∨ x = 4 ∨ x = 5 ∨ ¬ (0 ≤ x.toInt ∧ x.toInt ≤ 5) := by
    (try simp only [Int32.lt_iff_toInt_lt, Int32.le_iff_toInt_le, ← Int32.toInt_inj, ge_iff_le, gt_iff_lt, ne_eq, Int32.reduceToInt] at *); omega
  rcases hx6 with rfl | rfl | rfl | rfl | rfl | rfl | hx6
  · refine go_swIn (tgt := 40) dX12_count_3 (by decide) (by decide) rfl (by decide) ?_
    refine go_aload_n (i := 0) (pc' := 41) dX12_count_40 rfl rfl rfl ?_
    refine gf_13_persons (pc' := 44) dX12_count_41 rfl fl_X12_139 ?_
    exact go_iret dX12_count_44 rfl (by show σ.1 19 = _; rw [h19]; decide)
  · refine go_swIn (tgt := 45) dX12_count_3 (by decide) (by decide) rfl (by decide) ?_
    refine go_aload_n (i := 0) (pc' := 46) dX12_count_45 rfl rfl rfl ?_
    refine gf_13_letters (pc' := 49) dX12_count_46 rfl fl_X12_142 ?_
    exact go_iret dX12_count_49 rfl (by show σ.1 20 = _; rw [h20]; decide)
  · refine go_swIn (tgt := 50) dX12_count_3 (by decide) (by decide) rfl (by decide) ?_
    refine go_aload_n (i := 0) (pc' := 51) dX12_count_50 rfl rfl rfl ?_
    refine gf_13_bounds (pc' := 54) dX12_count_51 rfl fl_X12_155 ?_
    exact go_iret dX12_count_54 rfl (by show σ.1 21 = _; rw [h21]; decide)
  · refine go_swIn (tgt := 55) dX12_count_3 (by decide) (by decide) rfl (by decide) ?_
    refine go_iconst (v := 0) (pc' := 56) dX12_count_55 rfl (by decide) ?_
    refine go_istore_n (i := 3) (pc' := 57) dX12_count_56 rfl rfl (by decide) ?_
    refine go_iload_n (i := 3) (pc' := 58) dX12_count_57 rfl rfl rfl ?_
    refine go_aload_n (i := 0) (pc' := 59) dX12_count_58 rfl rfl rfl ?_
    refine gf_13_letters (pc' := 62) dX12_count_59 rfl fl_X12_142 ?_
    refine go_icmp_ge (tgt := 98) (pc' := 65) dX12_count_62 rfl (by decide) (fun c_62 => ?_) (fun c_62 => absurd (by rw [h20]; decide) c_62)
    refine go_iload_n (i := 2) (pc' := 99) dX12_count_98 rfl rfl rfl ?_
    exact go_iret dX12_count_99 rfl (by decide)
  · refine go_swIn (tgt := 100) dX12_count_3 (by decide) (by decide) rfl (by decide) ?_
    refine go_aload_n (i := 0) (pc' := 101) dX12_count_100 rfl rfl rfl ?_
    refine gf_13_size (pc' := 104) dX12_count_101 rfl fl_X12_215 ?_
    exact go_iret dX12_count_104 rfl (by show σ.1 23 = _; rw [h23]; decide)
  · refine go_swIn (tgt := 105) dX12_count_3 (by decide) (by decide) rfl (by decide) ?_
    refine go_aload_n (i := 0) (pc' := 106) dX12_count_105 rfl rfl rfl ?_
    refine gf_13_hands (pc' := 109) dX12_count_106 rfl fl_X12_203 ?_
    exact go_iret dX12_count_109 rfl (by show σ.1 22 = _; rw [h22]; decide)
  · refine go_swOut (tgt := 110) dX12_count_3 (by omega) (by decide) ?_
    refine go_bipush (v := (-2)) (pc' := 112) dX12_count_110 rfl (by decide) ?_
    exact go_iret dX12_count_112 rfl (if_neg hx6).symm
  
set_option maxHeartbeats 4000000 in
set_option maxRecDepth 100000 in
theorem f_X12_tray (l : Launch) (L : WL) (σ : ST) (a n : Int32) : CtI l L yX12_tray cX12_tray 4 (some .int) rm_X12_tray [.ref (L.2.1 13), .int a, .int n] σ (fun r _ => r = (if ¬ (0 ≤ a.toInt ∧ a.toInt < 4) ∨ 60 < n.toInt then -2 else if n.toInt < -1 then -14 else 1)) := by
  refine ctI_go (own := RX12) (by decide) rfl (Nat.le_of_ble_eq_true rfl) (fun F hF => ?_)
  subst hF
  have loop : (0 ≤ a.toInt ∧ a.toInt < 4) → ¬ 60 < n.toInt → ¬ n.toInt < -1 → ∀ (d i : Nat) (σ1 : ST), i + d = 60 → Go F L RX12 cX12_tray 4 rm_X12_tray (some .int) (RI F L (fun r _ => r = (if ¬ (0 ≤ a.toInt ∧ a.toInt < 4) ∨ 60 < n.toInt then -2 else if n.toInt < -1 then -14 else 1))) σ1 34 [(0, .ref (L.2.1 13)), (1, .int a), (2, .int n), (3, .int (nI i))] [] := by
    intro ha hn1 hn2 d
    induction d with
    | zero =>
      intro i σ1 hi
      refine go_iload_n (i := 3) (pc' := 35) dX12_tray_34 rfl rfl rfl ?_
      refine go_bipush (v := 60) (pc' := 37) dX12_tray_35 rfl (by decide) ?_
      refine go_icmp_ge (tgt := 58) (pc' := 40) dX12_tray_37 rfl (by decide) (fun c_37 => ?_) (fun c_37 => absurd (by exact nI_le (a := 60) (by omega) (by omega)) c_37)
      refine go_iconst (v := 1) (pc' := 59) dX12_tray_58 rfl (by decide) ?_
      exact go_iret dX12_tray_59 rfl (by rw [if_neg (by omega), if_neg (by omega)])
    | succ d ih =>
      intro i σ1 hi
      refine go_iload_n (i := 3) (pc' := 35) dX12_tray_34 rfl rfl rfl ?_
      refine go_bipush (v := 60) (pc' := 37) dX12_tray_35 rfl (by decide) ?_
      refine go_icmp_ge (tgt := 58) (pc' := 40) dX12_tray_37 rfl (by decide) (fun c_37 => absurd c_37 (by exact nI_ge (b := 60) (by omega) (by omega))) (fun c_37 => ?_)
      refine go_aload_n (i := 0) (pc' := 41) dX12_tray_40 rfl rfl rfl ?_
      refine gf_13_trays (pc' := 44) dX12_tray_41 rfl fl_X12_132 ?_
      refine go_bipush (v := 60) (pc' := 46) dX12_tray_44 rfl (by decide) ?_
      refine go_iload_n (i := 1) (pc' := 47) dX12_tray_46 rfl rfl rfl ?_
      refine go_imul (pc' := 48) dX12_tray_47 rfl ?_
      refine go_iload_n (i := 3) (pc' := 49) dX12_tray_48 rfl rfl rfl ?_
      refine go_iadd (pc' := 50) dX12_tray_49 rfl ?_
      refine go_iconst (v := 0) (pc' := 51) dX12_tray_50 rfl (by decide) ?_
      refine go_iast (pc' := 52) dX12_tray_51 rfl (by decide) (by decide) rfl (vin60 ha (by omega)) ?_
      refine go_iinc (c := 1) (pc' := 55) dX12_tray_52 rfl rfl (by decide) (by decide) ?_
      refine go_goto (tgt := 34) dX12_tray_55 (by decide) ?_
      exact go_lv (lv' := [(0, .ref (L.2.1 13)), (1, .int a), (2, .int n), (3, .int (nI (i + 1)))]) (by rw [nI_succ]; rfl) (ih (i + 1) _ (by omega))
  refine go_iload_n (i := 1) (pc' := 1) dX12_tray_0 rfl rfl rfl ?_
  refine go_iconst (v := 4) (pc' := 2) dX12_tray_1 rfl (by decide) ?_
  refine go_csi (pc' := 5) ls_X12_135 (c_X12_isIn _ _ _ _ _) rfl rfl (Nat.le_of_ble_eq_true rfl) ⟨Nat.le_of_ble_eq_true rfl, Nat.le_of_ble_eq_true rfl⟩ ⟨rfl, rfl⟩ dX12_tray_2 rfl (fun r_2 σ_2 h_2 => ?_)
  obtain ⟨e_2, h_2⟩ := h_2
  have e_2 := e_2.symm
  subst e_2
  rw [show (4 : Int32).toInt = 4 from by decide] at h_2
  refine go_eqB (tgt := 14) (pc' := 8) h_2 dX12_tray_5 rfl (by decide) (fun c_5 => ?_) (fun c_5 => ?_)
  · refine go_bipush (v := (-2)) (pc' := 16) dX12_tray_14 rfl (by decide) ?_
    exact go_iret dX12_tray_16 rfl (by split <;> (try split) <;> (first | rfl | (exfalso; (try simp only [Int32.lt_iff_toInt_lt, Int32.le_iff_toInt_le, ← Int32.toInt_inj, ge_iff_le, gt_iff_lt, ne_eq, Int32.reduceToInt] at *); omega)))
  refine go_iload_n (i := 2) (pc' := 9) dX12_tray_8 rfl rfl rfl ?_
  refine go_bipush (v := 60) (pc' := 11) dX12_tray_9 rfl (by decide) ?_
  refine go_icmp_le (tgt := 17) (pc' := 14) dX12_tray_11 rfl (by decide) (fun c_11 => ?_) (fun c_11 => ?_)
  · refine go_iload_n (i := 2) (pc' := 18) dX12_tray_17 rfl rfl rfl ?_
    refine go_iconst (v := (-1)) (pc' := 19) dX12_tray_18 rfl (by decide) ?_
    refine go_icmp_ge (tgt := 25) (pc' := 22) dX12_tray_19 rfl (by decide) (fun c_19 => ?_) (fun c_19 => ?_)
    · refine go_aload_n (i := 0) (pc' := 26) dX12_tray_25 rfl rfl rfl ?_
      refine gf_13_traySize (pc' := 29) dX12_tray_26 rfl fl_X12_129 ?_
      refine go_iload_n (i := 1) (pc' := 30) dX12_tray_29 rfl rfl rfl ?_
      refine go_iload_n (i := 2) (pc' := 31) dX12_tray_30 rfl rfl rfl ?_
      refine go_iast (pc' := 32) dX12_tray_31 rfl (by decide) (by decide) rfl (vin_of (n := 4) c_5.1 c_5.2) ?_
      refine go_iconst (v := 0) (pc' := 33) dX12_tray_32 rfl (by decide) ?_
      refine go_istore_n (i := 3) (pc' := 34) dX12_tray_33 rfl rfl (by decide) ?_
      exact go_lv (lv' := [(0, .ref (L.2.1 13)), (1, .int a), (2, .int n), (3, .int (nI 0))]) rfl (loop c_5 (by (try simp only [Int32.lt_iff_toInt_lt, Int32.le_iff_toInt_le, ← Int32.toInt_inj, ge_iff_le, gt_iff_lt, ne_eq, Int32.reduceToInt] at *); omega) (by (try simp only [Int32.lt_iff_toInt_lt, Int32.le_iff_toInt_le, ← Int32.toInt_inj, ge_iff_le, gt_iff_lt, ne_eq, Int32.reduceToInt] at *); omega) 60 0 _ (by omega))
    refine go_bipush (v := (-14)) (pc' := 24) dX12_tray_22 rfl (by decide) ?_
    exact go_iret dX12_tray_24 rfl (by split <;> (try split) <;> (first | rfl | (exfalso; (try simp only [Int32.lt_iff_toInt_lt, Int32.le_iff_toInt_le, ← Int32.toInt_inj, ge_iff_le, gt_iff_lt, ne_eq, Int32.reduceToInt] at *); omega)))
  refine go_bipush (v := (-2)) (pc' := 16) dX12_tray_14 rfl (by decide) ?_
  exact go_iret dX12_tray_16 rfl (by split <;> (try split) <;> (first | rfl | (exfalso; (try simp only [Int32.lt_iff_toInt_lt, Int32.le_iff_toInt_le, ← Int32.toInt_inj, ge_iff_le, gt_iff_lt, ne_eq, Int32.reduceToInt] at *); omega)))
set_option maxHeartbeats 4000000 in
set_option maxRecDepth 100000 in
theorem f_X12_cell (l : Launch) (L : WL) (σ : ST) (a i v : Int32) (ht : ∀ j : Nat, j < 4 → σ.2 134 j = -1) : CtI l L yX12_cell cX12_cell 4 (some .int) rm_X12_cell [.ref (L.2.1 13), .int a, .int i, .int v] σ (fun r _ => r = (if 0 ≤ a.toInt ∧ a.toInt < 4 then -11 else -2)) := by
  refine ctI_go (own := RX12) (by decide) rfl (Nat.le_of_ble_eq_true rfl) (fun F hF => ?_)
  subst hF
  refine go_iload_n (i := 1) (pc' := 1) dX12_cell_0 rfl rfl rfl ?_
  refine go_iconst (v := 4) (pc' := 2) dX12_cell_1 rfl (by decide) ?_
  refine go_csi (pc' := 5) ls_X12_135 (c_X12_isIn _ _ _ _ _) rfl rfl (Nat.le_of_ble_eq_true rfl) ⟨Nat.le_of_ble_eq_true rfl, Nat.le_of_ble_eq_true rfl⟩ ⟨rfl, rfl⟩ dX12_cell_2 rfl (fun r_2 σ_2 h_2 => ?_)
  obtain ⟨e_2, h_2⟩ := h_2
  have e_2 := e_2.symm
  subst e_2
  rw [show (4 : Int32).toInt = 4 from by decide] at h_2
  refine go_neB (tgt := 11) (pc' := 8) h_2 dX12_cell_5 rfl (by decide) (fun c_5 => ?_) (fun c_5 => ?_)
  · refine go_aload_n (i := 0) (pc' := 12) dX12_cell_11 rfl rfl rfl ?_
    refine gf_13_traySize (pc' := 15) dX12_cell_12 rfl fl_X12_129 ?_
    refine go_iload_n (i := 1) (pc' := 16) dX12_cell_15 rfl rfl rfl ?_
    refine go_iald (pc' := 17) dX12_cell_16 rfl (by decide) (by decide) rfl (vin_of (n := 4) c_5.1 c_5.2) ?_
    refine go_if_ge (tgt := 23) (pc' := 20) dX12_cell_17 rfl (by decide) (fun c_17 => absurd c_17 (by rw [ht _ (vinlt (vin_of (n := 4) c_5.1 c_5.2))]; decide)) (fun c_17 => ?_)
    refine go_bipush (v := (-11)) (pc' := 22) dX12_cell_20 rfl (by decide) ?_
    exact go_iret dX12_cell_22 rfl (if_pos c_5).symm
  refine go_bipush (v := (-2)) (pc' := 10) dX12_cell_8 rfl (by decide) ?_
  exact go_iret dX12_cell_10 rfl (if_neg c_5).symm
set_option maxHeartbeats 4000000 in
set_option maxRecDepth 100000 in
theorem f_X12_lay (l : Launch) (L : WL) (σ : ST) (a i n : Int32) (ht : ∀ j : Nat, j < 4 → σ.2 134 j = -1) : CtI l L yX12_lay cX12_lay 7 (some .int) rm_X12_lay [.ref (L.2.1 13), .int a, .int i, .int n] σ (fun r _ => r = (if (0 ≤ a.toInt ∧ a.toInt < 4) ∧ 0 ≤ n.toInt then -11 else -2)) := by
  refine ctI_go (own := RX12) (by decide) rfl (Nat.le_of_ble_eq_true rfl) (fun F hF => ?_)
  subst hF
  refine go_iload_n (i := 1) (pc' := 1) dX12_lay_0 rfl rfl rfl ?_
  refine go_iconst (v := 4) (pc' := 2) dX12_lay_1 rfl (by decide) ?_
  refine go_csi (pc' := 5) ls_X12_135 (c_X12_isIn _ _ _ _ _) rfl rfl (Nat.le_of_ble_eq_true rfl) ⟨Nat.le_of_ble_eq_true rfl, Nat.le_of_ble_eq_true rfl⟩ ⟨rfl, rfl⟩ dX12_lay_2 rfl (fun r_2 σ_2 h_2 => ?_)
  obtain ⟨e_2, h_2⟩ := h_2
  have e_2 := e_2.symm
  subst e_2
  rw [show (4 : Int32).toInt = 4 from by decide] at h_2
  refine go_eqB (tgt := 12) (pc' := 8) h_2 dX12_lay_5 rfl (by decide) (fun c_5 => ?_) (fun c_5 => ?_)
  · refine go_bipush (v := (-2)) (pc' := 14) dX12_lay_12 rfl (by decide) ?_
    exact go_iret dX12_lay_14 rfl (by split <;> first | rfl | (exfalso; (try simp only [Int32.lt_iff_toInt_lt, Int32.le_iff_toInt_le, ← Int32.toInt_inj, ge_iff_le, gt_iff_lt, ne_eq, Int32.reduceToInt] at *); omega))
  refine go_iload_n (i := 3) (pc' := 9) dX12_lay_8 rfl rfl rfl ?_
  refine go_if_ge (tgt := 15) (pc' := 12) dX12_lay_9 rfl (by decide) (fun c_9 => ?_) (fun c_9 => ?_)
  · refine go_aload_n (i := 0) (pc' := 16) dX12_lay_15 rfl rfl rfl ?_
    refine gf_13_traySize (pc' := 19) dX12_lay_16 rfl fl_X12_129 ?_
    refine go_iload_n (i := 1) (pc' := 20) dX12_lay_19 rfl rfl rfl ?_
    refine go_iald (pc' := 21) dX12_lay_20 rfl (by decide) (by decide) rfl (vin_of (n := 4) c_5.1 c_5.2) ?_
    refine go_if_ge (tgt := 27) (pc' := 24) dX12_lay_21 rfl (by decide) (fun c_21 => absurd c_21 (by rw [ht _ (vinlt (vin_of (n := 4) c_5.1 c_5.2))]; decide)) (fun c_21 => ?_)
    refine go_bipush (v := (-11)) (pc' := 26) dX12_lay_24 rfl (by decide) ?_
    exact go_iret dX12_lay_26 rfl (by split <;> first | rfl | (exfalso; (try simp only [Int32.lt_iff_toInt_lt, Int32.le_iff_toInt_le, ← Int32.toInt_inj, ge_iff_le, gt_iff_lt, ne_eq, Int32.reduceToInt] at *); omega))
  refine go_bipush (v := (-2)) (pc' := 14) dX12_lay_12 rfl (by decide) ?_
  exact go_iret dX12_lay_14 rfl (by split <;> first | rfl | (exfalso; (try simp only [Int32.lt_iff_toInt_lt, Int32.le_iff_toInt_le, ← Int32.toInt_inj, ge_iff_le, gt_iff_lt, ne_eq, Int32.reduceToInt] at *); omega))
set_option maxHeartbeats 4000000 in
set_option maxRecDepth 100000 in
theorem f_X12_taken (l : Launch) (L : WL) (σ : ST) (a k : Int32) (h20 : σ.1 20 = 0) : CtI l L yX12_taken cX12_taken 3 (some .int) rm_X12_taken [.ref (L.2.1 13), .int a, .int k] σ (fun r _ => r = (if 0 ≤ k.toInt ∧ k.toInt < 6 then -11 else -2)) := by
  refine ctI_go (own := RX12) (by decide) rfl (Nat.le_of_ble_eq_true rfl) (fun F hF => ?_)
  subst hF
  refine go_iload_n (i := 2) (pc' := 1) dX12_taken_0 rfl rfl rfl ?_
  refine go_bipush (v := 6) (pc' := 3) dX12_taken_1 rfl (by decide) ?_
  refine go_csi (pc' := 6) ls_X12_135 (c_X12_isIn _ _ _ _ _) rfl rfl (Nat.le_of_ble_eq_true rfl) ⟨Nat.le_of_ble_eq_true rfl, Nat.le_of_ble_eq_true rfl⟩ ⟨rfl, rfl⟩ dX12_taken_3 rfl (fun r_3 σ_3 h_3 => ?_)
  obtain ⟨e_3, h_3⟩ := h_3
  have e_3 := e_3.symm
  subst e_3
  rw [show (6 : Int32).toInt = 6 from by decide] at h_3
  refine go_neB (tgt := 12) (pc' := 9) h_3 dX12_taken_6 rfl (by decide) (fun c_6 => ?_) (fun c_6 => ?_)
  · refine go_aload_n (i := 0) (pc' := 13) dX12_taken_12 rfl rfl rfl ?_
    refine go_iload_n (i := 1) (pc' := 14) dX12_taken_13 rfl rfl rfl ?_
    refine go_cvi (pc' := 17) lk_X12_152 (c_X12_isLetter _ _ _ _) rfl rfl (Nat.le_of_ble_eq_true rfl) (by decide) rfl rfl rfl ⟨Nat.le_of_ble_eq_true rfl, Nat.le_of_ble_eq_true rfl⟩ ⟨rfl, rfl⟩ dX12_taken_14 rfl (fun r_14 σ_14 h_14 => ?_)
    obtain ⟨e_14, h_14⟩ := h_14
    have e_14 := e_14.symm
    subst e_14
    refine go_neB (tgt := 23) (pc' := 20) h_14 dX12_taken_17 rfl (by decide) (fun c_17 => absurd c_17 (nohas h20)) (fun c_17 => ?_)
    refine go_bipush (v := (-11)) (pc' := 22) dX12_taken_20 rfl (by decide) ?_
    exact go_iret dX12_taken_22 rfl (by split <;> first | rfl | (exfalso; (try simp only [Int32.lt_iff_toInt_lt, Int32.le_iff_toInt_le, ← Int32.toInt_inj, ge_iff_le, gt_iff_lt, ne_eq, Int32.reduceToInt] at *); omega))
  refine go_bipush (v := (-2)) (pc' := 11) dX12_taken_9 rfl (by decide) ?_
  exact go_iret dX12_taken_11 rfl (by split <;> first | rfl | (exfalso; (try simp only [Int32.lt_iff_toInt_lt, Int32.le_iff_toInt_le, ← Int32.toInt_inj, ge_iff_le, gt_iff_lt, ne_eq, Int32.reduceToInt] at *); omega))
