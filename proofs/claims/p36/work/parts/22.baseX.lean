theorem ne0 {x : Int32} (h : 0 < x.toInt) : ¬ x = 0 := fun e => by rw [e] at h; exact absurd h (by decide)
theorem i32_div10 (x : Int32) (h : 0 ≤ x.toInt) : (x / 10).toInt = x.toInt / 10 := by
  have h2 := Int32.toInt_lt x
  rw [Int32.toInt_div, show (10 : Int32).toInt = 10 from by decide, Int.tdiv_eq_ediv_of_nonneg h]
  exact Int.bmod_eq_of_le (by omega) (by omega)
theorem lkm_n {x : Int32} (h97 : ¬ x = 97) (h100 : ¬ x = 100) (h104 : ¬ x = 104) (h117 : ¬ x = 117) : Op.lookupswitch.offset (#[((97 : Int), (62 : Int)), ((100 : Int), (44 : Int)), ((104 : Int), (89 : Int)), ((117 : Int), (71 : Int))]).toList 98 x.toInt = 98 := by
  have e97 : x.toInt ≠ 97 := fun e => h97 (Int32.toInt_inj.mp e)
  have e100 : x.toInt ≠ 100 := fun e => h100 (Int32.toInt_inj.mp e)
  have e104 : x.toInt ≠ 104 := fun e => h104 (Int32.toInt_inj.mp e)
  have e117 : x.toInt ≠ 117 := fun e => h117 (Int32.toInt_inj.mp e)
  simp [Op.lookupswitch.offset, Ne.symm e97, Ne.symm e100, Ne.symm e104, Ne.symm e117]
set_option maxHeartbeats 4000000 in
set_option maxRecDepth 100000 in
theorem c_X6_add (l : Launch) (L : WL) (σ : ST) (s : Int32) (ix : IV σ) : CtV l L yX6_add cX6_add 2 none rm_X6_add [.ref (L.2.1 8), .int s] σ (fun σ2 => WX σ σ2) := by
  refine ctV_go (own := RX6) (by decide) rfl (Nat.le_of_ble_eq_true rfl) (fun F hF => ?_)
  subst hF
  have n1 : (1 : Int32).toInt = 1 := by decide
  have n160 : (160 : Int32).toInt = 160 := by decide
  have w0 : WX σ σ := WX_rfl ix
  refine go_aload_n (i := 0) (pc' := 1) dX6_add_0 rfl rfl rfl ?_
  refine gf_8_size (pc' := 4) dX6_add_1 rfl fl_X6_15 ?_
  have g1 := ixi_14 w0.1
  refine go_sipush (v := 160) (pc' := 7) dX6_add_4 rfl (by decide) ?_
  refine gz_icmp_ge (tgt := 31) (pc' := 10) dX6_add_7 rfl (by decide) (fun c2 => ?_) (fun c2 => ?_)
  · exact go_vret dX6_add_31 rfl (w0)
  refine go_aload_n (i := 0) (pc' := 11) dX6_add_10 rfl rfl rfl ?_
  refine gf_8_bytes (pc' := 14) dX6_add_11 rfl fl_X6_9 ?_
  refine go_aload_n (i := 0) (pc' := 15) dX6_add_14 rfl rfl rfl ?_
  refine gf_8_size (pc' := 18) dX6_add_15 rfl fl_X6_15 ?_
  have g3 := ixi_14 w0.1
  refine go_iload_n (i := 1) (pc' := 19) dX6_add_18 rfl rfl rfl ?_
  refine go_i2b (pc' := 20) dX6_add_19 rfl ?_
  refine go_bast (pc' := 21) dX6_add_20 rfl (by decide) (by decide) rfl (vin_of (n := 160) (by omega) (by omega)) ?_
  refine go_gen (P := fun s => WX σ s ∧ s.1 14 = σ.1 14) ⟨⟨ixt_45 w0.1 (b8 _).1 (b8 _).2, Ag_setA w0.2 (by decide)⟩, rfl⟩ (fun σ4 z4 => ?_)
  obtain ⟨w4, g4⟩ := z4
  have q4 := congrArg Int32.toInt g4
  refine go_aload_n (i := 0) (pc' := 22) dX6_add_21 rfl rfl rfl ?_
  refine go_dup (pc' := 23) dX6_add_22 rfl rfl ?_
  refine gf_8_size (pc' := 26) dX6_add_23 rfl fl_X6_15 ?_
  have g5 := ixi_14 w4.1
  refine go_iconst (v := 1) (pc' := 27) dX6_add_26 rfl (by decide) ?_
  refine gz_iadd (pc' := 28) dX6_add_27 rfl (by omega) (fun v6 h6 e6 => ?_)
  refine pf_8_size (pc' := 31) dX6_add_28 rfl fl_X6_15 ?_
  refine go_gen (P := WX σ) ⟨ixs_14 w4.1 (by omega) (by omega), Ag_setI w4.2 (by decide)⟩ (fun σ7 w7 => ?_)
  exact go_vret dX6_add_31 rfl (w7)
set_option maxHeartbeats 4000000 in
set_option maxRecDepth 100000 in
theorem c_X6_isHidden (l : Launch) (L : WL) (σ : ST) (a b : Int32) (ix : IV σ) : CtI l L yX6_isHidden cX6_isHidden 3 (some .boolean) rm_X6_isHidden [.ref (L.2.1 7), .int a, .int b] σ (fun _ σ2 => σ2 = σ) := by
  refine ctI_go (own := RX6) (by decide) rfl (Nat.le_of_ble_eq_true rfl) (fun F hF => ?_)
  subst hF
  have n0 : (0 : Int32).toInt = 0 := by decide
  have n1 : (1 : Int32).toInt = 1 := by decide
  have n100 : (100 : Int32).toInt = 100 := by decide
  have n115 : (115 : Int32).toInt = 115 := by decide
  have w0 : WX σ σ := WX_rfl ix
  refine go_aload_n (i := 0) (pc' := 1) dX6_isHidden_0 rfl rfl rfl ?_
  refine gf_7_sort (pc' := 4) dX6_isHidden_1 rfl fl_X6_43 ?_
  refine go_bipush (v := 115) (pc' := 6) dX6_isHidden_4 rfl (by decide) ?_
  refine gz_icmp_ne (tgt := 17) (pc' := 9) dX6_isHidden_6 rfl (by decide) (fun c1 => ?_) (fun c1 => ?_)
  · refine go_aload_n (i := 0) (pc' := 18) dX6_isHidden_17 rfl rfl rfl ?_
    refine gf_7_sort (pc' := 21) dX6_isHidden_18 rfl fl_X6_43 ?_
    refine go_bipush (v := 100) (pc' := 23) dX6_isHidden_21 rfl (by decide) ?_
    refine gz_icmp_ne (tgt := 34) (pc' := 26) dX6_isHidden_23 rfl (by decide) (fun c2 => ?_) (fun c2 => ?_)
    · refine go_iconst (v := 0) (pc' := 35) dX6_isHidden_34 rfl (by decide) ?_
      exact go_zret dX6_isHidden_35 rfl rfl (rfl)
    refine go_iload_n (i := 2) (pc' := 27) dX6_isHidden_26 rfl rfl rfl ?_
    refine gz_if_ne (tgt := 34) (pc' := 30) dX6_isHidden_27 rfl (by decide) (fun c3 => ?_) (fun c3 => ?_)
    · refine go_iconst (v := 0) (pc' := 35) dX6_isHidden_34 rfl (by decide) ?_
      exact go_zret dX6_isHidden_35 rfl rfl (rfl)
    refine go_iconst (v := 1) (pc' := 31) dX6_isHidden_30 rfl (by decide) ?_
    refine go_goto (tgt := 35) dX6_isHidden_31 (by decide) ?_
    exact go_zret dX6_isHidden_35 rfl rfl (rfl)
  refine go_aload_n (i := 0) (pc' := 10) dX6_isHidden_9 rfl rfl rfl ?_
  refine gf_7_number (pc' := 13) dX6_isHidden_10 rfl fl_X6_46 ?_
  refine go_iload_n (i := 1) (pc' := 14) dX6_isHidden_13 rfl rfl rfl ?_
  refine gz_icmp_gt (tgt := 30) (pc' := 17) dX6_isHidden_14 rfl (by decide) (fun c4 => ?_) (fun c4 => ?_)
  · refine go_iconst (v := 1) (pc' := 31) dX6_isHidden_30 rfl (by decide) ?_
    refine go_goto (tgt := 35) dX6_isHidden_31 (by decide) ?_
    exact go_zret dX6_isHidden_35 rfl rfl (rfl)
  refine go_aload_n (i := 0) (pc' := 18) dX6_isHidden_17 rfl rfl rfl ?_
  refine gf_7_sort (pc' := 21) dX6_isHidden_18 rfl fl_X6_43 ?_
  refine go_bipush (v := 100) (pc' := 23) dX6_isHidden_21 rfl (by decide) ?_
  refine gz_icmp_ne (tgt := 34) (pc' := 26) dX6_isHidden_23 rfl (by decide) (fun c5 => ?_) (fun c5 => ?_)
  · refine go_iconst (v := 0) (pc' := 35) dX6_isHidden_34 rfl (by decide) ?_
    exact go_zret dX6_isHidden_35 rfl rfl (rfl)
  refine go_iload_n (i := 2) (pc' := 27) dX6_isHidden_26 rfl rfl rfl ?_
  refine gz_if_ne (tgt := 34) (pc' := 30) dX6_isHidden_27 rfl (by decide) (fun c6 => ?_) (fun c6 => ?_)
  · refine go_iconst (v := 0) (pc' := 35) dX6_isHidden_34 rfl (by decide) ?_
    exact go_zret dX6_isHidden_35 rfl rfl (rfl)
  refine go_iconst (v := 1) (pc' := 31) dX6_isHidden_30 rfl (by decide) ?_
  refine go_goto (tgt := 35) dX6_isHidden_31 (by decide) ?_
  exact go_zret dX6_isHidden_35 rfl rfl (rfl)
set_option maxHeartbeats 4000000 in
set_option maxRecDepth 100000 in
theorem c_X6_addNumber (l : Launch) (L : WL) (σ : ST) (a : Int32) (ix : IV σ) : CtV l L yX6_addNumber cX6_addNumber 3 none rm_X6_addNumber [.ref (L.2.1 8), .int a] σ (fun σ2 => WX σ σ2) := by
  refine ctV_go (own := RX6) (by decide) rfl (Nat.le_of_ble_eq_true rfl) (fun F hF => ?_)
  subst hF
  have n1 : (1 : Int32).toInt = 1 := by decide
  have n10 : (10 : Int32).toInt = 10 := by decide
  have n48 : (48 : Int32).toInt = 48 := by decide
  have n1000 : (1000 : Int32).toInt = 1000 := by decide
  have w0 : WX σ σ := WX_rfl ix
  refine go_sipush (v := 1000) (pc' := 3) dX6_addNumber_0 rfl (by decide) ?_
  refine go_istore_n (i := 2) (pc' := 4) dX6_addNumber_3 rfl rfl (by decide) ?_
  have loop4_1 : ∀ (dd1 : Nat) (σ1 : ST) (x2_1 : Int32), WX σ σ1 → (0 ≤ (x2_1).toInt ∧ (x2_1).toInt ≤ 1000) → (x2_1).toInt.toNat = dd1 → Go F L RX6 cX6_addNumber 3 rm_X6_addNumber none (RV F L (fun σ2 => WX σ σ2)) σ1 4 [(0, .ref (L.2.1 8)), (1, .int a), (2, .int x2_1)] [] := by
    intro dd1
    induction dd1 using Nat.strongRecOn with
    | _ dd1 ih1 =>
      intro σ1 x2_1 w1 h_1 hm_1
      refine go_iload_n (i := 2) (pc' := 5) dX6_addNumber_4 rfl rfl rfl ?_
      refine gz_if_le (tgt := 39) (pc' := 8) dX6_addNumber_5 rfl (by decide) (fun c2 => ?_) (fun c2 => ?_)
      · exact go_vret dX6_addNumber_39 rfl (w1)
      refine go_iload_n (i := 1) (pc' := 9) dX6_addNumber_8 rfl rfl rfl ?_
      refine go_iload_n (i := 2) (pc' := 10) dX6_addNumber_9 rfl rfl rfl ?_
      refine gz_icmp_ge (tgt := 18) (pc' := 13) dX6_addNumber_10 rfl (by decide) (fun c3 => ?_) (fun c3 => ?_)
      · refine go_aload_n (i := 0) (pc' := 19) dX6_addNumber_18 rfl rfl rfl ?_
        refine go_bipush (v := 48) (pc' := 21) dX6_addNumber_19 rfl (by decide) ?_
        refine go_iload_n (i := 1) (pc' := 22) dX6_addNumber_21 rfl rfl rfl ?_
        refine go_iload_n (i := 2) (pc' := 23) dX6_addNumber_22 rfl rfl rfl ?_
        refine go_idiv (pc' := 24) dX6_addNumber_23 rfl (ne0 (by omega)) ?_
        refine go_bipush (v := 10) (pc' := 26) dX6_addNumber_24 rfl (by decide) ?_
        refine go_irem (pc' := 27) dX6_addNumber_26 rfl (by decide) ?_
        refine go_iadd (pc' := 28) dX6_addNumber_27 rfl ?_
        refine go_cvv (pc' := 31) lk_X6_31 (c_X6_add _ _ _ _ w1.1) rfl rfl (Nat.le_of_ble_eq_true rfl) (by decide) rfl rfl rfl ⟨Nat.le_of_ble_eq_true rfl, Nat.le_of_ble_eq_true rfl⟩ ⟨rfl, rfl⟩ dX6_addNumber_28 rfl (fun σ4 h4 => ?_)
        have w4 := WX_trans w1 h4
        refine go_iload_n (i := 2) (pc' := 32) dX6_addNumber_31 rfl rfl rfl ?_
        refine go_bipush (v := 10) (pc' := 34) dX6_addNumber_32 rfl (by decide) ?_
        refine go_idiv (pc' := 35) dX6_addNumber_34 rfl (by decide) ?_
        have q35 := i32_div10 x2_1 (by omega)
        refine go_topz (fun y5 h5 e5 => ?_)
        refine go_istore_n (i := 2) (pc' := 36) dX6_addNumber_35 rfl rfl (by decide) ?_
        refine go_goto (tgt := 4) dX6_addNumber_36 (by decide) ?_
        exact go_lv (lv' := [(0, .ref (L.2.1 8)), (1, .int a), (2, .int y5)]) rfl (ih1 _ (by omega) σ4 y5 w4 (by omega) rfl)
      refine go_iload_n (i := 2) (pc' := 14) dX6_addNumber_13 rfl rfl rfl ?_
      refine go_iconst (v := 1) (pc' := 15) dX6_addNumber_14 rfl (by decide) ?_
      refine gz_icmp_ne (tgt := 31) (pc' := 18) dX6_addNumber_15 rfl (by decide) (fun c6 => ?_) (fun c6 => ?_)
      · refine go_iload_n (i := 2) (pc' := 32) dX6_addNumber_31 rfl rfl rfl ?_
        refine go_bipush (v := 10) (pc' := 34) dX6_addNumber_32 rfl (by decide) ?_
        refine go_idiv (pc' := 35) dX6_addNumber_34 rfl (by decide) ?_
        have q35 := i32_div10 x2_1 (by omega)
        refine go_topz (fun y7 h7 e7 => ?_)
        refine go_istore_n (i := 2) (pc' := 36) dX6_addNumber_35 rfl rfl (by decide) ?_
        refine go_goto (tgt := 4) dX6_addNumber_36 (by decide) ?_
        exact go_lv (lv' := [(0, .ref (L.2.1 8)), (1, .int a), (2, .int y7)]) rfl (ih1 _ (by omega) σ1 y7 w1 (by omega) rfl)
      refine go_aload_n (i := 0) (pc' := 19) dX6_addNumber_18 rfl rfl rfl ?_
      refine go_bipush (v := 48) (pc' := 21) dX6_addNumber_19 rfl (by decide) ?_
      refine go_iload_n (i := 1) (pc' := 22) dX6_addNumber_21 rfl rfl rfl ?_
      refine go_iload_n (i := 2) (pc' := 23) dX6_addNumber_22 rfl rfl rfl ?_
      refine go_idiv (pc' := 24) dX6_addNumber_23 rfl (ne0 (by omega)) ?_
      refine go_bipush (v := 10) (pc' := 26) dX6_addNumber_24 rfl (by decide) ?_
      refine go_irem (pc' := 27) dX6_addNumber_26 rfl (by decide) ?_
      refine go_iadd (pc' := 28) dX6_addNumber_27 rfl ?_
      refine go_cvv (pc' := 31) lk_X6_31 (c_X6_add _ _ _ _ w1.1) rfl rfl (Nat.le_of_ble_eq_true rfl) (by decide) rfl rfl rfl ⟨Nat.le_of_ble_eq_true rfl, Nat.le_of_ble_eq_true rfl⟩ ⟨rfl, rfl⟩ dX6_addNumber_28 rfl (fun σ8 h8 => ?_)
      have w8 := WX_trans w1 h8
      refine go_iload_n (i := 2) (pc' := 32) dX6_addNumber_31 rfl rfl rfl ?_
      refine go_bipush (v := 10) (pc' := 34) dX6_addNumber_32 rfl (by decide) ?_
      refine go_idiv (pc' := 35) dX6_addNumber_34 rfl (by decide) ?_
      have q35 := i32_div10 x2_1 (by omega)
      refine go_topz (fun y9 h9 e9 => ?_)
      refine go_istore_n (i := 2) (pc' := 36) dX6_addNumber_35 rfl rfl (by decide) ?_
      refine go_goto (tgt := 4) dX6_addNumber_36 (by decide) ?_
      exact go_lv (lv' := [(0, .ref (L.2.1 8)), (1, .int a), (2, .int y9)]) rfl (ih1 _ (by omega) σ8 y9 w8 (by omega) rfl)
  exact go_lv (lv' := [(0, .ref (L.2.1 8)), (1, .int a), (2, .int (1000 : Int32))]) rfl (loop4_1 _ σ (1000 : Int32) w0 (by omega) rfl)
set_option maxHeartbeats 4000000 in
set_option maxRecDepth 100000 in
theorem c_X6_addMark (l : Launch) (L : WL) (σ : ST) (a : Int32) (ix : IV σ) : CtV l L yX6_addMark cX6_addMark 4 none rm_X6_addMark [.ref (L.2.1 8), .int a, .ref (L.2.1 7)] σ (fun σ2 => WX σ σ2) := by
  refine ctV_go (own := RX6) (by decide) rfl (Nat.le_of_ble_eq_true rfl) (fun F hF => ?_)
  subst hF
  have n0 : (0 : Int32).toInt = 0 := by decide
  have n1 : (1 : Int32).toInt = 1 := by decide
  have n2 : (2 : Int32).toInt = 2 := by decide
  have n3 : (3 : Int32).toInt = 3 := by decide
  have n4 : (4 : Int32).toInt = 4 := by decide
  have n39 : (39 : Int32).toInt = 39 := by decide
  have n40 : (40 : Int32).toInt = 40 := by decide
  have n41 : (41 : Int32).toInt = 41 := by decide
  have n47 : (47 : Int32).toInt = 47 := by decide
  have n60 : (60 : Int32).toInt = 60 := by decide
  have n62 : (62 : Int32).toInt = 62 := by decide
  have n91 : (91 : Int32).toInt = 91 := by decide
  have n93 : (93 : Int32).toInt = 93 := by decide
  have w0 : WX σ σ := WX_rfl ix
  refine go_iload_n (i := 1) (pc' := 1) dX6_addMark_0 rfl rfl rfl ?_
  refine go_iconst (v := 4) (pc' := 2) dX6_addMark_1 rfl (by decide) ?_
  refine gz_icmp_ne (tgt := 26) (pc' := 5) dX6_addMark_2 rfl (by decide) (fun c1 => ?_) (fun c1 => ?_)
  · refine go_iload_n (i := 1) (pc' := 27) dX6_addMark_26 rfl rfl rfl ?_
    refine go_iconst (v := 2) (pc' := 28) dX6_addMark_27 rfl (by decide) ?_
    refine gz_icmp_eq (tgt := 37) (pc' := 31) dX6_addMark_28 rfl (by decide) (fun c2 => ?_) (fun c2 => ?_)
    · refine go_iload_n (i := 1) (pc' := 38) dX6_addMark_37 rfl rfl rfl ?_
      refine go_iconst (v := 2) (pc' := 39) dX6_addMark_38 rfl (by decide) ?_
      refine gz_icmp_ne (tgt := 46) (pc' := 42) dX6_addMark_39 rfl (by decide) (fun c3 => ?_) (fun c3 => ?_)
      · refine go_iconst (v := 0) (pc' := 47) dX6_addMark_46 rfl (by decide) ?_
        refine go_istore_n (i := 3) (pc' := 48) dX6_addMark_47 rfl rfl (by decide) ?_
        refine go_aload_n (i := 2) (pc' := 49) dX6_addMark_48 rfl rfl rfl ?_
        refine gf_7_sort (pc' := 52) dX6_addMark_49 rfl fl_X6_43 ?_
        by_cases z4_0 : (σ.1 8) = 97
        · refine go_lookup (off := 62) (tgt := 114) dX6_addMark_52 (by decide) (by rw [z4_0]; decide) (by decide) ?_
          refine go_aload_n (i := 0) (pc' := 115) dX6_addMark_114 rfl rfl rfl ?_
          refine go_bipush (v := 47) (pc' := 117) dX6_addMark_115 rfl (by decide) ?_
          refine go_cvv (pc' := 120) lk_X6_31 (c_X6_add _ _ _ _ w0.1) rfl rfl (Nat.le_of_ble_eq_true rfl) (by decide) rfl rfl rfl ⟨Nat.le_of_ble_eq_true rfl, Nat.le_of_ble_eq_true rfl⟩ ⟨rfl, rfl⟩ dX6_addMark_117 rfl (fun σ5 h5 => ?_)
          have w5 := WX_trans w0 h5
          refine go_goto (tgt := 150) dX6_addMark_120 (by decide) ?_
          exact go_vret dX6_addMark_150 rfl (w5)
        by_cases z4_1 : (σ.1 8) = 100
        · refine go_lookup (off := 44) (tgt := 96) dX6_addMark_52 (by decide) (by rw [z4_1]; decide) (by decide) ?_
          refine go_aload_n (i := 0) (pc' := 97) dX6_addMark_96 rfl rfl rfl ?_
          refine go_iload_n (i := 3) (pc' := 98) dX6_addMark_97 rfl rfl rfl ?_
          refine gz_if_eq (tgt := 106) (pc' := 101) dX6_addMark_98 rfl (by decide) (fun c6 => ?_) (fun c6 => ?_)
          · refine go_bipush (v := 62) (pc' := 108) dX6_addMark_106 rfl (by decide) ?_
            refine go_cvv (pc' := 111) lk_X6_31 (c_X6_add _ _ _ _ w0.1) rfl rfl (Nat.le_of_ble_eq_true rfl) (by decide) rfl rfl rfl ⟨Nat.le_of_ble_eq_true rfl, Nat.le_of_ble_eq_true rfl⟩ ⟨rfl, rfl⟩ dX6_addMark_108 rfl (fun σ7 h7 => ?_)
            have w7 := WX_trans w0 h7
            refine go_goto (tgt := 150) dX6_addMark_111 (by decide) ?_
            exact go_vret dX6_addMark_150 rfl (w7)
          refine go_bipush (v := 60) (pc' := 103) dX6_addMark_101 rfl (by decide) ?_
          refine go_goto (tgt := 108) dX6_addMark_103 (by decide) ?_
          refine go_cvv (pc' := 111) lk_X6_31 (c_X6_add _ _ _ _ w0.1) rfl rfl (Nat.le_of_ble_eq_true rfl) (by decide) rfl rfl rfl ⟨Nat.le_of_ble_eq_true rfl, Nat.le_of_ble_eq_true rfl⟩ ⟨rfl, rfl⟩ dX6_addMark_108 rfl (fun σ8 h8 => ?_)
          have w8 := WX_trans w0 h8
          refine go_goto (tgt := 150) dX6_addMark_111 (by decide) ?_
          exact go_vret dX6_addMark_150 rfl (w8)
        by_cases z4_2 : (σ.1 8) = 104
        · refine go_lookup (off := 89) (tgt := 141) dX6_addMark_52 (by decide) (by rw [z4_2]; decide) (by decide) ?_
          refine go_aload_n (i := 0) (pc' := 142) dX6_addMark_141 rfl rfl rfl ?_
          refine go_bipush (v := 39) (pc' := 144) dX6_addMark_142 rfl (by decide) ?_
          refine go_cvv (pc' := 147) lk_X6_31 (c_X6_add _ _ _ _ w0.1) rfl rfl (Nat.le_of_ble_eq_true rfl) (by decide) rfl rfl rfl ⟨Nat.le_of_ble_eq_true rfl, Nat.le_of_ble_eq_true rfl⟩ ⟨rfl, rfl⟩ dX6_addMark_144 rfl (fun σ9 h9 => ?_)
          have w9 := WX_trans w0 h9
          refine go_goto (tgt := 150) dX6_addMark_147 (by decide) ?_
          exact go_vret dX6_addMark_150 rfl (w9)
        by_cases z4_3 : (σ.1 8) = 117
        · refine go_lookup (off := 71) (tgt := 123) dX6_addMark_52 (by decide) (by rw [z4_3]; decide) (by decide) ?_
          refine go_aload_n (i := 0) (pc' := 124) dX6_addMark_123 rfl rfl rfl ?_
          refine go_iload_n (i := 3) (pc' := 125) dX6_addMark_124 rfl rfl rfl ?_
          refine gz_if_eq (tgt := 133) (pc' := 128) dX6_addMark_125 rfl (by decide) (fun c10 => ?_) (fun c10 => ?_)
          · refine go_bipush (v := 93) (pc' := 135) dX6_addMark_133 rfl (by decide) ?_
            refine go_cvv (pc' := 138) lk_X6_31 (c_X6_add _ _ _ _ w0.1) rfl rfl (Nat.le_of_ble_eq_true rfl) (by decide) rfl rfl rfl ⟨Nat.le_of_ble_eq_true rfl, Nat.le_of_ble_eq_true rfl⟩ ⟨rfl, rfl⟩ dX6_addMark_135 rfl (fun σ11 h11 => ?_)
            have w11 := WX_trans w0 h11
            refine go_goto (tgt := 150) dX6_addMark_138 (by decide) ?_
            exact go_vret dX6_addMark_150 rfl (w11)
          refine go_bipush (v := 91) (pc' := 130) dX6_addMark_128 rfl (by decide) ?_
          refine go_goto (tgt := 135) dX6_addMark_130 (by decide) ?_
          refine go_cvv (pc' := 138) lk_X6_31 (c_X6_add _ _ _ _ w0.1) rfl rfl (Nat.le_of_ble_eq_true rfl) (by decide) rfl rfl rfl ⟨Nat.le_of_ble_eq_true rfl, Nat.le_of_ble_eq_true rfl⟩ ⟨rfl, rfl⟩ dX6_addMark_135 rfl (fun σ12 h12 => ?_)
          have w12 := WX_trans w0 h12
          refine go_goto (tgt := 150) dX6_addMark_138 (by decide) ?_
          exact go_vret dX6_addMark_150 rfl (w12)
        refine go_lookup (off := 98) (tgt := 150) dX6_addMark_52 (by decide) (lkm_n z4_0 z4_1 z4_2 z4_3) (by decide) ?_
        exact go_vret dX6_addMark_150 rfl (w0)
      refine go_iconst (v := 1) (pc' := 43) dX6_addMark_42 rfl (by decide) ?_
      refine go_goto (tgt := 47) dX6_addMark_43 (by decide) ?_
      refine go_istore_n (i := 3) (pc' := 48) dX6_addMark_47 rfl rfl (by decide) ?_
      refine go_aload_n (i := 2) (pc' := 49) dX6_addMark_48 rfl rfl rfl ?_
      refine gf_7_sort (pc' := 52) dX6_addMark_49 rfl fl_X6_43 ?_
      by_cases z13_0 : (σ.1 8) = 97
      · refine go_lookup (off := 62) (tgt := 114) dX6_addMark_52 (by decide) (by rw [z13_0]; decide) (by decide) ?_
        refine go_aload_n (i := 0) (pc' := 115) dX6_addMark_114 rfl rfl rfl ?_
        refine go_bipush (v := 47) (pc' := 117) dX6_addMark_115 rfl (by decide) ?_
        refine go_cvv (pc' := 120) lk_X6_31 (c_X6_add _ _ _ _ w0.1) rfl rfl (Nat.le_of_ble_eq_true rfl) (by decide) rfl rfl rfl ⟨Nat.le_of_ble_eq_true rfl, Nat.le_of_ble_eq_true rfl⟩ ⟨rfl, rfl⟩ dX6_addMark_117 rfl (fun σ14 h14 => ?_)
        have w14 := WX_trans w0 h14
        refine go_goto (tgt := 150) dX6_addMark_120 (by decide) ?_
        exact go_vret dX6_addMark_150 rfl (w14)
      by_cases z13_1 : (σ.1 8) = 100
      · refine go_lookup (off := 44) (tgt := 96) dX6_addMark_52 (by decide) (by rw [z13_1]; decide) (by decide) ?_
        refine go_aload_n (i := 0) (pc' := 97) dX6_addMark_96 rfl rfl rfl ?_
        refine go_iload_n (i := 3) (pc' := 98) dX6_addMark_97 rfl rfl rfl ?_
        refine gz_if_eq (tgt := 106) (pc' := 101) dX6_addMark_98 rfl (by decide) (fun c15 => ?_) (fun c15 => ?_)
        · refine go_bipush (v := 62) (pc' := 108) dX6_addMark_106 rfl (by decide) ?_
          refine go_cvv (pc' := 111) lk_X6_31 (c_X6_add _ _ _ _ w0.1) rfl rfl (Nat.le_of_ble_eq_true rfl) (by decide) rfl rfl rfl ⟨Nat.le_of_ble_eq_true rfl, Nat.le_of_ble_eq_true rfl⟩ ⟨rfl, rfl⟩ dX6_addMark_108 rfl (fun σ16 h16 => ?_)
          have w16 := WX_trans w0 h16
          refine go_goto (tgt := 150) dX6_addMark_111 (by decide) ?_
          exact go_vret dX6_addMark_150 rfl (w16)
        refine go_bipush (v := 60) (pc' := 103) dX6_addMark_101 rfl (by decide) ?_
        refine go_goto (tgt := 108) dX6_addMark_103 (by decide) ?_
        refine go_cvv (pc' := 111) lk_X6_31 (c_X6_add _ _ _ _ w0.1) rfl rfl (Nat.le_of_ble_eq_true rfl) (by decide) rfl rfl rfl ⟨Nat.le_of_ble_eq_true rfl, Nat.le_of_ble_eq_true rfl⟩ ⟨rfl, rfl⟩ dX6_addMark_108 rfl (fun σ17 h17 => ?_)
        have w17 := WX_trans w0 h17
        refine go_goto (tgt := 150) dX6_addMark_111 (by decide) ?_
        exact go_vret dX6_addMark_150 rfl (w17)
      by_cases z13_2 : (σ.1 8) = 104
      · refine go_lookup (off := 89) (tgt := 141) dX6_addMark_52 (by decide) (by rw [z13_2]; decide) (by decide) ?_
        refine go_aload_n (i := 0) (pc' := 142) dX6_addMark_141 rfl rfl rfl ?_
        refine go_bipush (v := 39) (pc' := 144) dX6_addMark_142 rfl (by decide) ?_
        refine go_cvv (pc' := 147) lk_X6_31 (c_X6_add _ _ _ _ w0.1) rfl rfl (Nat.le_of_ble_eq_true rfl) (by decide) rfl rfl rfl ⟨Nat.le_of_ble_eq_true rfl, Nat.le_of_ble_eq_true rfl⟩ ⟨rfl, rfl⟩ dX6_addMark_144 rfl (fun σ18 h18 => ?_)
        have w18 := WX_trans w0 h18
        refine go_goto (tgt := 150) dX6_addMark_147 (by decide) ?_
        exact go_vret dX6_addMark_150 rfl (w18)
      by_cases z13_3 : (σ.1 8) = 117
      · refine go_lookup (off := 71) (tgt := 123) dX6_addMark_52 (by decide) (by rw [z13_3]; decide) (by decide) ?_
        refine go_aload_n (i := 0) (pc' := 124) dX6_addMark_123 rfl rfl rfl ?_
        refine go_iload_n (i := 3) (pc' := 125) dX6_addMark_124 rfl rfl rfl ?_
        refine gz_if_eq (tgt := 133) (pc' := 128) dX6_addMark_125 rfl (by decide) (fun c19 => ?_) (fun c19 => ?_)
        · refine go_bipush (v := 93) (pc' := 135) dX6_addMark_133 rfl (by decide) ?_
          refine go_cvv (pc' := 138) lk_X6_31 (c_X6_add _ _ _ _ w0.1) rfl rfl (Nat.le_of_ble_eq_true rfl) (by decide) rfl rfl rfl ⟨Nat.le_of_ble_eq_true rfl, Nat.le_of_ble_eq_true rfl⟩ ⟨rfl, rfl⟩ dX6_addMark_135 rfl (fun σ20 h20 => ?_)
          have w20 := WX_trans w0 h20
          refine go_goto (tgt := 150) dX6_addMark_138 (by decide) ?_
          exact go_vret dX6_addMark_150 rfl (w20)
        refine go_bipush (v := 91) (pc' := 130) dX6_addMark_128 rfl (by decide) ?_
        refine go_goto (tgt := 135) dX6_addMark_130 (by decide) ?_
        refine go_cvv (pc' := 138) lk_X6_31 (c_X6_add _ _ _ _ w0.1) rfl rfl (Nat.le_of_ble_eq_true rfl) (by decide) rfl rfl rfl ⟨Nat.le_of_ble_eq_true rfl, Nat.le_of_ble_eq_true rfl⟩ ⟨rfl, rfl⟩ dX6_addMark_135 rfl (fun σ21 h21 => ?_)
        have w21 := WX_trans w0 h21
        refine go_goto (tgt := 150) dX6_addMark_138 (by decide) ?_
        exact go_vret dX6_addMark_150 rfl (w21)
      refine go_lookup (off := 98) (tgt := 150) dX6_addMark_52 (by decide) (lkm_n z13_0 z13_1 z13_2 z13_3) (by decide) ?_
      exact go_vret dX6_addMark_150 rfl (w0)
    refine go_iload_n (i := 1) (pc' := 32) dX6_addMark_31 rfl rfl rfl ?_
    refine go_iconst (v := 3) (pc' := 33) dX6_addMark_32 rfl (by decide) ?_
    refine gz_icmp_eq (tgt := 37) (pc' := 36) dX6_addMark_33 rfl (by decide) (fun c22 => ?_) (fun c22 => ?_)
    · refine go_iload_n (i := 1) (pc' := 38) dX6_addMark_37 rfl rfl rfl ?_
      refine go_iconst (v := 2) (pc' := 39) dX6_addMark_38 rfl (by decide) ?_
      refine gz_icmp_ne (tgt := 46) (pc' := 42) dX6_addMark_39 rfl (by decide) (fun c23 => ?_) (fun c23 => ?_)
      · refine go_iconst (v := 0) (pc' := 47) dX6_addMark_46 rfl (by decide) ?_
        refine go_istore_n (i := 3) (pc' := 48) dX6_addMark_47 rfl rfl (by decide) ?_
        refine go_aload_n (i := 2) (pc' := 49) dX6_addMark_48 rfl rfl rfl ?_
        refine gf_7_sort (pc' := 52) dX6_addMark_49 rfl fl_X6_43 ?_
        by_cases z24_0 : (σ.1 8) = 97
        · refine go_lookup (off := 62) (tgt := 114) dX6_addMark_52 (by decide) (by rw [z24_0]; decide) (by decide) ?_
          refine go_aload_n (i := 0) (pc' := 115) dX6_addMark_114 rfl rfl rfl ?_
          refine go_bipush (v := 47) (pc' := 117) dX6_addMark_115 rfl (by decide) ?_
          refine go_cvv (pc' := 120) lk_X6_31 (c_X6_add _ _ _ _ w0.1) rfl rfl (Nat.le_of_ble_eq_true rfl) (by decide) rfl rfl rfl ⟨Nat.le_of_ble_eq_true rfl, Nat.le_of_ble_eq_true rfl⟩ ⟨rfl, rfl⟩ dX6_addMark_117 rfl (fun σ25 h25 => ?_)
          have w25 := WX_trans w0 h25
          refine go_goto (tgt := 150) dX6_addMark_120 (by decide) ?_
          exact go_vret dX6_addMark_150 rfl (w25)
        by_cases z24_1 : (σ.1 8) = 100
        · refine go_lookup (off := 44) (tgt := 96) dX6_addMark_52 (by decide) (by rw [z24_1]; decide) (by decide) ?_
          refine go_aload_n (i := 0) (pc' := 97) dX6_addMark_96 rfl rfl rfl ?_
          refine go_iload_n (i := 3) (pc' := 98) dX6_addMark_97 rfl rfl rfl ?_
          refine gz_if_eq (tgt := 106) (pc' := 101) dX6_addMark_98 rfl (by decide) (fun c26 => ?_) (fun c26 => ?_)
          · refine go_bipush (v := 62) (pc' := 108) dX6_addMark_106 rfl (by decide) ?_
            refine go_cvv (pc' := 111) lk_X6_31 (c_X6_add _ _ _ _ w0.1) rfl rfl (Nat.le_of_ble_eq_true rfl) (by decide) rfl rfl rfl ⟨Nat.le_of_ble_eq_true rfl, Nat.le_of_ble_eq_true rfl⟩ ⟨rfl, rfl⟩ dX6_addMark_108 rfl (fun σ27 h27 => ?_)
            have w27 := WX_trans w0 h27
            refine go_goto (tgt := 150) dX6_addMark_111 (by decide) ?_
            exact go_vret dX6_addMark_150 rfl (w27)
          refine go_bipush (v := 60) (pc' := 103) dX6_addMark_101 rfl (by decide) ?_
          refine go_goto (tgt := 108) dX6_addMark_103 (by decide) ?_
          refine go_cvv (pc' := 111) lk_X6_31 (c_X6_add _ _ _ _ w0.1) rfl rfl (Nat.le_of_ble_eq_true rfl) (by decide) rfl rfl rfl ⟨Nat.le_of_ble_eq_true rfl, Nat.le_of_ble_eq_true rfl⟩ ⟨rfl, rfl⟩ dX6_addMark_108 rfl (fun σ28 h28 => ?_)
          have w28 := WX_trans w0 h28
          refine go_goto (tgt := 150) dX6_addMark_111 (by decide) ?_
          exact go_vret dX6_addMark_150 rfl (w28)
        by_cases z24_2 : (σ.1 8) = 104
        · refine go_lookup (off := 89) (tgt := 141) dX6_addMark_52 (by decide) (by rw [z24_2]; decide) (by decide) ?_
          refine go_aload_n (i := 0) (pc' := 142) dX6_addMark_141 rfl rfl rfl ?_
          refine go_bipush (v := 39) (pc' := 144) dX6_addMark_142 rfl (by decide) ?_
          refine go_cvv (pc' := 147) lk_X6_31 (c_X6_add _ _ _ _ w0.1) rfl rfl (Nat.le_of_ble_eq_true rfl) (by decide) rfl rfl rfl ⟨Nat.le_of_ble_eq_true rfl, Nat.le_of_ble_eq_true rfl⟩ ⟨rfl, rfl⟩ dX6_addMark_144 rfl (fun σ29 h29 => ?_)
          have w29 := WX_trans w0 h29
          refine go_goto (tgt := 150) dX6_addMark_147 (by decide) ?_
          exact go_vret dX6_addMark_150 rfl (w29)
        by_cases z24_3 : (σ.1 8) = 117
        · refine go_lookup (off := 71) (tgt := 123) dX6_addMark_52 (by decide) (by rw [z24_3]; decide) (by decide) ?_
          refine go_aload_n (i := 0) (pc' := 124) dX6_addMark_123 rfl rfl rfl ?_
          refine go_iload_n (i := 3) (pc' := 125) dX6_addMark_124 rfl rfl rfl ?_
          refine gz_if_eq (tgt := 133) (pc' := 128) dX6_addMark_125 rfl (by decide) (fun c30 => ?_) (fun c30 => ?_)
          · refine go_bipush (v := 93) (pc' := 135) dX6_addMark_133 rfl (by decide) ?_
            refine go_cvv (pc' := 138) lk_X6_31 (c_X6_add _ _ _ _ w0.1) rfl rfl (Nat.le_of_ble_eq_true rfl) (by decide) rfl rfl rfl ⟨Nat.le_of_ble_eq_true rfl, Nat.le_of_ble_eq_true rfl⟩ ⟨rfl, rfl⟩ dX6_addMark_135 rfl (fun σ31 h31 => ?_)
            have w31 := WX_trans w0 h31
            refine go_goto (tgt := 150) dX6_addMark_138 (by decide) ?_
            exact go_vret dX6_addMark_150 rfl (w31)
          refine go_bipush (v := 91) (pc' := 130) dX6_addMark_128 rfl (by decide) ?_
          refine go_goto (tgt := 135) dX6_addMark_130 (by decide) ?_
          refine go_cvv (pc' := 138) lk_X6_31 (c_X6_add _ _ _ _ w0.1) rfl rfl (Nat.le_of_ble_eq_true rfl) (by decide) rfl rfl rfl ⟨Nat.le_of_ble_eq_true rfl, Nat.le_of_ble_eq_true rfl⟩ ⟨rfl, rfl⟩ dX6_addMark_135 rfl (fun σ32 h32 => ?_)
          have w32 := WX_trans w0 h32
          refine go_goto (tgt := 150) dX6_addMark_138 (by decide) ?_
          exact go_vret dX6_addMark_150 rfl (w32)
        refine go_lookup (off := 98) (tgt := 150) dX6_addMark_52 (by decide) (lkm_n z24_0 z24_1 z24_2 z24_3) (by decide) ?_
        exact go_vret dX6_addMark_150 rfl (w0)
      refine go_iconst (v := 1) (pc' := 43) dX6_addMark_42 rfl (by decide) ?_
      refine go_goto (tgt := 47) dX6_addMark_43 (by decide) ?_
      refine go_istore_n (i := 3) (pc' := 48) dX6_addMark_47 rfl rfl (by decide) ?_
      refine go_aload_n (i := 2) (pc' := 49) dX6_addMark_48 rfl rfl rfl ?_
      refine gf_7_sort (pc' := 52) dX6_addMark_49 rfl fl_X6_43 ?_
      by_cases z33_0 : (σ.1 8) = 97
      · refine go_lookup (off := 62) (tgt := 114) dX6_addMark_52 (by decide) (by rw [z33_0]; decide) (by decide) ?_
        refine go_aload_n (i := 0) (pc' := 115) dX6_addMark_114 rfl rfl rfl ?_
        refine go_bipush (v := 47) (pc' := 117) dX6_addMark_115 rfl (by decide) ?_
        refine go_cvv (pc' := 120) lk_X6_31 (c_X6_add _ _ _ _ w0.1) rfl rfl (Nat.le_of_ble_eq_true rfl) (by decide) rfl rfl rfl ⟨Nat.le_of_ble_eq_true rfl, Nat.le_of_ble_eq_true rfl⟩ ⟨rfl, rfl⟩ dX6_addMark_117 rfl (fun σ34 h34 => ?_)
        have w34 := WX_trans w0 h34
        refine go_goto (tgt := 150) dX6_addMark_120 (by decide) ?_
        exact go_vret dX6_addMark_150 rfl (w34)
      by_cases z33_1 : (σ.1 8) = 100
      · refine go_lookup (off := 44) (tgt := 96) dX6_addMark_52 (by decide) (by rw [z33_1]; decide) (by decide) ?_
        refine go_aload_n (i := 0) (pc' := 97) dX6_addMark_96 rfl rfl rfl ?_
        refine go_iload_n (i := 3) (pc' := 98) dX6_addMark_97 rfl rfl rfl ?_
        refine gz_if_eq (tgt := 106) (pc' := 101) dX6_addMark_98 rfl (by decide) (fun c35 => ?_) (fun c35 => ?_)
        · refine go_bipush (v := 62) (pc' := 108) dX6_addMark_106 rfl (by decide) ?_
          refine go_cvv (pc' := 111) lk_X6_31 (c_X6_add _ _ _ _ w0.1) rfl rfl (Nat.le_of_ble_eq_true rfl) (by decide) rfl rfl rfl ⟨Nat.le_of_ble_eq_true rfl, Nat.le_of_ble_eq_true rfl⟩ ⟨rfl, rfl⟩ dX6_addMark_108 rfl (fun σ36 h36 => ?_)
          have w36 := WX_trans w0 h36
          refine go_goto (tgt := 150) dX6_addMark_111 (by decide) ?_
          exact go_vret dX6_addMark_150 rfl (w36)
        refine go_bipush (v := 60) (pc' := 103) dX6_addMark_101 rfl (by decide) ?_
        refine go_goto (tgt := 108) dX6_addMark_103 (by decide) ?_
        refine go_cvv (pc' := 111) lk_X6_31 (c_X6_add _ _ _ _ w0.1) rfl rfl (Nat.le_of_ble_eq_true rfl) (by decide) rfl rfl rfl ⟨Nat.le_of_ble_eq_true rfl, Nat.le_of_ble_eq_true rfl⟩ ⟨rfl, rfl⟩ dX6_addMark_108 rfl (fun σ37 h37 => ?_)
        have w37 := WX_trans w0 h37
        refine go_goto (tgt := 150) dX6_addMark_111 (by decide) ?_
        exact go_vret dX6_addMark_150 rfl (w37)
      by_cases z33_2 : (σ.1 8) = 104
      · refine go_lookup (off := 89) (tgt := 141) dX6_addMark_52 (by decide) (by rw [z33_2]; decide) (by decide) ?_
        refine go_aload_n (i := 0) (pc' := 142) dX6_addMark_141 rfl rfl rfl ?_
        refine go_bipush (v := 39) (pc' := 144) dX6_addMark_142 rfl (by decide) ?_
        refine go_cvv (pc' := 147) lk_X6_31 (c_X6_add _ _ _ _ w0.1) rfl rfl (Nat.le_of_ble_eq_true rfl) (by decide) rfl rfl rfl ⟨Nat.le_of_ble_eq_true rfl, Nat.le_of_ble_eq_true rfl⟩ ⟨rfl, rfl⟩ dX6_addMark_144 rfl (fun σ38 h38 => ?_)
        have w38 := WX_trans w0 h38
        refine go_goto (tgt := 150) dX6_addMark_147 (by decide) ?_
        exact go_vret dX6_addMark_150 rfl (w38)
      by_cases z33_3 : (σ.1 8) = 117
      · refine go_lookup (off := 71) (tgt := 123) dX6_addMark_52 (by decide) (by rw [z33_3]; decide) (by decide) ?_
        refine go_aload_n (i := 0) (pc' := 124) dX6_addMark_123 rfl rfl rfl ?_
        refine go_iload_n (i := 3) (pc' := 125) dX6_addMark_124 rfl rfl rfl ?_
        refine gz_if_eq (tgt := 133) (pc' := 128) dX6_addMark_125 rfl (by decide) (fun c39 => ?_) (fun c39 => ?_)
        · refine go_bipush (v := 93) (pc' := 135) dX6_addMark_133 rfl (by decide) ?_
          refine go_cvv (pc' := 138) lk_X6_31 (c_X6_add _ _ _ _ w0.1) rfl rfl (Nat.le_of_ble_eq_true rfl) (by decide) rfl rfl rfl ⟨Nat.le_of_ble_eq_true rfl, Nat.le_of_ble_eq_true rfl⟩ ⟨rfl, rfl⟩ dX6_addMark_135 rfl (fun σ40 h40 => ?_)
          have w40 := WX_trans w0 h40
          refine go_goto (tgt := 150) dX6_addMark_138 (by decide) ?_
          exact go_vret dX6_addMark_150 rfl (w40)
        refine go_bipush (v := 91) (pc' := 130) dX6_addMark_128 rfl (by decide) ?_
        refine go_goto (tgt := 135) dX6_addMark_130 (by decide) ?_
        refine go_cvv (pc' := 138) lk_X6_31 (c_X6_add _ _ _ _ w0.1) rfl rfl (Nat.le_of_ble_eq_true rfl) (by decide) rfl rfl rfl ⟨Nat.le_of_ble_eq_true rfl, Nat.le_of_ble_eq_true rfl⟩ ⟨rfl, rfl⟩ dX6_addMark_135 rfl (fun σ41 h41 => ?_)
        have w41 := WX_trans w0 h41
        refine go_goto (tgt := 150) dX6_addMark_138 (by decide) ?_
        exact go_vret dX6_addMark_150 rfl (w41)
      refine go_lookup (off := 98) (tgt := 150) dX6_addMark_52 (by decide) (lkm_n z33_0 z33_1 z33_2 z33_3) (by decide) ?_
      exact go_vret dX6_addMark_150 rfl (w0)
    exact go_vret dX6_addMark_36 rfl (w0)
  refine go_aload_n (i := 0) (pc' := 6) dX6_addMark_5 rfl rfl rfl ?_
  refine go_bipush (v := 40) (pc' := 8) dX6_addMark_6 rfl (by decide) ?_
  refine go_cvv (pc' := 11) lk_X6_31 (c_X6_add _ _ _ _ w0.1) rfl rfl (Nat.le_of_ble_eq_true rfl) (by decide) rfl rfl rfl ⟨Nat.le_of_ble_eq_true rfl, Nat.le_of_ble_eq_true rfl⟩ ⟨rfl, rfl⟩ dX6_addMark_8 rfl (fun σ42 h42 => ?_)
  have w42 := WX_trans w0 h42
  refine go_aload_n (i := 0) (pc' := 12) dX6_addMark_11 rfl rfl rfl ?_
  refine go_aload_n (i := 2) (pc' := 13) dX6_addMark_12 rfl rfl rfl ?_
  refine gf_7_number (pc' := 16) dX6_addMark_13 rfl fl_X6_46 ?_
  refine go_cvv (pc' := 19) lk_X6_49 (c_X6_addNumber _ _ _ _ w42.1) rfl rfl (Nat.le_of_ble_eq_true rfl) (by decide) rfl rfl rfl ⟨Nat.le_of_ble_eq_true rfl, Nat.le_of_ble_eq_true rfl⟩ ⟨rfl, rfl⟩ dX6_addMark_16 rfl (fun σ43 h43 => ?_)
  have w43 := WX_trans w42 h43
  refine go_aload_n (i := 0) (pc' := 20) dX6_addMark_19 rfl rfl rfl ?_
  refine go_bipush (v := 41) (pc' := 22) dX6_addMark_20 rfl (by decide) ?_
  refine go_cvv (pc' := 25) lk_X6_31 (c_X6_add _ _ _ _ w43.1) rfl rfl (Nat.le_of_ble_eq_true rfl) (by decide) rfl rfl rfl ⟨Nat.le_of_ble_eq_true rfl, Nat.le_of_ble_eq_true rfl⟩ ⟨rfl, rfl⟩ dX6_addMark_22 rfl (fun σ44 h44 => ?_)
  have w44 := WX_trans w43 h44
  exact go_vret dX6_addMark_25 rfl (w44)
set_option maxHeartbeats 4000000 in
set_option maxRecDepth 100000 in
theorem c_X6_render (l : Launch) (L : WL) (σ : ST) (t n d y : Int32) (p : t.toNatClampNeg < 12) (ix : IV σ) : CtV l L yX6_render cX6_render 9 none rm_X6_render [.ref (L.2.1 8), .ref (L.2.1 7), .ref (L.2.1 (56 + (t).toNatClampNeg)), .int n, .int d, .int y] σ (fun σ2 => WX σ σ2) := by
  refine ctV_go (own := RX6) (by decide) rfl (Nat.le_of_ble_eq_true rfl) (fun F hF => ?_)
  subst hF
  have n0 : (0 : Int32).toInt = 0 := by decide
  have n1 : (1 : Int32).toInt = 1 := by decide
  have n2 : (2 : Int32).toInt = 2 := by decide
  have n3 : (3 : Int32).toInt = 3 := by decide
  have n95 : (95 : Int32).toInt = 95 := by decide
  have n160 : (160 : Int32).toInt = 160 := by decide
  have n255 : (255 : Int32).toInt = 255 := by decide
  have w0 : WX σ σ := WX_rfl ix
  refine go_iconst (v := 0) (pc' := 1) dX6_render_0 rfl (by decide) ?_
  refine go_istore (pc' := 3) dX6_render_1 rfl (by decide) ?_
  refine go_aload_n (i := 0) (pc' := 4) dX6_render_3 rfl rfl rfl ?_
  refine go_iconst (v := 0) (pc' := 5) dX6_render_4 rfl (by decide) ?_
  refine pf_8_size (pc' := 8) dX6_render_5 rfl fl_X6_15 ?_
  refine go_gen (P := WX σ) ⟨ixs_14 w0.1 (by omega) (by omega), Ag_setI w0.2 (by decide)⟩ (fun σ1 w1 => ?_)
  refine go_aload_n (i := 1) (pc' := 9) dX6_render_8 rfl rfl rfl ?_
  refine go_cvv (pc' := 12) lk_X6_19 (c_X3_begin _ _ _ w1.1) rfl rfl (Nat.le_of_ble_eq_true rfl) (by decide) rfl rfl rfl ⟨Nat.le_of_ble_eq_true rfl, Nat.le_of_ble_eq_true rfl⟩ ⟨rfl, rfl⟩ dX6_render_9 rfl (fun σ2 h2 => ?_)
  have w2 := WX_trans w1 h2
  refine go_iconst (v := 0) (pc' := 13) dX6_render_12 rfl (by decide) ?_
  refine go_istore (pc' := 15) dX6_render_13 rfl (by decide) ?_
  have loop15_3 : ∀ (dd3 : Nat) (σ3 : ST) (x6_3 : Int32) (x7_3 : Int32), WX σ σ3 → (0 ≤ (x7_3).toInt ∧ (x7_3).toInt ≤ 160) → (160 - (x7_3).toInt).toNat = dd3 → Go F L RX6 cX6_render 9 rm_X6_render none (RV F L (fun σ2 => WX σ σ2)) σ3 15 [(0, .ref (L.2.1 8)), (1, .ref (L.2.1 7)), (2, .ref (L.2.1 (56 + (t).toNatClampNeg))), (3, .int n), (4, .int d), (5, .int y), (6, .int x6_3), (7, .int x7_3)] [] := by
    intro dd3
    induction dd3 using Nat.strongRecOn with
    | _ dd3 ih3 =>
      intro σ3 x6_3 x7_3 w3 h_3 hm_3
      refine go_iload (pc' := 17) dX6_render_15 rfl rfl ?_
      refine go_iload_n (i := 3) (pc' := 18) dX6_render_17 rfl rfl rfl ?_
      refine gz_icmp_ge (tgt := 143) (pc' := 21) dX6_render_18 rfl (by decide) (fun c4 => ?_) (fun c4 => ?_)
      · exact go_vret dX6_render_143 rfl (w3)
      refine go_iload (pc' := 23) dX6_render_21 rfl rfl ?_
      refine go_aload_n (i := 2) (pc' := 24) dX6_render_23 rfl rfl rfl ?_
      refine go_alen (v := 160) (pc' := 25) dX6_render_24 rfl (by omega) (by omega) (by rw [rowl_56 p]; rfl) ?_
      refine gz_icmp_ge (tgt := 143) (pc' := 28) dX6_render_25 rfl (by decide) (fun c5 => ?_) (fun c5 => ?_)
      · exact go_vret dX6_render_143 rfl (w3)
      refine go_aload_n (i := 1) (pc' := 29) dX6_render_28 rfl rfl rfl ?_
      refine go_aload_n (i := 2) (pc' := 30) dX6_render_29 rfl rfl rfl ?_
      refine go_iload (pc' := 32) dX6_render_30 rfl rfl ?_
      refine go_bald (pc' := 33) dX6_render_32 rfl (by omega) (by omega) (rowt_56 p) (by rw [rowl_56 p]; exact (vin_of (n := 160) (by omega) (by omega))) ?_
      refine go_rngA (ixr_56 w3.1 p) (vinlt (vin_of (n := 160) (by omega) (by omega))) (fun g6 => ?_)
      refine go_sipush (v := 255) (pc' := 36) dX6_render_33 rfl (by decide) ?_
      refine go_iand (pc' := 37) dX6_render_36 rfl ?_
      refine go_iload (pc' := 39) dX6_render_37 rfl rfl ?_
      refine go_cvi (pc' := 42) lk_X6_24 (c_X3_take _ _ _ _ _ w3.1) rfl rfl (Nat.le_of_ble_eq_true rfl) (by decide) rfl rfl rfl ⟨Nat.le_of_ble_eq_true rfl, Nat.le_of_ble_eq_true rfl⟩ ⟨rfl, rfl⟩ dX6_render_39 rfl (fun r7 σ7 h7 => ?_)
      have w7 := WX_trans w3 h7
      refine go_istore (pc' := 44) dX6_render_42 rfl (by decide) ?_
      refine go_iload (pc' := 46) dX6_render_44 rfl rfl ?_
      refine gz_if_eq (tgt := 70) (pc' := 49) dX6_render_46 rfl (by decide) (fun c8 => ?_) (fun c8 => ?_)
      · refine go_iload (pc' := 72) dX6_render_70 rfl rfl ?_
        refine gz_if_ne (tgt := 86) (pc' := 75) dX6_render_72 rfl (by decide) (fun c9 => ?_) (fun c9 => ?_)
        · refine go_iload (pc' := 88) dX6_render_86 rfl rfl ?_
          refine go_iconst (v := 2) (pc' := 89) dX6_render_88 rfl (by decide) ?_
          refine gz_icmp_ne (tgt := 124) (pc' := 92) dX6_render_89 rfl (by decide) (fun c10 => ?_) (fun c10 => ?_)
          · refine go_iload (pc' := 126) dX6_render_124 rfl rfl ?_
            refine go_iconst (v := 1) (pc' := 127) dX6_render_126 rfl (by decide) ?_
            refine gz_icmp_ne (tgt := 137) (pc' := 130) dX6_render_127 rfl (by decide) (fun c11 => ?_) (fun c11 => ?_)
            · refine gz_iinc (c := 1) (pc' := 140) dX6_render_137 rfl rfl (by decide) (by decide) (by decide) (by omega) (fun v12 h12 e12 => ?_)
              refine go_goto (tgt := 15) dX6_render_140 (by decide) ?_
              exact go_lv (lv' := [(0, .ref (L.2.1 8)), (1, .ref (L.2.1 7)), (2, .ref (L.2.1 (56 + (t).toNatClampNeg))), (3, .int n), (4, .int d), (5, .int y), (6, .int x6_3), (7, .int v12)]) rfl (ih3 _ (by omega) σ7 x6_3 v12 w7 (by omega) rfl)
            refine go_aload_n (i := 0) (pc' := 131) dX6_render_130 rfl rfl rfl ?_
            refine go_iload (pc' := 133) dX6_render_131 rfl rfl ?_
            refine go_aload_n (i := 1) (pc' := 134) dX6_render_133 rfl rfl rfl ?_
            refine go_cvv (pc' := 137) lk_X6_39 (c_X6_addMark _ _ _ _ w7.1) rfl rfl (Nat.le_of_ble_eq_true rfl) (by decide) rfl rfl rfl ⟨Nat.le_of_ble_eq_true rfl, Nat.le_of_ble_eq_true rfl⟩ ⟨rfl, rfl⟩ dX6_render_134 rfl (fun σ13 h13 => ?_)
            have w13 := WX_trans w7 h13
            refine gz_iinc (c := 1) (pc' := 140) dX6_render_137 rfl rfl (by decide) (by decide) (by decide) (by omega) (fun v14 h14 e14 => ?_)
            refine go_goto (tgt := 15) dX6_render_140 (by decide) ?_
            exact go_lv (lv' := [(0, .ref (L.2.1 8)), (1, .ref (L.2.1 7)), (2, .ref (L.2.1 (56 + (t).toNatClampNeg))), (3, .int n), (4, .int d), (5, .int y), (6, .int x6_3), (7, .int v14)]) rfl (ih3 _ (by omega) σ13 x6_3 v14 w13 (by omega) rfl)
          refine go_aload_n (i := 1) (pc' := 93) dX6_render_92 rfl rfl rfl ?_
          refine go_iload (pc' := 95) dX6_render_93 rfl rfl ?_
          refine go_iload (pc' := 97) dX6_render_95 rfl rfl ?_
          refine go_csi (pc' := 100) ls_X6_35 (c_X6_isHidden _ _ _ _ _ w7.1) rfl rfl (Nat.le_of_ble_eq_true rfl) ⟨Nat.le_of_ble_eq_true rfl, Nat.le_of_ble_eq_true rfl⟩ ⟨rfl, rfl⟩ dX6_render_97 rfl (fun r15 σ15 h15 => ?_)
          have h15 := h15.symm
          subst h15
          refine gz_if_eq (tgt := 124) (pc' := 103) dX6_render_100 rfl (by decide) (fun c16 => ?_) (fun c16 => ?_)
          · refine go_iload (pc' := 126) dX6_render_124 rfl rfl ?_
            refine go_iconst (v := 1) (pc' := 127) dX6_render_126 rfl (by decide) ?_
            refine gz_icmp_ne (tgt := 137) (pc' := 130) dX6_render_127 rfl (by decide) (fun c17 => ?_) (fun c17 => ?_)
            · refine gz_iinc (c := 1) (pc' := 140) dX6_render_137 rfl rfl (by decide) (by decide) (by decide) (by omega) (fun v18 h18 e18 => ?_)
              refine go_goto (tgt := 15) dX6_render_140 (by decide) ?_
              exact go_lv (lv' := [(0, .ref (L.2.1 8)), (1, .ref (L.2.1 7)), (2, .ref (L.2.1 (56 + (t).toNatClampNeg))), (3, .int n), (4, .int d), (5, .int y), (6, .int x6_3), (7, .int v18)]) rfl (ih3 _ (by omega) σ7 x6_3 v18 w7 (by omega) rfl)
            refine go_aload_n (i := 0) (pc' := 131) dX6_render_130 rfl rfl rfl ?_
            refine go_iload (pc' := 133) dX6_render_131 rfl rfl ?_
            refine go_aload_n (i := 1) (pc' := 134) dX6_render_133 rfl rfl rfl ?_
            refine go_cvv (pc' := 137) lk_X6_39 (c_X6_addMark _ _ _ _ w7.1) rfl rfl (Nat.le_of_ble_eq_true rfl) (by decide) rfl rfl rfl ⟨Nat.le_of_ble_eq_true rfl, Nat.le_of_ble_eq_true rfl⟩ ⟨rfl, rfl⟩ dX6_render_134 rfl (fun σ19 h19 => ?_)
            have w19 := WX_trans w7 h19
            refine gz_iinc (c := 1) (pc' := 140) dX6_render_137 rfl rfl (by decide) (by decide) (by decide) (by omega) (fun v20 h20 e20 => ?_)
            refine go_goto (tgt := 15) dX6_render_140 (by decide) ?_
            exact go_lv (lv' := [(0, .ref (L.2.1 8)), (1, .ref (L.2.1 7)), (2, .ref (L.2.1 (56 + (t).toNatClampNeg))), (3, .int n), (4, .int d), (5, .int y), (6, .int x6_3), (7, .int v20)]) rfl (ih3 _ (by omega) σ19 x6_3 v20 w19 (by omega) rfl)
          refine go_aload_n (i := 1) (pc' := 104) dX6_render_103 rfl rfl rfl ?_
          refine gf_7_depth (pc' := 107) dX6_render_104 rfl fl_X6_28 ?_
          have g21 := ixi_7 w7.1
          refine go_topz (fun y22 h22 e22 => ?_)
          refine go_istore (pc' := 109) dX6_render_107 rfl (by decide) ?_
          refine go_iload (pc' := 111) dX6_render_109 rfl rfl ?_
          refine go_iconst (v := 1) (pc' := 112) dX6_render_111 rfl (by decide) ?_
          refine gz_icmp_ne (tgt := 137) (pc' := 115) dX6_render_112 rfl (by decide) (fun c23 => ?_) (fun c23 => ?_)
          · refine gz_iinc (c := 1) (pc' := 140) dX6_render_137 rfl rfl (by decide) (by decide) (by decide) (by omega) (fun v24 h24 e24 => ?_)
            refine go_goto (tgt := 15) dX6_render_140 (by decide) ?_
            exact go_lv (lv' := [(0, .ref (L.2.1 8)), (1, .ref (L.2.1 7)), (2, .ref (L.2.1 (56 + (t).toNatClampNeg))), (3, .int n), (4, .int d), (5, .int y), (6, .int y22), (7, .int v24)]) rfl (ih3 _ (by omega) σ7 y22 v24 w7 (by omega) rfl)
          refine go_aload_n (i := 0) (pc' := 116) dX6_render_115 rfl rfl rfl ?_
          refine go_bipush (v := 95) (pc' := 118) dX6_render_116 rfl (by decide) ?_
          refine go_cvv (pc' := 121) lk_X6_31 (c_X6_add _ _ _ _ w7.1) rfl rfl (Nat.le_of_ble_eq_true rfl) (by decide) rfl rfl rfl ⟨Nat.le_of_ble_eq_true rfl, Nat.le_of_ble_eq_true rfl⟩ ⟨rfl, rfl⟩ dX6_render_118 rfl (fun σ25 h25 => ?_)
          have w25 := WX_trans w7 h25
          refine go_goto (tgt := 137) dX6_render_121 (by decide) ?_
          refine gz_iinc (c := 1) (pc' := 140) dX6_render_137 rfl rfl (by decide) (by decide) (by decide) (by omega) (fun v26 h26 e26 => ?_)
          refine go_goto (tgt := 15) dX6_render_140 (by decide) ?_
          exact go_lv (lv' := [(0, .ref (L.2.1 8)), (1, .ref (L.2.1 7)), (2, .ref (L.2.1 (56 + (t).toNatClampNeg))), (3, .int n), (4, .int d), (5, .int y), (6, .int y22), (7, .int v26)]) rfl (ih3 _ (by omega) σ25 y22 v26 w25 (by omega) rfl)
        refine go_aload_n (i := 0) (pc' := 76) dX6_render_75 rfl rfl rfl ?_
        refine go_aload_n (i := 2) (pc' := 77) dX6_render_76 rfl rfl rfl ?_
        refine go_iload (pc' := 79) dX6_render_77 rfl rfl ?_
        refine go_bald (pc' := 80) dX6_render_79 rfl (by omega) (by omega) (rowt_56 p) (by rw [rowl_56 p]; exact (vin_of (n := 160) (by omega) (by omega))) ?_
        refine go_rngA (ixr_56 w7.1 p) (vinlt (vin_of (n := 160) (by omega) (by omega))) (fun g27 => ?_)
        refine go_cvv (pc' := 83) lk_X6_31 (c_X6_add _ _ _ _ w7.1) rfl rfl (Nat.le_of_ble_eq_true rfl) (by decide) rfl rfl rfl ⟨Nat.le_of_ble_eq_true rfl, Nat.le_of_ble_eq_true rfl⟩ ⟨rfl, rfl⟩ dX6_render_80 rfl (fun σ28 h28 => ?_)
        have w28 := WX_trans w7 h28
        refine go_goto (tgt := 137) dX6_render_83 (by decide) ?_
        refine gz_iinc (c := 1) (pc' := 140) dX6_render_137 rfl rfl (by decide) (by decide) (by decide) (by omega) (fun v29 h29 e29 => ?_)
        refine go_goto (tgt := 15) dX6_render_140 (by decide) ?_
        exact go_lv (lv' := [(0, .ref (L.2.1 8)), (1, .ref (L.2.1 7)), (2, .ref (L.2.1 (56 + (t).toNatClampNeg))), (3, .int n), (4, .int d), (5, .int y), (6, .int x6_3), (7, .int v29)]) rfl (ih3 _ (by omega) σ28 x6_3 v29 w28 (by omega) rfl)
      refine go_iload (pc' := 51) dX6_render_49 rfl rfl ?_
      refine go_iconst (v := 3) (pc' := 52) dX6_render_51 rfl (by decide) ?_
      refine gz_icmp_ne (tgt := 137) (pc' := 55) dX6_render_52 rfl (by decide) (fun c30 => ?_) (fun c30 => ?_)
      · refine gz_iinc (c := 1) (pc' := 140) dX6_render_137 rfl rfl (by decide) (by decide) (by decide) (by omega) (fun v31 h31 e31 => ?_)
        refine go_goto (tgt := 15) dX6_render_140 (by decide) ?_
        exact go_lv (lv' := [(0, .ref (L.2.1 8)), (1, .ref (L.2.1 7)), (2, .ref (L.2.1 (56 + (t).toNatClampNeg))), (3, .int n), (4, .int d), (5, .int y), (6, .int x6_3), (7, .int v31)]) rfl (ih3 _ (by omega) σ7 x6_3 v31 w7 (by omega) rfl)
      refine go_aload_n (i := 1) (pc' := 56) dX6_render_55 rfl rfl rfl ?_
      refine gf_7_depth (pc' := 59) dX6_render_56 rfl fl_X6_28 ?_
      have g32 := ixi_7 w7.1
      refine go_iload (pc' := 61) dX6_render_59 rfl rfl ?_
      refine gz_icmp_ge (tgt := 137) (pc' := 64) dX6_render_61 rfl (by decide) (fun c33 => ?_) (fun c33 => ?_)
      · refine gz_iinc (c := 1) (pc' := 140) dX6_render_137 rfl rfl (by decide) (by decide) (by decide) (by omega) (fun v34 h34 e34 => ?_)
        refine go_goto (tgt := 15) dX6_render_140 (by decide) ?_
        exact go_lv (lv' := [(0, .ref (L.2.1 8)), (1, .ref (L.2.1 7)), (2, .ref (L.2.1 (56 + (t).toNatClampNeg))), (3, .int n), (4, .int d), (5, .int y), (6, .int x6_3), (7, .int v34)]) rfl (ih3 _ (by omega) σ7 x6_3 v34 w7 (by omega) rfl)
      refine go_iconst (v := 0) (pc' := 65) dX6_render_64 rfl (by decide) ?_
      refine go_istore (pc' := 67) dX6_render_65 rfl (by decide) ?_
      refine go_goto (tgt := 137) dX6_render_67 (by decide) ?_
      refine gz_iinc (c := 1) (pc' := 140) dX6_render_137 rfl rfl (by decide) (by decide) (by decide) (by omega) (fun v35 h35 e35 => ?_)
      refine go_goto (tgt := 15) dX6_render_140 (by decide) ?_
      exact go_lv (lv' := [(0, .ref (L.2.1 8)), (1, .ref (L.2.1 7)), (2, .ref (L.2.1 (56 + (t).toNatClampNeg))), (3, .int n), (4, .int d), (5, .int y), (6, .int (0 : Int32)), (7, .int v35)]) rfl (ih3 _ (by omega) σ7 (0 : Int32) v35 w7 (by omega) rfl)
  exact go_lv (lv' := [(0, .ref (L.2.1 8)), (1, .ref (L.2.1 7)), (2, .ref (L.2.1 (56 + (t).toNatClampNeg))), (3, .int n), (4, .int d), (5, .int y), (6, .int (0 : Int32)), (7, .int (0 : Int32))]) rfl (loop15_3 _ σ2 (0 : Int32) (0 : Int32) w2 (by omega) rfl)
set_option maxHeartbeats 4000000 in
set_option maxRecDepth 100000 in
theorem c_X10_split_9 (l : Launch) (L : WL) (σ : ST) (n : Int32) (ix : IV σ) : CtV l L yX10_split cX10_split 5 none rm_X10_split [.ref (L.2.1 9), .ref (L.2.1 45), .int n] σ (fun σ2 => WX σ σ2) := by
  refine ctV_go (own := RX10) (by decide) rfl (Nat.le_of_ble_eq_true rfl) (fun F hF => ?_)
  subst hF
  have n0 : (0 : Int32).toInt = 0 := by decide
  have n1 : (1 : Int32).toInt = 1 := by decide
  have n80 : (80 : Int32).toInt = 80 := by decide
  have n160 : (160 : Int32).toInt = 160 := by decide
  have w0 : WX σ σ := WX_rfl ix
  refine go_iconst (v := 0) (pc' := 1) dX10_split_0 rfl (by decide) ?_
  refine go_istore_n (i := 3) (pc' := 2) dX10_split_1 rfl rfl (by decide) ?_
  refine go_aload_n (i := 0) (pc' := 3) dX10_split_2 rfl rfl rfl ?_
  refine go_iconst (v := 0) (pc' := 4) dX10_split_3 rfl (by decide) ?_
  refine pf_9_size (pc' := 7) dX10_split_4 rfl fl_X10_9 ?_
  refine go_gen (P := WX σ) ⟨ixs_15 w0.1 (by omega) (by omega), Ag_setI w0.2 (by decide)⟩ (fun σ1 w1 => ?_)
  refine go_iconst (v := 0) (pc' := 8) dX10_split_7 rfl (by decide) ?_
  refine go_istore (pc' := 10) dX10_split_8 rfl (by decide) ?_
  have loop10_2 : ∀ (dd2 : Nat) (σ2 : ST) (x3_2 : Int32) (x4_2 : Int32), WX σ σ2 → (0 ≤ (x4_2).toInt ∧ (x4_2).toInt ≤ 160) → ((x3_2).toInt = 0 ∨ 1 ≤ (σ2.1 15).toInt) → (160 - (x4_2).toInt).toNat = dd2 → Go F L RX10 cX10_split 5 rm_X10_split none (RV F L (fun σ2 => WX σ σ2)) σ2 10 [(0, .ref (L.2.1 9)), (1, .ref (L.2.1 45)), (2, .int n), (3, .int x3_2), (4, .int x4_2)] [] := by
    intro dd2
    induction dd2 using Nat.strongRecOn with
    | _ dd2 ih2 =>
      intro σ2 x3_2 x4_2 w2 h_2 hw_2 hm_2
      refine go_iload (pc' := 12) dX10_split_10 rfl rfl ?_
      refine go_iload_n (i := 2) (pc' := 13) dX10_split_12 rfl rfl rfl ?_
      refine gz_icmp_ge (tgt := 123) (pc' := 16) dX10_split_13 rfl (by decide) (fun c3 => ?_) (fun c3 => ?_)
      · exact go_vret dX10_split_123 rfl (w2)
      refine go_iload (pc' := 18) dX10_split_16 rfl rfl ?_
      refine go_sipush (v := 160) (pc' := 21) dX10_split_18 rfl (by decide) ?_
      refine gz_icmp_ge (tgt := 123) (pc' := 24) dX10_split_21 rfl (by decide) (fun c4 => ?_) (fun c4 => ?_)
      · exact go_vret dX10_split_123 rfl (w2)
      refine go_aload_n (i := 0) (pc' := 25) dX10_split_24 rfl rfl rfl ?_
      refine gf_9_bytes (pc' := 28) dX10_split_25 rfl fl_X10_15 ?_
      refine go_iload (pc' := 30) dX10_split_28 rfl rfl ?_
      refine go_aload_n (i := 1) (pc' := 31) dX10_split_30 rfl rfl rfl ?_
      refine go_iload (pc' := 33) dX10_split_31 rfl rfl ?_
      refine go_bald (pc' := 34) dX10_split_33 rfl (by decide) (by decide) rfl (vin_of (n := 160) (by omega) (by omega)) ?_
      refine go_rngA (ixa_45 w2.1) (vinlt (vin_of (n := 160) (by omega) (by omega))) (fun g5 => ?_)
      refine go_bast (pc' := 35) dX10_split_34 rfl (by decide) (by decide) rfl (vin_of (n := 160) (by omega) (by omega)) ?_
      refine go_gen (P := fun s => WX σ s ∧ s.1 15 = σ2.1 15) ⟨⟨ixt_46 w2.1 (b8 _).1 (b8 _).2, Ag_setA w2.2 (by decide)⟩, rfl⟩ (fun σ6 z6 => ?_)
      obtain ⟨w6, g6⟩ := z6
      have q6 := congrArg Int32.toInt g6
      refine go_aload_n (i := 1) (pc' := 36) dX10_split_35 rfl rfl rfl ?_
      refine go_iload (pc' := 38) dX10_split_36 rfl rfl ?_
      refine go_bald (pc' := 39) dX10_split_38 rfl (by decide) (by decide) rfl (vin_of (n := 160) (by omega) (by omega)) ?_
      refine go_rngA (ixa_45 w6.1) (vinlt (vin_of (n := 160) (by omega) (by omega))) (fun g7 => ?_)
      refine go_csi (pc' := 42) ls_X10_29 (c_X3_isLetter _ _ _ _) rfl rfl (Nat.le_of_ble_eq_true rfl) ⟨Nat.le_of_ble_eq_true rfl, Nat.le_of_ble_eq_true rfl⟩ ⟨rfl, rfl⟩ dX10_split_39 rfl (fun r8 σ8 h8 => ?_)
      obtain ⟨e8, h8⟩ := h8
      have e8 := e8.symm
      subst e8
      refine go_neB (tgt := 50) (pc' := 45) h8 dX10_split_42 rfl (by decide) (fun c9 => ?_) (fun c9 => ?_)
      · refine go_iload_n (i := 3) (pc' := 51) dX10_split_50 rfl rfl rfl ?_
        refine gz_if_eq (tgt := 72) (pc' := 54) dX10_split_51 rfl (by decide) (fun c10 => ?_) (fun c10 => ?_)
        · refine go_aload_n (i := 0) (pc' := 73) dX10_split_72 rfl rfl rfl ?_
          refine gf_9_size (pc' := 76) dX10_split_73 rfl fl_X10_9 ?_
          have g11 := ixi_15 w6.1
          refine go_bipush (v := 80) (pc' := 78) dX10_split_76 rfl (by decide) ?_
          refine gz_icmp_ge (tgt := 117) (pc' := 81) dX10_split_78 rfl (by decide) (fun c12 => ?_) (fun c12 => ?_)
          · refine gz_iinc (c := 1) (pc' := 120) dX10_split_117 rfl rfl (by decide) (by decide) (by decide) (by omega) (fun v13 h13 e13 => ?_)
            refine go_goto (tgt := 10) dX10_split_120 (by decide) ?_
            exact go_lv (lv' := [(0, .ref (L.2.1 9)), (1, .ref (L.2.1 45)), (2, .int n), (3, .int x3_2), (4, .int v13)]) rfl (ih2 _ (by omega) σ6 x3_2 v13 w6 (by omega) (by first | (left; omega) | (right; omega)) rfl)
          refine go_iconst (v := 1) (pc' := 82) dX10_split_81 rfl (by decide) ?_
          refine go_istore_n (i := 3) (pc' := 83) dX10_split_82 rfl rfl (by decide) ?_
          refine go_aload_n (i := 0) (pc' := 84) dX10_split_83 rfl rfl rfl ?_
          refine gf_9_starts (pc' := 87) dX10_split_84 rfl fl_X10_19 ?_
          refine go_aload_n (i := 0) (pc' := 88) dX10_split_87 rfl rfl rfl ?_
          refine gf_9_size (pc' := 91) dX10_split_88 rfl fl_X10_9 ?_
          have g14 := ixi_15 w6.1
          refine go_iload (pc' := 93) dX10_split_91 rfl rfl ?_
          refine go_iast (pc' := 94) dX10_split_93 rfl (by decide) (by decide) rfl (vin_of (n := 80) (by omega) (by omega)) ?_
          refine go_gen (P := fun s => WX σ s ∧ s.1 15 = σ6.1 15) ⟨⟨ixt_47 w6.1 (by omega) (by omega), Ag_setA w6.2 (by decide)⟩, rfl⟩ (fun σ15 z15 => ?_)
          obtain ⟨w15, g15⟩ := z15
          have q15 := congrArg Int32.toInt g15
          refine go_aload_n (i := 0) (pc' := 95) dX10_split_94 rfl rfl rfl ?_
          refine gf_9_ends (pc' := 98) dX10_split_95 rfl fl_X10_23 ?_
          refine go_aload_n (i := 0) (pc' := 99) dX10_split_98 rfl rfl rfl ?_
          refine gf_9_size (pc' := 102) dX10_split_99 rfl fl_X10_9 ?_
          have g16 := ixi_15 w15.1
          refine go_iload (pc' := 104) dX10_split_102 rfl rfl ?_
          refine go_iconst (v := 1) (pc' := 105) dX10_split_104 rfl (by decide) ?_
          refine gz_iadd (pc' := 106) dX10_split_105 rfl (by omega) (fun v17 h17 e17 => ?_)
          refine go_iast (pc' := 107) dX10_split_106 rfl (by decide) (by decide) rfl (vin_of (n := 80) (by omega) (by omega)) ?_
          refine go_gen (P := fun s => WX σ s ∧ s.1 15 = σ15.1 15) ⟨⟨ixt_48 w15.1 (by omega) (by omega), Ag_setA w15.2 (by decide)⟩, rfl⟩ (fun σ18 z18 => ?_)
          obtain ⟨w18, g18⟩ := z18
          have q18 := congrArg Int32.toInt g18
          refine go_aload_n (i := 0) (pc' := 108) dX10_split_107 rfl rfl rfl ?_
          refine go_dup (pc' := 109) dX10_split_108 rfl rfl ?_
          refine gf_9_size (pc' := 112) dX10_split_109 rfl fl_X10_9 ?_
          have g19 := ixi_15 w18.1
          refine go_iconst (v := 1) (pc' := 113) dX10_split_112 rfl (by decide) ?_
          refine gz_iadd (pc' := 114) dX10_split_113 rfl (by omega) (fun v20 h20 e20 => ?_)
          refine pf_9_size (pc' := 117) dX10_split_114 rfl fl_X10_9 ?_
          refine go_gen (P := fun s => WX σ s ∧ s.1 15 = v20) ⟨⟨ixs_15 w18.1 (by omega) (by omega), Ag_setI w18.2 (by decide)⟩, setI_same _ _ _⟩ (fun σ21 z21 => ?_)
          obtain ⟨w21, g21⟩ := z21
          have q21 := congrArg Int32.toInt g21
          refine gz_iinc (c := 1) (pc' := 120) dX10_split_117 rfl rfl (by decide) (by decide) (by decide) (by omega) (fun v22 h22 e22 => ?_)
          refine go_goto (tgt := 10) dX10_split_120 (by decide) ?_
          exact go_lv (lv' := [(0, .ref (L.2.1 9)), (1, .ref (L.2.1 45)), (2, .int n), (3, .int (1 : Int32)), (4, .int v22)]) rfl (ih2 _ (by omega) σ21 (1 : Int32) v22 w21 (by omega) (by first | (left; omega) | (right; omega)) rfl)
        refine go_aload_n (i := 0) (pc' := 55) dX10_split_54 rfl rfl rfl ?_
        refine gf_9_ends (pc' := 58) dX10_split_55 rfl fl_X10_23 ?_
        refine go_aload_n (i := 0) (pc' := 59) dX10_split_58 rfl rfl rfl ?_
        refine gf_9_size (pc' := 62) dX10_split_59 rfl fl_X10_9 ?_
        have g23 := ixi_15 w6.1
        refine go_iconst (v := 1) (pc' := 63) dX10_split_62 rfl (by decide) ?_
        refine gz_isub (pc' := 64) dX10_split_63 rfl (by omega) (fun v24 h24 e24 => ?_)
        refine go_iload (pc' := 66) dX10_split_64 rfl rfl ?_
        refine go_iconst (v := 1) (pc' := 67) dX10_split_66 rfl (by decide) ?_
        refine gz_iadd (pc' := 68) dX10_split_67 rfl (by omega) (fun v25 h25 e25 => ?_)
        refine go_iast (pc' := 69) dX10_split_68 rfl (by decide) (by decide) rfl (vin_of (n := 80) (by omega) (by omega)) ?_
        refine go_gen (P := fun s => WX σ s ∧ s.1 15 = σ6.1 15) ⟨⟨ixt_48 w6.1 (by omega) (by omega), Ag_setA w6.2 (by decide)⟩, rfl⟩ (fun σ26 z26 => ?_)
        obtain ⟨w26, g26⟩ := z26
        have q26 := congrArg Int32.toInt g26
        refine go_goto (tgt := 117) dX10_split_69 (by decide) ?_
        refine gz_iinc (c := 1) (pc' := 120) dX10_split_117 rfl rfl (by decide) (by decide) (by decide) (by omega) (fun v27 h27 e27 => ?_)
        refine go_goto (tgt := 10) dX10_split_120 (by decide) ?_
        exact go_lv (lv' := [(0, .ref (L.2.1 9)), (1, .ref (L.2.1 45)), (2, .int n), (3, .int x3_2), (4, .int v27)]) rfl (ih2 _ (by omega) σ26 x3_2 v27 w26 (by omega) (by first | (left; omega) | (right; omega)) rfl)
      refine go_iconst (v := 0) (pc' := 46) dX10_split_45 rfl (by decide) ?_
      refine go_istore_n (i := 3) (pc' := 47) dX10_split_46 rfl rfl (by decide) ?_
      refine go_goto (tgt := 117) dX10_split_47 (by decide) ?_
      refine gz_iinc (c := 1) (pc' := 120) dX10_split_117 rfl rfl (by decide) (by decide) (by decide) (by omega) (fun v28 h28 e28 => ?_)
      refine go_goto (tgt := 10) dX10_split_120 (by decide) ?_
      exact go_lv (lv' := [(0, .ref (L.2.1 9)), (1, .ref (L.2.1 45)), (2, .int n), (3, .int (0 : Int32)), (4, .int v28)]) rfl (ih2 _ (by omega) σ6 (0 : Int32) v28 w6 (by omega) (by first | (left; omega) | (right; omega)) rfl)
  exact go_lv (lv' := [(0, .ref (L.2.1 9)), (1, .ref (L.2.1 45)), (2, .int n), (3, .int (0 : Int32)), (4, .int (0 : Int32))]) rfl (loop10_2 _ σ1 (0 : Int32) (0 : Int32) w1 (by omega) (by first | (left; omega) | (right; omega)) rfl)
set_option maxHeartbeats 4000000 in
set_option maxRecDepth 100000 in
theorem c_X10_split_10 (l : Launch) (L : WL) (σ : ST) (n : Int32) (ix : IV σ) : CtV l L yX10_split cX10_split 5 none rm_X10_split [.ref (L.2.1 10), .ref (L.2.1 45), .int n] σ (fun σ2 => WX σ σ2) := by
  refine ctV_go (own := RX10) (by decide) rfl (Nat.le_of_ble_eq_true rfl) (fun F hF => ?_)
  subst hF
  have n0 : (0 : Int32).toInt = 0 := by decide
  have n1 : (1 : Int32).toInt = 1 := by decide
  have n80 : (80 : Int32).toInt = 80 := by decide
  have n160 : (160 : Int32).toInt = 160 := by decide
  have w0 : WX σ σ := WX_rfl ix
  refine go_iconst (v := 0) (pc' := 1) dX10_split_0 rfl (by decide) ?_
  refine go_istore_n (i := 3) (pc' := 2) dX10_split_1 rfl rfl (by decide) ?_
  refine go_aload_n (i := 0) (pc' := 3) dX10_split_2 rfl rfl rfl ?_
  refine go_iconst (v := 0) (pc' := 4) dX10_split_3 rfl (by decide) ?_
  refine pf_10_size (pc' := 7) dX10_split_4 rfl fl_X10_9 ?_
  refine go_gen (P := WX σ) ⟨ixs_16 w0.1 (by omega) (by omega), Ag_setI w0.2 (by decide)⟩ (fun σ1 w1 => ?_)
  refine go_iconst (v := 0) (pc' := 8) dX10_split_7 rfl (by decide) ?_
  refine go_istore (pc' := 10) dX10_split_8 rfl (by decide) ?_
  have loop10_2 : ∀ (dd2 : Nat) (σ2 : ST) (x3_2 : Int32) (x4_2 : Int32), WX σ σ2 → (0 ≤ (x4_2).toInt ∧ (x4_2).toInt ≤ 160) → ((x3_2).toInt = 0 ∨ 1 ≤ (σ2.1 16).toInt) → (160 - (x4_2).toInt).toNat = dd2 → Go F L RX10 cX10_split 5 rm_X10_split none (RV F L (fun σ2 => WX σ σ2)) σ2 10 [(0, .ref (L.2.1 10)), (1, .ref (L.2.1 45)), (2, .int n), (3, .int x3_2), (4, .int x4_2)] [] := by
    intro dd2
    induction dd2 using Nat.strongRecOn with
    | _ dd2 ih2 =>
      intro σ2 x3_2 x4_2 w2 h_2 hw_2 hm_2
      refine go_iload (pc' := 12) dX10_split_10 rfl rfl ?_
      refine go_iload_n (i := 2) (pc' := 13) dX10_split_12 rfl rfl rfl ?_
      refine gz_icmp_ge (tgt := 123) (pc' := 16) dX10_split_13 rfl (by decide) (fun c3 => ?_) (fun c3 => ?_)
      · exact go_vret dX10_split_123 rfl (w2)
      refine go_iload (pc' := 18) dX10_split_16 rfl rfl ?_
      refine go_sipush (v := 160) (pc' := 21) dX10_split_18 rfl (by decide) ?_
      refine gz_icmp_ge (tgt := 123) (pc' := 24) dX10_split_21 rfl (by decide) (fun c4 => ?_) (fun c4 => ?_)
      · exact go_vret dX10_split_123 rfl (w2)
      refine go_aload_n (i := 0) (pc' := 25) dX10_split_24 rfl rfl rfl ?_
      refine gf_10_bytes (pc' := 28) dX10_split_25 rfl fl_X10_15 ?_
      refine go_iload (pc' := 30) dX10_split_28 rfl rfl ?_
      refine go_aload_n (i := 1) (pc' := 31) dX10_split_30 rfl rfl rfl ?_
      refine go_iload (pc' := 33) dX10_split_31 rfl rfl ?_
      refine go_bald (pc' := 34) dX10_split_33 rfl (by decide) (by decide) rfl (vin_of (n := 160) (by omega) (by omega)) ?_
      refine go_rngA (ixa_45 w2.1) (vinlt (vin_of (n := 160) (by omega) (by omega))) (fun g5 => ?_)
      refine go_bast (pc' := 35) dX10_split_34 rfl (by decide) (by decide) rfl (vin_of (n := 160) (by omega) (by omega)) ?_
      refine go_gen (P := fun s => WX σ s ∧ s.1 16 = σ2.1 16) ⟨⟨ixt_50 w2.1 (b8 _).1 (b8 _).2, Ag_setA w2.2 (by decide)⟩, rfl⟩ (fun σ6 z6 => ?_)
      obtain ⟨w6, g6⟩ := z6
      have q6 := congrArg Int32.toInt g6
      refine go_aload_n (i := 1) (pc' := 36) dX10_split_35 rfl rfl rfl ?_
      refine go_iload (pc' := 38) dX10_split_36 rfl rfl ?_
      refine go_bald (pc' := 39) dX10_split_38 rfl (by decide) (by decide) rfl (vin_of (n := 160) (by omega) (by omega)) ?_
      refine go_rngA (ixa_45 w6.1) (vinlt (vin_of (n := 160) (by omega) (by omega))) (fun g7 => ?_)
      refine go_csi (pc' := 42) ls_X10_29 (c_X3_isLetter _ _ _ _) rfl rfl (Nat.le_of_ble_eq_true rfl) ⟨Nat.le_of_ble_eq_true rfl, Nat.le_of_ble_eq_true rfl⟩ ⟨rfl, rfl⟩ dX10_split_39 rfl (fun r8 σ8 h8 => ?_)
      obtain ⟨e8, h8⟩ := h8
      have e8 := e8.symm
      subst e8
      refine go_neB (tgt := 50) (pc' := 45) h8 dX10_split_42 rfl (by decide) (fun c9 => ?_) (fun c9 => ?_)
      · refine go_iload_n (i := 3) (pc' := 51) dX10_split_50 rfl rfl rfl ?_
        refine gz_if_eq (tgt := 72) (pc' := 54) dX10_split_51 rfl (by decide) (fun c10 => ?_) (fun c10 => ?_)
        · refine go_aload_n (i := 0) (pc' := 73) dX10_split_72 rfl rfl rfl ?_
          refine gf_10_size (pc' := 76) dX10_split_73 rfl fl_X10_9 ?_
          have g11 := ixi_16 w6.1
          refine go_bipush (v := 80) (pc' := 78) dX10_split_76 rfl (by decide) ?_
          refine gz_icmp_ge (tgt := 117) (pc' := 81) dX10_split_78 rfl (by decide) (fun c12 => ?_) (fun c12 => ?_)
          · refine gz_iinc (c := 1) (pc' := 120) dX10_split_117 rfl rfl (by decide) (by decide) (by decide) (by omega) (fun v13 h13 e13 => ?_)
            refine go_goto (tgt := 10) dX10_split_120 (by decide) ?_
            exact go_lv (lv' := [(0, .ref (L.2.1 10)), (1, .ref (L.2.1 45)), (2, .int n), (3, .int x3_2), (4, .int v13)]) rfl (ih2 _ (by omega) σ6 x3_2 v13 w6 (by omega) (by first | (left; omega) | (right; omega)) rfl)
          refine go_iconst (v := 1) (pc' := 82) dX10_split_81 rfl (by decide) ?_
          refine go_istore_n (i := 3) (pc' := 83) dX10_split_82 rfl rfl (by decide) ?_
          refine go_aload_n (i := 0) (pc' := 84) dX10_split_83 rfl rfl rfl ?_
          refine gf_10_starts (pc' := 87) dX10_split_84 rfl fl_X10_19 ?_
          refine go_aload_n (i := 0) (pc' := 88) dX10_split_87 rfl rfl rfl ?_
          refine gf_10_size (pc' := 91) dX10_split_88 rfl fl_X10_9 ?_
          have g14 := ixi_16 w6.1
          refine go_iload (pc' := 93) dX10_split_91 rfl rfl ?_
          refine go_iast (pc' := 94) dX10_split_93 rfl (by decide) (by decide) rfl (vin_of (n := 80) (by omega) (by omega)) ?_
          refine go_gen (P := fun s => WX σ s ∧ s.1 16 = σ6.1 16) ⟨⟨ixt_51 w6.1 (by omega) (by omega), Ag_setA w6.2 (by decide)⟩, rfl⟩ (fun σ15 z15 => ?_)
          obtain ⟨w15, g15⟩ := z15
          have q15 := congrArg Int32.toInt g15
          refine go_aload_n (i := 0) (pc' := 95) dX10_split_94 rfl rfl rfl ?_
          refine gf_10_ends (pc' := 98) dX10_split_95 rfl fl_X10_23 ?_
          refine go_aload_n (i := 0) (pc' := 99) dX10_split_98 rfl rfl rfl ?_
          refine gf_10_size (pc' := 102) dX10_split_99 rfl fl_X10_9 ?_
          have g16 := ixi_16 w15.1
          refine go_iload (pc' := 104) dX10_split_102 rfl rfl ?_
          refine go_iconst (v := 1) (pc' := 105) dX10_split_104 rfl (by decide) ?_
          refine gz_iadd (pc' := 106) dX10_split_105 rfl (by omega) (fun v17 h17 e17 => ?_)
          refine go_iast (pc' := 107) dX10_split_106 rfl (by decide) (by decide) rfl (vin_of (n := 80) (by omega) (by omega)) ?_
          refine go_gen (P := fun s => WX σ s ∧ s.1 16 = σ15.1 16) ⟨⟨ixt_52 w15.1 (by omega) (by omega), Ag_setA w15.2 (by decide)⟩, rfl⟩ (fun σ18 z18 => ?_)
          obtain ⟨w18, g18⟩ := z18
          have q18 := congrArg Int32.toInt g18
          refine go_aload_n (i := 0) (pc' := 108) dX10_split_107 rfl rfl rfl ?_
          refine go_dup (pc' := 109) dX10_split_108 rfl rfl ?_
          refine gf_10_size (pc' := 112) dX10_split_109 rfl fl_X10_9 ?_
          have g19 := ixi_16 w18.1
          refine go_iconst (v := 1) (pc' := 113) dX10_split_112 rfl (by decide) ?_
          refine gz_iadd (pc' := 114) dX10_split_113 rfl (by omega) (fun v20 h20 e20 => ?_)
          refine pf_10_size (pc' := 117) dX10_split_114 rfl fl_X10_9 ?_
          refine go_gen (P := fun s => WX σ s ∧ s.1 16 = v20) ⟨⟨ixs_16 w18.1 (by omega) (by omega), Ag_setI w18.2 (by decide)⟩, setI_same _ _ _⟩ (fun σ21 z21 => ?_)
          obtain ⟨w21, g21⟩ := z21
          have q21 := congrArg Int32.toInt g21
          refine gz_iinc (c := 1) (pc' := 120) dX10_split_117 rfl rfl (by decide) (by decide) (by decide) (by omega) (fun v22 h22 e22 => ?_)
          refine go_goto (tgt := 10) dX10_split_120 (by decide) ?_
          exact go_lv (lv' := [(0, .ref (L.2.1 10)), (1, .ref (L.2.1 45)), (2, .int n), (3, .int (1 : Int32)), (4, .int v22)]) rfl (ih2 _ (by omega) σ21 (1 : Int32) v22 w21 (by omega) (by first | (left; omega) | (right; omega)) rfl)
        refine go_aload_n (i := 0) (pc' := 55) dX10_split_54 rfl rfl rfl ?_
        refine gf_10_ends (pc' := 58) dX10_split_55 rfl fl_X10_23 ?_
        refine go_aload_n (i := 0) (pc' := 59) dX10_split_58 rfl rfl rfl ?_
        refine gf_10_size (pc' := 62) dX10_split_59 rfl fl_X10_9 ?_
        have g23 := ixi_16 w6.1
        refine go_iconst (v := 1) (pc' := 63) dX10_split_62 rfl (by decide) ?_
        refine gz_isub (pc' := 64) dX10_split_63 rfl (by omega) (fun v24 h24 e24 => ?_)
        refine go_iload (pc' := 66) dX10_split_64 rfl rfl ?_
        refine go_iconst (v := 1) (pc' := 67) dX10_split_66 rfl (by decide) ?_
        refine gz_iadd (pc' := 68) dX10_split_67 rfl (by omega) (fun v25 h25 e25 => ?_)
        refine go_iast (pc' := 69) dX10_split_68 rfl (by decide) (by decide) rfl (vin_of (n := 80) (by omega) (by omega)) ?_
        refine go_gen (P := fun s => WX σ s ∧ s.1 16 = σ6.1 16) ⟨⟨ixt_52 w6.1 (by omega) (by omega), Ag_setA w6.2 (by decide)⟩, rfl⟩ (fun σ26 z26 => ?_)
        obtain ⟨w26, g26⟩ := z26
        have q26 := congrArg Int32.toInt g26
        refine go_goto (tgt := 117) dX10_split_69 (by decide) ?_
        refine gz_iinc (c := 1) (pc' := 120) dX10_split_117 rfl rfl (by decide) (by decide) (by decide) (by omega) (fun v27 h27 e27 => ?_)
        refine go_goto (tgt := 10) dX10_split_120 (by decide) ?_
        exact go_lv (lv' := [(0, .ref (L.2.1 10)), (1, .ref (L.2.1 45)), (2, .int n), (3, .int x3_2), (4, .int v27)]) rfl (ih2 _ (by omega) σ26 x3_2 v27 w26 (by omega) (by first | (left; omega) | (right; omega)) rfl)
      refine go_iconst (v := 0) (pc' := 46) dX10_split_45 rfl (by decide) ?_
      refine go_istore_n (i := 3) (pc' := 47) dX10_split_46 rfl rfl (by decide) ?_
      refine go_goto (tgt := 117) dX10_split_47 (by decide) ?_
      refine gz_iinc (c := 1) (pc' := 120) dX10_split_117 rfl rfl (by decide) (by decide) (by decide) (by omega) (fun v28 h28 e28 => ?_)
      refine go_goto (tgt := 10) dX10_split_120 (by decide) ?_
      exact go_lv (lv' := [(0, .ref (L.2.1 10)), (1, .ref (L.2.1 45)), (2, .int n), (3, .int (0 : Int32)), (4, .int v28)]) rfl (ih2 _ (by omega) σ6 (0 : Int32) v28 w6 (by omega) (by first | (left; omega) | (right; omega)) rfl)
  exact go_lv (lv' := [(0, .ref (L.2.1 10)), (1, .ref (L.2.1 45)), (2, .int n), (3, .int (0 : Int32)), (4, .int (0 : Int32))]) rfl (loop10_2 _ σ1 (0 : Int32) (0 : Int32) w1 (by omega) (by first | (left; omega) | (right; omega)) rfl)
set_option maxHeartbeats 4000000 in
set_option maxRecDepth 100000 in
theorem c_X10_isAlike (l : Launch) (L : WL) (σ : ST) (a b : Int32) (ha : 0 ≤ a.toInt ∧ a.toInt < 80) (hb : 0 ≤ b.toInt ∧ b.toInt < 80) (ix : IV σ) : CtI l L yX10_isAlike cX10_isAlike 6 (some .boolean) rm_X10_isAlike [.ref (L.2.1 9), .int a, .ref (L.2.1 10), .int b] σ (fun _ σ2 => σ2 = σ) := by
  refine ctI_go (own := RX10) (by decide) rfl (Nat.le_of_ble_eq_true rfl) (fun F hF => ?_)
  subst hF
  have n0 : (0 : Int32).toInt = 0 := by decide
  have n1 : (1 : Int32).toInt = 1 := by decide
  have w0 : WX σ σ := WX_rfl ix
  refine go_aload_n (i := 0) (pc' := 1) dX10_isAlike_0 rfl rfl rfl ?_
  refine gf_9_ends (pc' := 4) dX10_isAlike_1 rfl fl_X10_23 ?_
  refine go_iload_n (i := 1) (pc' := 5) dX10_isAlike_4 rfl rfl rfl ?_
  refine go_iald (pc' := 6) dX10_isAlike_5 rfl (by decide) (by decide) rfl (vin_of (n := 80) (by omega) (by omega)) ?_
  refine go_rngA (ixa_48 w0.1) (vinlt (vin_of (n := 80) (by omega) (by omega))) (fun g1 => ?_)
  refine go_aload_n (i := 0) (pc' := 7) dX10_isAlike_6 rfl rfl rfl ?_
  refine gf_9_starts (pc' := 10) dX10_isAlike_7 rfl fl_X10_19 ?_
  refine go_iload_n (i := 1) (pc' := 11) dX10_isAlike_10 rfl rfl rfl ?_
  refine go_iald (pc' := 12) dX10_isAlike_11 rfl (by decide) (by decide) rfl (vin_of (n := 80) (by omega) (by omega)) ?_
  refine go_rngA (ixa_47 w0.1) (vinlt (vin_of (n := 80) (by omega) (by omega))) (fun g2 => ?_)
  refine gz_isub (pc' := 13) dX10_isAlike_12 rfl (by omega) (fun v3 h3 e3 => ?_)
  refine go_istore (pc' := 15) dX10_isAlike_13 rfl (by decide) ?_
  refine go_iload (pc' := 17) dX10_isAlike_15 rfl rfl ?_
  refine go_aload_n (i := 2) (pc' := 18) dX10_isAlike_17 rfl rfl rfl ?_
  refine gf_10_ends (pc' := 21) dX10_isAlike_18 rfl fl_X10_23 ?_
  refine go_iload_n (i := 3) (pc' := 22) dX10_isAlike_21 rfl rfl rfl ?_
  refine go_iald (pc' := 23) dX10_isAlike_22 rfl (by decide) (by decide) rfl (vin_of (n := 80) (by omega) (by omega)) ?_
  refine go_rngA (ixa_52 w0.1) (vinlt (vin_of (n := 80) (by omega) (by omega))) (fun g4 => ?_)
  refine go_aload_n (i := 2) (pc' := 24) dX10_isAlike_23 rfl rfl rfl ?_
  refine gf_10_starts (pc' := 27) dX10_isAlike_24 rfl fl_X10_19 ?_
  refine go_iload_n (i := 3) (pc' := 28) dX10_isAlike_27 rfl rfl rfl ?_
  refine go_iald (pc' := 29) dX10_isAlike_28 rfl (by decide) (by decide) rfl (vin_of (n := 80) (by omega) (by omega)) ?_
  refine go_rngA (ixa_51 w0.1) (vinlt (vin_of (n := 80) (by omega) (by omega))) (fun g5 => ?_)
  refine gz_isub (pc' := 30) dX10_isAlike_29 rfl (by omega) (fun v6 h6 e6 => ?_)
  refine gz_icmp_eq (tgt := 35) (pc' := 33) dX10_isAlike_30 rfl (by decide) (fun c7 => ?_) (fun c7 => ?_)
  · refine go_iconst (v := 0) (pc' := 36) dX10_isAlike_35 rfl (by decide) ?_
    refine go_istore (pc' := 38) dX10_isAlike_36 rfl (by decide) ?_
    have loop38_8 : ∀ (dd8 : Nat) (x5_8 : Int32), (0 ≤ (x5_8).toInt) → ((v3).toInt - (x5_8).toInt).toNat = dd8 → Go F L RX10 cX10_isAlike 6 rm_X10_isAlike (some .boolean) (RI F L (fun _ σ2 => σ2 = σ)) σ 38 [(0, .ref (L.2.1 9)), (1, .int a), (2, .ref (L.2.1 10)), (3, .int b), (4, .int v3), (5, .int x5_8)] [] := by
      intro dd8
      induction dd8 using Nat.strongRecOn with
      | _ dd8 ih8 =>
        intro x5_8 h_8 hm_8
        refine go_iload (pc' := 40) dX10_isAlike_38 rfl rfl ?_
        refine go_iload (pc' := 42) dX10_isAlike_40 rfl rfl ?_
        refine gz_icmp_ge (tgt := 84) (pc' := 45) dX10_isAlike_42 rfl (by decide) (fun c9 => ?_) (fun c9 => ?_)
        · refine go_iconst (v := 1) (pc' := 85) dX10_isAlike_84 rfl (by decide) ?_
          exact go_zret dX10_isAlike_85 rfl rfl (rfl)
        refine go_aload_n (i := 0) (pc' := 46) dX10_isAlike_45 rfl rfl rfl ?_
        refine gf_9_bytes (pc' := 49) dX10_isAlike_46 rfl fl_X10_15 ?_
        refine go_aload_n (i := 0) (pc' := 50) dX10_isAlike_49 rfl rfl rfl ?_
        refine gf_9_starts (pc' := 53) dX10_isAlike_50 rfl fl_X10_19 ?_
        refine go_iload_n (i := 1) (pc' := 54) dX10_isAlike_53 rfl rfl rfl ?_
        refine go_iald (pc' := 55) dX10_isAlike_54 rfl (by decide) (by decide) rfl (vin_of (n := 80) (by omega) (by omega)) ?_
        refine go_rngA (ixa_47 w0.1) (vinlt (vin_of (n := 80) (by omega) (by omega))) (fun g10 => ?_)
        refine go_iload (pc' := 57) dX10_isAlike_55 rfl rfl ?_
        refine gz_iadd (pc' := 58) dX10_isAlike_57 rfl (by omega) (fun v11 h11 e11 => ?_)
        refine go_bald (pc' := 59) dX10_isAlike_58 rfl (by decide) (by decide) rfl (vin_of (n := 160) (by omega) (by omega)) ?_
        refine go_rngA (ixa_46 w0.1) (vinlt (vin_of (n := 160) (by omega) (by omega))) (fun g12 => ?_)
        refine go_aload_n (i := 2) (pc' := 60) dX10_isAlike_59 rfl rfl rfl ?_
        refine gf_10_bytes (pc' := 63) dX10_isAlike_60 rfl fl_X10_15 ?_
        refine go_aload_n (i := 2) (pc' := 64) dX10_isAlike_63 rfl rfl rfl ?_
        refine gf_10_starts (pc' := 67) dX10_isAlike_64 rfl fl_X10_19 ?_
        refine go_iload_n (i := 3) (pc' := 68) dX10_isAlike_67 rfl rfl rfl ?_
        refine go_iald (pc' := 69) dX10_isAlike_68 rfl (by decide) (by decide) rfl (vin_of (n := 80) (by omega) (by omega)) ?_
        refine go_rngA (ixa_51 w0.1) (vinlt (vin_of (n := 80) (by omega) (by omega))) (fun g13 => ?_)
        refine go_iload (pc' := 71) dX10_isAlike_69 rfl rfl ?_
        refine gz_iadd (pc' := 72) dX10_isAlike_71 rfl (by omega) (fun v14 h14 e14 => ?_)
        refine go_bald (pc' := 73) dX10_isAlike_72 rfl (by decide) (by decide) rfl (vin_of (n := 160) (by omega) (by omega)) ?_
        refine go_rngA (ixa_50 w0.1) (vinlt (vin_of (n := 160) (by omega) (by omega))) (fun g15 => ?_)
        refine gz_icmp_eq (tgt := 78) (pc' := 76) dX10_isAlike_73 rfl (by decide) (fun c16 => ?_) (fun c16 => ?_)
        · refine gz_iinc (c := 1) (pc' := 81) dX10_isAlike_78 rfl rfl (by decide) (by decide) (by decide) (by omega) (fun v17 h17 e17 => ?_)
          refine go_goto (tgt := 38) dX10_isAlike_81 (by decide) ?_
          exact go_lv (lv' := [(0, .ref (L.2.1 9)), (1, .int a), (2, .ref (L.2.1 10)), (3, .int b), (4, .int v3), (5, .int v17)]) rfl (ih8 _ (by omega)  v17 (by omega) rfl)
        refine go_iconst (v := 0) (pc' := 77) dX10_isAlike_76 rfl (by decide) ?_
        exact go_zret dX10_isAlike_77 rfl rfl (rfl)
    exact go_lv (lv' := [(0, .ref (L.2.1 9)), (1, .int a), (2, .ref (L.2.1 10)), (3, .int b), (4, .int v3), (5, .int (0 : Int32))]) rfl (loop38_8 _  (0 : Int32) (by omega) rfl)
  refine go_iconst (v := 0) (pc' := 34) dX10_isAlike_33 rfl (by decide) ?_
  exact go_zret dX10_isAlike_34 rfl rfl (rfl)
set_option maxHeartbeats 4000000 in
set_option maxRecDepth 100000 in
theorem c_X10_stepsTo (l : Launch) (L : WL) (σ : ST)  (ix : IV σ) : CtI l L yX10_stepsTo cX10_stepsTo 6 (some .int) rm_X10_stepsTo [.ref (L.2.1 9), .ref (L.2.1 10)] σ (fun _ σ2 => WX σ σ2) := by
  refine ctI_go (own := RX10) (by decide) rfl (Nat.le_of_ble_eq_true rfl) (fun F hF => ?_)
  subst hF
  have n0 : (0 : Int32).toInt = 0 := by decide
  have n1 : (1 : Int32).toInt = 1 := by decide
  have w0 : WX σ σ := WX_rfl ix
  refine go_iconst (v := 0) (pc' := 1) dX10_stepsTo_0 rfl (by decide) ?_
  refine go_istore_n (i := 2) (pc' := 2) dX10_stepsTo_1 rfl rfl (by decide) ?_
  have loop2_1 : ∀ (dd1 : Nat) (σ1 : ST) (x2_1 : Int32), WX σ σ1 → (0 ≤ (x2_1).toInt ∧ (x2_1).toInt ≤ 81) → (81 - (x2_1).toInt).toNat = dd1 → Go F L RX10 cX10_stepsTo 6 rm_X10_stepsTo (some .int) (RI F L (fun _ σ2 => WX σ σ2)) σ1 2 [(0, .ref (L.2.1 9)), (1, .ref (L.2.1 10)), (2, .int x2_1)] [] := by
    intro dd1
    induction dd1 using Nat.strongRecOn with
    | _ dd1 ih1 =>
      intro σ1 x2_1 w1 h_1 hm_1
      refine go_iload_n (i := 2) (pc' := 3) dX10_stepsTo_2 rfl rfl rfl ?_
      refine go_aload_n (i := 1) (pc' := 4) dX10_stepsTo_3 rfl rfl rfl ?_
      refine gf_10_size (pc' := 7) dX10_stepsTo_4 rfl fl_X10_9 ?_
      have g2 := ixi_16 w1.1
      refine gz_icmp_gt (tgt := 23) (pc' := 10) dX10_stepsTo_7 rfl (by decide) (fun c3 => ?_) (fun c3 => ?_)
      · refine go_iconst (v := 0) (pc' := 24) dX10_stepsTo_23 rfl (by decide) ?_
        refine go_istore_n (i := 2) (pc' := 25) dX10_stepsTo_24 rfl rfl (by decide) ?_
        have loop25_4 : ∀ (dd4 : Nat) (σ4 : ST) (x2_4 : Int32), WX σ σ4 → (0 ≤ (x2_4).toInt ∧ (x2_4).toInt ≤ 80) → (80 - (x2_4).toInt).toNat = dd4 → Go F L RX10 cX10_stepsTo 6 rm_X10_stepsTo (some .int) (RI F L (fun _ σ2 => WX σ σ2)) σ4 25 [(0, .ref (L.2.1 9)), (1, .ref (L.2.1 10)), (2, .int x2_4)] [] := by
          intro dd4
          induction dd4 using Nat.strongRecOn with
          | _ dd4 ih4 =>
            intro σ4 x2_4 w4 h_4 hm_4
            refine go_iload_n (i := 2) (pc' := 26) dX10_stepsTo_25 rfl rfl rfl ?_
            refine go_aload_n (i := 0) (pc' := 27) dX10_stepsTo_26 rfl rfl rfl ?_
            refine gf_9_size (pc' := 30) dX10_stepsTo_27 rfl fl_X10_9 ?_
            have g5 := ixi_15 w4.1
            refine gz_icmp_ge (tgt := 130) (pc' := 33) dX10_stepsTo_30 rfl (by decide) (fun c6 => ?_) (fun c6 => ?_)
            · refine go_aload_n (i := 0) (pc' := 131) dX10_stepsTo_130 rfl rfl rfl ?_
              refine gf_9_costs (pc' := 134) dX10_stepsTo_131 rfl fl_X10_26 ?_
              refine go_aload_n (i := 1) (pc' := 135) dX10_stepsTo_134 rfl rfl rfl ?_
              refine gf_10_size (pc' := 138) dX10_stepsTo_135 rfl fl_X10_9 ?_
              have g7 := ixi_16 w4.1
              refine go_iald (pc' := 139) dX10_stepsTo_138 rfl (by decide) (by decide) rfl (vin_of (n := 81) (by omega) (by omega)) ?_
              exact go_iret dX10_stepsTo_139 rfl (w4)
            refine go_aload_n (i := 0) (pc' := 34) dX10_stepsTo_33 rfl rfl rfl ?_
            refine gf_9_costs (pc' := 37) dX10_stepsTo_34 rfl fl_X10_26 ?_
            refine go_iconst (v := 0) (pc' := 38) dX10_stepsTo_37 rfl (by decide) ?_
            refine go_iald (pc' := 39) dX10_stepsTo_38 rfl (by decide) (by decide) rfl (vin_of (n := 81) (by omega) (by omega)) ?_
            refine go_topz (fun y8 h8 e8 => ?_)
            refine go_istore_n (i := 3) (pc' := 40) dX10_stepsTo_39 rfl rfl (by decide) ?_
            refine go_aload_n (i := 0) (pc' := 41) dX10_stepsTo_40 rfl rfl rfl ?_
            refine gf_9_costs (pc' := 44) dX10_stepsTo_41 rfl fl_X10_26 ?_
            refine go_iconst (v := 0) (pc' := 45) dX10_stepsTo_44 rfl (by decide) ?_
            refine go_iload_n (i := 2) (pc' := 46) dX10_stepsTo_45 rfl rfl rfl ?_
            refine go_iconst (v := 1) (pc' := 47) dX10_stepsTo_46 rfl (by decide) ?_
            refine gz_iadd (pc' := 48) dX10_stepsTo_47 rfl (by omega) (fun v9 h9 e9 => ?_)
            refine go_iast (pc' := 49) dX10_stepsTo_48 rfl (by decide) (by decide) rfl (vin_of (n := 81) (by omega) (by omega)) ?_
            refine go_gen (P := WX σ) ⟨ixt_n w4.1 (by decide), Ag_setA w4.2 (by decide)⟩ (fun σ10 w10 => ?_)
            refine go_iconst (v := 0) (pc' := 50) dX10_stepsTo_49 rfl (by decide) ?_
            refine go_istore (pc' := 52) dX10_stepsTo_50 rfl (by decide) ?_
            have loop52_11 : ∀ (dd11 : Nat) (σ11 : ST) (x3_11 : Int32) (x4_11 : Int32), WX σ σ11 → (0 ≤ (x4_11).toInt ∧ (x4_11).toInt ≤ 80) → (80 - (x4_11).toInt).toNat = dd11 → Go F L RX10 cX10_stepsTo 6 rm_X10_stepsTo (some .int) (RI F L (fun _ σ2 => WX σ σ2)) σ11 52 [(0, .ref (L.2.1 9)), (1, .ref (L.2.1 10)), (2, .int x2_4), (3, .int x3_11), (4, .int x4_11)] [] := by
              intro dd11
              induction dd11 using Nat.strongRecOn with
              | _ dd11 ih11 =>
                intro σ11 x3_11 x4_11 w11 h_11 hm_11
                refine go_iload (pc' := 54) dX10_stepsTo_52 rfl rfl ?_
                refine go_aload_n (i := 1) (pc' := 55) dX10_stepsTo_54 rfl rfl rfl ?_
                refine gf_10_size (pc' := 58) dX10_stepsTo_55 rfl fl_X10_9 ?_
                have g12 := ixi_16 w11.1
                refine gz_icmp_ge (tgt := 124) (pc' := 61) dX10_stepsTo_58 rfl (by decide) (fun c13 => ?_) (fun c13 => ?_)
                · refine gz_iinc (c := 1) (pc' := 127) dX10_stepsTo_124 rfl rfl (by decide) (by decide) (by decide) (by omega) (fun v14 h14 e14 => ?_)
                  refine go_goto (tgt := 25) dX10_stepsTo_127 (by decide) ?_
                  exact go_lv (lv' := [(0, .ref (L.2.1 9)), (1, .ref (L.2.1 10)), (2, .int v14)]) rfl (ih4 _ (by omega) σ11 v14 w11 (by omega) rfl)
                refine go_aload_n (i := 0) (pc' := 62) dX10_stepsTo_61 rfl rfl rfl ?_
                refine go_iload_n (i := 2) (pc' := 63) dX10_stepsTo_62 rfl rfl rfl ?_
                refine go_aload_n (i := 1) (pc' := 64) dX10_stepsTo_63 rfl rfl rfl ?_
                refine go_iload (pc' := 66) dX10_stepsTo_64 rfl rfl ?_
                refine go_cvi (pc' := 69) lk_X10_35 (c_X10_isAlike _ _ _ _ _ (by omega) (by omega) w11.1) rfl rfl (Nat.le_of_ble_eq_true rfl) (by decide) rfl rfl rfl ⟨Nat.le_of_ble_eq_true rfl, Nat.le_of_ble_eq_true rfl⟩ ⟨rfl, rfl⟩ dX10_stepsTo_66 rfl (fun r15 σ15 h15 => ?_)
                have h15 := h15.symm
                subst h15
                refine gz_if_eq (tgt := 76) (pc' := 72) dX10_stepsTo_69 rfl (by decide) (fun c16 => ?_) (fun c16 => ?_)
                · refine go_iload_n (i := 3) (pc' := 77) dX10_stepsTo_76 rfl rfl rfl ?_
                  refine go_iconst (v := 1) (pc' := 78) dX10_stepsTo_77 rfl (by decide) ?_
                  refine go_iadd (pc' := 79) dX10_stepsTo_78 rfl ?_
                  refine go_topz (fun y17 h17 e17 => ?_)
                  refine go_istore (pc' := 81) dX10_stepsTo_79 rfl (by decide) ?_
                  refine go_aload_n (i := 0) (pc' := 82) dX10_stepsTo_81 rfl rfl rfl ?_
                  refine gf_9_costs (pc' := 85) dX10_stepsTo_82 rfl fl_X10_26 ?_
                  refine go_iload (pc' := 87) dX10_stepsTo_85 rfl rfl ?_
                  refine go_iconst (v := 1) (pc' := 88) dX10_stepsTo_87 rfl (by decide) ?_
                  refine gz_iadd (pc' := 89) dX10_stepsTo_88 rfl (by omega) (fun v18 h18 e18 => ?_)
                  refine go_iald (pc' := 90) dX10_stepsTo_89 rfl (by decide) (by decide) rfl (vin_of (n := 81) (by omega) (by omega)) ?_
                  refine go_topz (fun y19 h19 e19 => ?_)
                  refine go_istore_n (i := 3) (pc' := 91) dX10_stepsTo_90 rfl rfl (by decide) ?_
                  refine go_aload_n (i := 0) (pc' := 92) dX10_stepsTo_91 rfl rfl rfl ?_
                  refine gf_9_costs (pc' := 95) dX10_stepsTo_92 rfl fl_X10_26 ?_
                  refine go_iload (pc' := 97) dX10_stepsTo_95 rfl rfl ?_
                  refine go_iconst (v := 1) (pc' := 98) dX10_stepsTo_97 rfl (by decide) ?_
                  refine gz_iadd (pc' := 99) dX10_stepsTo_98 rfl (by omega) (fun v20 h20 e20 => ?_)
                  refine go_iload (pc' := 101) dX10_stepsTo_99 rfl rfl ?_
                  refine go_iload_n (i := 3) (pc' := 102) dX10_stepsTo_101 rfl rfl rfl ?_
                  refine go_aload_n (i := 0) (pc' := 103) dX10_stepsTo_102 rfl rfl rfl ?_
                  refine gf_9_costs (pc' := 106) dX10_stepsTo_103 rfl fl_X10_26 ?_
                  refine go_iload (pc' := 108) dX10_stepsTo_106 rfl rfl ?_
                  refine go_iald (pc' := 109) dX10_stepsTo_108 rfl (by decide) (by decide) rfl (vin_of (n := 81) (by omega) (by omega)) ?_
                  refine gz_min (pc' := 112) dX10_stepsTo_109 rfl ml_X10_39 (Nat.le_of_ble_eq_true rfl) (Nat.le_of_ble_eq_true rfl) (fun v21 h21 e21 => ?_)
                  refine go_iconst (v := 1) (pc' := 113) dX10_stepsTo_112 rfl (by decide) ?_
                  refine go_iadd (pc' := 114) dX10_stepsTo_113 rfl ?_
                  refine gz_min (pc' := 117) dX10_stepsTo_114 rfl ml_X10_39 (Nat.le_of_ble_eq_true rfl) (Nat.le_of_ble_eq_true rfl) (fun v22 h22 e22 => ?_)
                  refine go_iast (pc' := 118) dX10_stepsTo_117 rfl (by decide) (by decide) rfl (vin_of (n := 81) (by omega) (by omega)) ?_
                  refine go_gen (P := WX σ) ⟨ixt_n w11.1 (by decide), Ag_setA w11.2 (by decide)⟩ (fun σ23 w23 => ?_)
                  refine gz_iinc (c := 1) (pc' := 121) dX10_stepsTo_118 rfl rfl (by decide) (by decide) (by decide) (by omega) (fun v24 h24 e24 => ?_)
                  refine go_goto (tgt := 52) dX10_stepsTo_121 (by decide) ?_
                  exact go_lv (lv' := [(0, .ref (L.2.1 9)), (1, .ref (L.2.1 10)), (2, .int x2_4), (3, .int y19), (4, .int v24)]) rfl (ih11 _ (by omega) σ23 y19 v24 w23 (by omega) rfl)
                refine go_iload_n (i := 3) (pc' := 73) dX10_stepsTo_72 rfl rfl rfl ?_
                refine go_goto (tgt := 79) dX10_stepsTo_73 (by decide) ?_
                refine go_istore (pc' := 81) dX10_stepsTo_79 rfl (by decide) ?_
                refine go_aload_n (i := 0) (pc' := 82) dX10_stepsTo_81 rfl rfl rfl ?_
                refine gf_9_costs (pc' := 85) dX10_stepsTo_82 rfl fl_X10_26 ?_
                refine go_iload (pc' := 87) dX10_stepsTo_85 rfl rfl ?_
                refine go_iconst (v := 1) (pc' := 88) dX10_stepsTo_87 rfl (by decide) ?_
                refine gz_iadd (pc' := 89) dX10_stepsTo_88 rfl (by omega) (fun v25 h25 e25 => ?_)
                refine go_iald (pc' := 90) dX10_stepsTo_89 rfl (by decide) (by decide) rfl (vin_of (n := 81) (by omega) (by omega)) ?_
                refine go_topz (fun y26 h26 e26 => ?_)
                refine go_istore_n (i := 3) (pc' := 91) dX10_stepsTo_90 rfl rfl (by decide) ?_
                refine go_aload_n (i := 0) (pc' := 92) dX10_stepsTo_91 rfl rfl rfl ?_
                refine gf_9_costs (pc' := 95) dX10_stepsTo_92 rfl fl_X10_26 ?_
                refine go_iload (pc' := 97) dX10_stepsTo_95 rfl rfl ?_
                refine go_iconst (v := 1) (pc' := 98) dX10_stepsTo_97 rfl (by decide) ?_
                refine gz_iadd (pc' := 99) dX10_stepsTo_98 rfl (by omega) (fun v27 h27 e27 => ?_)
                refine go_iload (pc' := 101) dX10_stepsTo_99 rfl rfl ?_
                refine go_iload_n (i := 3) (pc' := 102) dX10_stepsTo_101 rfl rfl rfl ?_
                refine go_aload_n (i := 0) (pc' := 103) dX10_stepsTo_102 rfl rfl rfl ?_
                refine gf_9_costs (pc' := 106) dX10_stepsTo_103 rfl fl_X10_26 ?_
                refine go_iload (pc' := 108) dX10_stepsTo_106 rfl rfl ?_
                refine go_iald (pc' := 109) dX10_stepsTo_108 rfl (by decide) (by decide) rfl (vin_of (n := 81) (by omega) (by omega)) ?_
                refine gz_min (pc' := 112) dX10_stepsTo_109 rfl ml_X10_39 (Nat.le_of_ble_eq_true rfl) (Nat.le_of_ble_eq_true rfl) (fun v28 h28 e28 => ?_)
                refine go_iconst (v := 1) (pc' := 113) dX10_stepsTo_112 rfl (by decide) ?_
                refine go_iadd (pc' := 114) dX10_stepsTo_113 rfl ?_
                refine gz_min (pc' := 117) dX10_stepsTo_114 rfl ml_X10_39 (Nat.le_of_ble_eq_true rfl) (Nat.le_of_ble_eq_true rfl) (fun v29 h29 e29 => ?_)
                refine go_iast (pc' := 118) dX10_stepsTo_117 rfl (by decide) (by decide) rfl (vin_of (n := 81) (by omega) (by omega)) ?_
                refine go_gen (P := WX σ) ⟨ixt_n w11.1 (by decide), Ag_setA w11.2 (by decide)⟩ (fun σ30 w30 => ?_)
                refine gz_iinc (c := 1) (pc' := 121) dX10_stepsTo_118 rfl rfl (by decide) (by decide) (by decide) (by omega) (fun v31 h31 e31 => ?_)
                refine go_goto (tgt := 52) dX10_stepsTo_121 (by decide) ?_
                exact go_lv (lv' := [(0, .ref (L.2.1 9)), (1, .ref (L.2.1 10)), (2, .int x2_4), (3, .int y26), (4, .int v31)]) rfl (ih11 _ (by omega) σ30 y26 v31 w30 (by omega) rfl)
            exact go_lv (lv' := [(0, .ref (L.2.1 9)), (1, .ref (L.2.1 10)), (2, .int x2_4), (3, .int y8), (4, .int (0 : Int32))]) rfl (loop52_11 _ σ10 y8 (0 : Int32) w10 (by omega) rfl)
        exact go_lv (lv' := [(0, .ref (L.2.1 9)), (1, .ref (L.2.1 10)), (2, .int (0 : Int32))]) rfl (loop25_4 _ σ1 (0 : Int32) w1 (by omega) rfl)
      refine go_aload_n (i := 0) (pc' := 11) dX10_stepsTo_10 rfl rfl rfl ?_
      refine gf_9_costs (pc' := 14) dX10_stepsTo_11 rfl fl_X10_26 ?_
      refine go_iload_n (i := 2) (pc' := 15) dX10_stepsTo_14 rfl rfl rfl ?_
      refine go_iload_n (i := 2) (pc' := 16) dX10_stepsTo_15 rfl rfl rfl ?_
      refine go_iast (pc' := 17) dX10_stepsTo_16 rfl (by decide) (by decide) rfl (vin_of (n := 81) (by omega) (by omega)) ?_
      refine go_gen (P := WX σ) ⟨ixt_n w1.1 (by decide), Ag_setA w1.2 (by decide)⟩ (fun σ32 w32 => ?_)
      refine gz_iinc (c := 1) (pc' := 20) dX10_stepsTo_17 rfl rfl (by decide) (by decide) (by decide) (by omega) (fun v33 h33 e33 => ?_)
      refine go_goto (tgt := 2) dX10_stepsTo_20 (by decide) ?_
      exact go_lv (lv' := [(0, .ref (L.2.1 9)), (1, .ref (L.2.1 10)), (2, .int v33)]) rfl (ih1 _ (by omega) σ32 v33 w32 (by omega) rfl)
  exact go_lv (lv' := [(0, .ref (L.2.1 9)), (1, .ref (L.2.1 10)), (2, .int (0 : Int32))]) rfl (loop2_1 _ σ (0 : Int32) w0 (by omega) rfl)
set_option maxHeartbeats 4000000 in
set_option maxRecDepth 100000 in
theorem c_X7_collect (l : Launch) (L : WL) (σ : ST) (a : Int32) (ix : IV σ) : CtV l L yX7_collect cX7_collect 3 none rm_X7_collect [.ref (L.2.1 11), .int a] σ (fun σ2 => WX σ σ2) := by
  refine ctV_go (own := RX7) (by decide) rfl (Nat.le_of_ble_eq_true rfl) (fun F hF => ?_)
  subst hF
  have n0 : (0 : Int32).toInt = 0 := by decide
  have n1 : (1 : Int32).toInt = 1 := by decide
  have n8 : (8 : Int32).toInt = 8 := by decide
  have n12 : (12 : Int32).toInt = 12 := by decide
  have w0 : WX σ σ := WX_rfl ix
  refine go_aload_n (i := 0) (pc' := 1) dX7_collect_0 rfl rfl rfl ?_
  refine go_iconst (v := 0) (pc' := 2) dX7_collect_1 rfl (by decide) ?_
  refine pf_11_size (pc' := 5) dX7_collect_2 rfl fl_X7_17 ?_
  refine go_gen (P := WX σ) ⟨ixs_18 w0.1 (by omega) (by omega), Ag_setI w0.2 (by decide)⟩ (fun σ1 w1 => ?_)
  refine go_iconst (v := 0) (pc' := 6) dX7_collect_5 rfl (by decide) ?_
  refine go_istore_n (i := 2) (pc' := 7) dX7_collect_6 rfl rfl (by decide) ?_
  have loop7_2 : ∀ (dd2 : Nat) (σ2 : ST) (x2_2 : Int32), WX σ σ2 → (0 ≤ (x2_2).toInt ∧ (x2_2).toInt ≤ 12) → (12 - (x2_2).toInt).toNat = dd2 → Go F L RX7 cX7_collect 3 rm_X7_collect none (RV F L (fun σ2 => WX σ σ2)) σ2 7 [(0, .ref (L.2.1 11)), (1, .int a), (2, .int x2_2)] [] := by
    intro dd2
    induction dd2 using Nat.strongRecOn with
    | _ dd2 ih2 =>
      intro σ2 x2_2 w2 h_2 hm_2
      refine go_iload_n (i := 2) (pc' := 8) dX7_collect_7 rfl rfl rfl ?_
      refine go_bipush (v := 12) (pc' := 10) dX7_collect_8 rfl (by decide) ?_
      refine gz_icmp_ge (tgt := 57) (pc' := 13) dX7_collect_10 rfl (by decide) (fun c3 => ?_) (fun c3 => ?_)
      · exact go_vret dX7_collect_57 rfl (w2)
      refine go_iload_n (i := 1) (pc' := 14) dX7_collect_13 rfl rfl rfl ?_
      refine go_iload_n (i := 2) (pc' := 15) dX7_collect_14 rfl rfl rfl ?_
      refine go_ishr (pc' := 16) dX7_collect_15 rfl ?_
      refine go_iconst (v := 1) (pc' := 17) dX7_collect_16 rfl (by decide) ?_
      refine go_iand (pc' := 18) dX7_collect_17 rfl ?_
      refine go_iconst (v := 1) (pc' := 19) dX7_collect_18 rfl (by decide) ?_
      refine gz_icmp_ne (tgt := 51) (pc' := 22) dX7_collect_19 rfl (by decide) (fun c4 => ?_) (fun c4 => ?_)
      · refine gz_iinc (c := 1) (pc' := 54) dX7_collect_51 rfl rfl (by decide) (by decide) (by decide) (by omega) (fun v5 h5 e5 => ?_)
        refine go_goto (tgt := 7) dX7_collect_54 (by decide) ?_
        exact go_lv (lv' := [(0, .ref (L.2.1 11)), (1, .int a), (2, .int v5)]) rfl (ih2 _ (by omega) σ2 v5 w2 (by omega) rfl)
      refine go_aload_n (i := 0) (pc' := 23) dX7_collect_22 rfl rfl rfl ?_
      refine gf_11_size (pc' := 26) dX7_collect_23 rfl fl_X7_17 ?_
      have g6 := ixi_18 w2.1
      refine go_bipush (v := 8) (pc' := 28) dX7_collect_26 rfl (by decide) ?_
      refine gz_icmp_ge (tgt := 51) (pc' := 31) dX7_collect_28 rfl (by decide) (fun c7 => ?_) (fun c7 => ?_)
      · refine gz_iinc (c := 1) (pc' := 54) dX7_collect_51 rfl rfl (by decide) (by decide) (by decide) (by omega) (fun v8 h8 e8 => ?_)
        refine go_goto (tgt := 7) dX7_collect_54 (by decide) ?_
        exact go_lv (lv' := [(0, .ref (L.2.1 11)), (1, .int a), (2, .int v8)]) rfl (ih2 _ (by omega) σ2 v8 w2 (by omega) rfl)
      refine go_aload_n (i := 0) (pc' := 32) dX7_collect_31 rfl rfl rfl ?_
      refine gf_11_row (pc' := 35) dX7_collect_32 rfl fl_X7_9 ?_
      refine go_aload_n (i := 0) (pc' := 36) dX7_collect_35 rfl rfl rfl ?_
      refine gf_11_size (pc' := 39) dX7_collect_36 rfl fl_X7_17 ?_
      have g9 := ixi_18 w2.1
      refine go_iload_n (i := 2) (pc' := 40) dX7_collect_39 rfl rfl rfl ?_
      refine go_iast (pc' := 41) dX7_collect_40 rfl (by decide) (by decide) rfl (vin_of (n := 8) (by omega) (by omega)) ?_
      refine go_gen (P := fun s => WX σ s ∧ s.1 18 = σ2.1 18) ⟨⟨ixt_54 w2.1 (by omega) (by omega), Ag_setA w2.2 (by decide)⟩, rfl⟩ (fun σ10 z10 => ?_)
      obtain ⟨w10, g10⟩ := z10
      have q10 := congrArg Int32.toInt g10
      refine go_aload_n (i := 0) (pc' := 42) dX7_collect_41 rfl rfl rfl ?_
      refine go_dup (pc' := 43) dX7_collect_42 rfl rfl ?_
      refine gf_11_size (pc' := 46) dX7_collect_43 rfl fl_X7_17 ?_
      have g11 := ixi_18 w10.1
      refine go_iconst (v := 1) (pc' := 47) dX7_collect_46 rfl (by decide) ?_
      refine gz_iadd (pc' := 48) dX7_collect_47 rfl (by omega) (fun v12 h12 e12 => ?_)
      refine pf_11_size (pc' := 51) dX7_collect_48 rfl fl_X7_17 ?_
      refine go_gen (P := fun s => WX σ s ∧ s.1 18 = v12) ⟨⟨ixs_18 w10.1 (by omega) (by omega), Ag_setI w10.2 (by decide)⟩, setI_same _ _ _⟩ (fun σ13 z13 => ?_)
      obtain ⟨w13, g13⟩ := z13
      have q13 := congrArg Int32.toInt g13
      refine gz_iinc (c := 1) (pc' := 54) dX7_collect_51 rfl rfl (by decide) (by decide) (by decide) (by omega) (fun v14 h14 e14 => ?_)
      refine go_goto (tgt := 7) dX7_collect_54 (by decide) ?_
      exact go_lv (lv' := [(0, .ref (L.2.1 11)), (1, .int a), (2, .int v14)]) rfl (ih2 _ (by omega) σ13 v14 w13 (by omega) rfl)
  exact go_lv (lv' := [(0, .ref (L.2.1 11)), (1, .int a), (2, .int (0 : Int32))]) rfl (loop7_2 _ σ1 (0 : Int32) w1 (by omega) rfl)
set_option maxHeartbeats 4000000 in
set_option maxRecDepth 100000 in
theorem c_X7_isFree (l : Launch) (L : WL) (σ : ST)  (ix : IV σ) : CtI l L yX7_isFree cX7_isFree 4 (some .boolean) rm_X7_isFree [.ref (L.2.1 11), .ref (L.2.1 3)] σ (fun _ σ2 => σ2 = σ) := by
  refine ctI_go (own := RX7) (by decide) rfl (Nat.le_of_ble_eq_true rfl) (fun F hF => ?_)
  subst hF
  have n0 : (0 : Int32).toInt = 0 := by decide
  have n1 : (1 : Int32).toInt = 1 := by decide
  have w0 : WX σ σ := WX_rfl ix
  refine go_iconst (v := 0) (pc' := 1) dX7_isFree_0 rfl (by decide) ?_
  refine go_istore_n (i := 2) (pc' := 2) dX7_isFree_1 rfl rfl (by decide) ?_
  have loop2_1 : ∀ (dd1 : Nat) (x2_1 : Int32), (0 ≤ (x2_1).toInt ∧ (x2_1).toInt ≤ 8) → (8 - (x2_1).toInt).toNat = dd1 → Go F L RX7 cX7_isFree 4 rm_X7_isFree (some .boolean) (RI F L (fun _ σ2 => σ2 = σ)) σ 2 [(0, .ref (L.2.1 11)), (1, .ref (L.2.1 3)), (2, .int x2_1)] [] := by
    intro dd1
    induction dd1 using Nat.strongRecOn with
    | _ dd1 ih1 =>
      intro x2_1 h_1 hm_1
      refine go_iload_n (i := 2) (pc' := 3) dX7_isFree_2 rfl rfl rfl ?_
      refine go_aload_n (i := 0) (pc' := 4) dX7_isFree_3 rfl rfl rfl ?_
      refine gf_11_size (pc' := 7) dX7_isFree_4 rfl fl_X7_17 ?_
      have g2 := ixi_18 w0.1
      refine gz_icmp_ge (tgt := 58) (pc' := 10) dX7_isFree_7 rfl (by decide) (fun c3 => ?_) (fun c3 => ?_)
      · refine go_iconst (v := 1) (pc' := 59) dX7_isFree_58 rfl (by decide) ?_
        exact go_zret dX7_isFree_59 rfl rfl (rfl)
      refine go_iconst (v := 0) (pc' := 11) dX7_isFree_10 rfl (by decide) ?_
      refine go_istore_n (i := 3) (pc' := 12) dX7_isFree_11 rfl rfl (by decide) ?_
      have loop12_4 : ∀ (dd4 : Nat) (x3_4 : Int32), (0 ≤ (x3_4).toInt ∧ (x3_4).toInt ≤ 8) → (8 - (x3_4).toInt).toNat = dd4 → Go F L RX7 cX7_isFree 4 rm_X7_isFree (some .boolean) (RI F L (fun _ σ2 => σ2 = σ)) σ 12 [(0, .ref (L.2.1 11)), (1, .ref (L.2.1 3)), (2, .int x2_1), (3, .int x3_4)] [] := by
        intro dd4
        induction dd4 using Nat.strongRecOn with
        | _ dd4 ih4 =>
          intro x3_4 h_4 hm_4
          refine go_iload_n (i := 3) (pc' := 13) dX7_isFree_12 rfl rfl rfl ?_
          refine go_aload_n (i := 0) (pc' := 14) dX7_isFree_13 rfl rfl rfl ?_
          refine gf_11_size (pc' := 17) dX7_isFree_14 rfl fl_X7_17 ?_
          have g5 := ixi_18 w0.1
          refine gz_icmp_ge (tgt := 52) (pc' := 20) dX7_isFree_17 rfl (by decide) (fun c6 => ?_) (fun c6 => ?_)
          · refine gz_iinc (c := 1) (pc' := 55) dX7_isFree_52 rfl rfl (by decide) (by decide) (by decide) (by omega) (fun v7 h7 e7 => ?_)
            refine go_goto (tgt := 2) dX7_isFree_55 (by decide) ?_
            exact go_lv (lv' := [(0, .ref (L.2.1 11)), (1, .ref (L.2.1 3)), (2, .int v7)]) rfl (ih1 _ (by omega)  v7 (by omega) rfl)
          refine go_iload_n (i := 2) (pc' := 21) dX7_isFree_20 rfl rfl rfl ?_
          refine go_iload_n (i := 3) (pc' := 22) dX7_isFree_21 rfl rfl rfl ?_
          refine gz_icmp_eq (tgt := 46) (pc' := 25) dX7_isFree_22 rfl (by decide) (fun c8 => ?_) (fun c8 => ?_)
          · refine gz_iinc (c := 1) (pc' := 49) dX7_isFree_46 rfl rfl (by decide) (by decide) (by decide) (by omega) (fun v9 h9 e9 => ?_)
            refine go_goto (tgt := 12) dX7_isFree_49 (by decide) ?_
            exact go_lv (lv' := [(0, .ref (L.2.1 11)), (1, .ref (L.2.1 3)), (2, .int x2_1), (3, .int v9)]) rfl (ih4 _ (by omega)  v9 (by omega) rfl)
          refine go_aload_n (i := 1) (pc' := 26) dX7_isFree_25 rfl rfl rfl ?_
          refine go_aload_n (i := 0) (pc' := 27) dX7_isFree_26 rfl rfl rfl ?_
          refine gf_11_row (pc' := 30) dX7_isFree_27 rfl fl_X7_9 ?_
          refine go_iload_n (i := 2) (pc' := 31) dX7_isFree_30 rfl rfl rfl ?_
          refine go_iald (pc' := 32) dX7_isFree_31 rfl (by decide) (by decide) rfl (vin_of (n := 8) (by omega) (by omega)) ?_
          refine go_rngA (ixa_54 w0.1) (vinlt (vin_of (n := 8) (by omega) (by omega))) (fun g10 => ?_)
          refine go_aload_n (i := 0) (pc' := 33) dX7_isFree_32 rfl rfl rfl ?_
          refine gf_11_row (pc' := 36) dX7_isFree_33 rfl fl_X7_9 ?_
          refine go_iload_n (i := 3) (pc' := 37) dX7_isFree_36 rfl rfl rfl ?_
          refine go_iald (pc' := 38) dX7_isFree_37 rfl (by decide) (by decide) rfl (vin_of (n := 8) (by omega) (by omega)) ?_
          refine go_rngA (ixa_54 w0.1) (vinlt (vin_of (n := 8) (by omega) (by omega))) (fun g11 => ?_)
          refine go_cvi (pc' := 41) lk_X7_39 (c_X0_isAhead _ _ _ _ _ (by omega) (by omega) w0.1) rfl rfl (Nat.le_of_ble_eq_true rfl) (by decide) rfl rfl rfl ⟨Nat.le_of_ble_eq_true rfl, Nat.le_of_ble_eq_true rfl⟩ ⟨rfl, rfl⟩ dX7_isFree_38 rfl (fun r12 σ12 h12 => ?_)
          have h12 := h12.symm
          subst h12
          refine gz_if_eq (tgt := 46) (pc' := 44) dX7_isFree_41 rfl (by decide) (fun c13 => ?_) (fun c13 => ?_)
          · refine gz_iinc (c := 1) (pc' := 49) dX7_isFree_46 rfl rfl (by decide) (by decide) (by decide) (by omega) (fun v14 h14 e14 => ?_)
            refine go_goto (tgt := 12) dX7_isFree_49 (by decide) ?_
            exact go_lv (lv' := [(0, .ref (L.2.1 11)), (1, .ref (L.2.1 3)), (2, .int x2_1), (3, .int v14)]) rfl (ih4 _ (by omega)  v14 (by omega) rfl)
          refine go_iconst (v := 0) (pc' := 45) dX7_isFree_44 rfl (by decide) ?_
          exact go_zret dX7_isFree_45 rfl rfl (rfl)
      exact go_lv (lv' := [(0, .ref (L.2.1 11)), (1, .ref (L.2.1 3)), (2, .int x2_1), (3, .int (0 : Int32))]) rfl (loop12_4 _  (0 : Int32) (by omega) rfl)
  exact go_lv (lv' := [(0, .ref (L.2.1 11)), (1, .ref (L.2.1 3)), (2, .int (0 : Int32))]) rfl (loop2_1 _  (0 : Int32) (by omega) rfl)
set_option maxHeartbeats 4000000 in
set_option maxRecDepth 100000 in
theorem c_X7_sort (l : Launch) (L : WL) (σ : ST) (a : Int32) (ix : IV σ) : CtV l L yX7_sort cX7_sort 6 none rm_X7_sort [.ref (L.2.1 11), .ref (L.2.1 33), .int a] σ (fun σ2 => WX σ σ2 ∧ σ2.1 18 = σ.1 18) := by
  refine ctV_go (own := RX7) (by decide) rfl (Nat.le_of_ble_eq_true rfl) (fun F hF => ?_)
  subst hF
  have n1 : (1 : Int32).toInt = 1 := by decide
  have w0 : WX σ σ := WX_rfl ix
  refine go_iconst (v := 1) (pc' := 1) dX7_sort_0 rfl (by decide) ?_
  refine go_istore_n (i := 3) (pc' := 2) dX7_sort_1 rfl rfl (by decide) ?_
  have loop2_1 : ∀ (dd1 : Nat) (σ1 : ST) (x3_1 : Int32), WX σ σ1 → (1 ≤ (x3_1).toInt ∧ (x3_1).toInt ≤ 8) → ((σ1.1 18) = σ.1 18) → (8 - (x3_1).toInt).toNat = dd1 → Go F L RX7 cX7_sort 6 rm_X7_sort none (RV F L (fun σ2 => WX σ σ2 ∧ σ2.1 18 = σ.1 18)) σ1 2 [(0, .ref (L.2.1 11)), (1, .ref (L.2.1 33)), (2, .int a), (3, .int x3_1)] [] := by
    intro dd1
    induction dd1 using Nat.strongRecOn with
    | _ dd1 ih1 =>
      intro σ1 x3_1 w1 h_1 hs_1 hm_1
      refine go_iload_n (i := 3) (pc' := 3) dX7_sort_2 rfl rfl rfl ?_
      refine go_aload_n (i := 0) (pc' := 4) dX7_sort_3 rfl rfl rfl ?_
      refine gf_11_size (pc' := 7) dX7_sort_4 rfl fl_X7_17 ?_
      have g2 := ixi_18 w1.1
      refine gz_icmp_ge (tgt := 92) (pc' := 10) dX7_sort_7 rfl (by decide) (fun c3 => ?_) (fun c3 => ?_)
      · exact go_vret dX7_sort_92 rfl (⟨w1, by first | rfl | assumption | (simp only [*]; done)⟩)
      refine go_iload_n (i := 3) (pc' := 11) dX7_sort_10 rfl rfl rfl ?_
      refine go_istore (pc' := 13) dX7_sort_11 rfl (by decide) ?_
      have loop13_4 : ∀ (dd4 : Nat) (σ4 : ST) (x4_4 : Int32), WX σ σ4 → (0 ≤ (x4_4).toInt ∧ (x4_4).toInt < 8) → ((σ4.1 18) = σ.1 18) → (x4_4).toInt.toNat = dd4 → Go F L RX7 cX7_sort 6 rm_X7_sort none (RV F L (fun σ2 => WX σ σ2 ∧ σ2.1 18 = σ.1 18)) σ4 13 [(0, .ref (L.2.1 11)), (1, .ref (L.2.1 33)), (2, .int a), (3, .int x3_1), (4, .int x4_4)] [] := by
        intro dd4
        induction dd4 using Nat.strongRecOn with
        | _ dd4 ih4 =>
          intro σ4 x4_4 w4 h_4 hs_4 hm_4
          refine go_iload (pc' := 15) dX7_sort_13 rfl rfl ?_
          refine gz_if_le (tgt := 86) (pc' := 18) dX7_sort_15 rfl (by decide) (fun c5 => ?_) (fun c5 => ?_)
          · refine gz_iinc (c := 1) (pc' := 89) dX7_sort_86 rfl rfl (by decide) (by decide) (by decide) (by omega) (fun v6 h6 e6 => ?_)
            refine go_goto (tgt := 2) dX7_sort_89 (by decide) ?_
            exact go_lv (lv' := [(0, .ref (L.2.1 11)), (1, .ref (L.2.1 33)), (2, .int a), (3, .int v6)]) rfl (ih1 _ (by omega) σ4 v6 w4 (by omega) (by first | rfl | assumption | (simp only [*]; done)) rfl)
          refine go_aload_n (i := 1) (pc' := 19) dX7_sort_18 rfl rfl rfl ?_
          refine go_aload_n (i := 0) (pc' := 20) dX7_sort_19 rfl rfl rfl ?_
          refine gf_11_row (pc' := 23) dX7_sort_20 rfl fl_X7_9 ?_
          refine go_iload (pc' := 25) dX7_sort_23 rfl rfl ?_
          refine go_iconst (v := 1) (pc' := 26) dX7_sort_25 rfl (by decide) ?_
          refine gz_isub (pc' := 27) dX7_sort_26 rfl (by omega) (fun v7 h7 e7 => ?_)
          refine go_iald (pc' := 28) dX7_sort_27 rfl (by decide) (by decide) rfl (vin_of (n := 8) (by omega) (by omega)) ?_
          refine go_rngA (ixa_54 w4.1) (vinlt (vin_of (n := 8) (by omega) (by omega))) (fun g8 => ?_)
          refine go_iald (pc' := 29) dX7_sort_28 rfl (by decide) (by decide) rfl (vin_of (n := 12) (by omega) (by omega)) ?_
          refine go_aload_n (i := 1) (pc' := 30) dX7_sort_29 rfl rfl rfl ?_
          refine go_aload_n (i := 0) (pc' := 31) dX7_sort_30 rfl rfl rfl ?_
          refine gf_11_row (pc' := 34) dX7_sort_31 rfl fl_X7_9 ?_
          refine go_iload (pc' := 36) dX7_sort_34 rfl rfl ?_
          refine go_iald (pc' := 37) dX7_sort_36 rfl (by decide) (by decide) rfl (vin_of (n := 8) (by omega) (by omega)) ?_
          refine go_rngA (ixa_54 w4.1) (vinlt (vin_of (n := 8) (by omega) (by omega))) (fun g9 => ?_)
          refine go_iald (pc' := 38) dX7_sort_37 rfl (by decide) (by decide) rfl (vin_of (n := 12) (by omega) (by omega)) ?_
          refine go_isub (pc' := 39) dX7_sort_38 rfl ?_
          refine go_iload_n (i := 2) (pc' := 40) dX7_sort_39 rfl rfl rfl ?_
          refine go_imul (pc' := 41) dX7_sort_40 rfl ?_
          refine gz_if_le (tgt := 86) (pc' := 44) dX7_sort_41 rfl (by decide) (fun c10 => ?_) (fun c10 => ?_)
          · refine gz_iinc (c := 1) (pc' := 89) dX7_sort_86 rfl rfl (by decide) (by decide) (by decide) (by omega) (fun v11 h11 e11 => ?_)
            refine go_goto (tgt := 2) dX7_sort_89 (by decide) ?_
            exact go_lv (lv' := [(0, .ref (L.2.1 11)), (1, .ref (L.2.1 33)), (2, .int a), (3, .int v11)]) rfl (ih1 _ (by omega) σ4 v11 w4 (by omega) (by first | rfl | assumption | (simp only [*]; done)) rfl)
          refine go_aload_n (i := 0) (pc' := 45) dX7_sort_44 rfl rfl rfl ?_
          refine gf_11_row (pc' := 48) dX7_sort_45 rfl fl_X7_9 ?_
          refine go_iload (pc' := 50) dX7_sort_48 rfl rfl ?_
          refine go_iald (pc' := 51) dX7_sort_50 rfl (by decide) (by decide) rfl (vin_of (n := 8) (by omega) (by omega)) ?_
          refine go_rngA (ixa_54 w4.1) (vinlt (vin_of (n := 8) (by omega) (by omega))) (fun g12 => ?_)
          refine go_topz (fun y13 h13 e13 => ?_)
          refine go_istore (pc' := 53) dX7_sort_51 rfl (by decide) ?_
          refine go_aload_n (i := 0) (pc' := 54) dX7_sort_53 rfl rfl rfl ?_
          refine gf_11_row (pc' := 57) dX7_sort_54 rfl fl_X7_9 ?_
          refine go_iload (pc' := 59) dX7_sort_57 rfl rfl ?_
          refine go_aload_n (i := 0) (pc' := 60) dX7_sort_59 rfl rfl rfl ?_
          refine gf_11_row (pc' := 63) dX7_sort_60 rfl fl_X7_9 ?_
          refine go_iload (pc' := 65) dX7_sort_63 rfl rfl ?_
          refine go_iconst (v := 1) (pc' := 66) dX7_sort_65 rfl (by decide) ?_
          refine gz_isub (pc' := 67) dX7_sort_66 rfl (by omega) (fun v14 h14 e14 => ?_)
          refine go_iald (pc' := 68) dX7_sort_67 rfl (by decide) (by decide) rfl (vin_of (n := 8) (by omega) (by omega)) ?_
          refine go_rngA (ixa_54 w4.1) (vinlt (vin_of (n := 8) (by omega) (by omega))) (fun g15 => ?_)
          refine go_iast (pc' := 69) dX7_sort_68 rfl (by decide) (by decide) rfl (vin_of (n := 8) (by omega) (by omega)) ?_
          refine go_gen (P := fun s => WX σ s ∧ s.1 18 = σ4.1 18) ⟨⟨ixt_54 w4.1 (by omega) (by omega), Ag_setA w4.2 (by decide)⟩, rfl⟩ (fun σ16 z16 => ?_)
          obtain ⟨w16, g16⟩ := z16
          have q16 := congrArg Int32.toInt g16
          refine go_aload_n (i := 0) (pc' := 70) dX7_sort_69 rfl rfl rfl ?_
          refine gf_11_row (pc' := 73) dX7_sort_70 rfl fl_X7_9 ?_
          refine go_iload (pc' := 75) dX7_sort_73 rfl rfl ?_
          refine go_iconst (v := 1) (pc' := 76) dX7_sort_75 rfl (by decide) ?_
          refine gz_isub (pc' := 77) dX7_sort_76 rfl (by omega) (fun v17 h17 e17 => ?_)
          refine go_iload (pc' := 79) dX7_sort_77 rfl rfl ?_
          refine go_iast (pc' := 80) dX7_sort_79 rfl (by decide) (by decide) rfl (vin_of (n := 8) (by omega) (by omega)) ?_
          refine go_gen (P := fun s => WX σ s ∧ s.1 18 = σ16.1 18) ⟨⟨ixt_54 w16.1 (by omega) (by omega), Ag_setA w16.2 (by decide)⟩, rfl⟩ (fun σ18 z18 => ?_)
          obtain ⟨w18, g18⟩ := z18
          have q18 := congrArg Int32.toInt g18
          refine gz_iinc (c := (-1)) (pc' := 83) dX7_sort_80 rfl rfl (by decide) (by decide) (by decide) (by omega) (fun v19 h19 e19 => ?_)
          refine go_goto (tgt := 13) dX7_sort_83 (by decide) ?_
          exact go_lv (lv' := [(0, .ref (L.2.1 11)), (1, .ref (L.2.1 33)), (2, .int a), (3, .int x3_1), (4, .int v19)]) rfl (ih4 _ (by omega) σ18 v19 w18 (by omega) (by first | rfl | assumption | (simp only [*]; done)) rfl)
      exact go_lv (lv' := [(0, .ref (L.2.1 11)), (1, .ref (L.2.1 33)), (2, .int a), (3, .int x3_1), (4, .int x3_1)]) rfl (loop13_4 _ σ1 x3_1 w1 (by omega) (by first | rfl | assumption | (simp only [*]; done)) rfl)
  exact go_lv (lv' := [(0, .ref (L.2.1 11)), (1, .ref (L.2.1 33)), (2, .int a), (3, .int (1 : Int32))]) rfl (loop2_1 _ σ (1 : Int32) w0 (by omega) (by first | rfl | assumption | (simp only [*]; done)) rfl)
set_option maxHeartbeats 4000000 in
set_option maxRecDepth 100000 in
theorem c_X7_arrange (l : Launch) (L : WL) (σ : ST) (a : Int32) (ix : IV σ) : CtV l L yX7_arrange cX7_arrange 4 none rm_X7_arrange [.ref (L.2.1 11), .int a, .ref (L.2.1 3)] σ (fun σ2 => WX σ σ2) := by
  refine ctV_go (own := RX7) (by decide) rfl (Nat.le_of_ble_eq_true rfl) (fun F hF => ?_)
  subst hF
  have nm1 : (-1 : Int32).toInt = -1 := by decide
  have n0 : (0 : Int32).toInt = 0 := by decide
  have n1 : (1 : Int32).toInt = 1 := by decide
  have w0 : WX σ σ := WX_rfl ix
  refine go_aload_n (i := 0) (pc' := 1) dX7_arrange_0 rfl rfl rfl ?_
  refine go_iload_n (i := 1) (pc' := 2) dX7_arrange_1 rfl rfl rfl ?_
  refine go_cvv (pc' := 5) lk_X7_20 (c_X7_collect _ _ _ _ w0.1) rfl rfl (Nat.le_of_ble_eq_true rfl) (by decide) rfl rfl rfl ⟨Nat.le_of_ble_eq_true rfl, Nat.le_of_ble_eq_true rfl⟩ ⟨rfl, rfl⟩ dX7_arrange_2 rfl (fun σ1 h1 => ?_)
  have w1 := WX_trans w0 h1
  refine go_aload_n (i := 0) (pc' := 6) dX7_arrange_5 rfl rfl rfl ?_
  refine go_iconst (v := 0) (pc' := 7) dX7_arrange_6 rfl (by decide) ?_
  refine pf_11_jumps (pc' := 10) dX7_arrange_7 rfl fl_X7_13 ?_
  refine go_gen (P := fun s => WX σ s ∧ s.1 18 = σ1.1 18) ⟨⟨ixs_n w1.1 (by decide), Ag_setI w1.2 (by decide)⟩, rfl⟩ (fun σ2 z2 => ?_)
  obtain ⟨w2, g2⟩ := z2
  have q2 := congrArg Int32.toInt g2
  refine go_aload_n (i := 0) (pc' := 11) dX7_arrange_10 rfl rfl rfl ?_
  refine gf_11_size (pc' := 14) dX7_arrange_11 rfl fl_X7_17 ?_
  have g3 := ixi_18 w2.1
  refine gz_if_ne (tgt := 18) (pc' := 17) dX7_arrange_14 rfl (by decide) (fun c4 => ?_) (fun c4 => ?_)
  · refine go_aload_n (i := 0) (pc' := 19) dX7_arrange_18 rfl rfl rfl ?_
    refine go_aload_n (i := 2) (pc' := 20) dX7_arrange_19 rfl rfl rfl ?_
    refine gf_3_lows (pc' := 23) dX7_arrange_20 rfl fl_X7_24 ?_
    refine go_iconst (v := 1) (pc' := 24) dX7_arrange_23 rfl (by decide) ?_
    refine go_cvv (pc' := 27) lk_X7_29 (c_X7_sort _ _ _ _ w2.1) rfl rfl (Nat.le_of_ble_eq_true rfl) (by decide) rfl rfl rfl ⟨Nat.le_of_ble_eq_true rfl, Nat.le_of_ble_eq_true rfl⟩ ⟨rfl, rfl⟩ dX7_arrange_24 rfl (fun σ5 h5 => ?_)
    obtain ⟨u5, h5⟩ := h5
    have w5 := WX_trans w2 u5
    have q5 := congrArg Int32.toInt h5
    refine go_aload_n (i := 0) (pc' := 28) dX7_arrange_27 rfl rfl rfl ?_
    refine go_aload_n (i := 2) (pc' := 29) dX7_arrange_28 rfl rfl rfl ?_
    refine gf_3_lows (pc' := 32) dX7_arrange_29 rfl fl_X7_24 ?_
    refine go_aload_n (i := 0) (pc' := 33) dX7_arrange_32 rfl rfl rfl ?_
    refine gf_11_row (pc' := 36) dX7_arrange_33 rfl fl_X7_9 ?_
    refine go_aload_n (i := 0) (pc' := 37) dX7_arrange_36 rfl rfl rfl ?_
    refine gf_11_size (pc' := 40) dX7_arrange_37 rfl fl_X7_17 ?_
    have g6 := ixi_18 w5.1
    refine go_iconst (v := 1) (pc' := 41) dX7_arrange_40 rfl (by decide) ?_
    refine gz_isub (pc' := 42) dX7_arrange_41 rfl (by omega) (fun v7 h7 e7 => ?_)
    refine go_iald (pc' := 43) dX7_arrange_42 rfl (by decide) (by decide) rfl (vin_of (n := 8) (by omega) (by omega)) ?_
    refine go_rngA (ixa_54 w5.1) (vinlt (vin_of (n := 8) (by omega) (by omega))) (fun g8 => ?_)
    refine go_iald (pc' := 44) dX7_arrange_43 rfl (by decide) (by decide) rfl (vin_of (n := 12) (by omega) (by omega)) ?_
    refine go_aload_n (i := 2) (pc' := 45) dX7_arrange_44 rfl rfl rfl ?_
    refine gf_3_lows (pc' := 48) dX7_arrange_45 rfl fl_X7_24 ?_
    refine go_aload_n (i := 0) (pc' := 49) dX7_arrange_48 rfl rfl rfl ?_
    refine gf_11_row (pc' := 52) dX7_arrange_49 rfl fl_X7_9 ?_
    refine go_iconst (v := 0) (pc' := 53) dX7_arrange_52 rfl (by decide) ?_
    refine go_iald (pc' := 54) dX7_arrange_53 rfl (by decide) (by decide) rfl (vin_of (n := 8) (by omega) (by omega)) ?_
    refine go_rngA (ixa_54 w5.1) (vinlt (vin_of (n := 8) (by omega) (by omega))) (fun g9 => ?_)
    refine go_iald (pc' := 55) dX7_arrange_54 rfl (by decide) (by decide) rfl (vin_of (n := 12) (by omega) (by omega)) ?_
    refine go_isub (pc' := 56) dX7_arrange_55 rfl ?_
    refine pf_11_jumps (pc' := 59) dX7_arrange_56 rfl fl_X7_13 ?_
    refine go_gen (P := fun s => WX σ s ∧ s.1 18 = σ5.1 18) ⟨⟨ixs_n w5.1 (by decide), Ag_setI w5.2 (by decide)⟩, rfl⟩ (fun σ10 z10 => ?_)
    obtain ⟨w10, g10⟩ := z10
    have q10 := congrArg Int32.toInt g10
    refine go_aload_n (i := 0) (pc' := 60) dX7_arrange_59 rfl rfl rfl ?_
    refine gf_11_row (pc' := 63) dX7_arrange_60 rfl fl_X7_9 ?_
    refine go_iconst (v := 0) (pc' := 64) dX7_arrange_63 rfl (by decide) ?_
    refine go_iald (pc' := 65) dX7_arrange_64 rfl (by decide) (by decide) rfl (vin_of (n := 8) (by omega) (by omega)) ?_
    refine go_rngA (ixa_54 w10.1) (vinlt (vin_of (n := 8) (by omega) (by omega))) (fun g11 => ?_)
    refine go_topz (fun y12 h12 e12 => ?_)
    refine go_istore_n (i := 3) (pc' := 66) dX7_arrange_65 rfl rfl (by decide) ?_
    refine go_aload_n (i := 0) (pc' := 67) dX7_arrange_66 rfl rfl rfl ?_
    refine go_aload_n (i := 2) (pc' := 68) dX7_arrange_67 rfl rfl rfl ?_
    refine go_cvi (pc' := 71) lk_X7_33 (c_X7_isFree _ _ _ w10.1) rfl rfl (Nat.le_of_ble_eq_true rfl) (by decide) rfl rfl rfl ⟨Nat.le_of_ble_eq_true rfl, Nat.le_of_ble_eq_true rfl⟩ ⟨rfl, rfl⟩ dX7_arrange_68 rfl (fun r13 σ13 h13 => ?_)
    have h13 := h13.symm
    subst h13
    refine gz_if_eq (tgt := 102) (pc' := 74) dX7_arrange_71 rfl (by decide) (fun c14 => ?_) (fun c14 => ?_)
    · exact go_vret dX7_arrange_102 rfl (w10)
    refine go_aload_n (i := 0) (pc' := 75) dX7_arrange_74 rfl rfl rfl ?_
    refine go_aload_n (i := 2) (pc' := 76) dX7_arrange_75 rfl rfl rfl ?_
    refine gf_3_lows (pc' := 79) dX7_arrange_76 rfl fl_X7_24 ?_
    refine go_iconst (v := (-1)) (pc' := 80) dX7_arrange_79 rfl (by decide) ?_
    refine go_cvv (pc' := 83) lk_X7_29 (c_X7_sort _ _ _ _ w10.1) rfl rfl (Nat.le_of_ble_eq_true rfl) (by decide) rfl rfl rfl ⟨Nat.le_of_ble_eq_true rfl, Nat.le_of_ble_eq_true rfl⟩ ⟨rfl, rfl⟩ dX7_arrange_80 rfl (fun σ15 h15 => ?_)
    obtain ⟨u15, h15⟩ := h15
    have w15 := WX_trans w10 u15
    have q15 := congrArg Int32.toInt h15
    refine go_iload_n (i := 3) (pc' := 84) dX7_arrange_83 rfl rfl rfl ?_
    refine go_aload_n (i := 0) (pc' := 85) dX7_arrange_84 rfl rfl rfl ?_
    refine gf_11_row (pc' := 88) dX7_arrange_85 rfl fl_X7_9 ?_
    refine go_iconst (v := 0) (pc' := 89) dX7_arrange_88 rfl (by decide) ?_
    refine go_iald (pc' := 90) dX7_arrange_89 rfl (by decide) (by decide) rfl (vin_of (n := 8) (by omega) (by omega)) ?_
    refine go_rngA (ixa_54 w15.1) (vinlt (vin_of (n := 8) (by omega) (by omega))) (fun g16 => ?_)
    refine gz_icmp_ge (tgt := 102) (pc' := 93) dX7_arrange_90 rfl (by decide) (fun c17 => ?_) (fun c17 => ?_)
    · exact go_vret dX7_arrange_102 rfl (w15)
    refine go_aload_n (i := 0) (pc' := 94) dX7_arrange_93 rfl rfl rfl ?_
    refine go_aload_n (i := 2) (pc' := 95) dX7_arrange_94 rfl rfl rfl ?_
    refine gf_3_lows (pc' := 98) dX7_arrange_95 rfl fl_X7_24 ?_
    refine go_iconst (v := 1) (pc' := 99) dX7_arrange_98 rfl (by decide) ?_
    refine go_cvv (pc' := 102) lk_X7_29 (c_X7_sort _ _ _ _ w15.1) rfl rfl (Nat.le_of_ble_eq_true rfl) (by decide) rfl rfl rfl ⟨Nat.le_of_ble_eq_true rfl, Nat.le_of_ble_eq_true rfl⟩ ⟨rfl, rfl⟩ dX7_arrange_99 rfl (fun σ18 h18 => ?_)
    obtain ⟨u18, h18⟩ := h18
    have w18 := WX_trans w15 u18
    have q18 := congrArg Int32.toInt h18
    exact go_vret dX7_arrange_102 rfl (w18)
  exact go_vret dX7_arrange_17 rfl (w2)
