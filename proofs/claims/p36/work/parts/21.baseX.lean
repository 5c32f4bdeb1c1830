theorem lk12_n {x : Int32} (h1 : ¬ x = 1) (h2 : ¬ x = 2) : Op.lookupswitch.offset (#[((1 : Int), (28 : Int)), (2, 35)]).toList 42 x.toInt = 42 := by
  have e1 : ¬ x.toInt = 1 := fun e => h1 (Int32.toInt_inj.mp e)
  have e2 : ¬ x.toInt = 2 := fun e => h2 (Int32.toInt_inj.mp e)
  simp [Op.lookupswitch.offset, Ne.symm (show x.toInt ≠ 1 from e1), Ne.symm (show x.toInt ≠ 2 from e2)]
set_option maxHeartbeats 4000000 in
set_option maxRecDepth 100000 in
theorem c_J9_floorMod_7cf53 (l : Launch) (L : WL) (σ : ST) (x y : Int32) (hy : ¬ y = 0) : CtI l L yJ9_floorMod_7cf53 cJ9_floorMod_7cf53 3 (some .int) rm_J9_floorMod_7cf53 [.int x, .int y] σ (fun _ σ2 => σ2 = σ) := by
  refine ctI_goF (own := RJ9) (by decide +kernel) rfl (Nat.le_of_ble_eq_true rfl) (fun F hF => ?_)
  subst hF
  refine go_iload_n (i := 0) (pc' := 1) dJ9_floorMod_7cf53_0 rfl rfl rfl ?_
  refine go_iload_n (i := 1) (pc' := 2) dJ9_floorMod_7cf53_1 rfl rfl rfl ?_
  refine go_irem (pc' := 3) dJ9_floorMod_7cf53_2 rfl hy ?_
  refine go_topz (fun y1 h1 e1 => ?_)
  refine go_istore_n (i := 2) (pc' := 4) dJ9_floorMod_7cf53_3 rfl rfl (by decide) ?_
  refine go_iload_n (i := 0) (pc' := 5) dJ9_floorMod_7cf53_4 rfl rfl rfl ?_
  refine go_iload_n (i := 1) (pc' := 6) dJ9_floorMod_7cf53_5 rfl rfl rfl ?_
  refine go_ixor (pc' := 7) dJ9_floorMod_7cf53_6 rfl ?_
  refine gz_if_ge (tgt := 18) (pc' := 10) dJ9_floorMod_7cf53_7 rfl (by decide) (fun c2 => ?_) (fun c2 => ?_)
  · refine go_iload_n (i := 2) (pc' := 19) dJ9_floorMod_7cf53_18 rfl rfl rfl ?_
    exact go_iret dJ9_floorMod_7cf53_19 rfl (rfl)
  refine go_iload_n (i := 2) (pc' := 11) dJ9_floorMod_7cf53_10 rfl rfl rfl ?_
  refine gz_if_eq (tgt := 18) (pc' := 14) dJ9_floorMod_7cf53_11 rfl (by decide) (fun c3 => ?_) (fun c3 => ?_)
  · refine go_iload_n (i := 2) (pc' := 19) dJ9_floorMod_7cf53_18 rfl rfl rfl ?_
    exact go_iret dJ9_floorMod_7cf53_19 rfl (rfl)
  refine go_iload_n (i := 2) (pc' := 15) dJ9_floorMod_7cf53_14 rfl rfl rfl ?_
  refine go_iload_n (i := 1) (pc' := 16) dJ9_floorMod_7cf53_15 rfl rfl rfl ?_
  refine go_iadd (pc' := 17) dJ9_floorMod_7cf53_16 rfl ?_
  exact go_iret dJ9_floorMod_7cf53_17 rfl (rfl)
set_option maxHeartbeats 4000000 in
set_option maxRecDepth 100000 in
theorem c_X0_dayFrom (l : Launch) (L : WL) (σ : ST) (x y : Int32) : CtI l L yX0_dayFrom cX0_dayFrom 2 (some .int) rm_X0_dayFrom [.int x, .int y] σ (fun _ σ2 => σ2 = σ) := by
  refine ctI_go (own := RX0) (by decide) rfl (Nat.le_of_ble_eq_true rfl) (fun F hF => ?_)
  subst hF
  have nm1 : (-1 : Int32).toInt = -1 := by decide
  have n7 : (7 : Int32).toInt = 7 := by decide
  refine go_iload_n (i := 1) (pc' := 1) dX0_dayFrom_0 rfl rfl rfl ?_
  refine go_iconst (v := (-1)) (pc' := 2) dX0_dayFrom_1 rfl (by decide) ?_
  refine gz_icmp_ne (tgt := 9) (pc' := 5) dX0_dayFrom_2 rfl (by decide) (fun c1 => ?_) (fun c1 => ?_)
  · refine go_iload_n (i := 0) (pc' := 10) dX0_dayFrom_9 rfl rfl rfl ?_
    refine go_iload_n (i := 1) (pc' := 11) dX0_dayFrom_10 rfl rfl rfl ?_
    refine go_iload_n (i := 0) (pc' := 12) dX0_dayFrom_11 rfl rfl rfl ?_
    refine go_isub (pc' := 13) dX0_dayFrom_12 rfl ?_
    refine go_bipush (v := 7) (pc' := 15) dX0_dayFrom_13 rfl (by decide) ?_
    refine go_csi (pc' := 18) ls_X0_103 (c_J9_floorMod_7cf53 _ _ _ _ _ (by decide)) rfl rfl (Nat.le_of_ble_eq_true rfl) ⟨Nat.le_of_ble_eq_true rfl, Nat.le_of_ble_eq_true rfl⟩ ⟨rfl, rfl⟩ dX0_dayFrom_15 rfl (fun r2 σ2 h2 => ?_)
    have h2 := h2.symm
    subst h2
    refine go_iadd (pc' := 19) dX0_dayFrom_18 rfl ?_
    exact go_iret dX0_dayFrom_19 rfl (rfl)
  refine go_iload_n (i := 0) (pc' := 6) dX0_dayFrom_5 rfl rfl rfl ?_
  refine go_goto (tgt := 19) dX0_dayFrom_6 (by decide) ?_
  exact go_iret dX0_dayFrom_19 rfl (rfl)
set_option maxHeartbeats 4000000 in
set_option maxRecDepth 100000 in
theorem c_X0_dayUpTo (l : Launch) (L : WL) (σ : ST) (x y : Int32) : CtI l L yX0_dayUpTo cX0_dayUpTo 2 (some .int) rm_X0_dayUpTo [.int x, .int y] σ (fun _ σ2 => σ2 = σ) := by
  refine ctI_go (own := RX0) (by decide) rfl (Nat.le_of_ble_eq_true rfl) (fun F hF => ?_)
  subst hF
  have nm1 : (-1 : Int32).toInt = -1 := by decide
  have n7 : (7 : Int32).toInt = 7 := by decide
  refine go_iload_n (i := 1) (pc' := 1) dX0_dayUpTo_0 rfl rfl rfl ?_
  refine go_iconst (v := (-1)) (pc' := 2) dX0_dayUpTo_1 rfl (by decide) ?_
  refine gz_icmp_ne (tgt := 9) (pc' := 5) dX0_dayUpTo_2 rfl (by decide) (fun c1 => ?_) (fun c1 => ?_)
  · refine go_iload_n (i := 0) (pc' := 10) dX0_dayUpTo_9 rfl rfl rfl ?_
    refine go_iload_n (i := 0) (pc' := 11) dX0_dayUpTo_10 rfl rfl rfl ?_
    refine go_iload_n (i := 1) (pc' := 12) dX0_dayUpTo_11 rfl rfl rfl ?_
    refine go_isub (pc' := 13) dX0_dayUpTo_12 rfl ?_
    refine go_bipush (v := 7) (pc' := 15) dX0_dayUpTo_13 rfl (by decide) ?_
    refine go_csi (pc' := 18) ls_X0_103 (c_J9_floorMod_7cf53 _ _ _ _ _ (by decide)) rfl rfl (Nat.le_of_ble_eq_true rfl) ⟨Nat.le_of_ble_eq_true rfl, Nat.le_of_ble_eq_true rfl⟩ ⟨rfl, rfl⟩ dX0_dayUpTo_15 rfl (fun r2 σ2 h2 => ?_)
    have h2 := h2.symm
    subst h2
    refine go_isub (pc' := 19) dX0_dayUpTo_18 rfl ?_
    exact go_iret dX0_dayUpTo_19 rfl (rfl)
  refine go_iload_n (i := 0) (pc' := 6) dX0_dayUpTo_5 rfl rfl rfl ?_
  refine go_goto (tgt := 19) dX0_dayUpTo_6 (by decide) ?_
  exact go_iret dX0_dayUpTo_19 rfl (rfl)
set_option maxHeartbeats 4000000 in
set_option maxRecDepth 100000 in
theorem c_X0_raiseBy (l : Launch) (L : WL) (σ : ST) (k : Int32) (hk : 0 ≤ k.toInt ∧ k.toInt < 20) (ix : IV σ) : CtI l L yX0_raiseBy cX0_raiseBy 4 (some .boolean) rm_X0_raiseBy [.ref (L.2.1 3), .int k] σ (fun _ σ2 => WX σ σ2) := by
  refine ctI_go (own := RX0) (by decide) rfl (Nat.le_of_ble_eq_true rfl) (fun F hF => ?_)
  subst hF
  have n0 : (0 : Int32).toInt = 0 := by decide
  have n1 : (1 : Int32).toInt = 1 := by decide
  have w0 : WX σ σ := WX_rfl ix
  refine go_aload_n (i := 0) (pc' := 1) dX0_raiseBy_0 rfl rfl rfl ?_
  refine gf_3_roots (pc' := 4) dX0_raiseBy_1 rfl fl_X0_33 ?_
  refine go_aload_n (i := 0) (pc' := 5) dX0_raiseBy_4 rfl rfl rfl ?_
  refine gf_3_tos (pc' := 8) dX0_raiseBy_5 rfl fl_X0_27 ?_
  refine go_iload_n (i := 1) (pc' := 9) dX0_raiseBy_8 rfl rfl rfl ?_
  refine go_iald (pc' := 10) dX0_raiseBy_9 rfl (by decide) (by decide) rfl (vin_of (n := 20) (by omega) (by omega)) ?_
  refine go_rngA (ixa_36 w0.1) (vinlt (vin_of (n := 20) (by omega) (by omega))) (fun g1 => ?_)
  refine go_iald (pc' := 11) dX0_raiseBy_10 rfl (by decide) (by decide) rfl (vin_of (n := 12) (by omega) (by omega)) ?_
  refine go_rngA (ixa_38 w0.1) (vinlt (vin_of (n := 12) (by omega) (by omega))) (fun g2 => ?_)
  refine go_topz (fun y3 h3 e3 => ?_)
  refine go_istore_n (i := 2) (pc' := 12) dX0_raiseBy_11 rfl rfl (by decide) ?_
  refine go_aload_n (i := 0) (pc' := 13) dX0_raiseBy_12 rfl rfl rfl ?_
  refine gf_3_lows (pc' := 16) dX0_raiseBy_13 rfl fl_X0_11 ?_
  refine go_aload_n (i := 0) (pc' := 17) dX0_raiseBy_16 rfl rfl rfl ?_
  refine gf_3_roots (pc' := 20) dX0_raiseBy_17 rfl fl_X0_33 ?_
  refine go_aload_n (i := 0) (pc' := 21) dX0_raiseBy_20 rfl rfl rfl ?_
  refine gf_3_froms (pc' := 24) dX0_raiseBy_21 rfl fl_X0_24 ?_
  refine go_iload_n (i := 1) (pc' := 25) dX0_raiseBy_24 rfl rfl rfl ?_
  refine go_iald (pc' := 26) dX0_raiseBy_25 rfl (by decide) (by decide) rfl (vin_of (n := 20) (by omega) (by omega)) ?_
  refine go_rngA (ixa_35 w0.1) (vinlt (vin_of (n := 20) (by omega) (by omega))) (fun g4 => ?_)
  refine go_iald (pc' := 27) dX0_raiseBy_26 rfl (by decide) (by decide) rfl (vin_of (n := 12) (by omega) (by omega)) ?_
  refine go_rngA (ixa_38 w0.1) (vinlt (vin_of (n := 12) (by omega) (by omega))) (fun g5 => ?_)
  refine go_iald (pc' := 28) dX0_raiseBy_27 rfl (by decide) (by decide) rfl (vin_of (n := 12) (by omega) (by omega)) ?_
  refine go_aload_n (i := 0) (pc' := 29) dX0_raiseBy_28 rfl rfl rfl ?_
  refine gf_3_shifts (pc' := 32) dX0_raiseBy_29 rfl fl_X0_30 ?_
  refine go_iload_n (i := 1) (pc' := 33) dX0_raiseBy_32 rfl rfl rfl ?_
  refine go_iald (pc' := 34) dX0_raiseBy_33 rfl (by decide) (by decide) rfl (vin_of (n := 20) (by omega) (by omega)) ?_
  refine go_rngA (ixa_37 w0.1) (vinlt (vin_of (n := 20) (by omega) (by omega))) (fun g6 => ?_)
  refine go_iadd (pc' := 35) dX0_raiseBy_34 rfl ?_
  refine go_aload_n (i := 0) (pc' := 36) dX0_raiseBy_35 rfl rfl rfl ?_
  refine gf_3_weekdays (pc' := 39) dX0_raiseBy_36 rfl fl_X0_36 ?_
  refine go_iload_n (i := 2) (pc' := 40) dX0_raiseBy_39 rfl rfl rfl ?_
  refine go_iald (pc' := 41) dX0_raiseBy_40 rfl (by decide) (by decide) rfl (vin_of (n := 12) (by omega) (by omega)) ?_
  refine go_csi (pc' := 44) ls_X0_88 (c_X0_dayFrom _ _ _ _ _) rfl rfl (Nat.le_of_ble_eq_true rfl) ⟨Nat.le_of_ble_eq_true rfl, Nat.le_of_ble_eq_true rfl⟩ ⟨rfl, rfl⟩ dX0_raiseBy_41 rfl (fun r7 σ7 h7 => ?_)
  have h7 := h7.symm
  subst h7
  refine go_istore_n (i := 3) (pc' := 45) dX0_raiseBy_44 rfl rfl (by decide) ?_
  refine go_iload_n (i := 3) (pc' := 46) dX0_raiseBy_45 rfl rfl rfl ?_
  refine go_aload_n (i := 0) (pc' := 47) dX0_raiseBy_46 rfl rfl rfl ?_
  refine gf_3_lows (pc' := 50) dX0_raiseBy_47 rfl fl_X0_11 ?_
  refine go_iload_n (i := 2) (pc' := 51) dX0_raiseBy_50 rfl rfl rfl ?_
  refine go_iald (pc' := 52) dX0_raiseBy_51 rfl (by decide) (by decide) rfl (vin_of (n := 12) (by omega) (by omega)) ?_
  refine gz_icmp_gt (tgt := 57) (pc' := 55) dX0_raiseBy_52 rfl (by decide) (fun c8 => ?_) (fun c8 => ?_)
  · refine go_aload_n (i := 0) (pc' := 58) dX0_raiseBy_57 rfl rfl rfl ?_
    refine gf_3_lows (pc' := 61) dX0_raiseBy_58 rfl fl_X0_11 ?_
    refine go_iload_n (i := 2) (pc' := 62) dX0_raiseBy_61 rfl rfl rfl ?_
    refine go_iload_n (i := 3) (pc' := 63) dX0_raiseBy_62 rfl rfl rfl ?_
    refine go_iast (pc' := 64) dX0_raiseBy_63 rfl (by decide) (by decide) rfl (vin_of (n := 12) (by omega) (by omega)) ?_
    refine go_gen (P := WX σ) ⟨ixt_n w0.1 (by decide), Ag_setA w0.2 (by decide)⟩ (fun σ9 w9 => ?_)
    refine go_iconst (v := 1) (pc' := 65) dX0_raiseBy_64 rfl (by decide) ?_
    exact go_zret dX0_raiseBy_65 rfl rfl (w9)
  refine go_iconst (v := 0) (pc' := 56) dX0_raiseBy_55 rfl (by decide) ?_
  exact go_zret dX0_raiseBy_56 rfl rfl (w0)
set_option maxHeartbeats 4000000 in
set_option maxRecDepth 100000 in
theorem c_X0_sinkBy (l : Launch) (L : WL) (σ : ST) (k : Int32) (hk : 0 ≤ k.toInt ∧ k.toInt < 20) (ix : IV σ) : CtI l L yX0_sinkBy cX0_sinkBy 4 (some .boolean) rm_X0_sinkBy [.ref (L.2.1 3), .int k] σ (fun _ σ2 => WX σ σ2) := by
  refine ctI_go (own := RX0) (by decide) rfl (Nat.le_of_ble_eq_true rfl) (fun F hF => ?_)
  subst hF
  have n0 : (0 : Int32).toInt = 0 := by decide
  have n1 : (1 : Int32).toInt = 1 := by decide
  have w0 : WX σ σ := WX_rfl ix
  refine go_aload_n (i := 0) (pc' := 1) dX0_sinkBy_0 rfl rfl rfl ?_
  refine gf_3_roots (pc' := 4) dX0_sinkBy_1 rfl fl_X0_33 ?_
  refine go_aload_n (i := 0) (pc' := 5) dX0_sinkBy_4 rfl rfl rfl ?_
  refine gf_3_froms (pc' := 8) dX0_sinkBy_5 rfl fl_X0_24 ?_
  refine go_iload_n (i := 1) (pc' := 9) dX0_sinkBy_8 rfl rfl rfl ?_
  refine go_iald (pc' := 10) dX0_sinkBy_9 rfl (by decide) (by decide) rfl (vin_of (n := 20) (by omega) (by omega)) ?_
  refine go_rngA (ixa_35 w0.1) (vinlt (vin_of (n := 20) (by omega) (by omega))) (fun g1 => ?_)
  refine go_iald (pc' := 11) dX0_sinkBy_10 rfl (by decide) (by decide) rfl (vin_of (n := 12) (by omega) (by omega)) ?_
  refine go_rngA (ixa_38 w0.1) (vinlt (vin_of (n := 12) (by omega) (by omega))) (fun g2 => ?_)
  refine go_topz (fun y3 h3 e3 => ?_)
  refine go_istore_n (i := 2) (pc' := 12) dX0_sinkBy_11 rfl rfl (by decide) ?_
  refine go_aload_n (i := 0) (pc' := 13) dX0_sinkBy_12 rfl rfl rfl ?_
  refine gf_3_highs (pc' := 16) dX0_sinkBy_13 rfl fl_X0_17 ?_
  refine go_aload_n (i := 0) (pc' := 17) dX0_sinkBy_16 rfl rfl rfl ?_
  refine gf_3_roots (pc' := 20) dX0_sinkBy_17 rfl fl_X0_33 ?_
  refine go_aload_n (i := 0) (pc' := 21) dX0_sinkBy_20 rfl rfl rfl ?_
  refine gf_3_tos (pc' := 24) dX0_sinkBy_21 rfl fl_X0_27 ?_
  refine go_iload_n (i := 1) (pc' := 25) dX0_sinkBy_24 rfl rfl rfl ?_
  refine go_iald (pc' := 26) dX0_sinkBy_25 rfl (by decide) (by decide) rfl (vin_of (n := 20) (by omega) (by omega)) ?_
  refine go_rngA (ixa_36 w0.1) (vinlt (vin_of (n := 20) (by omega) (by omega))) (fun g4 => ?_)
  refine go_iald (pc' := 27) dX0_sinkBy_26 rfl (by decide) (by decide) rfl (vin_of (n := 12) (by omega) (by omega)) ?_
  refine go_rngA (ixa_38 w0.1) (vinlt (vin_of (n := 12) (by omega) (by omega))) (fun g5 => ?_)
  refine go_iald (pc' := 28) dX0_sinkBy_27 rfl (by decide) (by decide) rfl (vin_of (n := 12) (by omega) (by omega)) ?_
  refine go_aload_n (i := 0) (pc' := 29) dX0_sinkBy_28 rfl rfl rfl ?_
  refine gf_3_shifts (pc' := 32) dX0_sinkBy_29 rfl fl_X0_30 ?_
  refine go_iload_n (i := 1) (pc' := 33) dX0_sinkBy_32 rfl rfl rfl ?_
  refine go_iald (pc' := 34) dX0_sinkBy_33 rfl (by decide) (by decide) rfl (vin_of (n := 20) (by omega) (by omega)) ?_
  refine go_rngA (ixa_37 w0.1) (vinlt (vin_of (n := 20) (by omega) (by omega))) (fun g6 => ?_)
  refine go_isub (pc' := 35) dX0_sinkBy_34 rfl ?_
  refine go_aload_n (i := 0) (pc' := 36) dX0_sinkBy_35 rfl rfl rfl ?_
  refine gf_3_weekdays (pc' := 39) dX0_sinkBy_36 rfl fl_X0_36 ?_
  refine go_iload_n (i := 2) (pc' := 40) dX0_sinkBy_39 rfl rfl rfl ?_
  refine go_iald (pc' := 41) dX0_sinkBy_40 rfl (by decide) (by decide) rfl (vin_of (n := 12) (by omega) (by omega)) ?_
  refine go_csi (pc' := 44) ls_X0_91 (c_X0_dayUpTo _ _ _ _ _) rfl rfl (Nat.le_of_ble_eq_true rfl) ⟨Nat.le_of_ble_eq_true rfl, Nat.le_of_ble_eq_true rfl⟩ ⟨rfl, rfl⟩ dX0_sinkBy_41 rfl (fun r7 σ7 h7 => ?_)
  have h7 := h7.symm
  subst h7
  refine go_istore_n (i := 3) (pc' := 45) dX0_sinkBy_44 rfl rfl (by decide) ?_
  refine go_iload_n (i := 3) (pc' := 46) dX0_sinkBy_45 rfl rfl rfl ?_
  refine go_aload_n (i := 0) (pc' := 47) dX0_sinkBy_46 rfl rfl rfl ?_
  refine gf_3_highs (pc' := 50) dX0_sinkBy_47 rfl fl_X0_17 ?_
  refine go_iload_n (i := 2) (pc' := 51) dX0_sinkBy_50 rfl rfl rfl ?_
  refine go_iald (pc' := 52) dX0_sinkBy_51 rfl (by decide) (by decide) rfl (vin_of (n := 12) (by omega) (by omega)) ?_
  refine gz_icmp_lt (tgt := 57) (pc' := 55) dX0_sinkBy_52 rfl (by decide) (fun c8 => ?_) (fun c8 => ?_)
  · refine go_aload_n (i := 0) (pc' := 58) dX0_sinkBy_57 rfl rfl rfl ?_
    refine gf_3_highs (pc' := 61) dX0_sinkBy_58 rfl fl_X0_17 ?_
    refine go_iload_n (i := 2) (pc' := 62) dX0_sinkBy_61 rfl rfl rfl ?_
    refine go_iload_n (i := 3) (pc' := 63) dX0_sinkBy_62 rfl rfl rfl ?_
    refine go_iast (pc' := 64) dX0_sinkBy_63 rfl (by decide) (by decide) rfl (vin_of (n := 12) (by omega) (by omega)) ?_
    refine go_gen (P := WX σ) ⟨ixt_n w0.1 (by decide), Ag_setA w0.2 (by decide)⟩ (fun σ9 w9 => ?_)
    refine go_iconst (v := 1) (pc' := 65) dX0_sinkBy_64 rfl (by decide) ?_
    exact go_zret dX0_sinkBy_65 rfl rfl (w9)
  refine go_iconst (v := 0) (pc' := 56) dX0_sinkBy_55 rfl (by decide) ?_
  exact go_zret dX0_sinkBy_56 rfl rfl (w0)
set_option maxHeartbeats 4000000 in
set_option maxRecDepth 100000 in
theorem c_X0_isOrdered (l : Launch) (L : WL) (σ : ST) (n : Int32) (hn : n.toInt ≤ 12) (ix : IV σ) : CtI l L yX0_isOrdered cX0_isOrdered 3 (some .boolean) rm_X0_isOrdered [.ref (L.2.1 3), .int n] σ (fun _ σ2 => σ2 = σ) := by
  refine ctI_go (own := RX0) (by decide) rfl (Nat.le_of_ble_eq_true rfl) (fun F hF => ?_)
  subst hF
  have n0 : (0 : Int32).toInt = 0 := by decide
  have n1 : (1 : Int32).toInt = 1 := by decide
  have w0 : WX σ σ := WX_rfl ix
  refine go_iconst (v := 0) (pc' := 1) dX0_isOrdered_0 rfl (by decide) ?_
  refine go_istore_n (i := 2) (pc' := 2) dX0_isOrdered_1 rfl rfl (by decide) ?_
  have loop2_1 : ∀ (dd1 : Nat) (x2_1 : Int32), (0 ≤ (x2_1).toInt ∧ (x2_1).toInt ≤ 12) → (12 - (x2_1).toInt).toNat = dd1 → Go F L RX0 cX0_isOrdered 3 rm_X0_isOrdered (some .boolean) (RI F L (fun _ σ2 => σ2 = σ)) σ 2 [(0, .ref (L.2.1 3)), (1, .int n), (2, .int x2_1)] [] := by
    intro dd1
    induction dd1 using Nat.strongRecOn with
    | _ dd1 ih1 =>
      intro x2_1 h_1 hm_1
      refine go_iload_n (i := 2) (pc' := 3) dX0_isOrdered_2 rfl rfl rfl ?_
      refine go_iload_n (i := 1) (pc' := 4) dX0_isOrdered_3 rfl rfl rfl ?_
      refine gz_icmp_ge (tgt := 40) (pc' := 7) dX0_isOrdered_4 rfl (by decide) (fun c2 => ?_) (fun c2 => ?_)
      · refine go_iconst (v := 1) (pc' := 41) dX0_isOrdered_40 rfl (by decide) ?_
        exact go_zret dX0_isOrdered_41 rfl rfl (rfl)
      refine go_aload_n (i := 0) (pc' := 8) dX0_isOrdered_7 rfl rfl rfl ?_
      refine gf_3_roots (pc' := 11) dX0_isOrdered_8 rfl fl_X0_33 ?_
      refine go_iload_n (i := 2) (pc' := 12) dX0_isOrdered_11 rfl rfl rfl ?_
      refine go_iald (pc' := 13) dX0_isOrdered_12 rfl (by decide) (by decide) rfl (vin_of (n := 12) (by omega) (by omega)) ?_
      refine go_rngA (ixa_38 w0.1) (vinlt (vin_of (n := 12) (by omega) (by omega))) (fun g3 => ?_)
      refine go_iload_n (i := 2) (pc' := 14) dX0_isOrdered_13 rfl rfl rfl ?_
      refine gz_icmp_ne (tgt := 34) (pc' := 17) dX0_isOrdered_14 rfl (by decide) (fun c4 => ?_) (fun c4 => ?_)
      · refine gz_iinc (c := 1) (pc' := 37) dX0_isOrdered_34 rfl rfl (by decide) (by decide) (by decide) (by omega) (fun v5 h5 e5 => ?_)
        refine go_goto (tgt := 2) dX0_isOrdered_37 (by decide) ?_
        exact go_lv (lv' := [(0, .ref (L.2.1 3)), (1, .int n), (2, .int v5)]) rfl (ih1 _ (by omega)  v5 (by omega) rfl)
      refine go_aload_n (i := 0) (pc' := 18) dX0_isOrdered_17 rfl rfl rfl ?_
      refine gf_3_lows (pc' := 21) dX0_isOrdered_18 rfl fl_X0_11 ?_
      refine go_iload_n (i := 2) (pc' := 22) dX0_isOrdered_21 rfl rfl rfl ?_
      refine go_iald (pc' := 23) dX0_isOrdered_22 rfl (by decide) (by decide) rfl (vin_of (n := 12) (by omega) (by omega)) ?_
      refine go_aload_n (i := 0) (pc' := 24) dX0_isOrdered_23 rfl rfl rfl ?_
      refine gf_3_highs (pc' := 27) dX0_isOrdered_24 rfl fl_X0_17 ?_
      refine go_iload_n (i := 2) (pc' := 28) dX0_isOrdered_27 rfl rfl rfl ?_
      refine go_iald (pc' := 29) dX0_isOrdered_28 rfl (by decide) (by decide) rfl (vin_of (n := 12) (by omega) (by omega)) ?_
      refine gz_icmp_le (tgt := 34) (pc' := 32) dX0_isOrdered_29 rfl (by decide) (fun c6 => ?_) (fun c6 => ?_)
      · refine gz_iinc (c := 1) (pc' := 37) dX0_isOrdered_34 rfl rfl (by decide) (by decide) (by decide) (by omega) (fun v7 h7 e7 => ?_)
        refine go_goto (tgt := 2) dX0_isOrdered_37 (by decide) ?_
        exact go_lv (lv' := [(0, .ref (L.2.1 3)), (1, .int n), (2, .int v7)]) rfl (ih1 _ (by omega)  v7 (by omega) rfl)
      refine go_iconst (v := 0) (pc' := 33) dX0_isOrdered_32 rfl (by decide) ?_
      exact go_zret dX0_isOrdered_33 rfl rfl (rfl)
  exact go_lv (lv' := [(0, .ref (L.2.1 3)), (1, .int n), (2, .int (0 : Int32))]) rfl (loop2_1 _  (0 : Int32) (by omega) rfl)
set_option maxHeartbeats 4000000 in
set_option maxRecDepth 100000 in
theorem c_X0_raiseLows (l : Launch) (L : WL) (σ : ST) (n kk : Int32) (hn : n.toInt ≤ 12) (ix : IV σ) : CtI l L yX0_raiseLows cX0_raiseLows 6 (some .boolean) rm_X0_raiseLows [.ref (L.2.1 3), .int n, .int kk] σ (fun _ σ2 => WX σ σ2) := by
  refine ctI_go (own := RX0) (by decide) rfl (Nat.le_of_ble_eq_true rfl) (fun F hF => ?_)
  subst hF
  have n0 : (0 : Int32).toInt = 0 := by decide
  have n1 : (1 : Int32).toInt = 1 := by decide
  have n50 : (50 : Int32).toInt = 50 := by decide
  have w0 : WX σ σ := WX_rfl ix
  refine go_iconst (v := 1) (pc' := 1) dX0_raiseLows_0 rfl (by decide) ?_
  refine go_istore_n (i := 3) (pc' := 2) dX0_raiseLows_1 rfl rfl (by decide) ?_
  refine go_iconst (v := 0) (pc' := 3) dX0_raiseLows_2 rfl (by decide) ?_
  refine go_istore (pc' := 5) dX0_raiseLows_3 rfl (by decide) ?_
  have loop5_1 : ∀ (dd1 : Nat) (σ1 : ST) (x3_1 : Int32) (x4_1 : Int32), WX σ σ1 → (0 ≤ (x4_1).toInt ∧ (x4_1).toInt ≤ 50) → (50 - (x4_1).toInt).toNat = dd1 → Go F L RX0 cX0_raiseLows 6 rm_X0_raiseLows (some .boolean) (RI F L (fun _ σ2 => WX σ σ2)) σ1 5 [(0, .ref (L.2.1 3)), (1, .int n), (2, .int kk), (3, .int x3_1), (4, .int x4_1)] [] := by
    intro dd1
    induction dd1 using Nat.strongRecOn with
    | _ dd1 ih1 =>
      intro σ1 x3_1 x4_1 w1 h_1 hm_1
      refine go_iload (pc' := 7) dX0_raiseLows_5 rfl rfl ?_
      refine go_bipush (v := 50) (pc' := 9) dX0_raiseLows_7 rfl (by decide) ?_
      refine gz_icmp_ge (tgt := 73) (pc' := 12) dX0_raiseLows_9 rfl (by decide) (fun c2 => ?_) (fun c2 => ?_)
      · refine go_iload_n (i := 3) (pc' := 74) dX0_raiseLows_73 rfl rfl rfl ?_
        refine gz_if_ne (tgt := 81) (pc' := 77) dX0_raiseLows_74 rfl (by decide) (fun c3 => ?_) (fun c3 => ?_)
        · refine go_iconst (v := 0) (pc' := 82) dX0_raiseLows_81 rfl (by decide) ?_
          exact go_zret dX0_raiseLows_82 rfl rfl (w1)
        refine go_iconst (v := 1) (pc' := 78) dX0_raiseLows_77 rfl (by decide) ?_
        refine go_goto (tgt := 82) dX0_raiseLows_78 (by decide) ?_
        exact go_zret dX0_raiseLows_82 rfl rfl (w1)
      refine go_iload_n (i := 3) (pc' := 13) dX0_raiseLows_12 rfl rfl rfl ?_
      refine gz_if_eq (tgt := 73) (pc' := 16) dX0_raiseLows_13 rfl (by decide) (fun c4 => ?_) (fun c4 => ?_)
      · refine go_iload_n (i := 3) (pc' := 74) dX0_raiseLows_73 rfl rfl rfl ?_
        refine gz_if_ne (tgt := 81) (pc' := 77) dX0_raiseLows_74 rfl (by decide) (fun c5 => ?_) (fun c5 => ?_)
        · refine go_iconst (v := 0) (pc' := 82) dX0_raiseLows_81 rfl (by decide) ?_
          exact go_zret dX0_raiseLows_82 rfl rfl (w1)
        refine go_iconst (v := 1) (pc' := 78) dX0_raiseLows_77 rfl (by decide) ?_
        refine go_goto (tgt := 82) dX0_raiseLows_78 (by decide) ?_
        exact go_zret dX0_raiseLows_82 rfl rfl (w1)
      refine go_iconst (v := 0) (pc' := 17) dX0_raiseLows_16 rfl (by decide) ?_
      refine go_istore_n (i := 3) (pc' := 18) dX0_raiseLows_17 rfl rfl (by decide) ?_
      refine go_iconst (v := 0) (pc' := 19) dX0_raiseLows_18 rfl (by decide) ?_
      refine go_istore (pc' := 21) dX0_raiseLows_19 rfl (by decide) ?_
      have loop21_6 : ∀ (dd6 : Nat) (σ6 : ST) (x3_6 : Int32) (x5_6 : Int32), WX σ σ6 → (0 ≤ (x5_6).toInt ∧ (x5_6).toInt ≤ 20) → (20 - (x5_6).toInt).toNat = dd6 → Go F L RX0 cX0_raiseLows 6 rm_X0_raiseLows (some .boolean) (RI F L (fun _ σ2 => WX σ σ2)) σ6 21 [(0, .ref (L.2.1 3)), (1, .int n), (2, .int kk), (3, .int x3_6), (4, .int x4_1), (5, .int x5_6)] [] := by
        intro dd6
        induction dd6 using Nat.strongRecOn with
        | _ dd6 ih6 =>
          intro σ6 x3_6 x5_6 w6 h_6 hm_6
          refine go_iload (pc' := 23) dX0_raiseLows_21 rfl rfl ?_
          refine go_aload_n (i := 0) (pc' := 24) dX0_raiseLows_23 rfl rfl rfl ?_
          refine gf_3_size (pc' := 27) dX0_raiseLows_24 rfl fl_X0_20 ?_
          have g7 := ixi_4 w6.1
          refine gz_icmp_ge (tgt := 57) (pc' := 30) dX0_raiseLows_27 rfl (by decide) (fun c8 => ?_) (fun c8 => ?_)
          · refine go_aload_n (i := 0) (pc' := 58) dX0_raiseLows_57 rfl rfl rfl ?_
            refine go_iload_n (i := 1) (pc' := 59) dX0_raiseLows_58 rfl rfl rfl ?_
            refine go_cvi (pc' := 62) lk_X0_97 (c_X0_isOrdered _ _ _ _ hn w6.1) rfl rfl (Nat.le_of_ble_eq_true rfl) (by decide) rfl rfl rfl ⟨Nat.le_of_ble_eq_true rfl, Nat.le_of_ble_eq_true rfl⟩ ⟨rfl, rfl⟩ dX0_raiseLows_59 rfl (fun r9 σ9 h9 => ?_)
            have h9 := h9.symm
            subst h9
            refine gz_if_ne (tgt := 67) (pc' := 65) dX0_raiseLows_62 rfl (by decide) (fun c10 => ?_) (fun c10 => ?_)
            · refine gz_iinc (c := 1) (pc' := 70) dX0_raiseLows_67 rfl rfl (by decide) (by decide) (by decide) (by omega) (fun v11 h11 e11 => ?_)
              refine go_goto (tgt := 5) dX0_raiseLows_70 (by decide) ?_
              exact go_lv (lv' := [(0, .ref (L.2.1 3)), (1, .int n), (2, .int kk), (3, .int x3_6), (4, .int v11)]) rfl (ih1 _ (by omega) σ6 x3_6 v11 w6 (by omega) rfl)
            refine go_iconst (v := 0) (pc' := 66) dX0_raiseLows_65 rfl (by decide) ?_
            exact go_zret dX0_raiseLows_66 rfl rfl (w6)
          refine go_iload_n (i := 2) (pc' := 31) dX0_raiseLows_30 rfl rfl rfl ?_
          refine go_iload (pc' := 33) dX0_raiseLows_31 rfl rfl ?_
          refine go_ishr (pc' := 34) dX0_raiseLows_33 rfl ?_
          refine go_iconst (v := 1) (pc' := 35) dX0_raiseLows_34 rfl (by decide) ?_
          refine go_iand (pc' := 36) dX0_raiseLows_35 rfl ?_
          refine go_iconst (v := 1) (pc' := 37) dX0_raiseLows_36 rfl (by decide) ?_
          refine gz_icmp_ne (tgt := 51) (pc' := 40) dX0_raiseLows_37 rfl (by decide) (fun c12 => ?_) (fun c12 => ?_)
          · refine gz_iinc (c := 1) (pc' := 54) dX0_raiseLows_51 rfl rfl (by decide) (by decide) (by decide) (by omega) (fun v13 h13 e13 => ?_)
            refine go_goto (tgt := 21) dX0_raiseLows_54 (by decide) ?_
            exact go_lv (lv' := [(0, .ref (L.2.1 3)), (1, .int n), (2, .int kk), (3, .int x3_6), (4, .int x4_1), (5, .int v13)]) rfl (ih6 _ (by omega) σ6 x3_6 v13 w6 (by omega) rfl)
          refine go_aload_n (i := 0) (pc' := 41) dX0_raiseLows_40 rfl rfl rfl ?_
          refine go_iload (pc' := 43) dX0_raiseLows_41 rfl rfl ?_
          refine go_cvi (pc' := 46) lk_X0_94 (c_X0_raiseBy _ _ _ _ (by omega) w6.1) rfl rfl (Nat.le_of_ble_eq_true rfl) (by decide) rfl rfl rfl ⟨Nat.le_of_ble_eq_true rfl, Nat.le_of_ble_eq_true rfl⟩ ⟨rfl, rfl⟩ dX0_raiseLows_43 rfl (fun r14 σ14 h14 => ?_)
          have w14 := WX_trans w6 h14
          refine gz_if_eq (tgt := 51) (pc' := 49) dX0_raiseLows_46 rfl (by decide) (fun c15 => ?_) (fun c15 => ?_)
          · refine gz_iinc (c := 1) (pc' := 54) dX0_raiseLows_51 rfl rfl (by decide) (by decide) (by decide) (by omega) (fun v16 h16 e16 => ?_)
            refine go_goto (tgt := 21) dX0_raiseLows_54 (by decide) ?_
            exact go_lv (lv' := [(0, .ref (L.2.1 3)), (1, .int n), (2, .int kk), (3, .int x3_6), (4, .int x4_1), (5, .int v16)]) rfl (ih6 _ (by omega) σ14 x3_6 v16 w14 (by omega) rfl)
          refine go_iconst (v := 1) (pc' := 50) dX0_raiseLows_49 rfl (by decide) ?_
          refine go_istore_n (i := 3) (pc' := 51) dX0_raiseLows_50 rfl rfl (by decide) ?_
          refine gz_iinc (c := 1) (pc' := 54) dX0_raiseLows_51 rfl rfl (by decide) (by decide) (by decide) (by omega) (fun v17 h17 e17 => ?_)
          refine go_goto (tgt := 21) dX0_raiseLows_54 (by decide) ?_
          exact go_lv (lv' := [(0, .ref (L.2.1 3)), (1, .int n), (2, .int kk), (3, .int (1 : Int32)), (4, .int x4_1), (5, .int v17)]) rfl (ih6 _ (by omega) σ14 (1 : Int32) v17 w14 (by omega) rfl)
      exact go_lv (lv' := [(0, .ref (L.2.1 3)), (1, .int n), (2, .int kk), (3, .int (0 : Int32)), (4, .int x4_1), (5, .int (0 : Int32))]) rfl (loop21_6 _ σ1 (0 : Int32) (0 : Int32) w1 (by omega) rfl)
  exact go_lv (lv' := [(0, .ref (L.2.1 3)), (1, .int n), (2, .int kk), (3, .int (1 : Int32)), (4, .int (0 : Int32))]) rfl (loop5_1 _ σ (1 : Int32) (0 : Int32) w0 (by omega) rfl)
set_option maxHeartbeats 4000000 in
set_option maxRecDepth 100000 in
theorem c_X0_joinFound (l : Launch) (L : WL) (σ : ST) (n : Int32) (hn : n.toInt ≤ 12) (ix : IV σ) : CtI l L yX0_joinFound cX0_joinFound 4 (some .boolean) rm_X0_joinFound [.ref (L.2.1 3), .int n] σ (fun _ σ2 => WX σ σ2) := by
  refine ctI_go (own := RX0) (by decide) rfl (Nat.le_of_ble_eq_true rfl) (fun F hF => ?_)
  subst hF
  have nm1 : (-1 : Int32).toInt = -1 := by decide
  have n0 : (0 : Int32).toInt = 0 := by decide
  have n1 : (1 : Int32).toInt = 1 := by decide
  have w0 : WX σ σ := WX_rfl ix
  refine go_iconst (v := 0) (pc' := 1) dX0_joinFound_0 rfl (by decide) ?_
  refine go_istore_n (i := 2) (pc' := 2) dX0_joinFound_1 rfl rfl (by decide) ?_
  have loop2_1 : ∀ (dd1 : Nat) (σ1 : ST) (x2_1 : Int32), WX σ σ1 → (0 ≤ (x2_1).toInt ∧ (x2_1).toInt ≤ 12) → (12 - (x2_1).toInt).toNat = dd1 → Go F L RX0 cX0_joinFound 4 rm_X0_joinFound (some .boolean) (RI F L (fun _ σ2 => WX σ σ2)) σ1 2 [(0, .ref (L.2.1 3)), (1, .int n), (2, .int x2_1)] [] := by
    intro dd1
    induction dd1 using Nat.strongRecOn with
    | _ dd1 ih1 =>
      intro σ1 x2_1 w1 h_1 hm_1
      refine go_iload_n (i := 2) (pc' := 3) dX0_joinFound_2 rfl rfl rfl ?_
      refine go_iload_n (i := 1) (pc' := 4) dX0_joinFound_3 rfl rfl rfl ?_
      refine gz_icmp_ge (tgt := 114) (pc' := 7) dX0_joinFound_4 rfl (by decide) (fun c2 => ?_) (fun c2 => ?_)
      · refine go_iconst (v := 0) (pc' := 115) dX0_joinFound_114 rfl (by decide) ?_
        refine go_istore_n (i := 2) (pc' := 116) dX0_joinFound_115 rfl rfl (by decide) ?_
        have loop116_3 : ∀ (dd3 : Nat) (σ3 : ST) (x2_3 : Int32), WX σ σ3 → (0 ≤ (x2_3).toInt ∧ (x2_3).toInt ≤ 12) → (12 - (x2_3).toInt).toNat = dd3 → Go F L RX0 cX0_joinFound 4 rm_X0_joinFound (some .boolean) (RI F L (fun _ σ2 => WX σ σ2)) σ3 116 [(0, .ref (L.2.1 3)), (1, .int n), (2, .int x2_3)] [] := by
          intro dd3
          induction dd3 using Nat.strongRecOn with
          | _ dd3 ih3 =>
            intro σ3 x2_3 w3 h_3 hm_3
            refine go_iload_n (i := 2) (pc' := 117) dX0_joinFound_116 rfl rfl rfl ?_
            refine go_iload_n (i := 1) (pc' := 118) dX0_joinFound_117 rfl rfl rfl ?_
            refine gz_icmp_ge (tgt := 169) (pc' := 121) dX0_joinFound_118 rfl (by decide) (fun c4 => ?_) (fun c4 => ?_)
            · refine go_iconst (v := 1) (pc' := 170) dX0_joinFound_169 rfl (by decide) ?_
              exact go_zret dX0_joinFound_170 rfl rfl (w3)
            refine go_aload_n (i := 0) (pc' := 122) dX0_joinFound_121 rfl rfl rfl ?_
            refine gf_3_lows (pc' := 125) dX0_joinFound_122 rfl fl_X0_11 ?_
            refine go_iload_n (i := 2) (pc' := 126) dX0_joinFound_125 rfl rfl rfl ?_
            refine go_aload_n (i := 0) (pc' := 127) dX0_joinFound_126 rfl rfl rfl ?_
            refine gf_3_lows (pc' := 130) dX0_joinFound_127 rfl fl_X0_11 ?_
            refine go_iload_n (i := 2) (pc' := 131) dX0_joinFound_130 rfl rfl rfl ?_
            refine go_iald (pc' := 132) dX0_joinFound_131 rfl (by decide) (by decide) rfl (vin_of (n := 12) (by omega) (by omega)) ?_
            refine go_aload_n (i := 0) (pc' := 133) dX0_joinFound_132 rfl rfl rfl ?_
            refine gf_3_weekdays (pc' := 136) dX0_joinFound_133 rfl fl_X0_36 ?_
            refine go_iload_n (i := 2) (pc' := 137) dX0_joinFound_136 rfl rfl rfl ?_
            refine go_iald (pc' := 138) dX0_joinFound_137 rfl (by decide) (by decide) rfl (vin_of (n := 12) (by omega) (by omega)) ?_
            refine go_csi (pc' := 141) ls_X0_88 (c_X0_dayFrom _ _ _ _ _) rfl rfl (Nat.le_of_ble_eq_true rfl) ⟨Nat.le_of_ble_eq_true rfl, Nat.le_of_ble_eq_true rfl⟩ ⟨rfl, rfl⟩ dX0_joinFound_138 rfl (fun r5 σ5 h5 => ?_)
            have h5 := h5.symm
            subst h5
            refine go_iast (pc' := 142) dX0_joinFound_141 rfl (by decide) (by decide) rfl (vin_of (n := 12) (by omega) (by omega)) ?_
            refine go_gen (P := WX σ) ⟨ixt_n w3.1 (by decide), Ag_setA w3.2 (by decide)⟩ (fun σ6 w6 => ?_)
            refine go_aload_n (i := 0) (pc' := 143) dX0_joinFound_142 rfl rfl rfl ?_
            refine gf_3_highs (pc' := 146) dX0_joinFound_143 rfl fl_X0_17 ?_
            refine go_iload_n (i := 2) (pc' := 147) dX0_joinFound_146 rfl rfl rfl ?_
            refine go_aload_n (i := 0) (pc' := 148) dX0_joinFound_147 rfl rfl rfl ?_
            refine gf_3_highs (pc' := 151) dX0_joinFound_148 rfl fl_X0_17 ?_
            refine go_iload_n (i := 2) (pc' := 152) dX0_joinFound_151 rfl rfl rfl ?_
            refine go_iald (pc' := 153) dX0_joinFound_152 rfl (by decide) (by decide) rfl (vin_of (n := 12) (by omega) (by omega)) ?_
            refine go_aload_n (i := 0) (pc' := 154) dX0_joinFound_153 rfl rfl rfl ?_
            refine gf_3_weekdays (pc' := 157) dX0_joinFound_154 rfl fl_X0_36 ?_
            refine go_iload_n (i := 2) (pc' := 158) dX0_joinFound_157 rfl rfl rfl ?_
            refine go_iald (pc' := 159) dX0_joinFound_158 rfl (by decide) (by decide) rfl (vin_of (n := 12) (by omega) (by omega)) ?_
            refine go_csi (pc' := 162) ls_X0_91 (c_X0_dayUpTo _ _ _ _ _) rfl rfl (Nat.le_of_ble_eq_true rfl) ⟨Nat.le_of_ble_eq_true rfl, Nat.le_of_ble_eq_true rfl⟩ ⟨rfl, rfl⟩ dX0_joinFound_159 rfl (fun r7 σ7 h7 => ?_)
            have h7 := h7.symm
            subst h7
            refine go_iast (pc' := 163) dX0_joinFound_162 rfl (by decide) (by decide) rfl (vin_of (n := 12) (by omega) (by omega)) ?_
            refine go_gen (P := WX σ) ⟨ixt_n w6.1 (by decide), Ag_setA w6.2 (by decide)⟩ (fun σ8 w8 => ?_)
            refine gz_iinc (c := 1) (pc' := 166) dX0_joinFound_163 rfl rfl (by decide) (by decide) (by decide) (by omega) (fun v9 h9 e9 => ?_)
            refine go_goto (tgt := 116) dX0_joinFound_166 (by decide) ?_
            exact go_lv (lv' := [(0, .ref (L.2.1 3)), (1, .int n), (2, .int v9)]) rfl (ih3 _ (by omega) σ8 v9 w8 (by omega) rfl)
        exact go_lv (lv' := [(0, .ref (L.2.1 3)), (1, .int n), (2, .int (0 : Int32))]) rfl (loop116_3 _ σ1 (0 : Int32) w1 (by omega) rfl)
      refine go_aload_n (i := 0) (pc' := 8) dX0_joinFound_7 rfl rfl rfl ?_
      refine gf_3_roots (pc' := 11) dX0_joinFound_8 rfl fl_X0_33 ?_
      refine go_iload_n (i := 2) (pc' := 12) dX0_joinFound_11 rfl rfl rfl ?_
      refine go_iald (pc' := 13) dX0_joinFound_12 rfl (by decide) (by decide) rfl (vin_of (n := 12) (by omega) (by omega)) ?_
      refine go_rngA (ixa_38 w1.1) (vinlt (vin_of (n := 12) (by omega) (by omega))) (fun g10 => ?_)
      refine go_topz (fun y11 h11 e11 => ?_)
      refine go_istore_n (i := 3) (pc' := 14) dX0_joinFound_13 rfl rfl (by decide) ?_
      refine go_aload_n (i := 0) (pc' := 15) dX0_joinFound_14 rfl rfl rfl ?_
      refine gf_3_lows (pc' := 18) dX0_joinFound_15 rfl fl_X0_11 ?_
      refine go_iload_n (i := 3) (pc' := 19) dX0_joinFound_18 rfl rfl rfl ?_
      refine go_aload_n (i := 0) (pc' := 20) dX0_joinFound_19 rfl rfl rfl ?_
      refine gf_3_lows (pc' := 23) dX0_joinFound_20 rfl fl_X0_11 ?_
      refine go_iload_n (i := 3) (pc' := 24) dX0_joinFound_23 rfl rfl rfl ?_
      refine go_iald (pc' := 25) dX0_joinFound_24 rfl (by decide) (by decide) rfl (vin_of (n := 12) (by omega) (by omega)) ?_
      refine go_aload_n (i := 0) (pc' := 26) dX0_joinFound_25 rfl rfl rfl ?_
      refine gf_3_lows (pc' := 29) dX0_joinFound_26 rfl fl_X0_11 ?_
      refine go_iload_n (i := 2) (pc' := 30) dX0_joinFound_29 rfl rfl rfl ?_
      refine go_iald (pc' := 31) dX0_joinFound_30 rfl (by decide) (by decide) rfl (vin_of (n := 12) (by omega) (by omega)) ?_
      refine gz_max (pc' := 34) dX0_joinFound_31 rfl ml_X0_57 (Nat.le_of_ble_eq_true rfl) (Nat.le_of_ble_eq_true rfl) (fun v12 h12 e12 => ?_)
      refine go_iast (pc' := 35) dX0_joinFound_34 rfl (by decide) (by decide) rfl (vin_of (n := 12) (by omega) (by omega)) ?_
      refine go_gen (P := WX σ) ⟨ixt_n w1.1 (by decide), Ag_setA w1.2 (by decide)⟩ (fun σ13 w13 => ?_)
      refine go_aload_n (i := 0) (pc' := 36) dX0_joinFound_35 rfl rfl rfl ?_
      refine gf_3_highs (pc' := 39) dX0_joinFound_36 rfl fl_X0_17 ?_
      refine go_iload_n (i := 3) (pc' := 40) dX0_joinFound_39 rfl rfl rfl ?_
      refine go_aload_n (i := 0) (pc' := 41) dX0_joinFound_40 rfl rfl rfl ?_
      refine gf_3_highs (pc' := 44) dX0_joinFound_41 rfl fl_X0_17 ?_
      refine go_iload_n (i := 3) (pc' := 45) dX0_joinFound_44 rfl rfl rfl ?_
      refine go_iald (pc' := 46) dX0_joinFound_45 rfl (by decide) (by decide) rfl (vin_of (n := 12) (by omega) (by omega)) ?_
      refine go_aload_n (i := 0) (pc' := 47) dX0_joinFound_46 rfl rfl rfl ?_
      refine gf_3_highs (pc' := 50) dX0_joinFound_47 rfl fl_X0_17 ?_
      refine go_iload_n (i := 2) (pc' := 51) dX0_joinFound_50 rfl rfl rfl ?_
      refine go_iald (pc' := 52) dX0_joinFound_51 rfl (by decide) (by decide) rfl (vin_of (n := 12) (by omega) (by omega)) ?_
      refine gz_min (pc' := 55) dX0_joinFound_52 rfl ml_X0_85 (Nat.le_of_ble_eq_true rfl) (Nat.le_of_ble_eq_true rfl) (fun v14 h14 e14 => ?_)
      refine go_iast (pc' := 56) dX0_joinFound_55 rfl (by decide) (by decide) rfl (vin_of (n := 12) (by omega) (by omega)) ?_
      refine go_gen (P := WX σ) ⟨ixt_n w13.1 (by decide), Ag_setA w13.2 (by decide)⟩ (fun σ15 w15 => ?_)
      refine go_aload_n (i := 0) (pc' := 57) dX0_joinFound_56 rfl rfl rfl ?_
      refine gf_3_weekdays (pc' := 60) dX0_joinFound_57 rfl fl_X0_36 ?_
      refine go_iload_n (i := 3) (pc' := 61) dX0_joinFound_60 rfl rfl rfl ?_
      refine go_iald (pc' := 62) dX0_joinFound_61 rfl (by decide) (by decide) rfl (vin_of (n := 12) (by omega) (by omega)) ?_
      refine go_iconst (v := (-1)) (pc' := 63) dX0_joinFound_62 rfl (by decide) ?_
      refine gz_icmp_ne (tgt := 81) (pc' := 66) dX0_joinFound_63 rfl (by decide) (fun c16 => ?_) (fun c16 => ?_)
      · refine go_aload_n (i := 0) (pc' := 82) dX0_joinFound_81 rfl rfl rfl ?_
        refine gf_3_weekdays (pc' := 85) dX0_joinFound_82 rfl fl_X0_36 ?_
        refine go_iload_n (i := 2) (pc' := 86) dX0_joinFound_85 rfl rfl rfl ?_
        refine go_iald (pc' := 87) dX0_joinFound_86 rfl (by decide) (by decide) rfl (vin_of (n := 12) (by omega) (by omega)) ?_
        refine go_iconst (v := (-1)) (pc' := 88) dX0_joinFound_87 rfl (by decide) ?_
        refine gz_icmp_eq (tgt := 108) (pc' := 91) dX0_joinFound_88 rfl (by decide) (fun c17 => ?_) (fun c17 => ?_)
        · refine gz_iinc (c := 1) (pc' := 111) dX0_joinFound_108 rfl rfl (by decide) (by decide) (by decide) (by omega) (fun v18 h18 e18 => ?_)
          refine go_goto (tgt := 2) dX0_joinFound_111 (by decide) ?_
          exact go_lv (lv' := [(0, .ref (L.2.1 3)), (1, .int n), (2, .int v18)]) rfl (ih1 _ (by omega) σ15 v18 w15 (by omega) rfl)
        refine go_aload_n (i := 0) (pc' := 92) dX0_joinFound_91 rfl rfl rfl ?_
        refine gf_3_weekdays (pc' := 95) dX0_joinFound_92 rfl fl_X0_36 ?_
        refine go_iload_n (i := 2) (pc' := 96) dX0_joinFound_95 rfl rfl rfl ?_
        refine go_iald (pc' := 97) dX0_joinFound_96 rfl (by decide) (by decide) rfl (vin_of (n := 12) (by omega) (by omega)) ?_
        refine go_aload_n (i := 0) (pc' := 98) dX0_joinFound_97 rfl rfl rfl ?_
        refine gf_3_weekdays (pc' := 101) dX0_joinFound_98 rfl fl_X0_36 ?_
        refine go_iload_n (i := 3) (pc' := 102) dX0_joinFound_101 rfl rfl rfl ?_
        refine go_iald (pc' := 103) dX0_joinFound_102 rfl (by decide) (by decide) rfl (vin_of (n := 12) (by omega) (by omega)) ?_
        refine gz_icmp_eq (tgt := 108) (pc' := 106) dX0_joinFound_103 rfl (by decide) (fun c19 => ?_) (fun c19 => ?_)
        · refine gz_iinc (c := 1) (pc' := 111) dX0_joinFound_108 rfl rfl (by decide) (by decide) (by decide) (by omega) (fun v20 h20 e20 => ?_)
          refine go_goto (tgt := 2) dX0_joinFound_111 (by decide) ?_
          exact go_lv (lv' := [(0, .ref (L.2.1 3)), (1, .int n), (2, .int v20)]) rfl (ih1 _ (by omega) σ15 v20 w15 (by omega) rfl)
        refine go_iconst (v := 0) (pc' := 107) dX0_joinFound_106 rfl (by decide) ?_
        exact go_zret dX0_joinFound_107 rfl rfl (w15)
      refine go_aload_n (i := 0) (pc' := 67) dX0_joinFound_66 rfl rfl rfl ?_
      refine gf_3_weekdays (pc' := 70) dX0_joinFound_67 rfl fl_X0_36 ?_
      refine go_iload_n (i := 3) (pc' := 71) dX0_joinFound_70 rfl rfl rfl ?_
      refine go_aload_n (i := 0) (pc' := 72) dX0_joinFound_71 rfl rfl rfl ?_
      refine gf_3_weekdays (pc' := 75) dX0_joinFound_72 rfl fl_X0_36 ?_
      refine go_iload_n (i := 2) (pc' := 76) dX0_joinFound_75 rfl rfl rfl ?_
      refine go_iald (pc' := 77) dX0_joinFound_76 rfl (by decide) (by decide) rfl (vin_of (n := 12) (by omega) (by omega)) ?_
      refine go_iast (pc' := 78) dX0_joinFound_77 rfl (by decide) (by decide) rfl (vin_of (n := 12) (by omega) (by omega)) ?_
      refine go_gen (P := WX σ) ⟨ixt_n w15.1 (by decide), Ag_setA w15.2 (by decide)⟩ (fun σ21 w21 => ?_)
      refine go_goto (tgt := 108) dX0_joinFound_78 (by decide) ?_
      refine gz_iinc (c := 1) (pc' := 111) dX0_joinFound_108 rfl rfl (by decide) (by decide) (by decide) (by omega) (fun v22 h22 e22 => ?_)
      refine go_goto (tgt := 2) dX0_joinFound_111 (by decide) ?_
      exact go_lv (lv' := [(0, .ref (L.2.1 3)), (1, .int n), (2, .int v22)]) rfl (ih1 _ (by omega) σ21 v22 w21 (by omega) rfl)
  exact go_lv (lv' := [(0, .ref (L.2.1 3)), (1, .int n), (2, .int (0 : Int32))]) rfl (loop2_1 _ σ (0 : Int32) w0 (by omega) rfl)
set_option maxHeartbeats 4000000 in
set_option maxRecDepth 100000 in
theorem c_X0_isPossible (l : Launch) (L : WL) (σ : ST) (kk : Int32) (ix : IV σ) : CtI l L yX0_isPossible cX0_isPossible 4 (some .boolean) rm_X0_isPossible [.ref (L.2.1 3), .ref (L.2.1 2), .int kk] σ (fun _ σ2 => WX σ σ2) := by
  refine ctI_go (own := RX0) (by decide) rfl (Nat.le_of_ble_eq_true rfl) (fun F hF => ?_)
  subst hF
  have nm1 : (-1 : Int32).toInt = -1 := by decide
  have n0 : (0 : Int32).toInt = 0 := by decide
  have n1 : (1 : Int32).toInt = 1 := by decide
  have w0 : WX σ σ := WX_rfl ix
  refine go_iconst (v := 0) (pc' := 1) dX0_isPossible_0 rfl (by decide) ?_
  refine go_istore_n (i := 3) (pc' := 2) dX0_isPossible_1 rfl rfl (by decide) ?_
  have loop2_1 : ∀ (dd1 : Nat) (σ1 : ST) (x3_1 : Int32), WX σ σ1 → (0 ≤ (x3_1).toInt ∧ (x3_1).toInt ≤ 12) → (12 - (x3_1).toInt).toNat = dd1 → Go F L RX0 cX0_isPossible 4 rm_X0_isPossible (some .boolean) (RI F L (fun _ σ2 => WX σ σ2)) σ1 2 [(0, .ref (L.2.1 3)), (1, .ref (L.2.1 2)), (2, .int kk), (3, .int x3_1)] [] := by
    intro dd1
    induction dd1 using Nat.strongRecOn with
    | _ dd1 ih1 =>
      intro σ1 x3_1 w1 h_1 hm_1
      refine go_iload_n (i := 3) (pc' := 3) dX0_isPossible_2 rfl rfl rfl ?_
      refine go_aload_n (i := 1) (pc' := 4) dX0_isPossible_3 rfl rfl rfl ?_
      refine gf_2_size (pc' := 7) dX0_isPossible_4 rfl fl_X0_55 ?_
      have g2 := ixi_3 w1.1
      refine gz_icmp_ge (tgt := 78) (pc' := 10) dX0_isPossible_7 rfl (by decide) (fun c3 => ?_) (fun c3 => ?_)
      · refine go_aload_n (i := 0) (pc' := 79) dX0_isPossible_78 rfl rfl rfl ?_
        refine go_aload_n (i := 1) (pc' := 80) dX0_isPossible_79 rfl rfl rfl ?_
        refine gf_2_size (pc' := 83) dX0_isPossible_80 rfl fl_X0_55 ?_
        have g4 := ixi_3 w1.1
        refine go_cvi (pc' := 86) lk_X0_77 (c_X0_joinFound _ _ _ _ (by omega) w1.1) rfl rfl (Nat.le_of_ble_eq_true rfl) (by decide) rfl rfl rfl ⟨Nat.le_of_ble_eq_true rfl, Nat.le_of_ble_eq_true rfl⟩ ⟨rfl, rfl⟩ dX0_isPossible_83 rfl (fun r5 σ5 h5 => ?_)
        have w5 := WX_trans w1 h5
        refine gz_if_eq (tgt := 105) (pc' := 89) dX0_isPossible_86 rfl (by decide) (fun c6 => ?_) (fun c6 => ?_)
        · refine go_iconst (v := 0) (pc' := 106) dX0_isPossible_105 rfl (by decide) ?_
          exact go_zret dX0_isPossible_106 rfl rfl (w5)
        refine go_aload_n (i := 0) (pc' := 90) dX0_isPossible_89 rfl rfl rfl ?_
        refine go_aload_n (i := 1) (pc' := 91) dX0_isPossible_90 rfl rfl rfl ?_
        refine gf_2_size (pc' := 94) dX0_isPossible_91 rfl fl_X0_55 ?_
        have g7 := ixi_3 w5.1
        refine go_iload_n (i := 2) (pc' := 95) dX0_isPossible_94 rfl rfl rfl ?_
        refine go_cvi (pc' := 98) lk_X0_81 (c_X0_raiseLows _ _ _ _ _ (by omega) w5.1) rfl rfl (Nat.le_of_ble_eq_true rfl) (by decide) rfl rfl rfl ⟨Nat.le_of_ble_eq_true rfl, Nat.le_of_ble_eq_true rfl⟩ ⟨rfl, rfl⟩ dX0_isPossible_95 rfl (fun r8 σ8 h8 => ?_)
        have w8 := WX_trans w5 h8
        refine gz_if_eq (tgt := 105) (pc' := 101) dX0_isPossible_98 rfl (by decide) (fun c9 => ?_) (fun c9 => ?_)
        · refine go_iconst (v := 0) (pc' := 106) dX0_isPossible_105 rfl (by decide) ?_
          exact go_zret dX0_isPossible_106 rfl rfl (w8)
        refine go_iconst (v := 1) (pc' := 102) dX0_isPossible_101 rfl (by decide) ?_
        refine go_goto (tgt := 106) dX0_isPossible_102 (by decide) ?_
        exact go_zret dX0_isPossible_106 rfl rfl (w8)
      refine go_aload_n (i := 0) (pc' := 11) dX0_isPossible_10 rfl rfl rfl ?_
      refine gf_3_roots (pc' := 14) dX0_isPossible_11 rfl fl_X0_33 ?_
      refine go_iload_n (i := 3) (pc' := 15) dX0_isPossible_14 rfl rfl rfl ?_
      refine go_aload_n (i := 1) (pc' := 16) dX0_isPossible_15 rfl rfl rfl ?_
      refine gf_2_founds (pc' := 19) dX0_isPossible_16 rfl fl_X0_67 ?_
      refine go_iload_n (i := 3) (pc' := 20) dX0_isPossible_19 rfl rfl rfl ?_
      refine go_iald (pc' := 21) dX0_isPossible_20 rfl (by decide) (by decide) rfl (vin_of (n := 12) (by omega) (by omega)) ?_
      refine go_rngA (ixa_31 w1.1) (vinlt (vin_of (n := 12) (by omega) (by omega))) (fun g10 => ?_)
      refine go_iconst (v := (-1)) (pc' := 22) dX0_isPossible_21 rfl (by decide) ?_
      have mrg35_11 : ∀ (y0_11 : Int32), (0 ≤ (y0_11).toInt ∧ (y0_11).toInt ≤ 11) → Go F L RX0 cX0_isPossible 4 rm_X0_isPossible (some .boolean) (RI F L (fun _ σ2 => WX σ σ2)) σ1 35 [(0, .ref (L.2.1 3)), (1, .ref (L.2.1 2)), (2, .int kk), (3, .int x3_1)] [.int y0_11, .int x3_1, .ref (L.2.1 38)] := by
        intro y0_11 hy_11
        refine go_iast (pc' := 36) dX0_isPossible_35 rfl (by decide) (by decide) rfl (vin_of (n := 12) (by omega) (by omega)) ?_
        refine go_gen (P := WX σ) ⟨ixt_38 w1.1 (by omega) (by omega), Ag_setA w1.2 (by decide)⟩ (fun σ12 w12 => ?_)
        refine go_aload_n (i := 0) (pc' := 37) dX0_isPossible_36 rfl rfl rfl ?_
        refine gf_3_lows (pc' := 40) dX0_isPossible_37 rfl fl_X0_11 ?_
        refine go_iload_n (i := 3) (pc' := 41) dX0_isPossible_40 rfl rfl rfl ?_
        refine go_aload_n (i := 1) (pc' := 42) dX0_isPossible_41 rfl rfl rfl ?_
        refine gf_2_leasts (pc' := 45) dX0_isPossible_42 rfl fl_X0_70 ?_
        refine go_iload_n (i := 3) (pc' := 46) dX0_isPossible_45 rfl rfl rfl ?_
        refine go_iald (pc' := 47) dX0_isPossible_46 rfl (by decide) (by decide) rfl (vin_of (n := 12) (by omega) (by omega)) ?_
        refine go_rngA (ixa_28 w12.1) (vinlt (vin_of (n := 12) (by omega) (by omega))) (fun g13 => ?_)
        refine go_iast (pc' := 48) dX0_isPossible_47 rfl (by decide) (by decide) rfl (vin_of (n := 12) (by omega) (by omega)) ?_
        refine go_gen (P := WX σ) ⟨ixt_n w12.1 (by decide), Ag_setA w12.2 (by decide)⟩ (fun σ14 w14 => ?_)
        refine go_aload_n (i := 0) (pc' := 49) dX0_isPossible_48 rfl rfl rfl ?_
        refine gf_3_highs (pc' := 52) dX0_isPossible_49 rfl fl_X0_17 ?_
        refine go_iload_n (i := 3) (pc' := 53) dX0_isPossible_52 rfl rfl rfl ?_
        refine go_aload_n (i := 1) (pc' := 54) dX0_isPossible_53 rfl rfl rfl ?_
        refine gf_2_greatests (pc' := 57) dX0_isPossible_54 rfl fl_X0_73 ?_
        refine go_iload_n (i := 3) (pc' := 58) dX0_isPossible_57 rfl rfl rfl ?_
        refine go_iald (pc' := 59) dX0_isPossible_58 rfl (by decide) (by decide) rfl (vin_of (n := 12) (by omega) (by omega)) ?_
        refine go_rngA (ixa_29 w14.1) (vinlt (vin_of (n := 12) (by omega) (by omega))) (fun g15 => ?_)
        refine go_iast (pc' := 60) dX0_isPossible_59 rfl (by decide) (by decide) rfl (vin_of (n := 12) (by omega) (by omega)) ?_
        refine go_gen (P := WX σ) ⟨ixt_n w14.1 (by decide), Ag_setA w14.2 (by decide)⟩ (fun σ16 w16 => ?_)
        refine go_aload_n (i := 0) (pc' := 61) dX0_isPossible_60 rfl rfl rfl ?_
        refine gf_3_weekdays (pc' := 64) dX0_isPossible_61 rfl fl_X0_36 ?_
        refine go_iload_n (i := 3) (pc' := 65) dX0_isPossible_64 rfl rfl rfl ?_
        refine go_aload_n (i := 1) (pc' := 66) dX0_isPossible_65 rfl rfl rfl ?_
        refine gf_2_weekdays (pc' := 69) dX0_isPossible_66 rfl fl_X0_76 ?_
        refine go_iload_n (i := 3) (pc' := 70) dX0_isPossible_69 rfl rfl rfl ?_
        refine go_iald (pc' := 71) dX0_isPossible_70 rfl (by decide) (by decide) rfl (vin_of (n := 12) (by omega) (by omega)) ?_
        refine go_rngA (ixa_30 w16.1) (vinlt (vin_of (n := 12) (by omega) (by omega))) (fun g17 => ?_)
        refine go_iast (pc' := 72) dX0_isPossible_71 rfl (by decide) (by decide) rfl (vin_of (n := 12) (by omega) (by omega)) ?_
        refine go_gen (P := WX σ) ⟨ixt_n w16.1 (by decide), Ag_setA w16.2 (by decide)⟩ (fun σ18 w18 => ?_)
        refine gz_iinc (c := 1) (pc' := 75) dX0_isPossible_72 rfl rfl (by decide) (by decide) (by decide) (by omega) (fun v19 h19 e19 => ?_)
        refine go_goto (tgt := 2) dX0_isPossible_75 (by decide) ?_
        exact go_lv (lv' := [(0, .ref (L.2.1 3)), (1, .ref (L.2.1 2)), (2, .int kk), (3, .int v19)]) rfl (ih1 _ (by omega) σ18 v19 w18 (by omega) rfl)
      refine gz_icmp_ne (tgt := 29) (pc' := 25) dX0_isPossible_22 rfl (by decide) (fun c20 => ?_) (fun c20 => ?_)
      · refine go_aload_n (i := 1) (pc' := 30) dX0_isPossible_29 rfl rfl rfl ?_
        refine gf_2_founds (pc' := 33) dX0_isPossible_30 rfl fl_X0_67 ?_
        refine go_iload_n (i := 3) (pc' := 34) dX0_isPossible_33 rfl rfl rfl ?_
        refine go_iald (pc' := 35) dX0_isPossible_34 rfl (by decide) (by decide) rfl (vin_of (n := 12) (by omega) (by omega)) ?_
        refine go_rngA (ixa_31 w1.1) (vinlt (vin_of (n := 12) (by omega) (by omega))) (fun g21 => ?_)
        exact go_lv (lv' := [(0, .ref (L.2.1 3)), (1, .ref (L.2.1 2)), (2, .int kk), (3, .int x3_1)]) rfl (mrg35_11  (σ1.2 31 (x3_1).toNatClampNeg) (by omega))
      refine go_iload_n (i := 3) (pc' := 26) dX0_isPossible_25 rfl rfl rfl ?_
      refine go_goto (tgt := 35) dX0_isPossible_26 (by decide) ?_
      exact go_lv (lv' := [(0, .ref (L.2.1 3)), (1, .ref (L.2.1 2)), (2, .int kk), (3, .int x3_1)]) rfl (mrg35_11  x3_1 (by omega))
  exact go_lv (lv' := [(0, .ref (L.2.1 3)), (1, .ref (L.2.1 2)), (2, .int kk), (3, .int (0 : Int32))]) rfl (loop2_1 _ σ (0 : Int32) w0 (by omega) rfl)
set_option maxHeartbeats 4000000 in
set_option maxRecDepth 100000 in
theorem c_X0_sinkHighs (l : Launch) (L : WL) (σ : ST)  (ix : IV σ) : CtV l L yX0_sinkHighs cX0_sinkHighs 4 none rm_X0_sinkHighs [.ref (L.2.1 3)] σ (fun σ2 => WX σ σ2) := by
  refine ctV_go (own := RX0) (by decide) rfl (Nat.le_of_ble_eq_true rfl) (fun F hF => ?_)
  subst hF
  have n0 : (0 : Int32).toInt = 0 := by decide
  have n1 : (1 : Int32).toInt = 1 := by decide
  have n50 : (50 : Int32).toInt = 50 := by decide
  have w0 : WX σ σ := WX_rfl ix
  refine go_iconst (v := 1) (pc' := 1) dX0_sinkHighs_0 rfl (by decide) ?_
  refine go_istore_n (i := 1) (pc' := 2) dX0_sinkHighs_1 rfl rfl (by decide) ?_
  refine go_iconst (v := 0) (pc' := 3) dX0_sinkHighs_2 rfl (by decide) ?_
  refine go_istore_n (i := 2) (pc' := 4) dX0_sinkHighs_3 rfl rfl (by decide) ?_
  have loop4_1 : ∀ (dd1 : Nat) (σ1 : ST) (x1_1 : Int32) (x2_1 : Int32), WX σ σ1 → (0 ≤ (x2_1).toInt ∧ (x2_1).toInt ≤ 50) → (50 - (x2_1).toInt).toNat = dd1 → Go F L RX0 cX0_sinkHighs 4 rm_X0_sinkHighs none (RV F L (fun σ2 => WX σ σ2)) σ1 4 [(0, .ref (L.2.1 3)), (1, .int x1_1), (2, .int x2_1)] [] := by
    intro dd1
    induction dd1 using Nat.strongRecOn with
    | _ dd1 ih1 =>
      intro σ1 x1_1 x2_1 w1 h_1 hm_1
      refine go_iload_n (i := 2) (pc' := 5) dX0_sinkHighs_4 rfl rfl rfl ?_
      refine go_bipush (v := 50) (pc' := 7) dX0_sinkHighs_5 rfl (by decide) ?_
      refine gz_icmp_ge (tgt := 48) (pc' := 10) dX0_sinkHighs_7 rfl (by decide) (fun c2 => ?_) (fun c2 => ?_)
      · exact go_vret dX0_sinkHighs_48 rfl (w1)
      refine go_iload_n (i := 1) (pc' := 11) dX0_sinkHighs_10 rfl rfl rfl ?_
      refine gz_if_eq (tgt := 48) (pc' := 14) dX0_sinkHighs_11 rfl (by decide) (fun c3 => ?_) (fun c3 => ?_)
      · exact go_vret dX0_sinkHighs_48 rfl (w1)
      refine go_iconst (v := 0) (pc' := 15) dX0_sinkHighs_14 rfl (by decide) ?_
      refine go_istore_n (i := 1) (pc' := 16) dX0_sinkHighs_15 rfl rfl (by decide) ?_
      refine go_iconst (v := 0) (pc' := 17) dX0_sinkHighs_16 rfl (by decide) ?_
      refine go_istore_n (i := 3) (pc' := 18) dX0_sinkHighs_17 rfl rfl (by decide) ?_
      have loop18_4 : ∀ (dd4 : Nat) (σ4 : ST) (x1_4 : Int32) (x3_4 : Int32), WX σ σ4 → (0 ≤ (x3_4).toInt ∧ (x3_4).toInt ≤ 20) → (20 - (x3_4).toInt).toNat = dd4 → Go F L RX0 cX0_sinkHighs 4 rm_X0_sinkHighs none (RV F L (fun σ2 => WX σ σ2)) σ4 18 [(0, .ref (L.2.1 3)), (1, .int x1_4), (2, .int x2_1), (3, .int x3_4)] [] := by
        intro dd4
        induction dd4 using Nat.strongRecOn with
        | _ dd4 ih4 =>
          intro σ4 x1_4 x3_4 w4 h_4 hm_4
          refine go_iload_n (i := 3) (pc' := 19) dX0_sinkHighs_18 rfl rfl rfl ?_
          refine go_aload_n (i := 0) (pc' := 20) dX0_sinkHighs_19 rfl rfl rfl ?_
          refine gf_3_size (pc' := 23) dX0_sinkHighs_20 rfl fl_X0_20 ?_
          have g5 := ixi_4 w4.1
          refine gz_icmp_ge (tgt := 42) (pc' := 26) dX0_sinkHighs_23 rfl (by decide) (fun c6 => ?_) (fun c6 => ?_)
          · refine gz_iinc (c := 1) (pc' := 45) dX0_sinkHighs_42 rfl rfl (by decide) (by decide) (by decide) (by omega) (fun v7 h7 e7 => ?_)
            refine go_goto (tgt := 4) dX0_sinkHighs_45 (by decide) ?_
            exact go_lv (lv' := [(0, .ref (L.2.1 3)), (1, .int x1_4), (2, .int v7)]) rfl (ih1 _ (by omega) σ4 x1_4 v7 w4 (by omega) rfl)
          refine go_aload_n (i := 0) (pc' := 27) dX0_sinkHighs_26 rfl rfl rfl ?_
          refine go_iload_n (i := 3) (pc' := 28) dX0_sinkHighs_27 rfl rfl rfl ?_
          refine go_cvi (pc' := 31) lk_X0_100 (c_X0_sinkBy _ _ _ _ (by omega) w4.1) rfl rfl (Nat.le_of_ble_eq_true rfl) (by decide) rfl rfl rfl ⟨Nat.le_of_ble_eq_true rfl, Nat.le_of_ble_eq_true rfl⟩ ⟨rfl, rfl⟩ dX0_sinkHighs_28 rfl (fun r8 σ8 h8 => ?_)
          have w8 := WX_trans w4 h8
          refine gz_if_eq (tgt := 36) (pc' := 34) dX0_sinkHighs_31 rfl (by decide) (fun c9 => ?_) (fun c9 => ?_)
          · refine gz_iinc (c := 1) (pc' := 39) dX0_sinkHighs_36 rfl rfl (by decide) (by decide) (by decide) (by omega) (fun v10 h10 e10 => ?_)
            refine go_goto (tgt := 18) dX0_sinkHighs_39 (by decide) ?_
            exact go_lv (lv' := [(0, .ref (L.2.1 3)), (1, .int x1_4), (2, .int x2_1), (3, .int v10)]) rfl (ih4 _ (by omega) σ8 x1_4 v10 w8 (by omega) rfl)
          refine go_iconst (v := 1) (pc' := 35) dX0_sinkHighs_34 rfl (by decide) ?_
          refine go_istore_n (i := 1) (pc' := 36) dX0_sinkHighs_35 rfl rfl (by decide) ?_
          refine gz_iinc (c := 1) (pc' := 39) dX0_sinkHighs_36 rfl rfl (by decide) (by decide) (by decide) (by omega) (fun v11 h11 e11 => ?_)
          refine go_goto (tgt := 18) dX0_sinkHighs_39 (by decide) ?_
          exact go_lv (lv' := [(0, .ref (L.2.1 3)), (1, .int (1 : Int32)), (2, .int x2_1), (3, .int v11)]) rfl (ih4 _ (by omega) σ8 (1 : Int32) v11 w8 (by omega) rfl)
      exact go_lv (lv' := [(0, .ref (L.2.1 3)), (1, .int (0 : Int32)), (2, .int x2_1), (3, .int (0 : Int32))]) rfl (loop18_4 _ σ1 (0 : Int32) (0 : Int32) w1 (by omega) rfl)
  exact go_lv (lv' := [(0, .ref (L.2.1 3)), (1, .int (1 : Int32)), (2, .int (0 : Int32))]) rfl (loop4_1 _ σ (1 : Int32) (0 : Int32) w0 (by omega) rfl)
set_option maxHeartbeats 4000000 in
set_option maxRecDepth 100000 in
theorem b_X0_allBounds (l : Launch) (L : WL) (σ : ST)  (ix : IV σ) : CtI l L yX0_allBounds cX0_allBounds 1 (some .int) rm_X0_allBounds [.ref (L.2.1 3)] σ (fun _ σ2 => σ2 = σ) := by
  refine ctI_go (own := RX0) (by decide) rfl (Nat.le_of_ble_eq_true rfl) (fun F hF => ?_)
  subst hF
  have n1 : (1 : Int32).toInt = 1 := by decide
  have w0 : WX σ σ := WX_rfl ix
  refine go_iconst (v := 1) (pc' := 1) dX0_allBounds_0 rfl (by decide) ?_
  refine go_aload_n (i := 0) (pc' := 2) dX0_allBounds_1 rfl rfl rfl ?_
  refine gf_3_size (pc' := 5) dX0_allBounds_2 rfl fl_X0_20 ?_
  have g1 := ixi_4 w0.1
  refine go_ishl (pc' := 6) dX0_allBounds_5 rfl ?_
  refine go_iconst (v := 1) (pc' := 7) dX0_allBounds_6 rfl (by decide) ?_
  refine go_isub (pc' := 8) dX0_allBounds_7 rfl ?_
  exact go_iret dX0_allBounds_8 rfl (rfl)
set_option maxHeartbeats 4000000 in
set_option maxRecDepth 100000 in
theorem c_X0_settle (l : Launch) (L : WL) (σ : ST)  (ix : IV σ) : CtI l L yX0_settle cX0_settle 3 (some .boolean) rm_X0_settle [.ref (L.2.1 3), .ref (L.2.1 2)] σ (fun _ σ2 => WX σ σ2) := by
  refine ctI_go (own := RX0) (by decide) rfl (Nat.le_of_ble_eq_true rfl) (fun F hF => ?_)
  subst hF
  have n0 : (0 : Int32).toInt = 0 := by decide
  have n1 : (1 : Int32).toInt = 1 := by decide
  have w0 : WX σ σ := WX_rfl ix
  refine go_aload_n (i := 0) (pc' := 1) dX0_settle_0 rfl rfl rfl ?_
  refine go_aload_n (i := 1) (pc' := 2) dX0_settle_1 rfl rfl rfl ?_
  refine go_aload_n (i := 0) (pc' := 3) dX0_settle_2 rfl rfl rfl ?_
  refine go_cvi (pc' := 6) lk_X0_44 (b_X0_allBounds _ _ _ w0.1) rfl rfl (Nat.le_of_ble_eq_true rfl) (by decide) rfl rfl rfl ⟨Nat.le_of_ble_eq_true rfl, Nat.le_of_ble_eq_true rfl⟩ ⟨rfl, rfl⟩ dX0_settle_3 rfl (fun r1 σ1 h1 => ?_)
  have h1 := h1.symm
  subst h1
  refine go_cvi (pc' := 9) lk_X0_48 (c_X0_isPossible _ _ _ _ w0.1) rfl rfl (Nat.le_of_ble_eq_true rfl) (by decide) rfl rfl rfl ⟨Nat.le_of_ble_eq_true rfl, Nat.le_of_ble_eq_true rfl⟩ ⟨rfl, rfl⟩ dX0_settle_6 rfl (fun r2 σ2 h2 => ?_)
  have w2 := WX_trans w0 h2
  refine gz_if_ne (tgt := 14) (pc' := 12) dX0_settle_9 rfl (by decide) (fun c3 => ?_) (fun c3 => ?_)
  · refine go_aload_n (i := 0) (pc' := 15) dX0_settle_14 rfl rfl rfl ?_
    refine go_cvv (pc' := 18) lk_X0_52 (c_X0_sinkHighs _ _ _ w2.1) rfl rfl (Nat.le_of_ble_eq_true rfl) (by decide) rfl rfl rfl ⟨Nat.le_of_ble_eq_true rfl, Nat.le_of_ble_eq_true rfl⟩ ⟨rfl, rfl⟩ dX0_settle_15 rfl (fun σ4 h4 => ?_)
    have w4 := WX_trans w2 h4
    refine go_iconst (v := 0) (pc' := 19) dX0_settle_18 rfl (by decide) ?_
    refine go_istore_n (i := 2) (pc' := 20) dX0_settle_19 rfl rfl (by decide) ?_
    have loop20_5 : ∀ (dd5 : Nat) (σ5 : ST) (x2_5 : Int32), WX σ σ5 → (0 ≤ (x2_5).toInt ∧ (x2_5).toInt ≤ 12) → (12 - (x2_5).toInt).toNat = dd5 → Go F L RX0 cX0_settle 3 rm_X0_settle (some .boolean) (RI F L (fun _ σ2 => WX σ σ2)) σ5 20 [(0, .ref (L.2.1 3)), (1, .ref (L.2.1 2)), (2, .int x2_5)] [] := by
      intro dd5
      induction dd5 using Nat.strongRecOn with
      | _ dd5 ih5 =>
        intro σ5 x2_5 w5 h_5 hm_5
        refine go_iload_n (i := 2) (pc' := 21) dX0_settle_20 rfl rfl rfl ?_
        refine go_aload_n (i := 1) (pc' := 22) dX0_settle_21 rfl rfl rfl ?_
        refine gf_2_size (pc' := 25) dX0_settle_22 rfl fl_X0_55 ?_
        have g6 := ixi_3 w5.1
        refine gz_icmp_ge (tgt := 68) (pc' := 28) dX0_settle_25 rfl (by decide) (fun c7 => ?_) (fun c7 => ?_)
        · refine go_iconst (v := 1) (pc' := 69) dX0_settle_68 rfl (by decide) ?_
          exact go_zret dX0_settle_69 rfl rfl (w5)
        refine go_aload_n (i := 0) (pc' := 29) dX0_settle_28 rfl rfl rfl ?_
        refine gf_3_lows (pc' := 32) dX0_settle_29 rfl fl_X0_11 ?_
        refine go_iload_n (i := 2) (pc' := 33) dX0_settle_32 rfl rfl rfl ?_
        refine go_aload_n (i := 0) (pc' := 34) dX0_settle_33 rfl rfl rfl ?_
        refine gf_3_lows (pc' := 37) dX0_settle_34 rfl fl_X0_11 ?_
        refine go_aload_n (i := 0) (pc' := 38) dX0_settle_37 rfl rfl rfl ?_
        refine gf_3_roots (pc' := 41) dX0_settle_38 rfl fl_X0_33 ?_
        refine go_iload_n (i := 2) (pc' := 42) dX0_settle_41 rfl rfl rfl ?_
        refine go_iald (pc' := 43) dX0_settle_42 rfl (by decide) (by decide) rfl (vin_of (n := 12) (by omega) (by omega)) ?_
        refine go_rngA (ixa_38 w5.1) (vinlt (vin_of (n := 12) (by omega) (by omega))) (fun g8 => ?_)
        refine go_iald (pc' := 44) dX0_settle_43 rfl (by decide) (by decide) rfl (vin_of (n := 12) (by omega) (by omega)) ?_
        refine go_iast (pc' := 45) dX0_settle_44 rfl (by decide) (by decide) rfl (vin_of (n := 12) (by omega) (by omega)) ?_
        refine go_gen (P := WX σ) ⟨ixt_n w5.1 (by decide), Ag_setA w5.2 (by decide)⟩ (fun σ9 w9 => ?_)
        refine go_aload_n (i := 0) (pc' := 46) dX0_settle_45 rfl rfl rfl ?_
        refine gf_3_highs (pc' := 49) dX0_settle_46 rfl fl_X0_17 ?_
        refine go_iload_n (i := 2) (pc' := 50) dX0_settle_49 rfl rfl rfl ?_
        refine go_aload_n (i := 0) (pc' := 51) dX0_settle_50 rfl rfl rfl ?_
        refine gf_3_highs (pc' := 54) dX0_settle_51 rfl fl_X0_17 ?_
        refine go_aload_n (i := 0) (pc' := 55) dX0_settle_54 rfl rfl rfl ?_
        refine gf_3_roots (pc' := 58) dX0_settle_55 rfl fl_X0_33 ?_
        refine go_iload_n (i := 2) (pc' := 59) dX0_settle_58 rfl rfl rfl ?_
        refine go_iald (pc' := 60) dX0_settle_59 rfl (by decide) (by decide) rfl (vin_of (n := 12) (by omega) (by omega)) ?_
        refine go_rngA (ixa_38 w9.1) (vinlt (vin_of (n := 12) (by omega) (by omega))) (fun g10 => ?_)
        refine go_iald (pc' := 61) dX0_settle_60 rfl (by decide) (by decide) rfl (vin_of (n := 12) (by omega) (by omega)) ?_
        refine go_iast (pc' := 62) dX0_settle_61 rfl (by decide) (by decide) rfl (vin_of (n := 12) (by omega) (by omega)) ?_
        refine go_gen (P := WX σ) ⟨ixt_n w9.1 (by decide), Ag_setA w9.2 (by decide)⟩ (fun σ11 w11 => ?_)
        refine gz_iinc (c := 1) (pc' := 65) dX0_settle_62 rfl rfl (by decide) (by decide) (by decide) (by omega) (fun v12 h12 e12 => ?_)
        refine go_goto (tgt := 20) dX0_settle_65 (by decide) ?_
        exact go_lv (lv' := [(0, .ref (L.2.1 3)), (1, .ref (L.2.1 2)), (2, .int v12)]) rfl (ih5 _ (by omega) σ11 v12 w11 (by omega) rfl)
    exact go_lv (lv' := [(0, .ref (L.2.1 3)), (1, .ref (L.2.1 2)), (2, .int (0 : Int32))]) rfl (loop20_5 _ σ4 (0 : Int32) w4 (by omega) rfl)
  refine go_iconst (v := 0) (pc' := 13) dX0_settle_12 rfl (by decide) ?_
  exact go_zret dX0_settle_13 rfl rfl (w2)
set_option maxHeartbeats 4000000 in
set_option maxRecDepth 100000 in
theorem c_X0_conflict (l : Launch) (L : WL) (σ : ST)  (ix : IV σ) : CtI l L yX0_conflict cX0_conflict 5 (some .int) rm_X0_conflict [.ref (L.2.1 3), .ref (L.2.1 2)] σ (fun _ σ2 => WX σ σ2) := by
  refine ctI_go (own := RX0) (by decide) rfl (Nat.le_of_ble_eq_true rfl) (fun F hF => ?_)
  subst hF
  have nm1 : (-1 : Int32).toInt = -1 := by decide
  have n1 : (1 : Int32).toInt = 1 := by decide
  have w0 : WX σ σ := WX_rfl ix
  refine go_aload_n (i := 0) (pc' := 1) dX0_conflict_0 rfl rfl rfl ?_
  refine go_cvi (pc' := 4) lk_X0_44 (b_X0_allBounds _ _ _ w0.1) rfl rfl (Nat.le_of_ble_eq_true rfl) (by decide) rfl rfl rfl ⟨Nat.le_of_ble_eq_true rfl, Nat.le_of_ble_eq_true rfl⟩ ⟨rfl, rfl⟩ dX0_conflict_1 rfl (fun r1 σ1 h1 => ?_)
  have h1 := h1.symm
  subst h1
  refine go_istore_n (i := 2) (pc' := 5) dX0_conflict_4 rfl rfl (by decide) ?_
  refine go_aload_n (i := 0) (pc' := 6) dX0_conflict_5 rfl rfl rfl ?_
  refine go_aload_n (i := 1) (pc' := 7) dX0_conflict_6 rfl rfl rfl ?_
  refine go_iload_n (i := 2) (pc' := 8) dX0_conflict_7 rfl rfl rfl ?_
  refine go_cvi (pc' := 11) lk_X0_48 (c_X0_isPossible _ _ _ _ w0.1) rfl rfl (Nat.le_of_ble_eq_true rfl) (by decide) rfl rfl rfl ⟨Nat.le_of_ble_eq_true rfl, Nat.le_of_ble_eq_true rfl⟩ ⟨rfl, rfl⟩ dX0_conflict_8 rfl (fun r2 σ2 h2 => ?_)
  have w2 := WX_trans w0 h2
  refine gz_if_eq (tgt := 16) (pc' := 14) dX0_conflict_11 rfl (by decide) (fun c3 => ?_) (fun c3 => ?_)
  · refine go_aload_n (i := 0) (pc' := 17) dX0_conflict_16 rfl rfl rfl ?_
    refine gf_3_size (pc' := 20) dX0_conflict_17 rfl fl_X0_20 ?_
    have g4 := ixi_4 w2.1
    refine go_iconst (v := 1) (pc' := 21) dX0_conflict_20 rfl (by decide) ?_
    refine gz_isub (pc' := 22) dX0_conflict_21 rfl (by omega) (fun v5 h5 e5 => ?_)
    refine go_istore_n (i := 3) (pc' := 23) dX0_conflict_22 rfl rfl (by decide) ?_
    have loop23_6 : ∀ (dd6 : Nat) (σ6 : ST) (x2_6 : Int32) (x3_6 : Int32), WX σ σ6 → (-1 ≤ (x3_6).toInt ∧ (x3_6).toInt ≤ 19) → ((x3_6).toInt + 1).toNat = dd6 → Go F L RX0 cX0_conflict 5 rm_X0_conflict (some .int) (RI F L (fun _ σ2 => WX σ σ2)) σ6 23 [(0, .ref (L.2.1 3)), (1, .ref (L.2.1 2)), (2, .int x2_6), (3, .int x3_6)] [] := by
      intro dd6
      induction dd6 using Nat.strongRecOn with
      | _ dd6 ih6 =>
        intro σ6 x2_6 x3_6 w6 h_6 hm_6
        refine go_iload_n (i := 3) (pc' := 24) dX0_conflict_23 rfl rfl rfl ?_
        refine gz_if_lt (tgt := 55) (pc' := 27) dX0_conflict_24 rfl (by decide) (fun c7 => ?_) (fun c7 => ?_)
        · refine go_iload_n (i := 2) (pc' := 56) dX0_conflict_55 rfl rfl rfl ?_
          exact go_iret dX0_conflict_56 rfl (w6)
        refine go_iload_n (i := 2) (pc' := 28) dX0_conflict_27 rfl rfl rfl ?_
        refine go_iconst (v := 1) (pc' := 29) dX0_conflict_28 rfl (by decide) ?_
        refine go_iload_n (i := 3) (pc' := 30) dX0_conflict_29 rfl rfl rfl ?_
        refine go_ishl (pc' := 31) dX0_conflict_30 rfl ?_
        refine go_iconst (v := (-1)) (pc' := 32) dX0_conflict_31 rfl (by decide) ?_
        refine go_ixor (pc' := 33) dX0_conflict_32 rfl ?_
        refine go_iand (pc' := 34) dX0_conflict_33 rfl ?_
        refine go_topz (fun y8 h8 e8 => ?_)
        refine go_istore (pc' := 36) dX0_conflict_34 rfl (by decide) ?_
        refine go_aload_n (i := 0) (pc' := 37) dX0_conflict_36 rfl rfl rfl ?_
        refine go_aload_n (i := 1) (pc' := 38) dX0_conflict_37 rfl rfl rfl ?_
        refine go_iload (pc' := 40) dX0_conflict_38 rfl rfl ?_
        refine go_cvi (pc' := 43) lk_X0_48 (c_X0_isPossible _ _ _ _ w6.1) rfl rfl (Nat.le_of_ble_eq_true rfl) (by decide) rfl rfl rfl ⟨Nat.le_of_ble_eq_true rfl, Nat.le_of_ble_eq_true rfl⟩ ⟨rfl, rfl⟩ dX0_conflict_40 rfl (fun r9 σ9 h9 => ?_)
        have w9 := WX_trans w6 h9
        refine gz_if_ne (tgt := 49) (pc' := 46) dX0_conflict_43 rfl (by decide) (fun c10 => ?_) (fun c10 => ?_)
        · refine gz_iinc (c := (-1)) (pc' := 52) dX0_conflict_49 rfl rfl (by decide) (by decide) (by decide) (by omega) (fun v11 h11 e11 => ?_)
          refine go_goto (tgt := 23) dX0_conflict_52 (by decide) ?_
          exact go_lv (lv' := [(0, .ref (L.2.1 3)), (1, .ref (L.2.1 2)), (2, .int x2_6), (3, .int v11)]) rfl (ih6 _ (by omega) σ9 x2_6 v11 w9 (by omega) rfl)
        refine go_iload (pc' := 48) dX0_conflict_46 rfl rfl ?_
        refine go_istore_n (i := 2) (pc' := 49) dX0_conflict_48 rfl rfl (by decide) ?_
        refine gz_iinc (c := (-1)) (pc' := 52) dX0_conflict_49 rfl rfl (by decide) (by decide) (by decide) (by omega) (fun v12 h12 e12 => ?_)
        refine go_goto (tgt := 23) dX0_conflict_52 (by decide) ?_
        exact go_lv (lv' := [(0, .ref (L.2.1 3)), (1, .ref (L.2.1 2)), (2, .int y8), (3, .int v12)]) rfl (ih6 _ (by omega) σ9 y8 v12 w9 (by omega) rfl)
    exact go_lv (lv' := [(0, .ref (L.2.1 3)), (1, .ref (L.2.1 2)), (2, .int r1), (3, .int v5)]) rfl (loop23_6 _ σ2 r1 v5 w2 (by omega) rfl)
  refine go_iconst (v := (-1)) (pc' := 15) dX0_conflict_14 rfl (by decide) ?_
  exact go_iret dX0_conflict_15 rfl (w2)
set_option maxHeartbeats 4000000 in
set_option maxRecDepth 100000 in
theorem c_X0_isAhead (l : Launch) (L : WL) (σ : ST) (a b : Int32) (ha : 0 ≤ a.toInt ∧ a.toInt < 12) (hb : 0 ≤ b.toInt ∧ b.toInt < 12) (ix : IV σ) : CtI l L yX0_isAhead cX0_isAhead 3 (some .boolean) rm_X0_isAhead [.ref (L.2.1 3), .int a, .int b] σ (fun _ σ2 => σ2 = σ) := by
  refine ctI_go (own := RX0) (by decide) rfl (Nat.le_of_ble_eq_true rfl) (fun F hF => ?_)
  subst hF
  have n0 : (0 : Int32).toInt = 0 := by decide
  have n1 : (1 : Int32).toInt = 1 := by decide
  have w0 : WX σ σ := WX_rfl ix
  refine go_aload_n (i := 0) (pc' := 1) dX0_isAhead_0 rfl rfl rfl ?_
  refine gf_3_highs (pc' := 4) dX0_isAhead_1 rfl fl_X0_17 ?_
  refine go_iload_n (i := 1) (pc' := 5) dX0_isAhead_4 rfl rfl rfl ?_
  refine go_iald (pc' := 6) dX0_isAhead_5 rfl (by decide) (by decide) rfl (vin_of (n := 12) (by omega) (by omega)) ?_
  refine go_aload_n (i := 0) (pc' := 7) dX0_isAhead_6 rfl rfl rfl ?_
  refine gf_3_lows (pc' := 10) dX0_isAhead_7 rfl fl_X0_11 ?_
  refine go_iload_n (i := 2) (pc' := 11) dX0_isAhead_10 rfl rfl rfl ?_
  refine go_iald (pc' := 12) dX0_isAhead_11 rfl (by decide) (by decide) rfl (vin_of (n := 12) (by omega) (by omega)) ?_
  refine gz_icmp_lt (tgt := 36) (pc' := 15) dX0_isAhead_12 rfl (by decide) (fun c1 => ?_) (fun c1 => ?_)
  · refine go_iconst (v := 1) (pc' := 37) dX0_isAhead_36 rfl (by decide) ?_
    refine go_goto (tgt := 41) dX0_isAhead_37 (by decide) ?_
    exact go_zret dX0_isAhead_41 rfl rfl (rfl)
  refine go_aload_n (i := 0) (pc' := 16) dX0_isAhead_15 rfl rfl rfl ?_
  refine gf_3_paths (pc' := 19) dX0_isAhead_16 rfl fl_X0_41 ?_
  refine go_aload_n (i := 0) (pc' := 20) dX0_isAhead_19 rfl rfl rfl ?_
  refine gf_3_roots (pc' := 23) dX0_isAhead_20 rfl fl_X0_33 ?_
  refine go_iload_n (i := 1) (pc' := 24) dX0_isAhead_23 rfl rfl rfl ?_
  refine go_iald (pc' := 25) dX0_isAhead_24 rfl (by decide) (by decide) rfl (vin_of (n := 12) (by omega) (by omega)) ?_
  refine go_rngA (ixa_38 w0.1) (vinlt (vin_of (n := 12) (by omega) (by omega))) (fun g2 => ?_)
  have p3 : ((σ.2 38 (a).toNatClampNeg)).toNatClampNeg < 12 := vinlt (vin_of (n := 12) (by omega) (by omega))
  refine go_aald (b := 68) (pc' := 26) dX0_isAhead_25 rfl (by decide) (by decide) ⟨_, rfl⟩ (vin_of (n := 12) (by omega) (by omega)) rfl ?_
  refine go_aload_n (i := 0) (pc' := 27) dX0_isAhead_26 rfl rfl rfl ?_
  refine gf_3_roots (pc' := 30) dX0_isAhead_27 rfl fl_X0_33 ?_
  refine go_iload_n (i := 2) (pc' := 31) dX0_isAhead_30 rfl rfl rfl ?_
  refine go_iald (pc' := 32) dX0_isAhead_31 rfl (by decide) (by decide) rfl (vin_of (n := 12) (by omega) (by omega)) ?_
  refine go_rngA (ixa_38 w0.1) (vinlt (vin_of (n := 12) (by omega) (by omega))) (fun g4 => ?_)
  refine go_iald (pc' := 33) dX0_isAhead_32 rfl (by omega) (by omega) (rowt_68 p3) (by rw [rowl_68 p3]; exact (vin_of (n := 12) (by omega) (by omega))) ?_
  refine gz_if_le (tgt := 40) (pc' := 36) dX0_isAhead_33 rfl (by decide) (fun c5 => ?_) (fun c5 => ?_)
  · refine go_iconst (v := 0) (pc' := 41) dX0_isAhead_40 rfl (by decide) ?_
    exact go_zret dX0_isAhead_41 rfl rfl (rfl)
  refine go_iconst (v := 1) (pc' := 37) dX0_isAhead_36 rfl (by decide) ?_
  refine go_goto (tgt := 41) dX0_isAhead_37 (by decide) ?_
  exact go_zret dX0_isAhead_41 rfl rfl (rfl)
set_option maxHeartbeats 4000000 in
set_option maxRecDepth 100000 in
theorem c_X0_joinPaths (l : Launch) (L : WL) (σ : ST) (n k : Int32) (hn : n.toInt ≤ 12) (hk : 0 ≤ k.toInt ∧ k.toInt < 12) (ix : IV σ) : CtV l L yX0_joinPaths cX0_joinPaths 5 none rm_X0_joinPaths [.ref (L.2.1 3), .int n, .int k] σ (fun σ2 => WX σ σ2) := by
  refine ctV_go (own := RX0) (by decide) rfl (Nat.le_of_ble_eq_true rfl) (fun F hF => ?_)
  subst hF
  have nm1000000 : (-1000000 : Int32).toInt = -1000000 := by decide
  have n0 : (0 : Int32).toInt = 0 := by decide
  have w0 : WX σ σ := WX_rfl ix
  refine go_iconst (v := 0) (pc' := 1) dX0_joinPaths_0 rfl (by decide) ?_
  refine go_istore_n (i := 3) (pc' := 2) dX0_joinPaths_1 rfl rfl (by decide) ?_
  have loop2_1 : ∀ (dd1 : Nat) (σ1 : ST) (x3_1 : Int32), WX σ σ1 → (0 ≤ (x3_1).toInt ∧ (x3_1).toInt ≤ 12) → (12 - (x3_1).toInt).toNat = dd1 → Go F L RX0 cX0_joinPaths 5 rm_X0_joinPaths none (RV F L (fun σ2 => WX σ σ2)) σ1 2 [(0, .ref (L.2.1 3)), (1, .int n), (2, .int k), (3, .int x3_1)] [] := by
    intro dd1
    induction dd1 using Nat.strongRecOn with
    | _ dd1 ih1 =>
      intro σ1 x3_1 w1 h_1 hm_1
      refine go_iload_n (i := 3) (pc' := 3) dX0_joinPaths_2 rfl rfl rfl ?_
      refine go_iload_n (i := 1) (pc' := 4) dX0_joinPaths_3 rfl rfl rfl ?_
      refine gz_icmp_ge (tgt := 94) (pc' := 7) dX0_joinPaths_4 rfl (by decide) (fun c2 => ?_) (fun c2 => ?_)
      · exact go_vret dX0_joinPaths_94 rfl (w1)
      refine go_iconst (v := 0) (pc' := 8) dX0_joinPaths_7 rfl (by decide) ?_
      refine go_istore (pc' := 10) dX0_joinPaths_8 rfl (by decide) ?_
      have loop10_3 : ∀ (dd3 : Nat) (σ3 : ST) (x4_3 : Int32), WX σ σ3 → (0 ≤ (x4_3).toInt ∧ (x4_3).toInt ≤ 12) → (12 - (x4_3).toInt).toNat = dd3 → Go F L RX0 cX0_joinPaths 5 rm_X0_joinPaths none (RV F L (fun σ2 => WX σ σ2)) σ3 10 [(0, .ref (L.2.1 3)), (1, .int n), (2, .int k), (3, .int x3_1), (4, .int x4_3)] [] := by
        intro dd3
        induction dd3 using Nat.strongRecOn with
        | _ dd3 ih3 =>
          intro σ3 x4_3 w3 h_3 hm_3
          refine go_iload (pc' := 12) dX0_joinPaths_10 rfl rfl ?_
          refine go_iload_n (i := 1) (pc' := 13) dX0_joinPaths_12 rfl rfl rfl ?_
          refine gz_icmp_ge (tgt := 88) (pc' := 16) dX0_joinPaths_13 rfl (by decide) (fun c4 => ?_) (fun c4 => ?_)
          · refine gz_iinc (c := 1) (pc' := 91) dX0_joinPaths_88 rfl rfl (by decide) (by decide) (by decide) (by omega) (fun v5 h5 e5 => ?_)
            refine go_goto (tgt := 2) dX0_joinPaths_91 (by decide) ?_
            exact go_lv (lv' := [(0, .ref (L.2.1 3)), (1, .int n), (2, .int k), (3, .int v5)]) rfl (ih1 _ (by omega) σ3 v5 w3 (by omega) rfl)
          refine go_aload_n (i := 0) (pc' := 17) dX0_joinPaths_16 rfl rfl rfl ?_
          refine gf_3_paths (pc' := 20) dX0_joinPaths_17 rfl fl_X0_41 ?_
          refine go_iload_n (i := 3) (pc' := 21) dX0_joinPaths_20 rfl rfl rfl ?_
          have p6 : (x3_1).toNatClampNeg < 12 := vinlt (vin_of (n := 12) (by omega) (by omega))
          refine go_aald (b := 68) (pc' := 22) dX0_joinPaths_21 rfl (by decide) (by decide) ⟨_, rfl⟩ (vin_of (n := 12) (by omega) (by omega)) rfl ?_
          refine go_iload_n (i := 2) (pc' := 23) dX0_joinPaths_22 rfl rfl rfl ?_
          refine go_iald (pc' := 24) dX0_joinPaths_23 rfl (by omega) (by omega) (rowt_68 p6) (by rw [rowl_68 p6]; exact (vin_of (n := 12) (by omega) (by omega))) ?_
          refine go_ldc (pc' := 26) dX0_joinPaths_24 rfl cst_X0_56 ?_
          refine gz_icmp_eq (tgt := 82) (pc' := 29) dX0_joinPaths_26 rfl (by decide) (fun c7 => ?_) (fun c7 => ?_)
          · refine gz_iinc (c := 1) (pc' := 85) dX0_joinPaths_82 rfl rfl (by decide) (by decide) (by decide) (by omega) (fun v8 h8 e8 => ?_)
            refine go_goto (tgt := 10) dX0_joinPaths_85 (by decide) ?_
            exact go_lv (lv' := [(0, .ref (L.2.1 3)), (1, .int n), (2, .int k), (3, .int x3_1), (4, .int v8)]) rfl (ih3 _ (by omega) σ3 v8 w3 (by omega) rfl)
          refine go_aload_n (i := 0) (pc' := 30) dX0_joinPaths_29 rfl rfl rfl ?_
          refine gf_3_paths (pc' := 33) dX0_joinPaths_30 rfl fl_X0_41 ?_
          refine go_iload_n (i := 2) (pc' := 34) dX0_joinPaths_33 rfl rfl rfl ?_
          have p9 : (k).toNatClampNeg < 12 := vinlt (vin_of (n := 12) (by omega) (by omega))
          refine go_aald (b := 68) (pc' := 35) dX0_joinPaths_34 rfl (by decide) (by decide) ⟨_, rfl⟩ (vin_of (n := 12) (by omega) (by omega)) rfl ?_
          refine go_iload (pc' := 37) dX0_joinPaths_35 rfl rfl ?_
          refine go_iald (pc' := 38) dX0_joinPaths_37 rfl (by omega) (by omega) (rowt_68 p9) (by rw [rowl_68 p9]; exact (vin_of (n := 12) (by omega) (by omega))) ?_
          refine go_ldc (pc' := 40) dX0_joinPaths_38 rfl cst_X0_56 ?_
          refine gz_icmp_eq (tgt := 82) (pc' := 43) dX0_joinPaths_40 rfl (by decide) (fun c10 => ?_) (fun c10 => ?_)
          · refine gz_iinc (c := 1) (pc' := 85) dX0_joinPaths_82 rfl rfl (by decide) (by decide) (by decide) (by omega) (fun v11 h11 e11 => ?_)
            refine go_goto (tgt := 10) dX0_joinPaths_85 (by decide) ?_
            exact go_lv (lv' := [(0, .ref (L.2.1 3)), (1, .int n), (2, .int k), (3, .int x3_1), (4, .int v11)]) rfl (ih3 _ (by omega) σ3 v11 w3 (by omega) rfl)
          refine go_aload_n (i := 0) (pc' := 44) dX0_joinPaths_43 rfl rfl rfl ?_
          refine gf_3_paths (pc' := 47) dX0_joinPaths_44 rfl fl_X0_41 ?_
          refine go_iload_n (i := 3) (pc' := 48) dX0_joinPaths_47 rfl rfl rfl ?_
          have p12 : (x3_1).toNatClampNeg < 12 := vinlt (vin_of (n := 12) (by omega) (by omega))
          refine go_aald (b := 68) (pc' := 49) dX0_joinPaths_48 rfl (by decide) (by decide) ⟨_, rfl⟩ (vin_of (n := 12) (by omega) (by omega)) rfl ?_
          refine go_iload (pc' := 51) dX0_joinPaths_49 rfl rfl ?_
          refine go_aload_n (i := 0) (pc' := 52) dX0_joinPaths_51 rfl rfl rfl ?_
          refine gf_3_paths (pc' := 55) dX0_joinPaths_52 rfl fl_X0_41 ?_
          refine go_iload_n (i := 3) (pc' := 56) dX0_joinPaths_55 rfl rfl rfl ?_
          have p13 : (x3_1).toNatClampNeg < 12 := vinlt (vin_of (n := 12) (by omega) (by omega))
          refine go_aald (b := 68) (pc' := 57) dX0_joinPaths_56 rfl (by decide) (by decide) ⟨_, rfl⟩ (vin_of (n := 12) (by omega) (by omega)) rfl ?_
          refine go_iload (pc' := 59) dX0_joinPaths_57 rfl rfl ?_
          refine go_iald (pc' := 60) dX0_joinPaths_59 rfl (by omega) (by omega) (rowt_68 p13) (by rw [rowl_68 p13]; exact (vin_of (n := 12) (by omega) (by omega))) ?_
          refine go_aload_n (i := 0) (pc' := 61) dX0_joinPaths_60 rfl rfl rfl ?_
          refine gf_3_paths (pc' := 64) dX0_joinPaths_61 rfl fl_X0_41 ?_
          refine go_iload_n (i := 3) (pc' := 65) dX0_joinPaths_64 rfl rfl rfl ?_
          have p14 : (x3_1).toNatClampNeg < 12 := vinlt (vin_of (n := 12) (by omega) (by omega))
          refine go_aald (b := 68) (pc' := 66) dX0_joinPaths_65 rfl (by decide) (by decide) ⟨_, rfl⟩ (vin_of (n := 12) (by omega) (by omega)) rfl ?_
          refine go_iload_n (i := 2) (pc' := 67) dX0_joinPaths_66 rfl rfl rfl ?_
          refine go_iald (pc' := 68) dX0_joinPaths_67 rfl (by omega) (by omega) (rowt_68 p14) (by rw [rowl_68 p14]; exact (vin_of (n := 12) (by omega) (by omega))) ?_
          refine go_aload_n (i := 0) (pc' := 69) dX0_joinPaths_68 rfl rfl rfl ?_
          refine gf_3_paths (pc' := 72) dX0_joinPaths_69 rfl fl_X0_41 ?_
          refine go_iload_n (i := 2) (pc' := 73) dX0_joinPaths_72 rfl rfl rfl ?_
          have p15 : (k).toNatClampNeg < 12 := vinlt (vin_of (n := 12) (by omega) (by omega))
          refine go_aald (b := 68) (pc' := 74) dX0_joinPaths_73 rfl (by decide) (by decide) ⟨_, rfl⟩ (vin_of (n := 12) (by omega) (by omega)) rfl ?_
          refine go_iload (pc' := 76) dX0_joinPaths_74 rfl rfl ?_
          refine go_iald (pc' := 77) dX0_joinPaths_76 rfl (by omega) (by omega) (rowt_68 p15) (by rw [rowl_68 p15]; exact (vin_of (n := 12) (by omega) (by omega))) ?_
          refine go_iadd (pc' := 78) dX0_joinPaths_77 rfl ?_
          refine gz_max (pc' := 81) dX0_joinPaths_78 rfl ml_X0_57 (Nat.le_of_ble_eq_true rfl) (Nat.le_of_ble_eq_true rfl) (fun v16 h16 e16 => ?_)
          refine go_iast (pc' := 82) dX0_joinPaths_81 rfl (by omega) (by omega) (rowt_68 p12) (by rw [rowl_68 p12]; exact (vin_of (n := 12) (by omega) (by omega))) ?_
          refine go_gen (P := WX σ) ⟨ixt_p w3.1 (by omega) (by omega), Ag_setA w3.2 (QX_path p12)⟩ (fun σ17 w17 => ?_)
          refine gz_iinc (c := 1) (pc' := 85) dX0_joinPaths_82 rfl rfl (by decide) (by decide) (by decide) (by omega) (fun v18 h18 e18 => ?_)
          refine go_goto (tgt := 10) dX0_joinPaths_85 (by decide) ?_
          exact go_lv (lv' := [(0, .ref (L.2.1 3)), (1, .int n), (2, .int k), (3, .int x3_1), (4, .int v18)]) rfl (ih3 _ (by omega) σ17 v18 w17 (by omega) rfl)
      exact go_lv (lv' := [(0, .ref (L.2.1 3)), (1, .int n), (2, .int k), (3, .int x3_1), (4, .int (0 : Int32))]) rfl (loop10_3 _ σ1 (0 : Int32) w1 (by omega) rfl)
  exact go_lv (lv' := [(0, .ref (L.2.1 3)), (1, .int n), (2, .int k), (3, .int (0 : Int32))]) rfl (loop2_1 _ σ (0 : Int32) w0 (by omega) rfl)
set_option maxHeartbeats 4000000 in
set_option maxRecDepth 100000 in
theorem c_X0_measurePaths (l : Launch) (L : WL) (σ : ST) (n : Int32) (hn : n.toInt ≤ 12) (ix : IV σ) : CtV l L yX0_measurePaths cX0_measurePaths 5 none rm_X0_measurePaths [.ref (L.2.1 3), .int n] σ (fun σ2 => WX σ σ2) := by
  refine ctV_go (own := RX0) (by decide) rfl (Nat.le_of_ble_eq_true rfl) (fun F hF => ?_)
  subst hF
  have nm1000000 : (-1000000 : Int32).toInt = -1000000 := by decide
  have n0 : (0 : Int32).toInt = 0 := by decide
  have w0 : WX σ σ := WX_rfl ix
  refine go_iconst (v := 0) (pc' := 1) dX0_measurePaths_0 rfl (by decide) ?_
  refine go_istore_n (i := 2) (pc' := 2) dX0_measurePaths_1 rfl rfl (by decide) ?_
  have loop2_1 : ∀ (dd1 : Nat) (σ1 : ST) (x2_1 : Int32), WX σ σ1 → (0 ≤ (x2_1).toInt ∧ (x2_1).toInt ≤ 12) → (12 - (x2_1).toInt).toNat = dd1 → Go F L RX0 cX0_measurePaths 5 rm_X0_measurePaths none (RV F L (fun σ2 => WX σ σ2)) σ1 2 [(0, .ref (L.2.1 3)), (1, .int n), (2, .int x2_1)] [] := by
    intro dd1
    induction dd1 using Nat.strongRecOn with
    | _ dd1 ih1 =>
      intro σ1 x2_1 w1 h_1 hm_1
      refine go_iload_n (i := 2) (pc' := 3) dX0_measurePaths_2 rfl rfl rfl ?_
      refine go_iload_n (i := 1) (pc' := 4) dX0_measurePaths_3 rfl rfl rfl ?_
      refine gz_icmp_ge (tgt := 45) (pc' := 7) dX0_measurePaths_4 rfl (by decide) (fun c2 => ?_) (fun c2 => ?_)
      · refine go_iconst (v := 0) (pc' := 46) dX0_measurePaths_45 rfl (by decide) ?_
        refine go_istore_n (i := 2) (pc' := 47) dX0_measurePaths_46 rfl rfl (by decide) ?_
        have loop47_3 : ∀ (dd3 : Nat) (σ3 : ST) (x2_3 : Int32), WX σ σ3 → (0 ≤ (x2_3).toInt ∧ (x2_3).toInt ≤ 20) → (20 - (x2_3).toInt).toNat = dd3 → Go F L RX0 cX0_measurePaths 5 rm_X0_measurePaths none (RV F L (fun σ2 => WX σ σ2)) σ3 47 [(0, .ref (L.2.1 3)), (1, .int n), (2, .int x2_3)] [] := by
          intro dd3
          induction dd3 using Nat.strongRecOn with
          | _ dd3 ih3 =>
            intro σ3 x2_3 w3 h_3 hm_3
            refine go_iload_n (i := 2) (pc' := 48) dX0_measurePaths_47 rfl rfl rfl ?_
            refine go_aload_n (i := 0) (pc' := 49) dX0_measurePaths_48 rfl rfl rfl ?_
            refine gf_3_size (pc' := 52) dX0_measurePaths_49 rfl fl_X0_20 ?_
            have g4 := ixi_4 w3.1
            refine gz_icmp_ge (tgt := 113) (pc' := 55) dX0_measurePaths_52 rfl (by decide) (fun c5 => ?_) (fun c5 => ?_)
            · refine go_iconst (v := 0) (pc' := 114) dX0_measurePaths_113 rfl (by decide) ?_
              refine go_istore_n (i := 2) (pc' := 115) dX0_measurePaths_114 rfl rfl (by decide) ?_
              have loop115_6 : ∀ (dd6 : Nat) (σ6 : ST) (x2_6 : Int32), WX σ σ6 → (0 ≤ (x2_6).toInt ∧ (x2_6).toInt ≤ 12) → (12 - (x2_6).toInt).toNat = dd6 → Go F L RX0 cX0_measurePaths 5 rm_X0_measurePaths none (RV F L (fun σ2 => WX σ σ2)) σ6 115 [(0, .ref (L.2.1 3)), (1, .int n), (2, .int x2_6)] [] := by
                intro dd6
                induction dd6 using Nat.strongRecOn with
                | _ dd6 ih6 =>
                  intro σ6 x2_6 w6 h_6 hm_6
                  refine go_iload_n (i := 2) (pc' := 116) dX0_measurePaths_115 rfl rfl rfl ?_
                  refine go_iload_n (i := 1) (pc' := 117) dX0_measurePaths_116 rfl rfl rfl ?_
                  refine gz_icmp_ge (tgt := 132) (pc' := 120) dX0_measurePaths_117 rfl (by decide) (fun c7 => ?_) (fun c7 => ?_)
                  · exact go_vret dX0_measurePaths_132 rfl (w6)
                  refine go_aload_n (i := 0) (pc' := 121) dX0_measurePaths_120 rfl rfl rfl ?_
                  refine go_iload_n (i := 1) (pc' := 122) dX0_measurePaths_121 rfl rfl rfl ?_
                  refine go_iload_n (i := 2) (pc' := 123) dX0_measurePaths_122 rfl rfl rfl ?_
                  refine go_cvv (pc' := 126) lk_X0_63 (c_X0_joinPaths _ _ _ _ _ hn (by omega) w6.1) rfl rfl (Nat.le_of_ble_eq_true rfl) (by decide) rfl rfl rfl ⟨Nat.le_of_ble_eq_true rfl, Nat.le_of_ble_eq_true rfl⟩ ⟨rfl, rfl⟩ dX0_measurePaths_123 rfl (fun σ8 h8 => ?_)
                  have w8 := WX_trans w6 h8
                  refine gz_iinc (c := 1) (pc' := 129) dX0_measurePaths_126 rfl rfl (by decide) (by decide) (by decide) (by omega) (fun v9 h9 e9 => ?_)
                  refine go_goto (tgt := 115) dX0_measurePaths_129 (by decide) ?_
                  exact go_lv (lv' := [(0, .ref (L.2.1 3)), (1, .int n), (2, .int v9)]) rfl (ih6 _ (by omega) σ8 v9 w8 (by omega) rfl)
              exact go_lv (lv' := [(0, .ref (L.2.1 3)), (1, .int n), (2, .int (0 : Int32))]) rfl (loop115_6 _ σ3 (0 : Int32) w3 (by omega) rfl)
            refine go_aload_n (i := 0) (pc' := 56) dX0_measurePaths_55 rfl rfl rfl ?_
            refine gf_3_roots (pc' := 59) dX0_measurePaths_56 rfl fl_X0_33 ?_
            refine go_aload_n (i := 0) (pc' := 60) dX0_measurePaths_59 rfl rfl rfl ?_
            refine gf_3_froms (pc' := 63) dX0_measurePaths_60 rfl fl_X0_24 ?_
            refine go_iload_n (i := 2) (pc' := 64) dX0_measurePaths_63 rfl rfl rfl ?_
            refine go_iald (pc' := 65) dX0_measurePaths_64 rfl (by decide) (by decide) rfl (vin_of (n := 20) (by omega) (by omega)) ?_
            refine go_rngA (ixa_35 w3.1) (vinlt (vin_of (n := 20) (by omega) (by omega))) (fun g10 => ?_)
            refine go_iald (pc' := 66) dX0_measurePaths_65 rfl (by decide) (by decide) rfl (vin_of (n := 12) (by omega) (by omega)) ?_
            refine go_rngA (ixa_38 w3.1) (vinlt (vin_of (n := 12) (by omega) (by omega))) (fun g11 => ?_)
            refine go_topz (fun y12 h12 e12 => ?_)
            refine go_istore_n (i := 3) (pc' := 67) dX0_measurePaths_66 rfl rfl (by decide) ?_
            refine go_aload_n (i := 0) (pc' := 68) dX0_measurePaths_67 rfl rfl rfl ?_
            refine gf_3_roots (pc' := 71) dX0_measurePaths_68 rfl fl_X0_33 ?_
            refine go_aload_n (i := 0) (pc' := 72) dX0_measurePaths_71 rfl rfl rfl ?_
            refine gf_3_tos (pc' := 75) dX0_measurePaths_72 rfl fl_X0_27 ?_
            refine go_iload_n (i := 2) (pc' := 76) dX0_measurePaths_75 rfl rfl rfl ?_
            refine go_iald (pc' := 77) dX0_measurePaths_76 rfl (by decide) (by decide) rfl (vin_of (n := 20) (by omega) (by omega)) ?_
            refine go_rngA (ixa_36 w3.1) (vinlt (vin_of (n := 20) (by omega) (by omega))) (fun g13 => ?_)
            refine go_iald (pc' := 78) dX0_measurePaths_77 rfl (by decide) (by decide) rfl (vin_of (n := 12) (by omega) (by omega)) ?_
            refine go_rngA (ixa_38 w3.1) (vinlt (vin_of (n := 12) (by omega) (by omega))) (fun g14 => ?_)
            refine go_topz (fun y15 h15 e15 => ?_)
            refine go_istore (pc' := 80) dX0_measurePaths_78 rfl (by decide) ?_
            refine go_aload_n (i := 0) (pc' := 81) dX0_measurePaths_80 rfl rfl rfl ?_
            refine gf_3_paths (pc' := 84) dX0_measurePaths_81 rfl fl_X0_41 ?_
            refine go_iload_n (i := 3) (pc' := 85) dX0_measurePaths_84 rfl rfl rfl ?_
            have p16 : (y12).toNatClampNeg < 12 := vinlt (vin_of (n := 12) (by omega) (by omega))
            refine go_aald (b := 68) (pc' := 86) dX0_measurePaths_85 rfl (by decide) (by decide) ⟨_, rfl⟩ (vin_of (n := 12) (by omega) (by omega)) rfl ?_
            refine go_iload (pc' := 88) dX0_measurePaths_86 rfl rfl ?_
            refine go_aload_n (i := 0) (pc' := 89) dX0_measurePaths_88 rfl rfl rfl ?_
            refine gf_3_paths (pc' := 92) dX0_measurePaths_89 rfl fl_X0_41 ?_
            refine go_iload_n (i := 3) (pc' := 93) dX0_measurePaths_92 rfl rfl rfl ?_
            have p17 : (y12).toNatClampNeg < 12 := vinlt (vin_of (n := 12) (by omega) (by omega))
            refine go_aald (b := 68) (pc' := 94) dX0_measurePaths_93 rfl (by decide) (by decide) ⟨_, rfl⟩ (vin_of (n := 12) (by omega) (by omega)) rfl ?_
            refine go_iload (pc' := 96) dX0_measurePaths_94 rfl rfl ?_
            refine go_iald (pc' := 97) dX0_measurePaths_96 rfl (by omega) (by omega) (rowt_68 p17) (by rw [rowl_68 p17]; exact (vin_of (n := 12) (by omega) (by omega))) ?_
            refine go_aload_n (i := 0) (pc' := 98) dX0_measurePaths_97 rfl rfl rfl ?_
            refine gf_3_shifts (pc' := 101) dX0_measurePaths_98 rfl fl_X0_30 ?_
            refine go_iload_n (i := 2) (pc' := 102) dX0_measurePaths_101 rfl rfl rfl ?_
            refine go_iald (pc' := 103) dX0_measurePaths_102 rfl (by decide) (by decide) rfl (vin_of (n := 20) (by omega) (by omega)) ?_
            refine go_rngA (ixa_37 w3.1) (vinlt (vin_of (n := 20) (by omega) (by omega))) (fun g18 => ?_)
            refine gz_max (pc' := 106) dX0_measurePaths_103 rfl ml_X0_57 (Nat.le_of_ble_eq_true rfl) (Nat.le_of_ble_eq_true rfl) (fun v19 h19 e19 => ?_)
            refine go_iast (pc' := 107) dX0_measurePaths_106 rfl (by omega) (by omega) (rowt_68 p16) (by rw [rowl_68 p16]; exact (vin_of (n := 12) (by omega) (by omega))) ?_
            refine go_gen (P := WX σ) ⟨ixt_p w3.1 (by omega) (by omega), Ag_setA w3.2 (QX_path p16)⟩ (fun σ20 w20 => ?_)
            refine gz_iinc (c := 1) (pc' := 110) dX0_measurePaths_107 rfl rfl (by decide) (by decide) (by decide) (by omega) (fun v21 h21 e21 => ?_)
            refine go_goto (tgt := 47) dX0_measurePaths_110 (by decide) ?_
            exact go_lv (lv' := [(0, .ref (L.2.1 3)), (1, .int n), (2, .int v21)]) rfl (ih3 _ (by omega) σ20 v21 w20 (by omega) rfl)
        exact go_lv (lv' := [(0, .ref (L.2.1 3)), (1, .int n), (2, .int (0 : Int32))]) rfl (loop47_3 _ σ1 (0 : Int32) w1 (by omega) rfl)
      refine go_iconst (v := 0) (pc' := 8) dX0_measurePaths_7 rfl (by decide) ?_
      refine go_istore_n (i := 3) (pc' := 9) dX0_measurePaths_8 rfl rfl (by decide) ?_
      have loop9_22 : ∀ (dd22 : Nat) (σ22 : ST) (x3_22 : Int32), WX σ σ22 → (0 ≤ (x3_22).toInt ∧ (x3_22).toInt ≤ 12) → (12 - (x3_22).toInt).toNat = dd22 → Go F L RX0 cX0_measurePaths 5 rm_X0_measurePaths none (RV F L (fun σ2 => WX σ σ2)) σ22 9 [(0, .ref (L.2.1 3)), (1, .int n), (2, .int x2_1), (3, .int x3_22)] [] := by
        intro dd22
        induction dd22 using Nat.strongRecOn with
        | _ dd22 ih22 =>
          intro σ22 x3_22 w22 h_22 hm_22
          refine go_iload_n (i := 3) (pc' := 10) dX0_measurePaths_9 rfl rfl rfl ?_
          refine go_iload_n (i := 1) (pc' := 11) dX0_measurePaths_10 rfl rfl rfl ?_
          refine gz_icmp_ge (tgt := 39) (pc' := 14) dX0_measurePaths_11 rfl (by decide) (fun c23 => ?_) (fun c23 => ?_)
          · refine gz_iinc (c := 1) (pc' := 42) dX0_measurePaths_39 rfl rfl (by decide) (by decide) (by decide) (by omega) (fun v24 h24 e24 => ?_)
            refine go_goto (tgt := 2) dX0_measurePaths_42 (by decide) ?_
            exact go_lv (lv' := [(0, .ref (L.2.1 3)), (1, .int n), (2, .int v24)]) rfl (ih1 _ (by omega) σ22 v24 w22 (by omega) rfl)
          refine go_aload_n (i := 0) (pc' := 15) dX0_measurePaths_14 rfl rfl rfl ?_
          refine gf_3_paths (pc' := 18) dX0_measurePaths_15 rfl fl_X0_41 ?_
          refine go_iload_n (i := 2) (pc' := 19) dX0_measurePaths_18 rfl rfl rfl ?_
          have p25 : (x2_1).toNatClampNeg < 12 := vinlt (vin_of (n := 12) (by omega) (by omega))
          refine go_aald (b := 68) (pc' := 20) dX0_measurePaths_19 rfl (by decide) (by decide) ⟨_, rfl⟩ (vin_of (n := 12) (by omega) (by omega)) rfl ?_
          refine go_iload_n (i := 3) (pc' := 21) dX0_measurePaths_20 rfl rfl rfl ?_
          refine go_iload_n (i := 2) (pc' := 22) dX0_measurePaths_21 rfl rfl rfl ?_
          refine go_iload_n (i := 3) (pc' := 23) dX0_measurePaths_22 rfl rfl rfl ?_
          have mrg32_26 : ∀ (y0_26 : Int32), Go F L RX0 cX0_measurePaths 5 rm_X0_measurePaths none (RV F L (fun σ2 => WX σ σ2)) σ22 32 [(0, .ref (L.2.1 3)), (1, .int n), (2, .int x2_1), (3, .int x3_22)] [.int y0_26, .int x3_22, .ref (L.2.1 (68 + (x2_1).toNatClampNeg))] := by
            intro y0_26
            refine go_iast (pc' := 33) dX0_measurePaths_32 rfl (by omega) (by omega) (rowt_68 p25) (by rw [rowl_68 p25]; exact (vin_of (n := 12) (by omega) (by omega))) ?_
            refine go_gen (P := WX σ) ⟨ixt_p w22.1 (by omega) (by omega), Ag_setA w22.2 (QX_path p25)⟩ (fun σ27 w27 => ?_)
            refine gz_iinc (c := 1) (pc' := 36) dX0_measurePaths_33 rfl rfl (by decide) (by decide) (by decide) (by omega) (fun v28 h28 e28 => ?_)
            refine go_goto (tgt := 9) dX0_measurePaths_36 (by decide) ?_
            exact go_lv (lv' := [(0, .ref (L.2.1 3)), (1, .int n), (2, .int x2_1), (3, .int v28)]) rfl (ih22 _ (by omega) σ27 v28 w27 (by omega) rfl)
          refine gz_icmp_ne (tgt := 30) (pc' := 26) dX0_measurePaths_23 rfl (by decide) (fun c29 => ?_) (fun c29 => ?_)
          · refine go_ldc (pc' := 32) dX0_measurePaths_30 rfl cst_X0_56 ?_
            exact go_lv (lv' := [(0, .ref (L.2.1 3)), (1, .int n), (2, .int x2_1), (3, .int x3_22)]) rfl (mrg32_26  (-1000000 : Int32) )
          refine go_iconst (v := 0) (pc' := 27) dX0_measurePaths_26 rfl (by decide) ?_
          refine go_goto (tgt := 32) dX0_measurePaths_27 (by decide) ?_
          exact go_lv (lv' := [(0, .ref (L.2.1 3)), (1, .int n), (2, .int x2_1), (3, .int x3_22)]) rfl (mrg32_26  (0 : Int32) )
      exact go_lv (lv' := [(0, .ref (L.2.1 3)), (1, .int n), (2, .int x2_1), (3, .int (0 : Int32))]) rfl (loop9_22 _ σ1 (0 : Int32) w1 (by omega) rfl)
  exact go_lv (lv' := [(0, .ref (L.2.1 3)), (1, .int n), (2, .int (0 : Int32))]) rfl (loop2_1 _ σ (0 : Int32) w0 (by omega) rfl)
set_option maxHeartbeats 4000000 in
set_option maxRecDepth 100000 in
theorem c_X1_find (l : Launch) (L : WL) (σ : ST) (a b : Int32) (ix : IV σ) : CtI l L yX1_find cX1_find 4 (some .int) rm_X1_find [.ref (L.2.1 5), .int a, .int b] σ (fun r σ2 => σ2 = σ ∧ (-1 ≤ r.toInt ∧ r.toInt < (σ.1 5).toInt)) := by
  refine ctI_go (own := RX1) (by decide) rfl (Nat.le_of_ble_eq_true rfl) (fun F hF => ?_)
  subst hF
  have nm1 : (-1 : Int32).toInt = -1 := by decide
  have n0 : (0 : Int32).toInt = 0 := by decide
  have w0 : WX σ σ := WX_rfl ix
  refine go_iconst (v := 0) (pc' := 1) dX1_find_0 rfl (by decide) ?_
  refine go_istore_n (i := 3) (pc' := 2) dX1_find_1 rfl rfl (by decide) ?_
  have loop2_1 : ∀ (dd1 : Nat) (x3_1 : Int32), (0 ≤ (x3_1).toInt ∧ (x3_1).toInt ≤ 10) → (10 - (x3_1).toInt).toNat = dd1 → Go F L RX1 cX1_find 4 rm_X1_find (some .int) (RI F L (fun r σ2 => σ2 = σ ∧ (-1 ≤ r.toInt ∧ r.toInt < (σ.1 5).toInt))) σ 2 [(0, .ref (L.2.1 5)), (1, .int a), (2, .int b), (3, .int x3_1)] [] := by
    intro dd1
    induction dd1 using Nat.strongRecOn with
    | _ dd1 ih1 =>
      intro x3_1 h_1 hm_1
      refine go_iload_n (i := 3) (pc' := 3) dX1_find_2 rfl rfl rfl ?_
      refine go_aload_n (i := 0) (pc' := 4) dX1_find_3 rfl rfl rfl ?_
      refine gf_5_size (pc' := 7) dX1_find_4 rfl fl_X1_15 ?_
      have g2 := ixi_5 w0.1
      refine gz_icmp_ge (tgt := 38) (pc' := 10) dX1_find_7 rfl (by decide) (fun c3 => ?_) (fun c3 => ?_)
      · refine go_iconst (v := (-1)) (pc' := 39) dX1_find_38 rfl (by decide) ?_
        exact go_iret dX1_find_39 rfl (⟨rfl, by omega⟩)
      refine go_aload_n (i := 0) (pc' := 11) dX1_find_10 rfl rfl rfl ?_
      refine gf_5_letters (pc' := 14) dX1_find_11 rfl fl_X1_19 ?_
      refine go_iload_n (i := 3) (pc' := 15) dX1_find_14 rfl rfl rfl ?_
      refine go_iald (pc' := 16) dX1_find_15 rfl (by decide) (by decide) rfl (vin_of (n := 10) (by omega) (by omega)) ?_
      refine go_iload_n (i := 1) (pc' := 17) dX1_find_16 rfl rfl rfl ?_
      refine gz_icmp_ne (tgt := 32) (pc' := 20) dX1_find_17 rfl (by decide) (fun c4 => ?_) (fun c4 => ?_)
      · refine gz_iinc (c := 1) (pc' := 35) dX1_find_32 rfl rfl (by decide) (by decide) (by decide) (by omega) (fun v5 h5 e5 => ?_)
        refine go_goto (tgt := 2) dX1_find_35 (by decide) ?_
        exact go_lv (lv' := [(0, .ref (L.2.1 5)), (1, .int a), (2, .int b), (3, .int v5)]) rfl (ih1 _ (by omega)  v5 (by omega) rfl)
      refine go_aload_n (i := 0) (pc' := 21) dX1_find_20 rfl rfl rfl ?_
      refine gf_5_names (pc' := 24) dX1_find_21 rfl fl_X1_22 ?_
      refine go_iload_n (i := 3) (pc' := 25) dX1_find_24 rfl rfl rfl ?_
      refine go_iald (pc' := 26) dX1_find_25 rfl (by decide) (by decide) rfl (vin_of (n := 10) (by omega) (by omega)) ?_
      refine go_iload_n (i := 2) (pc' := 27) dX1_find_26 rfl rfl rfl ?_
      refine gz_icmp_ne (tgt := 32) (pc' := 30) dX1_find_27 rfl (by decide) (fun c6 => ?_) (fun c6 => ?_)
      · refine gz_iinc (c := 1) (pc' := 35) dX1_find_32 rfl rfl (by decide) (by decide) (by decide) (by omega) (fun v7 h7 e7 => ?_)
        refine go_goto (tgt := 2) dX1_find_35 (by decide) ?_
        exact go_lv (lv' := [(0, .ref (L.2.1 5)), (1, .int a), (2, .int b), (3, .int v7)]) rfl (ih1 _ (by omega)  v7 (by omega) rfl)
      refine go_iload_n (i := 3) (pc' := 31) dX1_find_30 rfl rfl rfl ?_
      exact go_iret dX1_find_31 rfl (⟨rfl, by omega⟩)
  exact go_lv (lv' := [(0, .ref (L.2.1 5)), (1, .int a), (2, .int b), (3, .int (0 : Int32))]) rfl (loop2_1 _  (0 : Int32) (by omega) rfl)
set_option maxHeartbeats 4000000 in
set_option maxRecDepth 100000 in
theorem c_X2_isLost (l : Launch) (L : WL) (σ : ST) (a : Int32) (ha : 0 ≤ a.toInt ∧ a.toInt < 12) (ix : IV σ) : CtI l L yX2_isLost cX2_isLost 2 (some .boolean) rm_X2_isLost [.ref (L.2.1 2), .int a] σ (fun r σ2 => σ2 = σ ∧ bq ((σ.2 24 a.toNatClampNeg).toInt = 4) r) := by
  refine ctI_go (own := RX2) (by decide) rfl (Nat.le_of_ble_eq_true rfl) (fun F hF => ?_)
  subst hF
  have n0 : (0 : Int32).toInt = 0 := by decide
  have n1 : (1 : Int32).toInt = 1 := by decide
  have n4 : (4 : Int32).toInt = 4 := by decide
  have w0 : WX σ σ := WX_rfl ix
  refine go_aload_n (i := 0) (pc' := 1) dX2_isLost_0 rfl rfl rfl ?_
  refine gf_2_kinds (pc' := 4) dX2_isLost_1 rfl fl_X2_11 ?_
  refine go_iload_n (i := 1) (pc' := 5) dX2_isLost_4 rfl rfl rfl ?_
  refine go_iald (pc' := 6) dX2_isLost_5 rfl (by decide) (by decide) rfl (vin_of (n := 12) (by omega) (by omega)) ?_
  refine go_rngA (ixa_24 w0.1) (vinlt (vin_of (n := 12) (by omega) (by omega))) (fun g1 => ?_)
  refine go_iconst (v := 4) (pc' := 7) dX2_isLost_6 rfl (by decide) ?_
  refine gz_icmp_ne (tgt := 14) (pc' := 10) dX2_isLost_7 rfl (by decide) (fun c2 => ?_) (fun c2 => ?_)
  · refine go_iconst (v := 0) (pc' := 15) dX2_isLost_14 rfl (by decide) ?_
    exact go_zret dX2_isLost_15 rfl rfl (⟨rfl, by first | exact bq_t (by omega) | exact bq_f (by omega)⟩)
  refine go_iconst (v := 1) (pc' := 11) dX2_isLost_10 rfl (by decide) ?_
  refine go_goto (tgt := 15) dX2_isLost_11 (by decide) ?_
  exact go_zret dX2_isLost_15 rfl rfl (⟨rfl, by first | exact bq_t (by omega) | exact bq_f (by omega)⟩)
set_option maxHeartbeats 4000000 in
set_option maxRecDepth 100000 in
theorem c_X2_stillLost (l : Launch) (L : WL) (σ : ST)  (ix : IV σ) : CtI l L yX2_stillLost cX2_stillLost 3 (some .int) rm_X2_stillLost [.ref (L.2.1 2)] σ (fun _ σ2 => σ2 = σ) := by
  refine ctI_go (own := RX2) (by decide) rfl (Nat.le_of_ble_eq_true rfl) (fun F hF => ?_)
  subst hF
  have nm1 : (-1 : Int32).toInt = -1 := by decide
  have n0 : (0 : Int32).toInt = 0 := by decide
  have w0 : WX σ σ := WX_rfl ix
  refine go_iconst (v := 0) (pc' := 1) dX2_stillLost_0 rfl (by decide) ?_
  refine go_istore_n (i := 1) (pc' := 2) dX2_stillLost_1 rfl rfl (by decide) ?_
  refine go_iconst (v := 0) (pc' := 3) dX2_stillLost_2 rfl (by decide) ?_
  refine go_istore_n (i := 2) (pc' := 4) dX2_stillLost_3 rfl rfl (by decide) ?_
  have loop4_1 : ∀ (dd1 : Nat) (x1_1 : Int32) (x2_1 : Int32), (0 ≤ (x2_1).toInt ∧ (x2_1).toInt ≤ 12) → (12 - (x2_1).toInt).toNat = dd1 → Go F L RX2 cX2_stillLost 3 rm_X2_stillLost (some .int) (RI F L (fun _ σ2 => σ2 = σ)) σ 4 [(0, .ref (L.2.1 2)), (1, .int x1_1), (2, .int x2_1)] [] := by
    intro dd1
    induction dd1 using Nat.strongRecOn with
    | _ dd1 ih1 =>
      intro x1_1 x2_1 h_1 hm_1
      refine go_iload_n (i := 2) (pc' := 5) dX2_stillLost_4 rfl rfl rfl ?_
      refine go_aload_n (i := 0) (pc' := 6) dX2_stillLost_5 rfl rfl rfl ?_
      refine gf_2_size (pc' := 9) dX2_stillLost_6 rfl fl_X2_44 ?_
      have g2 := ixi_3 w0.1
      refine gz_icmp_ge (tgt := 39) (pc' := 12) dX2_stillLost_9 rfl (by decide) (fun c3 => ?_) (fun c3 => ?_)
      · refine go_iload_n (i := 1) (pc' := 40) dX2_stillLost_39 rfl rfl rfl ?_
        exact go_iret dX2_stillLost_40 rfl (rfl)
      refine go_aload_n (i := 0) (pc' := 13) dX2_stillLost_12 rfl rfl rfl ?_
      refine go_iload_n (i := 2) (pc' := 14) dX2_stillLost_13 rfl rfl rfl ?_
      refine go_cvi (pc' := 17) lk_X2_55 (c_X2_isLost _ _ _ _ (by omega) w0.1) rfl rfl (Nat.le_of_ble_eq_true rfl) (by decide) rfl rfl rfl ⟨Nat.le_of_ble_eq_true rfl, Nat.le_of_ble_eq_true rfl⟩ ⟨rfl, rfl⟩ dX2_stillLost_14 rfl (fun r4 σ4 h4 => ?_)
      obtain ⟨e4, h4⟩ := h4
      have e4 := e4.symm
      subst e4
      refine go_eqB (tgt := 33) (pc' := 20) h4 dX2_stillLost_17 rfl (by decide) (fun c5 => ?_) (fun c5 => ?_)
      · refine gz_iinc (c := 1) (pc' := 36) dX2_stillLost_33 rfl rfl (by decide) (by decide) (by decide) (by omega) (fun v6 h6 e6 => ?_)
        refine go_goto (tgt := 4) dX2_stillLost_36 (by decide) ?_
        exact go_lv (lv' := [(0, .ref (L.2.1 2)), (1, .int x1_1), (2, .int v6)]) rfl (ih1 _ (by omega)  x1_1 v6 (by omega) rfl)
      refine go_aload_n (i := 0) (pc' := 21) dX2_stillLost_20 rfl rfl rfl ?_
      refine gf_2_founds (pc' := 24) dX2_stillLost_21 rfl fl_X2_33 ?_
      refine go_iload_n (i := 2) (pc' := 25) dX2_stillLost_24 rfl rfl rfl ?_
      refine go_iald (pc' := 26) dX2_stillLost_25 rfl (by decide) (by decide) rfl (vin_of (n := 12) (by omega) (by omega)) ?_
      refine go_rngA (ixa_31 w0.1) (vinlt (vin_of (n := 12) (by omega) (by omega))) (fun g7 => ?_)
      refine go_iconst (v := (-1)) (pc' := 27) dX2_stillLost_26 rfl (by decide) ?_
      refine gz_icmp_ne (tgt := 33) (pc' := 30) dX2_stillLost_27 rfl (by decide) (fun c8 => ?_) (fun c8 => ?_)
      · refine gz_iinc (c := 1) (pc' := 36) dX2_stillLost_33 rfl rfl (by decide) (by decide) (by decide) (by omega) (fun v9 h9 e9 => ?_)
        refine go_goto (tgt := 4) dX2_stillLost_36 (by decide) ?_
        exact go_lv (lv' := [(0, .ref (L.2.1 2)), (1, .int x1_1), (2, .int v9)]) rfl (ih1 _ (by omega)  x1_1 v9 (by omega) rfl)
      refine go_iinc (c := 1) (pc' := 33) dX2_stillLost_30 rfl rfl (by decide) (by decide) ?_
      refine gz_iinc (c := 1) (pc' := 36) dX2_stillLost_33 rfl rfl (by decide) (by decide) (by decide) (by omega) (fun v11 h11 e11 => ?_)
      refine go_goto (tgt := 4) dX2_stillLost_36 (by decide) ?_
      exact go_lv (lv' := [(0, .ref (L.2.1 2)), (1, .int (x1_1 + 1)), (2, .int v11)]) rfl (ih1 _ (by omega)  (x1_1 + 1) v11 (by omega) rfl)
  exact go_lv (lv' := [(0, .ref (L.2.1 2)), (1, .int (0 : Int32)), (2, .int (0 : Int32))]) rfl (loop4_1 _  (0 : Int32) (0 : Int32) (by omega) rfl)
set_option maxHeartbeats 4000000 in
set_option maxRecDepth 100000 in
theorem c_X2_isReader (l : Launch) (L : WL) (σ : ST) (a b : Int32) (ha : 0 ≤ a.toInt ∧ a.toInt < 12) (ix : IV σ) : CtI l L yX2_isReader cX2_isReader 3 (some .boolean) rm_X2_isReader [.ref (L.2.1 2), .int a, .int b] σ (fun _ σ2 => σ2 = σ) := by
  refine ctI_go (own := RX2) (by decide) rfl (Nat.le_of_ble_eq_true rfl) (fun F hF => ?_)
  subst hF
  have n0 : (0 : Int32).toInt = 0 := by decide
  have n1 : (1 : Int32).toInt = 1 := by decide
  have n5 : (5 : Int32).toInt = 5 := by decide
  have w0 : WX σ σ := WX_rfl ix
  refine go_aload_n (i := 0) (pc' := 1) dX2_isReader_0 rfl rfl rfl ?_
  refine gf_2_kinds (pc' := 4) dX2_isReader_1 rfl fl_X2_11 ?_
  refine go_iload_n (i := 1) (pc' := 5) dX2_isReader_4 rfl rfl rfl ?_
  refine go_iald (pc' := 6) dX2_isReader_5 rfl (by decide) (by decide) rfl (vin_of (n := 12) (by omega) (by omega)) ?_
  refine go_rngA (ixa_24 w0.1) (vinlt (vin_of (n := 12) (by omega) (by omega))) (fun g1 => ?_)
  refine go_iconst (v := 1) (pc' := 7) dX2_isReader_6 rfl (by decide) ?_
  refine gz_icmp_ne (tgt := 12) (pc' := 10) dX2_isReader_7 rfl (by decide) (fun c2 => ?_) (fun c2 => ?_)
  · refine go_aload_n (i := 0) (pc' := 13) dX2_isReader_12 rfl rfl rfl ?_
    refine gf_2_kinds (pc' := 16) dX2_isReader_13 rfl fl_X2_11 ?_
    refine go_iload_n (i := 1) (pc' := 17) dX2_isReader_16 rfl rfl rfl ?_
    refine go_iald (pc' := 18) dX2_isReader_17 rfl (by decide) (by decide) rfl (vin_of (n := 12) (by omega) (by omega)) ?_
    refine go_rngA (ixa_24 w0.1) (vinlt (vin_of (n := 12) (by omega) (by omega))) (fun g3 => ?_)
    refine go_iconst (v := 5) (pc' := 19) dX2_isReader_18 rfl (by decide) ?_
    refine gz_icmp_ne (tgt := 38) (pc' := 22) dX2_isReader_19 rfl (by decide) (fun c4 => ?_) (fun c4 => ?_)
    · refine go_aload_n (i := 0) (pc' := 39) dX2_isReader_38 rfl rfl rfl ?_
      refine gf_2_readers (pc' := 42) dX2_isReader_39 rfl fl_X2_18 ?_
      refine go_iload_n (i := 1) (pc' := 43) dX2_isReader_42 rfl rfl rfl ?_
      refine go_iald (pc' := 44) dX2_isReader_43 rfl (by decide) (by decide) rfl (vin_of (n := 12) (by omega) (by omega)) ?_
      refine go_rngA (ixa_26 w0.1) (vinlt (vin_of (n := 12) (by omega) (by omega))) (fun g5 => ?_)
      refine go_iload_n (i := 2) (pc' := 45) dX2_isReader_44 rfl rfl rfl ?_
      refine gz_icmp_ne (tgt := 52) (pc' := 48) dX2_isReader_45 rfl (by decide) (fun c6 => ?_) (fun c6 => ?_)
      · refine go_iconst (v := 0) (pc' := 53) dX2_isReader_52 rfl (by decide) ?_
        exact go_zret dX2_isReader_53 rfl rfl (rfl)
      refine go_iconst (v := 1) (pc' := 49) dX2_isReader_48 rfl (by decide) ?_
      refine go_goto (tgt := 53) dX2_isReader_49 (by decide) ?_
      exact go_zret dX2_isReader_53 rfl rfl (rfl)
    refine go_aload_n (i := 0) (pc' := 23) dX2_isReader_22 rfl rfl rfl ?_
    refine gf_2_writers (pc' := 26) dX2_isReader_23 rfl fl_X2_15 ?_
    refine go_iload_n (i := 1) (pc' := 27) dX2_isReader_26 rfl rfl rfl ?_
    refine go_iald (pc' := 28) dX2_isReader_27 rfl (by decide) (by decide) rfl (vin_of (n := 12) (by omega) (by omega)) ?_
    refine go_rngA (ixa_25 w0.1) (vinlt (vin_of (n := 12) (by omega) (by omega))) (fun g7 => ?_)
    refine go_iload_n (i := 2) (pc' := 29) dX2_isReader_28 rfl rfl rfl ?_
    refine gz_icmp_eq (tgt := 36) (pc' := 32) dX2_isReader_29 rfl (by decide) (fun c8 => ?_) (fun c8 => ?_)
    · refine go_iconst (v := 0) (pc' := 37) dX2_isReader_36 rfl (by decide) ?_
      exact go_zret dX2_isReader_37 rfl rfl (rfl)
    refine go_iconst (v := 1) (pc' := 33) dX2_isReader_32 rfl (by decide) ?_
    refine go_goto (tgt := 37) dX2_isReader_33 (by decide) ?_
    exact go_zret dX2_isReader_37 rfl rfl (rfl)
  refine go_iconst (v := 0) (pc' := 11) dX2_isReader_10 rfl (by decide) ?_
  exact go_zret dX2_isReader_11 rfl rfl (rfl)
set_option maxHeartbeats 4000000 in
set_option maxRecDepth 100000 in
theorem c_X4_isAlive (l : Launch) (L : WL) (σ : ST) (a b c : Int32) (ha : 0 ≤ a.toInt ∧ a.toInt < 10) (ix : IV σ) : CtI l L yX4_isAlive cX4_isAlive 4 (some .boolean) rm_X4_isAlive [.ref (L.2.1 1), .int a, .int b, .int c] σ (fun _ σ2 => σ2 = σ) := by
  refine ctI_go (own := RX4) (by decide) rfl (Nat.le_of_ble_eq_true rfl) (fun F hF => ?_)
  subst hF
  have n0 : (0 : Int32).toInt = 0 := by decide
  have n1 : (1 : Int32).toInt = 1 := by decide
  have w0 : WX σ σ := WX_rfl ix
  refine go_aload_n (i := 0) (pc' := 1) dX4_isAlive_0 rfl rfl rfl ?_
  refine gf_1_firsts (pc' := 4) dX4_isAlive_1 rfl fl_X4_18 ?_
  refine go_iload_n (i := 1) (pc' := 5) dX4_isAlive_4 rfl rfl rfl ?_
  refine go_iald (pc' := 6) dX4_isAlive_5 rfl (by decide) (by decide) rfl (vin_of (n := 10) (by omega) (by omega)) ?_
  refine go_iload_n (i := 2) (pc' := 7) dX4_isAlive_6 rfl rfl rfl ?_
  refine gz_max (pc' := 10) dX4_isAlive_7 rfl ml_X4_35 (Nat.le_of_ble_eq_true rfl) (Nat.le_of_ble_eq_true rfl) (fun v1 h1 e1 => ?_)
  refine go_aload_n (i := 0) (pc' := 11) dX4_isAlive_10 rfl rfl rfl ?_
  refine gf_1_lasts (pc' := 14) dX4_isAlive_11 rfl fl_X4_21 ?_
  refine go_iload_n (i := 1) (pc' := 15) dX4_isAlive_14 rfl rfl rfl ?_
  refine go_iald (pc' := 16) dX4_isAlive_15 rfl (by decide) (by decide) rfl (vin_of (n := 10) (by omega) (by omega)) ?_
  refine go_iload_n (i := 3) (pc' := 17) dX4_isAlive_16 rfl rfl rfl ?_
  refine gz_min (pc' := 20) dX4_isAlive_17 rfl ml_X4_41 (Nat.le_of_ble_eq_true rfl) (Nat.le_of_ble_eq_true rfl) (fun v2 h2 e2 => ?_)
  refine gz_icmp_gt (tgt := 27) (pc' := 23) dX4_isAlive_20 rfl (by decide) (fun c3 => ?_) (fun c3 => ?_)
  · refine go_iconst (v := 0) (pc' := 28) dX4_isAlive_27 rfl (by decide) ?_
    exact go_zret dX4_isAlive_28 rfl rfl (rfl)
  refine go_iconst (v := 1) (pc' := 24) dX4_isAlive_23 rfl (by decide) ?_
  refine go_goto (tgt := 28) dX4_isAlive_24 (by decide) ?_
  exact go_zret dX4_isAlive_28 rfl rfl (rfl)
set_option maxHeartbeats 4000000 in
set_option maxRecDepth 100000 in
theorem c_X4_knownBy (l : Launch) (L : WL) (σ : ST) (a b c d : Int32) (ha : 0 ≤ a.toInt ∧ a.toInt < 10) (ix : IV σ) : CtI l L yX4_knownBy cX4_knownBy 8 (some .int) rm_X4_knownBy [.ref (L.2.1 1), .int a, .int b, .int c, .int d] σ (fun _ σ2 => σ2 = σ) := by
  refine ctI_go (own := RX4) (by decide) rfl (Nat.le_of_ble_eq_true rfl) (fun F hF => ?_)
  subst hF
  have n0 : (0 : Int32).toInt = 0 := by decide
  have n1 : (1 : Int32).toInt = 1 := by decide
  have w0 : WX σ σ := WX_rfl ix
  refine go_iconst (v := 0) (pc' := 1) dX4_knownBy_0 rfl (by decide) ?_
  refine go_istore (pc' := 3) dX4_knownBy_1 rfl (by decide) ?_
  refine go_iconst (v := 0) (pc' := 4) dX4_knownBy_3 rfl (by decide) ?_
  refine go_istore (pc' := 6) dX4_knownBy_4 rfl (by decide) ?_
  have loop6_1 : ∀ (dd1 : Nat) (x5_1 : Int32) (x6_1 : Int32), (0 ≤ (x6_1).toInt ∧ (x6_1).toInt ≤ 10) → (10 - (x6_1).toInt).toNat = dd1 → Go F L RX4 cX4_knownBy 8 rm_X4_knownBy (some .int) (RI F L (fun _ σ2 => σ2 = σ)) σ 6 [(0, .ref (L.2.1 1)), (1, .int a), (2, .int b), (3, .int c), (4, .int d), (5, .int x5_1), (6, .int x6_1)] [] := by
    intro dd1
    induction dd1 using Nat.strongRecOn with
    | _ dd1 ih1 =>
      intro x5_1 x6_1 h_1 hm_1
      refine go_iload (pc' := 8) dX4_knownBy_6 rfl rfl ?_
      refine go_aload_n (i := 0) (pc' := 9) dX4_knownBy_8 rfl rfl rfl ?_
      refine gf_1_size (pc' := 12) dX4_knownBy_9 rfl fl_X4_27 ?_
      have g2 := ixi_2 w0.1
      refine gz_icmp_ge (tgt := 80) (pc' := 15) dX4_knownBy_12 rfl (by decide) (fun c3 => ?_) (fun c3 => ?_)
      · refine go_iload (pc' := 82) dX4_knownBy_80 rfl rfl ?_
        exact go_iret dX4_knownBy_82 rfl (rfl)
      refine go_aload_n (i := 0) (pc' := 16) dX4_knownBy_15 rfl rfl rfl ?_
      refine gf_1_known (pc' := 19) dX4_knownBy_16 rfl fl_X4_24 ?_
      refine go_iload_n (i := 1) (pc' := 20) dX4_knownBy_19 rfl rfl rfl ?_
      refine go_iald (pc' := 21) dX4_knownBy_20 rfl (by decide) (by decide) rfl (vin_of (n := 10) (by omega) (by omega)) ?_
      refine go_iload (pc' := 23) dX4_knownBy_21 rfl rfl ?_
      refine go_ishr (pc' := 24) dX4_knownBy_23 rfl ?_
      refine go_iconst (v := 1) (pc' := 25) dX4_knownBy_24 rfl (by decide) ?_
      refine go_iand (pc' := 26) dX4_knownBy_25 rfl ?_
      refine go_iconst (v := 1) (pc' := 27) dX4_knownBy_26 rfl (by decide) ?_
      refine gz_icmp_ne (tgt := 34) (pc' := 30) dX4_knownBy_27 rfl (by decide) (fun c4 => ?_) (fun c4 => ?_)
      · refine go_iconst (v := 0) (pc' := 35) dX4_knownBy_34 rfl (by decide) ?_
        refine go_istore (pc' := 37) dX4_knownBy_35 rfl (by decide) ?_
        refine go_iload (pc' := 39) dX4_knownBy_37 rfl rfl ?_
        refine gz_if_eq (tgt := 74) (pc' := 42) dX4_knownBy_39 rfl (by decide) (fun c5 => ?_) (fun c5 => ?_)
        · refine gz_iinc (c := 1) (pc' := 77) dX4_knownBy_74 rfl rfl (by decide) (by decide) (by decide) (by omega) (fun v6 h6 e6 => ?_)
          refine go_goto (tgt := 6) dX4_knownBy_77 (by decide) ?_
          exact go_lv (lv' := [(0, .ref (L.2.1 1)), (1, .int a), (2, .int b), (3, .int c), (4, .int d), (5, .int x5_1), (6, .int v6)]) rfl (ih1 _ (by omega)  x5_1 v6 (by omega) rfl)
        refine go_aload_n (i := 0) (pc' := 43) dX4_knownBy_42 rfl rfl rfl ?_
        refine gf_1_names (pc' := 46) dX4_knownBy_43 rfl fl_X4_11 ?_
        refine go_iload (pc' := 48) dX4_knownBy_46 rfl rfl ?_
        refine go_iald (pc' := 49) dX4_knownBy_48 rfl (by decide) (by decide) rfl (vin_of (n := 10) (by omega) (by omega)) ?_
        refine go_iload_n (i := 2) (pc' := 50) dX4_knownBy_49 rfl rfl rfl ?_
        refine gz_icmp_ne (tgt := 74) (pc' := 53) dX4_knownBy_50 rfl (by decide) (fun c7 => ?_) (fun c7 => ?_)
        · refine gz_iinc (c := 1) (pc' := 77) dX4_knownBy_74 rfl rfl (by decide) (by decide) (by decide) (by omega) (fun v8 h8 e8 => ?_)
          refine go_goto (tgt := 6) dX4_knownBy_77 (by decide) ?_
          exact go_lv (lv' := [(0, .ref (L.2.1 1)), (1, .int a), (2, .int b), (3, .int c), (4, .int d), (5, .int x5_1), (6, .int v8)]) rfl (ih1 _ (by omega)  x5_1 v8 (by omega) rfl)
        refine go_aload_n (i := 0) (pc' := 54) dX4_knownBy_53 rfl rfl rfl ?_
        refine go_iload (pc' := 56) dX4_knownBy_54 rfl rfl ?_
        refine go_iload_n (i := 3) (pc' := 57) dX4_knownBy_56 rfl rfl rfl ?_
        refine go_iload (pc' := 59) dX4_knownBy_57 rfl rfl ?_
        refine go_cvi (pc' := 62) lk_X4_31 (c_X4_isAlive _ _ _ _ _ _ (by omega) w0.1) rfl rfl (Nat.le_of_ble_eq_true rfl) (by decide) rfl rfl rfl ⟨Nat.le_of_ble_eq_true rfl, Nat.le_of_ble_eq_true rfl⟩ ⟨rfl, rfl⟩ dX4_knownBy_59 rfl (fun r9 σ9 h9 => ?_)
        have h9 := h9.symm
        subst h9
        refine gz_if_eq (tgt := 74) (pc' := 65) dX4_knownBy_62 rfl (by decide) (fun c10 => ?_) (fun c10 => ?_)
        · refine gz_iinc (c := 1) (pc' := 77) dX4_knownBy_74 rfl rfl (by decide) (by decide) (by decide) (by omega) (fun v11 h11 e11 => ?_)
          refine go_goto (tgt := 6) dX4_knownBy_77 (by decide) ?_
          exact go_lv (lv' := [(0, .ref (L.2.1 1)), (1, .int a), (2, .int b), (3, .int c), (4, .int d), (5, .int x5_1), (6, .int v11)]) rfl (ih1 _ (by omega)  x5_1 v11 (by omega) rfl)
        refine go_iload (pc' := 67) dX4_knownBy_65 rfl rfl ?_
        refine go_iconst (v := 1) (pc' := 68) dX4_knownBy_67 rfl (by decide) ?_
        refine go_iload (pc' := 70) dX4_knownBy_68 rfl rfl ?_
        refine go_ishl (pc' := 71) dX4_knownBy_70 rfl ?_
        refine go_ior (pc' := 72) dX4_knownBy_71 rfl ?_
        refine go_topz (fun y12 h12 e12 => ?_)
        refine go_istore (pc' := 74) dX4_knownBy_72 rfl (by decide) ?_
        refine gz_iinc (c := 1) (pc' := 77) dX4_knownBy_74 rfl rfl (by decide) (by decide) (by decide) (by omega) (fun v13 h13 e13 => ?_)
        refine go_goto (tgt := 6) dX4_knownBy_77 (by decide) ?_
        exact go_lv (lv' := [(0, .ref (L.2.1 1)), (1, .int a), (2, .int b), (3, .int c), (4, .int d), (5, .int y12), (6, .int v13)]) rfl (ih1 _ (by omega)  y12 v13 (by omega) rfl)
      refine go_iconst (v := 1) (pc' := 31) dX4_knownBy_30 rfl (by decide) ?_
      refine go_goto (tgt := 35) dX4_knownBy_31 (by decide) ?_
      refine go_istore (pc' := 37) dX4_knownBy_35 rfl (by decide) ?_
      refine go_iload (pc' := 39) dX4_knownBy_37 rfl rfl ?_
      refine gz_if_eq (tgt := 74) (pc' := 42) dX4_knownBy_39 rfl (by decide) (fun c14 => ?_) (fun c14 => ?_)
      · refine gz_iinc (c := 1) (pc' := 77) dX4_knownBy_74 rfl rfl (by decide) (by decide) (by decide) (by omega) (fun v15 h15 e15 => ?_)
        refine go_goto (tgt := 6) dX4_knownBy_77 (by decide) ?_
        exact go_lv (lv' := [(0, .ref (L.2.1 1)), (1, .int a), (2, .int b), (3, .int c), (4, .int d), (5, .int x5_1), (6, .int v15)]) rfl (ih1 _ (by omega)  x5_1 v15 (by omega) rfl)
      refine go_aload_n (i := 0) (pc' := 43) dX4_knownBy_42 rfl rfl rfl ?_
      refine gf_1_names (pc' := 46) dX4_knownBy_43 rfl fl_X4_11 ?_
      refine go_iload (pc' := 48) dX4_knownBy_46 rfl rfl ?_
      refine go_iald (pc' := 49) dX4_knownBy_48 rfl (by decide) (by decide) rfl (vin_of (n := 10) (by omega) (by omega)) ?_
      refine go_iload_n (i := 2) (pc' := 50) dX4_knownBy_49 rfl rfl rfl ?_
      refine gz_icmp_ne (tgt := 74) (pc' := 53) dX4_knownBy_50 rfl (by decide) (fun c16 => ?_) (fun c16 => ?_)
      · refine gz_iinc (c := 1) (pc' := 77) dX4_knownBy_74 rfl rfl (by decide) (by decide) (by decide) (by omega) (fun v17 h17 e17 => ?_)
        refine go_goto (tgt := 6) dX4_knownBy_77 (by decide) ?_
        exact go_lv (lv' := [(0, .ref (L.2.1 1)), (1, .int a), (2, .int b), (3, .int c), (4, .int d), (5, .int x5_1), (6, .int v17)]) rfl (ih1 _ (by omega)  x5_1 v17 (by omega) rfl)
      refine go_aload_n (i := 0) (pc' := 54) dX4_knownBy_53 rfl rfl rfl ?_
      refine go_iload (pc' := 56) dX4_knownBy_54 rfl rfl ?_
      refine go_iload_n (i := 3) (pc' := 57) dX4_knownBy_56 rfl rfl rfl ?_
      refine go_iload (pc' := 59) dX4_knownBy_57 rfl rfl ?_
      refine go_cvi (pc' := 62) lk_X4_31 (c_X4_isAlive _ _ _ _ _ _ (by omega) w0.1) rfl rfl (Nat.le_of_ble_eq_true rfl) (by decide) rfl rfl rfl ⟨Nat.le_of_ble_eq_true rfl, Nat.le_of_ble_eq_true rfl⟩ ⟨rfl, rfl⟩ dX4_knownBy_59 rfl (fun r18 σ18 h18 => ?_)
      have h18 := h18.symm
      subst h18
      refine gz_if_eq (tgt := 74) (pc' := 65) dX4_knownBy_62 rfl (by decide) (fun c19 => ?_) (fun c19 => ?_)
      · refine gz_iinc (c := 1) (pc' := 77) dX4_knownBy_74 rfl rfl (by decide) (by decide) (by decide) (by omega) (fun v20 h20 e20 => ?_)
        refine go_goto (tgt := 6) dX4_knownBy_77 (by decide) ?_
        exact go_lv (lv' := [(0, .ref (L.2.1 1)), (1, .int a), (2, .int b), (3, .int c), (4, .int d), (5, .int x5_1), (6, .int v20)]) rfl (ih1 _ (by omega)  x5_1 v20 (by omega) rfl)
      refine go_iload (pc' := 67) dX4_knownBy_65 rfl rfl ?_
      refine go_iconst (v := 1) (pc' := 68) dX4_knownBy_67 rfl (by decide) ?_
      refine go_iload (pc' := 70) dX4_knownBy_68 rfl rfl ?_
      refine go_ishl (pc' := 71) dX4_knownBy_70 rfl ?_
      refine go_ior (pc' := 72) dX4_knownBy_71 rfl ?_
      refine go_topz (fun y21 h21 e21 => ?_)
      refine go_istore (pc' := 74) dX4_knownBy_72 rfl (by decide) ?_
      refine gz_iinc (c := 1) (pc' := 77) dX4_knownBy_74 rfl rfl (by decide) (by decide) (by decide) (by omega) (fun v22 h22 e22 => ?_)
      refine go_goto (tgt := 6) dX4_knownBy_77 (by decide) ?_
      exact go_lv (lv' := [(0, .ref (L.2.1 1)), (1, .int a), (2, .int b), (3, .int c), (4, .int d), (5, .int y21), (6, .int v22)]) rfl (ih1 _ (by omega)  y21 v22 (by omega) rfl)
  exact go_lv (lv' := [(0, .ref (L.2.1 1)), (1, .int a), (2, .int b), (3, .int c), (4, .int d), (5, .int (0 : Int32)), (6, .int (0 : Int32))]) rfl (loop6_1 _  (0 : Int32) (0 : Int32) (by omega) rfl)
set_option maxHeartbeats 4000000 in
set_option maxRecDepth 100000 in
theorem c_X4_onlyOne (l : Launch) (L : WL) (σ : ST) (a : Int32) (ix : IV σ) : CtI l L yX4_onlyOne cX4_onlyOne 4 (some .int) rm_X4_onlyOne [.ref (L.2.1 1), .int a] σ (fun _ σ2 => σ2 = σ) := by
  refine ctI_go (own := RX4) (by decide) rfl (Nat.le_of_ble_eq_true rfl) (fun F hF => ?_)
  subst hF
  have nm1 : (-1 : Int32).toInt = -1 := by decide
  have n0 : (0 : Int32).toInt = 0 := by decide
  have n1 : (1 : Int32).toInt = 1 := by decide
  have w0 : WX σ σ := WX_rfl ix
  refine go_iconst (v := (-1)) (pc' := 1) dX4_onlyOne_0 rfl (by decide) ?_
  refine go_istore_n (i := 2) (pc' := 2) dX4_onlyOne_1 rfl rfl (by decide) ?_
  refine go_iconst (v := 0) (pc' := 3) dX4_onlyOne_2 rfl (by decide) ?_
  refine go_istore_n (i := 3) (pc' := 4) dX4_onlyOne_3 rfl rfl (by decide) ?_
  have loop4_1 : ∀ (dd1 : Nat) (x2_1 : Int32) (x3_1 : Int32), (0 ≤ (x3_1).toInt ∧ (x3_1).toInt ≤ 10) → (10 - (x3_1).toInt).toNat = dd1 → Go F L RX4 cX4_onlyOne 4 rm_X4_onlyOne (some .int) (RI F L (fun _ σ2 => σ2 = σ)) σ 4 [(0, .ref (L.2.1 1)), (1, .int a), (2, .int x2_1), (3, .int x3_1)] [] := by
    intro dd1
    induction dd1 using Nat.strongRecOn with
    | _ dd1 ih1 =>
      intro x2_1 x3_1 h_1 hm_1
      refine go_iload_n (i := 3) (pc' := 5) dX4_onlyOne_4 rfl rfl rfl ?_
      refine go_aload_n (i := 0) (pc' := 6) dX4_onlyOne_5 rfl rfl rfl ?_
      refine gf_1_size (pc' := 9) dX4_onlyOne_6 rfl fl_X4_27 ?_
      have g2 := ixi_2 w0.1
      refine gz_icmp_ge (tgt := 27) (pc' := 12) dX4_onlyOne_9 rfl (by decide) (fun c3 => ?_) (fun c3 => ?_)
      · refine go_iload_n (i := 2) (pc' := 28) dX4_onlyOne_27 rfl rfl rfl ?_
        exact go_iret dX4_onlyOne_28 rfl (rfl)
      refine go_iload_n (i := 1) (pc' := 13) dX4_onlyOne_12 rfl rfl rfl ?_
      refine go_iconst (v := 1) (pc' := 14) dX4_onlyOne_13 rfl (by decide) ?_
      refine go_iload_n (i := 3) (pc' := 15) dX4_onlyOne_14 rfl rfl rfl ?_
      refine go_ishl (pc' := 16) dX4_onlyOne_15 rfl ?_
      refine gz_icmp_ne (tgt := 21) (pc' := 19) dX4_onlyOne_16 rfl (by decide) (fun c4 => ?_) (fun c4 => ?_)
      · refine gz_iinc (c := 1) (pc' := 24) dX4_onlyOne_21 rfl rfl (by decide) (by decide) (by decide) (by omega) (fun v5 h5 e5 => ?_)
        refine go_goto (tgt := 4) dX4_onlyOne_24 (by decide) ?_
        exact go_lv (lv' := [(0, .ref (L.2.1 1)), (1, .int a), (2, .int x2_1), (3, .int v5)]) rfl (ih1 _ (by omega)  x2_1 v5 (by omega) rfl)
      refine go_iload_n (i := 3) (pc' := 20) dX4_onlyOne_19 rfl rfl rfl ?_
      refine go_istore_n (i := 2) (pc' := 21) dX4_onlyOne_20 rfl rfl (by decide) ?_
      refine gz_iinc (c := 1) (pc' := 24) dX4_onlyOne_21 rfl rfl (by decide) (by decide) (by decide) (by omega) (fun v6 h6 e6 => ?_)
      refine go_goto (tgt := 4) dX4_onlyOne_24 (by decide) ?_
      exact go_lv (lv' := [(0, .ref (L.2.1 1)), (1, .int a), (2, .int x3_1), (3, .int v6)]) rfl (ih1 _ (by omega)  x3_1 v6 (by omega) rfl)
  exact go_lv (lv' := [(0, .ref (L.2.1 1)), (1, .int a), (2, .int (-1 : Int32)), (3, .int (0 : Int32))]) rfl (loop4_1 _  (-1 : Int32) (0 : Int32) (by omega) rfl)
set_option maxHeartbeats 4000000 in
set_option maxRecDepth 100000 in
theorem c_X3_begin (l : Launch) (L : WL) (σ : ST)  (ix : IV σ) : CtV l L yX3_begin cX3_begin 1 none rm_X3_begin [.ref (L.2.1 7)] σ (fun σ2 => WX σ σ2) := by
  refine ctV_go (own := RX3) (by decide) rfl (Nat.le_of_ble_eq_true rfl) (fun F hF => ?_)
  subst hF
  have n0 : (0 : Int32).toInt = 0 := by decide
  have w0 : WX σ σ := WX_rfl ix
  refine go_aload_n (i := 0) (pc' := 1) dX3_begin_0 rfl rfl rfl ?_
  refine go_iconst (v := 0) (pc' := 2) dX3_begin_1 rfl (by decide) ?_
  refine pf_7_depth (pc' := 5) dX3_begin_2 rfl fl_X3_7 ?_
  refine go_gen (P := WX σ) ⟨ixs_7 w0.1 (by omega) (by omega), Ag_setI w0.2 (by decide)⟩ (fun σ1 w1 => ?_)
  refine go_aload_n (i := 0) (pc' := 6) dX3_begin_5 rfl rfl rfl ?_
  refine go_iconst (v := 0) (pc' := 7) dX3_begin_6 rfl (by decide) ?_
  refine pf_7_state (pc' := 10) dX3_begin_7 rfl fl_X3_29 ?_
  refine go_gen (P := WX σ) ⟨ixs_n w1.1 (by decide), Ag_setI w1.2 (by decide)⟩ (fun σ2 w2 => ?_)
  exact go_vret dX3_begin_10 rfl (w2)
set_option maxHeartbeats 4000000 in
set_option maxRecDepth 100000 in
theorem c_X3_isWhole (l : Launch) (L : WL) (σ : ST)  (ix : IV σ) : CtI l L yX3_isWhole cX3_isWhole 1 (some .boolean) rm_X3_isWhole [.ref (L.2.1 7)] σ (fun _ σ2 => σ2 = σ) := by
  refine ctI_go (own := RX3) (by decide) rfl (Nat.le_of_ble_eq_true rfl) (fun F hF => ?_)
  subst hF
  have n0 : (0 : Int32).toInt = 0 := by decide
  have n1 : (1 : Int32).toInt = 1 := by decide
  have w0 : WX σ σ := WX_rfl ix
  refine go_aload_n (i := 0) (pc' := 1) dX3_isWhole_0 rfl rfl rfl ?_
  refine gf_7_state (pc' := 4) dX3_isWhole_1 rfl fl_X3_29 ?_
  refine gz_if_ne (tgt := 18) (pc' := 7) dX3_isWhole_4 rfl (by decide) (fun c1 => ?_) (fun c1 => ?_)
  · refine go_iconst (v := 0) (pc' := 19) dX3_isWhole_18 rfl (by decide) ?_
    exact go_zret dX3_isWhole_19 rfl rfl (rfl)
  refine go_aload_n (i := 0) (pc' := 8) dX3_isWhole_7 rfl rfl rfl ?_
  refine gf_7_depth (pc' := 11) dX3_isWhole_8 rfl fl_X3_7 ?_
  have g2 := ixi_7 w0.1
  refine gz_if_ne (tgt := 18) (pc' := 14) dX3_isWhole_11 rfl (by decide) (fun c3 => ?_) (fun c3 => ?_)
  · refine go_iconst (v := 0) (pc' := 19) dX3_isWhole_18 rfl (by decide) ?_
    exact go_zret dX3_isWhole_19 rfl rfl (rfl)
  refine go_iconst (v := 1) (pc' := 15) dX3_isWhole_14 rfl (by decide) ?_
  refine go_goto (tgt := 19) dX3_isWhole_15 (by decide) ?_
  exact go_zret dX3_isWhole_19 rfl rfl (rfl)
set_option maxHeartbeats 4000000 in
set_option maxRecDepth 100000 in
theorem c_X3_isLetter (l : Launch) (L : WL) (σ : ST) (s : Int32) : CtI l L yX3_isLetter cX3_isLetter 1 (some .boolean) rm_X3_isLetter [.int s] σ (fun r σ2 => σ2 = σ ∧ bq (97 ≤ s.toInt ∧ s.toInt ≤ 122) r) := by
  refine ctI_go (own := RX3) (by decide) rfl (Nat.le_of_ble_eq_true rfl) (fun F hF => ?_)
  subst hF
  have n0 : (0 : Int32).toInt = 0 := by decide
  have n1 : (1 : Int32).toInt = 1 := by decide
  have n97 : (97 : Int32).toInt = 97 := by decide
  have n122 : (122 : Int32).toInt = 122 := by decide
  refine go_iload_n (i := 0) (pc' := 1) dX3_isLetter_0 rfl rfl rfl ?_
  refine go_bipush (v := 97) (pc' := 3) dX3_isLetter_1 rfl (by decide) ?_
  refine gz_icmp_lt (tgt := 16) (pc' := 6) dX3_isLetter_3 rfl (by decide) (fun c1 => ?_) (fun c1 => ?_)
  · refine go_iconst (v := 0) (pc' := 17) dX3_isLetter_16 rfl (by decide) ?_
    exact go_zret dX3_isLetter_17 rfl rfl (⟨rfl, by first | exact bq_t (by omega) | exact bq_f (by omega)⟩)
  refine go_iload_n (i := 0) (pc' := 7) dX3_isLetter_6 rfl rfl rfl ?_
  refine go_bipush (v := 122) (pc' := 9) dX3_isLetter_7 rfl (by decide) ?_
  refine gz_icmp_gt (tgt := 16) (pc' := 12) dX3_isLetter_9 rfl (by decide) (fun c2 => ?_) (fun c2 => ?_)
  · refine go_iconst (v := 0) (pc' := 17) dX3_isLetter_16 rfl (by decide) ?_
    exact go_zret dX3_isLetter_17 rfl rfl (⟨rfl, by first | exact bq_t (by omega) | exact bq_f (by omega)⟩)
  refine go_iconst (v := 1) (pc' := 13) dX3_isLetter_12 rfl (by decide) ?_
  refine go_goto (tgt := 17) dX3_isLetter_13 (by decide) ?_
  exact go_zret dX3_isLetter_17 rfl rfl (⟨rfl, by first | exact bq_t (by omega) | exact bq_f (by omega)⟩)
set_option maxHeartbeats 4000000 in
set_option maxRecDepth 100000 in
theorem c_X3_isSort (l : Launch) (L : WL) (σ : ST) (s : Int32) : CtI l L yX3_isSort cX3_isSort 1 (some .boolean) rm_X3_isSort [.int s] σ (fun _ σ2 => σ2 = σ) := by
  refine ctI_go (own := RX3) (by decide) rfl (Nat.le_of_ble_eq_true rfl) (fun F hF => ?_)
  subst hF
  have n0 : (0 : Int32).toInt = 0 := by decide
  have n1 : (1 : Int32).toInt = 1 := by decide
  have n97 : (97 : Int32).toInt = 97 := by decide
  have n100 : (100 : Int32).toInt = 100 := by decide
  have n104 : (104 : Int32).toInt = 104 := by decide
  have n110 : (110 : Int32).toInt = 110 := by decide
  have n115 : (115 : Int32).toInt = 115 := by decide
  have n117 : (117 : Int32).toInt = 117 := by decide
  refine go_iload_n (i := 0) (pc' := 1) dX3_isSort_0 rfl rfl rfl ?_
  refine go_bipush (v := 100) (pc' := 3) dX3_isSort_1 rfl (by decide) ?_
  refine gz_icmp_eq (tgt := 36) (pc' := 6) dX3_isSort_3 rfl (by decide) (fun c1 => ?_) (fun c1 => ?_)
  · refine go_iconst (v := 1) (pc' := 37) dX3_isSort_36 rfl (by decide) ?_
    refine go_goto (tgt := 41) dX3_isSort_37 (by decide) ?_
    exact go_zret dX3_isSort_41 rfl rfl (rfl)
  refine go_iload_n (i := 0) (pc' := 7) dX3_isSort_6 rfl rfl rfl ?_
  refine go_bipush (v := 97) (pc' := 9) dX3_isSort_7 rfl (by decide) ?_
  refine gz_icmp_eq (tgt := 36) (pc' := 12) dX3_isSort_9 rfl (by decide) (fun c2 => ?_) (fun c2 => ?_)
  · refine go_iconst (v := 1) (pc' := 37) dX3_isSort_36 rfl (by decide) ?_
    refine go_goto (tgt := 41) dX3_isSort_37 (by decide) ?_
    exact go_zret dX3_isSort_41 rfl rfl (rfl)
  refine go_iload_n (i := 0) (pc' := 13) dX3_isSort_12 rfl rfl rfl ?_
  refine go_bipush (v := 117) (pc' := 15) dX3_isSort_13 rfl (by decide) ?_
  refine gz_icmp_eq (tgt := 36) (pc' := 18) dX3_isSort_15 rfl (by decide) (fun c3 => ?_) (fun c3 => ?_)
  · refine go_iconst (v := 1) (pc' := 37) dX3_isSort_36 rfl (by decide) ?_
    refine go_goto (tgt := 41) dX3_isSort_37 (by decide) ?_
    exact go_zret dX3_isSort_41 rfl rfl (rfl)
  refine go_iload_n (i := 0) (pc' := 19) dX3_isSort_18 rfl rfl rfl ?_
  refine go_bipush (v := 104) (pc' := 21) dX3_isSort_19 rfl (by decide) ?_
  refine gz_icmp_eq (tgt := 36) (pc' := 24) dX3_isSort_21 rfl (by decide) (fun c4 => ?_) (fun c4 => ?_)
  · refine go_iconst (v := 1) (pc' := 37) dX3_isSort_36 rfl (by decide) ?_
    refine go_goto (tgt := 41) dX3_isSort_37 (by decide) ?_
    exact go_zret dX3_isSort_41 rfl rfl (rfl)
  refine go_iload_n (i := 0) (pc' := 25) dX3_isSort_24 rfl rfl rfl ?_
  refine go_bipush (v := 115) (pc' := 27) dX3_isSort_25 rfl (by decide) ?_
  refine gz_icmp_eq (tgt := 36) (pc' := 30) dX3_isSort_27 rfl (by decide) (fun c5 => ?_) (fun c5 => ?_)
  · refine go_iconst (v := 1) (pc' := 37) dX3_isSort_36 rfl (by decide) ?_
    refine go_goto (tgt := 41) dX3_isSort_37 (by decide) ?_
    exact go_zret dX3_isSort_41 rfl rfl (rfl)
  refine go_iload_n (i := 0) (pc' := 31) dX3_isSort_30 rfl rfl rfl ?_
  refine go_bipush (v := 110) (pc' := 33) dX3_isSort_31 rfl (by decide) ?_
  refine gz_icmp_ne (tgt := 40) (pc' := 36) dX3_isSort_33 rfl (by decide) (fun c6 => ?_) (fun c6 => ?_)
  · refine go_iconst (v := 0) (pc' := 41) dX3_isSort_40 rfl (by decide) ?_
    exact go_zret dX3_isSort_41 rfl rfl (rfl)
  refine go_iconst (v := 1) (pc' := 37) dX3_isSort_36 rfl (by decide) ?_
  refine go_goto (tgt := 41) dX3_isSort_37 (by decide) ?_
  exact go_zret dX3_isSort_41 rfl rfl (rfl)
set_option maxHeartbeats 4000000 in
set_option maxRecDepth 100000 in
theorem c_X3_stopAt (l : Launch) (L : WL) (σ : ST) (p : Int32) (ix : IV σ) : CtI l L yX3_stopAt cX3_stopAt 2 (some .int) rm_X3_stopAt [.ref (L.2.1 7), .int p] σ (fun _ σ2 => WX σ σ2) := by
  refine ctI_go (own := RX3) (by decide) rfl (Nat.le_of_ble_eq_true rfl) (fun F hF => ?_)
  subst hF
  have n5 : (5 : Int32).toInt = 5 := by decide
  have w0 : WX σ σ := WX_rfl ix
  refine go_aload_n (i := 0) (pc' := 1) dX3_stopAt_0 rfl rfl rfl ?_
  refine go_iload_n (i := 1) (pc' := 2) dX3_stopAt_1 rfl rfl rfl ?_
  refine pf_7_wrongAt (pc' := 5) dX3_stopAt_2 rfl fl_X3_22 ?_
  refine go_gen (P := WX σ) ⟨ixs_n w0.1 (by decide), Ag_setI w0.2 (by decide)⟩ (fun σ1 w1 => ?_)
  refine go_iconst (v := 5) (pc' := 6) dX3_stopAt_5 rfl (by decide) ?_
  exact go_iret dX3_stopAt_6 rfl (w1)
set_option maxHeartbeats 4000000 in
set_option maxRecDepth 100000 in
theorem c_X3_isOpen (l : Launch) (L : WL) (σ : ST) (s : Int32) (ix : IV σ) : CtI l L yX3_isOpen cX3_isOpen 3 (some .boolean) rm_X3_isOpen [.ref (L.2.1 7), .int s] σ (fun _ σ2 => σ2 = σ) := by
  refine ctI_go (own := RX3) (by decide) rfl (Nat.le_of_ble_eq_true rfl) (fun F hF => ?_)
  subst hF
  have n0 : (0 : Int32).toInt = 0 := by decide
  have n1 : (1 : Int32).toInt = 1 := by decide
  have w0 : WX σ σ := WX_rfl ix
  refine go_iconst (v := 0) (pc' := 1) dX3_isOpen_0 rfl (by decide) ?_
  refine go_istore_n (i := 2) (pc' := 2) dX3_isOpen_1 rfl rfl (by decide) ?_
  have loop2_1 : ∀ (dd1 : Nat) (x2_1 : Int32), (0 ≤ (x2_1).toInt ∧ (x2_1).toInt ≤ 4) → (4 - (x2_1).toInt).toNat = dd1 → Go F L RX3 cX3_isOpen 3 rm_X3_isOpen (some .boolean) (RI F L (fun _ σ2 => σ2 = σ)) σ 2 [(0, .ref (L.2.1 7)), (1, .int s), (2, .int x2_1)] [] := by
    intro dd1
    induction dd1 using Nat.strongRecOn with
    | _ dd1 ih1 =>
      intro x2_1 h_1 hm_1
      refine go_iload_n (i := 2) (pc' := 3) dX3_isOpen_2 rfl rfl rfl ?_
      refine go_aload_n (i := 0) (pc' := 4) dX3_isOpen_3 rfl rfl rfl ?_
      refine gf_7_depth (pc' := 7) dX3_isOpen_4 rfl fl_X3_7 ?_
      have g2 := ixi_7 w0.1
      refine gz_icmp_ge (tgt := 28) (pc' := 10) dX3_isOpen_7 rfl (by decide) (fun c3 => ?_) (fun c3 => ?_)
      · refine go_iconst (v := 0) (pc' := 29) dX3_isOpen_28 rfl (by decide) ?_
        exact go_zret dX3_isOpen_29 rfl rfl (rfl)
      refine go_aload_n (i := 0) (pc' := 11) dX3_isOpen_10 rfl rfl rfl ?_
      refine gf_7_open (pc' := 14) dX3_isOpen_11 rfl fl_X3_25 ?_
      refine go_iload_n (i := 2) (pc' := 15) dX3_isOpen_14 rfl rfl rfl ?_
      refine go_iald (pc' := 16) dX3_isOpen_15 rfl (by decide) (by decide) rfl (vin_of (n := 4) (by omega) (by omega)) ?_
      refine go_iload_n (i := 1) (pc' := 17) dX3_isOpen_16 rfl rfl rfl ?_
      refine gz_icmp_ne (tgt := 22) (pc' := 20) dX3_isOpen_17 rfl (by decide) (fun c4 => ?_) (fun c4 => ?_)
      · refine gz_iinc (c := 1) (pc' := 25) dX3_isOpen_22 rfl rfl (by decide) (by decide) (by decide) (by omega) (fun v5 h5 e5 => ?_)
        refine go_goto (tgt := 2) dX3_isOpen_25 (by decide) ?_
        exact go_lv (lv' := [(0, .ref (L.2.1 7)), (1, .int s), (2, .int v5)]) rfl (ih1 _ (by omega)  v5 (by omega) rfl)
      refine go_iconst (v := 1) (pc' := 21) dX3_isOpen_20 rfl (by decide) ?_
      exact go_zret dX3_isOpen_21 rfl rfl (rfl)
  exact go_lv (lv' := [(0, .ref (L.2.1 7)), (1, .int s), (2, .int (0 : Int32))]) rfl (loop2_1 _  (0 : Int32) (by omega) rfl)
set_option maxHeartbeats 4000000 in
set_option maxRecDepth 100000 in
theorem c_X3_openMark (l : Launch) (L : WL) (σ : ST)  (ix : IV σ) : CtI l L yX3_openMark cX3_openMark 1 (some .int) rm_X3_openMark [.ref (L.2.1 7)] σ (fun _ σ2 => WX σ σ2) := by
  refine ctI_go (own := RX3) (by decide) rfl (Nat.le_of_ble_eq_true rfl) (fun F hF => ?_)
  subst hF
  have n0 : (0 : Int32).toInt = 0 := by decide
  have n1 : (1 : Int32).toInt = 1 := by decide
  have n2 : (2 : Int32).toInt = 2 := by decide
  have n4 : (4 : Int32).toInt = 4 := by decide
  have w0 : WX σ σ := WX_rfl ix
  refine go_aload_n (i := 0) (pc' := 1) dX3_openMark_0 rfl rfl rfl ?_
  refine gf_7_depth (pc' := 4) dX3_openMark_1 rfl fl_X3_7 ?_
  have g1 := ixi_7 w0.1
  refine go_iconst (v := 4) (pc' := 5) dX3_openMark_4 rfl (by decide) ?_
  refine gz_icmp_ge (tgt := 31) (pc' := 8) dX3_openMark_5 rfl (by decide) (fun c2 => ?_) (fun c2 => ?_)
  · refine go_aload_n (i := 0) (pc' := 32) dX3_openMark_31 rfl rfl rfl ?_
    refine go_iconst (v := 0) (pc' := 33) dX3_openMark_32 rfl (by decide) ?_
    refine pf_7_state (pc' := 36) dX3_openMark_33 rfl fl_X3_29 ?_
    refine go_gen (P := WX σ) ⟨ixs_n w0.1 (by decide), Ag_setI w0.2 (by decide)⟩ (fun σ3 w3 => ?_)
    refine go_iconst (v := 2) (pc' := 37) dX3_openMark_36 rfl (by decide) ?_
    exact go_iret dX3_openMark_37 rfl (w3)
  refine go_aload_n (i := 0) (pc' := 9) dX3_openMark_8 rfl rfl rfl ?_
  refine gf_7_open (pc' := 12) dX3_openMark_9 rfl fl_X3_25 ?_
  refine go_aload_n (i := 0) (pc' := 13) dX3_openMark_12 rfl rfl rfl ?_
  refine gf_7_depth (pc' := 16) dX3_openMark_13 rfl fl_X3_7 ?_
  have g4 := ixi_7 w0.1
  refine go_aload_n (i := 0) (pc' := 17) dX3_openMark_16 rfl rfl rfl ?_
  refine gf_7_sort (pc' := 20) dX3_openMark_17 rfl fl_X3_13 ?_
  refine go_iast (pc' := 21) dX3_openMark_20 rfl (by decide) (by decide) rfl (vin_of (n := 4) (by omega) (by omega)) ?_
  refine go_gen (P := fun s => WX σ s ∧ s.1 7 = σ.1 7) ⟨⟨ixt_n w0.1 (by decide), Ag_setA w0.2 (by decide)⟩, rfl⟩ (fun σ5 z5 => ?_)
  obtain ⟨w5, g5⟩ := z5
  have q5 := congrArg Int32.toInt g5
  refine go_aload_n (i := 0) (pc' := 22) dX3_openMark_21 rfl rfl rfl ?_
  refine go_dup (pc' := 23) dX3_openMark_22 rfl rfl ?_
  refine gf_7_depth (pc' := 26) dX3_openMark_23 rfl fl_X3_7 ?_
  have g6 := ixi_7 w5.1
  refine go_iconst (v := 1) (pc' := 27) dX3_openMark_26 rfl (by decide) ?_
  refine gz_iadd (pc' := 28) dX3_openMark_27 rfl (by omega) (fun v7 h7 e7 => ?_)
  refine pf_7_depth (pc' := 31) dX3_openMark_28 rfl fl_X3_7 ?_
  refine go_gen (P := WX σ) ⟨ixs_7 w5.1 (by omega) (by omega), Ag_setI w5.2 (by decide)⟩ (fun σ8 w8 => ?_)
  refine go_aload_n (i := 0) (pc' := 32) dX3_openMark_31 rfl rfl rfl ?_
  refine go_iconst (v := 0) (pc' := 33) dX3_openMark_32 rfl (by decide) ?_
  refine pf_7_state (pc' := 36) dX3_openMark_33 rfl fl_X3_29 ?_
  refine go_gen (P := WX σ) ⟨ixs_n w8.1 (by decide), Ag_setI w8.2 (by decide)⟩ (fun σ9 w9 => ?_)
  refine go_iconst (v := 2) (pc' := 37) dX3_openMark_36 rfl (by decide) ?_
  exact go_iret dX3_openMark_37 rfl (w9)
set_option maxHeartbeats 4000000 in
set_option maxRecDepth 100000 in
theorem c_X3_takeText (l : Launch) (L : WL) (σ : ST) (s p : Int32) (ix : IV σ) : CtI l L yX3_takeText cX3_takeText 3 (some .int) rm_X3_takeText [.ref (L.2.1 7), .int s, .int p] σ (fun _ σ2 => WX σ σ2) := by
  refine ctI_go (own := RX3) (by decide) rfl (Nat.le_of_ble_eq_true rfl) (fun F hF => ?_)
  subst hF
  have n0 : (0 : Int32).toInt = 0 := by decide
  have n1 : (1 : Int32).toInt = 1 := by decide
  have n3 : (3 : Int32).toInt = 3 := by decide
  have n4 : (4 : Int32).toInt = 4 := by decide
  have n32 : (32 : Int32).toInt = 32 := by decide
  have n46 : (46 : Int32).toInt = 46 := by decide
  have n123 : (123 : Int32).toInt = 123 := by decide
  have n125 : (125 : Int32).toInt = 125 := by decide
  have w0 : WX σ σ := WX_rfl ix
  refine go_iload_n (i := 1) (pc' := 1) dX3_takeText_0 rfl rfl rfl ?_
  refine go_csi (pc' := 4) ls_X3_45 (c_X3_isLetter _ _ _ _) rfl rfl (Nat.le_of_ble_eq_true rfl) ⟨Nat.le_of_ble_eq_true rfl, Nat.le_of_ble_eq_true rfl⟩ ⟨rfl, rfl⟩ dX3_takeText_1 rfl (fun r1 σ1 h1 => ?_)
  obtain ⟨e1, h1⟩ := h1
  have e1 := e1.symm
  subst e1
  refine go_neB (tgt := 19) (pc' := 7) h1 dX3_takeText_4 rfl (by decide) (fun c2 => ?_) (fun c2 => ?_)
  · refine go_iconst (v := 0) (pc' := 20) dX3_takeText_19 rfl (by decide) ?_
    exact go_iret dX3_takeText_20 rfl (w0)
  refine go_iload_n (i := 1) (pc' := 8) dX3_takeText_7 rfl rfl rfl ?_
  refine go_bipush (v := 32) (pc' := 10) dX3_takeText_8 rfl (by decide) ?_
  refine gz_icmp_eq (tgt := 19) (pc' := 13) dX3_takeText_10 rfl (by decide) (fun c3 => ?_) (fun c3 => ?_)
  · refine go_iconst (v := 0) (pc' := 20) dX3_takeText_19 rfl (by decide) ?_
    exact go_iret dX3_takeText_20 rfl (w0)
  refine go_iload_n (i := 1) (pc' := 14) dX3_takeText_13 rfl rfl rfl ?_
  refine go_bipush (v := 46) (pc' := 16) dX3_takeText_14 rfl (by decide) ?_
  refine gz_icmp_ne (tgt := 21) (pc' := 19) dX3_takeText_16 rfl (by decide) (fun c4 => ?_) (fun c4 => ?_)
  · refine go_iload_n (i := 1) (pc' := 22) dX3_takeText_21 rfl rfl rfl ?_
    refine go_bipush (v := 125) (pc' := 24) dX3_takeText_22 rfl (by decide) ?_
    refine gz_icmp_ne (tgt := 59) (pc' := 27) dX3_takeText_24 rfl (by decide) (fun c5 => ?_) (fun c5 => ?_)
    · refine go_iload_n (i := 1) (pc' := 60) dX3_takeText_59 rfl rfl rfl ?_
      refine go_bipush (v := 123) (pc' := 62) dX3_takeText_60 rfl (by decide) ?_
      refine gz_icmp_ne (tgt := 85) (pc' := 65) dX3_takeText_62 rfl (by decide) (fun c6 => ?_) (fun c6 => ?_)
      · refine go_aload_n (i := 0) (pc' := 86) dX3_takeText_85 rfl rfl rfl ?_
        refine go_iload_n (i := 2) (pc' := 87) dX3_takeText_86 rfl rfl rfl ?_
        refine go_cvi (pc' := 90) lk_X3_49 (c_X3_stopAt _ _ _ _ w0.1) rfl rfl (Nat.le_of_ble_eq_true rfl) (by decide) rfl rfl rfl ⟨Nat.le_of_ble_eq_true rfl, Nat.le_of_ble_eq_true rfl⟩ ⟨rfl, rfl⟩ dX3_takeText_87 rfl (fun r7 σ7 h7 => ?_)
        have w7 := WX_trans w0 h7
        exact go_iret dX3_takeText_90 rfl (w7)
      refine go_aload_n (i := 0) (pc' := 66) dX3_takeText_65 rfl rfl rfl ?_
      refine gf_7_depth (pc' := 69) dX3_takeText_66 rfl fl_X3_7 ?_
      have g8 := ixi_7 w0.1
      refine go_iconst (v := 4) (pc' := 70) dX3_takeText_69 rfl (by decide) ?_
      refine gz_icmp_ge (tgt := 85) (pc' := 73) dX3_takeText_70 rfl (by decide) (fun c9 => ?_) (fun c9 => ?_)
      · refine go_aload_n (i := 0) (pc' := 86) dX3_takeText_85 rfl rfl rfl ?_
        refine go_iload_n (i := 2) (pc' := 87) dX3_takeText_86 rfl rfl rfl ?_
        refine go_cvi (pc' := 90) lk_X3_49 (c_X3_stopAt _ _ _ _ w0.1) rfl rfl (Nat.le_of_ble_eq_true rfl) (by decide) rfl rfl rfl ⟨Nat.le_of_ble_eq_true rfl, Nat.le_of_ble_eq_true rfl⟩ ⟨rfl, rfl⟩ dX3_takeText_87 rfl (fun r10 σ10 h10 => ?_)
        have w10 := WX_trans w0 h10
        exact go_iret dX3_takeText_90 rfl (w10)
      refine go_aload_n (i := 0) (pc' := 74) dX3_takeText_73 rfl rfl rfl ?_
      refine go_iload_n (i := 2) (pc' := 75) dX3_takeText_74 rfl rfl rfl ?_
      refine pf_7_markAt (pc' := 78) dX3_takeText_75 rfl fl_X3_19 ?_
      refine go_gen (P := WX σ) ⟨ixs_n w0.1 (by decide), Ag_setI w0.2 (by decide)⟩ (fun σ11 w11 => ?_)
      refine go_aload_n (i := 0) (pc' := 79) dX3_takeText_78 rfl rfl rfl ?_
      refine go_iconst (v := 1) (pc' := 80) dX3_takeText_79 rfl (by decide) ?_
      refine pf_7_state (pc' := 83) dX3_takeText_80 rfl fl_X3_29 ?_
      refine go_gen (P := WX σ) ⟨ixs_n w11.1 (by decide), Ag_setI w11.2 (by decide)⟩ (fun σ12 w12 => ?_)
      refine go_iconst (v := 1) (pc' := 84) dX3_takeText_83 rfl (by decide) ?_
      exact go_iret dX3_takeText_84 rfl (w12)
    refine go_aload_n (i := 0) (pc' := 28) dX3_takeText_27 rfl rfl rfl ?_
    refine gf_7_depth (pc' := 31) dX3_takeText_28 rfl fl_X3_7 ?_
    have g13 := ixi_7 w0.1
    refine gz_if_le (tgt := 59) (pc' := 34) dX3_takeText_31 rfl (by decide) (fun c14 => ?_) (fun c14 => ?_)
    · refine go_iload_n (i := 1) (pc' := 60) dX3_takeText_59 rfl rfl rfl ?_
      refine go_bipush (v := 123) (pc' := 62) dX3_takeText_60 rfl (by decide) ?_
      refine gz_icmp_ne (tgt := 85) (pc' := 65) dX3_takeText_62 rfl (by decide) (fun c15 => ?_) (fun c15 => ?_)
      · refine go_aload_n (i := 0) (pc' := 86) dX3_takeText_85 rfl rfl rfl ?_
        refine go_iload_n (i := 2) (pc' := 87) dX3_takeText_86 rfl rfl rfl ?_
        refine go_cvi (pc' := 90) lk_X3_49 (c_X3_stopAt _ _ _ _ w0.1) rfl rfl (Nat.le_of_ble_eq_true rfl) (by decide) rfl rfl rfl ⟨Nat.le_of_ble_eq_true rfl, Nat.le_of_ble_eq_true rfl⟩ ⟨rfl, rfl⟩ dX3_takeText_87 rfl (fun r16 σ16 h16 => ?_)
        have w16 := WX_trans w0 h16
        exact go_iret dX3_takeText_90 rfl (w16)
      refine go_aload_n (i := 0) (pc' := 66) dX3_takeText_65 rfl rfl rfl ?_
      refine gf_7_depth (pc' := 69) dX3_takeText_66 rfl fl_X3_7 ?_
      have g17 := ixi_7 w0.1
      refine go_iconst (v := 4) (pc' := 70) dX3_takeText_69 rfl (by decide) ?_
      refine gz_icmp_ge (tgt := 85) (pc' := 73) dX3_takeText_70 rfl (by decide) (fun c18 => ?_) (fun c18 => ?_)
      · refine go_aload_n (i := 0) (pc' := 86) dX3_takeText_85 rfl rfl rfl ?_
        refine go_iload_n (i := 2) (pc' := 87) dX3_takeText_86 rfl rfl rfl ?_
        refine go_cvi (pc' := 90) lk_X3_49 (c_X3_stopAt _ _ _ _ w0.1) rfl rfl (Nat.le_of_ble_eq_true rfl) (by decide) rfl rfl rfl ⟨Nat.le_of_ble_eq_true rfl, Nat.le_of_ble_eq_true rfl⟩ ⟨rfl, rfl⟩ dX3_takeText_87 rfl (fun r19 σ19 h19 => ?_)
        have w19 := WX_trans w0 h19
        exact go_iret dX3_takeText_90 rfl (w19)
      refine go_aload_n (i := 0) (pc' := 74) dX3_takeText_73 rfl rfl rfl ?_
      refine go_iload_n (i := 2) (pc' := 75) dX3_takeText_74 rfl rfl rfl ?_
      refine pf_7_markAt (pc' := 78) dX3_takeText_75 rfl fl_X3_19 ?_
      refine go_gen (P := WX σ) ⟨ixs_n w0.1 (by decide), Ag_setI w0.2 (by decide)⟩ (fun σ20 w20 => ?_)
      refine go_aload_n (i := 0) (pc' := 79) dX3_takeText_78 rfl rfl rfl ?_
      refine go_iconst (v := 1) (pc' := 80) dX3_takeText_79 rfl (by decide) ?_
      refine pf_7_state (pc' := 83) dX3_takeText_80 rfl fl_X3_29 ?_
      refine go_gen (P := WX σ) ⟨ixs_n w20.1 (by decide), Ag_setI w20.2 (by decide)⟩ (fun σ21 w21 => ?_)
      refine go_iconst (v := 1) (pc' := 84) dX3_takeText_83 rfl (by decide) ?_
      exact go_iret dX3_takeText_84 rfl (w21)
    refine go_aload_n (i := 0) (pc' := 35) dX3_takeText_34 rfl rfl rfl ?_
    refine go_dup (pc' := 36) dX3_takeText_35 rfl rfl ?_
    refine gf_7_depth (pc' := 39) dX3_takeText_36 rfl fl_X3_7 ?_
    have g22 := ixi_7 w0.1
    refine go_iconst (v := 1) (pc' := 40) dX3_takeText_39 rfl (by decide) ?_
    refine gz_isub (pc' := 41) dX3_takeText_40 rfl (by omega) (fun v23 h23 e23 => ?_)
    refine pf_7_depth (pc' := 44) dX3_takeText_41 rfl fl_X3_7 ?_
    refine go_gen (P := fun s => WX σ s ∧ s.1 7 = v23) ⟨⟨ixs_7 w0.1 (by omega) (by omega), Ag_setI w0.2 (by decide)⟩, setI_same _ _ _⟩ (fun σ24 z24 => ?_)
    obtain ⟨w24, g24⟩ := z24
    have q24 := congrArg Int32.toInt g24
    refine go_aload_n (i := 0) (pc' := 45) dX3_takeText_44 rfl rfl rfl ?_
    refine go_aload_n (i := 0) (pc' := 46) dX3_takeText_45 rfl rfl rfl ?_
    refine gf_7_open (pc' := 49) dX3_takeText_46 rfl fl_X3_25 ?_
    refine go_aload_n (i := 0) (pc' := 50) dX3_takeText_49 rfl rfl rfl ?_
    refine gf_7_depth (pc' := 53) dX3_takeText_50 rfl fl_X3_7 ?_
    have g25 := ixi_7 w24.1
    refine go_iald (pc' := 54) dX3_takeText_53 rfl (by decide) (by decide) rfl (vin_of (n := 4) (by omega) (by omega)) ?_
    refine pf_7_sort (pc' := 57) dX3_takeText_54 rfl fl_X3_13 ?_
    refine go_gen (P := WX σ) ⟨ixs_n w24.1 (by decide), Ag_setI w24.2 (by decide)⟩ (fun σ26 w26 => ?_)
    refine go_iconst (v := 3) (pc' := 58) dX3_takeText_57 rfl (by decide) ?_
    exact go_iret dX3_takeText_58 rfl (w26)
  refine go_iconst (v := 0) (pc' := 20) dX3_takeText_19 rfl (by decide) ?_
  exact go_iret dX3_takeText_20 rfl (w0)
set_option maxHeartbeats 4000000 in
set_option maxRecDepth 100000 in
theorem c_X3_takeSort (l : Launch) (L : WL) (σ : ST) (s p : Int32) (ix : IV σ) : CtI l L yX3_takeSort cX3_takeSort 3 (some .int) rm_X3_takeSort [.ref (L.2.1 7), .int s, .int p] σ (fun _ σ2 => WX σ σ2) := by
  refine ctI_go (own := RX3) (by decide) rfl (Nat.le_of_ble_eq_true rfl) (fun F hF => ?_)
  subst hF
  have n0 : (0 : Int32).toInt = 0 := by decide
  have n1 : (1 : Int32).toInt = 1 := by decide
  have n2 : (2 : Int32).toInt = 2 := by decide
  have n110 : (110 : Int32).toInt = 110 := by decide
  have n115 : (115 : Int32).toInt = 115 := by decide
  have w0 : WX σ σ := WX_rfl ix
  refine go_iload_n (i := 1) (pc' := 1) dX3_takeSort_0 rfl rfl rfl ?_
  refine go_csi (pc' := 4) ls_X3_53 (c_X3_isSort _ _ _ _) rfl rfl (Nat.le_of_ble_eq_true rfl) ⟨Nat.le_of_ble_eq_true rfl, Nat.le_of_ble_eq_true rfl⟩ ⟨rfl, rfl⟩ dX3_takeSort_1 rfl (fun r1 σ1 h1 => ?_)
  have h1 := h1.symm
  subst h1
  refine gz_if_ne (tgt := 13) (pc' := 7) dX3_takeSort_4 rfl (by decide) (fun c2 => ?_) (fun c2 => ?_)
  · refine go_aload_n (i := 0) (pc' := 14) dX3_takeSort_13 rfl rfl rfl ?_
    refine go_iload_n (i := 1) (pc' := 15) dX3_takeSort_14 rfl rfl rfl ?_
    refine go_cvi (pc' := 18) lk_X3_56 (c_X3_isOpen _ _ _ _ w0.1) rfl rfl (Nat.le_of_ble_eq_true rfl) (by decide) rfl rfl rfl ⟨Nat.le_of_ble_eq_true rfl, Nat.le_of_ble_eq_true rfl⟩ ⟨rfl, rfl⟩ dX3_takeSort_15 rfl (fun r3 σ3 h3 => ?_)
    have h3 := h3.symm
    subst h3
    refine gz_if_eq (tgt := 30) (pc' := 21) dX3_takeSort_18 rfl (by decide) (fun c4 => ?_) (fun c4 => ?_)
    · refine go_aload_n (i := 0) (pc' := 31) dX3_takeSort_30 rfl rfl rfl ?_
      refine go_iload_n (i := 1) (pc' := 32) dX3_takeSort_31 rfl rfl rfl ?_
      refine pf_7_sort (pc' := 35) dX3_takeSort_32 rfl fl_X3_13 ?_
      refine go_gen (P := WX σ) ⟨ixs_n w0.1 (by decide), Ag_setI w0.2 (by decide)⟩ (fun σ5 w5 => ?_)
      refine go_iload_n (i := 1) (pc' := 36) dX3_takeSort_35 rfl rfl rfl ?_
      refine go_bipush (v := 115) (pc' := 38) dX3_takeSort_36 rfl (by decide) ?_
      refine gz_icmp_eq (tgt := 47) (pc' := 41) dX3_takeSort_38 rfl (by decide) (fun c6 => ?_) (fun c6 => ?_)
      · refine go_aload_n (i := 0) (pc' := 48) dX3_takeSort_47 rfl rfl rfl ?_
        refine go_iconst (v := 0) (pc' := 49) dX3_takeSort_48 rfl (by decide) ?_
        refine pf_7_number (pc' := 52) dX3_takeSort_49 rfl fl_X3_16 ?_
        refine go_gen (P := WX σ) ⟨ixs_n w5.1 (by decide), Ag_setI w5.2 (by decide)⟩ (fun σ7 w7 => ?_)
        refine go_aload_n (i := 0) (pc' := 53) dX3_takeSort_52 rfl rfl rfl ?_
        refine go_iconst (v := 0) (pc' := 54) dX3_takeSort_53 rfl (by decide) ?_
        refine pf_7_digits (pc' := 57) dX3_takeSort_54 rfl fl_X3_32 ?_
        refine go_gen (P := WX σ) ⟨ixs_n w7.1 (by decide), Ag_setI w7.2 (by decide)⟩ (fun σ8 w8 => ?_)
        refine go_aload_n (i := 0) (pc' := 58) dX3_takeSort_57 rfl rfl rfl ?_
        refine go_iconst (v := 2) (pc' := 59) dX3_takeSort_58 rfl (by decide) ?_
        refine pf_7_state (pc' := 62) dX3_takeSort_59 rfl fl_X3_29 ?_
        refine go_gen (P := WX σ) ⟨ixs_n w8.1 (by decide), Ag_setI w8.2 (by decide)⟩ (fun σ9 w9 => ?_)
        refine go_iconst (v := 1) (pc' := 63) dX3_takeSort_62 rfl (by decide) ?_
        exact go_iret dX3_takeSort_63 rfl (w9)
      refine go_iload_n (i := 1) (pc' := 42) dX3_takeSort_41 rfl rfl rfl ?_
      refine go_bipush (v := 110) (pc' := 44) dX3_takeSort_42 rfl (by decide) ?_
      refine gz_icmp_ne (tgt := 64) (pc' := 47) dX3_takeSort_44 rfl (by decide) (fun c10 => ?_) (fun c10 => ?_)
      · refine go_aload_n (i := 0) (pc' := 65) dX3_takeSort_64 rfl rfl rfl ?_
        refine go_cvi (pc' := 68) lk_X3_59 (c_X3_openMark _ _ _ w5.1) rfl rfl (Nat.le_of_ble_eq_true rfl) (by decide) rfl rfl rfl ⟨Nat.le_of_ble_eq_true rfl, Nat.le_of_ble_eq_true rfl⟩ ⟨rfl, rfl⟩ dX3_takeSort_65 rfl (fun r11 σ11 h11 => ?_)
        have w11 := WX_trans w5 h11
        exact go_iret dX3_takeSort_68 rfl (w11)
      refine go_aload_n (i := 0) (pc' := 48) dX3_takeSort_47 rfl rfl rfl ?_
      refine go_iconst (v := 0) (pc' := 49) dX3_takeSort_48 rfl (by decide) ?_
      refine pf_7_number (pc' := 52) dX3_takeSort_49 rfl fl_X3_16 ?_
      refine go_gen (P := WX σ) ⟨ixs_n w5.1 (by decide), Ag_setI w5.2 (by decide)⟩ (fun σ12 w12 => ?_)
      refine go_aload_n (i := 0) (pc' := 53) dX3_takeSort_52 rfl rfl rfl ?_
      refine go_iconst (v := 0) (pc' := 54) dX3_takeSort_53 rfl (by decide) ?_
      refine pf_7_digits (pc' := 57) dX3_takeSort_54 rfl fl_X3_32 ?_
      refine go_gen (P := WX σ) ⟨ixs_n w12.1 (by decide), Ag_setI w12.2 (by decide)⟩ (fun σ13 w13 => ?_)
      refine go_aload_n (i := 0) (pc' := 58) dX3_takeSort_57 rfl rfl rfl ?_
      refine go_iconst (v := 2) (pc' := 59) dX3_takeSort_58 rfl (by decide) ?_
      refine pf_7_state (pc' := 62) dX3_takeSort_59 rfl fl_X3_29 ?_
      refine go_gen (P := WX σ) ⟨ixs_n w13.1 (by decide), Ag_setI w13.2 (by decide)⟩ (fun σ14 w14 => ?_)
      refine go_iconst (v := 1) (pc' := 63) dX3_takeSort_62 rfl (by decide) ?_
      exact go_iret dX3_takeSort_63 rfl (w14)
    refine go_aload_n (i := 0) (pc' := 22) dX3_takeSort_21 rfl rfl rfl ?_
    refine go_aload_n (i := 0) (pc' := 23) dX3_takeSort_22 rfl rfl rfl ?_
    refine gf_7_markAt (pc' := 26) dX3_takeSort_23 rfl fl_X3_19 ?_
    refine go_cvi (pc' := 29) lk_X3_49 (c_X3_stopAt _ _ _ _ w0.1) rfl rfl (Nat.le_of_ble_eq_true rfl) (by decide) rfl rfl rfl ⟨Nat.le_of_ble_eq_true rfl, Nat.le_of_ble_eq_true rfl⟩ ⟨rfl, rfl⟩ dX3_takeSort_26 rfl (fun r15 σ15 h15 => ?_)
    have w15 := WX_trans w0 h15
    exact go_iret dX3_takeSort_29 rfl (w15)
  refine go_aload_n (i := 0) (pc' := 8) dX3_takeSort_7 rfl rfl rfl ?_
  refine go_iload_n (i := 2) (pc' := 9) dX3_takeSort_8 rfl rfl rfl ?_
  refine go_cvi (pc' := 12) lk_X3_49 (c_X3_stopAt _ _ _ _ w0.1) rfl rfl (Nat.le_of_ble_eq_true rfl) (by decide) rfl rfl rfl ⟨Nat.le_of_ble_eq_true rfl, Nat.le_of_ble_eq_true rfl⟩ ⟨rfl, rfl⟩ dX3_takeSort_9 rfl (fun r16 σ16 h16 => ?_)
  have w16 := WX_trans w0 h16
  exact go_iret dX3_takeSort_12 rfl (w16)
set_option maxHeartbeats 4000000 in
set_option maxRecDepth 100000 in
theorem c_X3_takeNumber (l : Launch) (L : WL) (σ : ST) (s p : Int32) (ix : IV σ) : CtI l L yX3_takeNumber cX3_takeNumber 3 (some .int) rm_X3_takeNumber [.ref (L.2.1 7), .int s, .int p] σ (fun _ σ2 => WX σ σ2) := by
  refine ctI_go (own := RX3) (by decide) rfl (Nat.le_of_ble_eq_true rfl) (fun F hF => ?_)
  subst hF
  have n0 : (0 : Int32).toInt = 0 := by decide
  have n1 : (1 : Int32).toInt = 1 := by decide
  have n4 : (4 : Int32).toInt = 4 := by decide
  have n10 : (10 : Int32).toInt = 10 := by decide
  have n48 : (48 : Int32).toInt = 48 := by decide
  have n57 : (57 : Int32).toInt = 57 := by decide
  have n58 : (58 : Int32).toInt = 58 := by decide
  have n115 : (115 : Int32).toInt = 115 := by decide
  have n125 : (125 : Int32).toInt = 125 := by decide
  have w0 : WX σ σ := WX_rfl ix
  refine go_iload_n (i := 1) (pc' := 1) dX3_takeNumber_0 rfl rfl rfl ?_
  refine go_bipush (v := 48) (pc' := 3) dX3_takeNumber_1 rfl (by decide) ?_
  refine gz_icmp_lt (tgt := 48) (pc' := 6) dX3_takeNumber_3 rfl (by decide) (fun c1 => ?_) (fun c1 => ?_)
  · refine go_aload_n (i := 0) (pc' := 49) dX3_takeNumber_48 rfl rfl rfl ?_
    refine gf_7_digits (pc' := 52) dX3_takeNumber_49 rfl fl_X3_32 ?_
    refine gz_if_eq (tgt := 75) (pc' := 55) dX3_takeNumber_52 rfl (by decide) (fun c2 => ?_) (fun c2 => ?_)
    · refine go_aload_n (i := 0) (pc' := 76) dX3_takeNumber_75 rfl rfl rfl ?_
      refine go_iload_n (i := 2) (pc' := 77) dX3_takeNumber_76 rfl rfl rfl ?_
      refine go_cvi (pc' := 80) lk_X3_49 (c_X3_stopAt _ _ _ _ w0.1) rfl rfl (Nat.le_of_ble_eq_true rfl) (by decide) rfl rfl rfl ⟨Nat.le_of_ble_eq_true rfl, Nat.le_of_ble_eq_true rfl⟩ ⟨rfl, rfl⟩ dX3_takeNumber_77 rfl (fun r3 σ3 h3 => ?_)
      have w3 := WX_trans w0 h3
      exact go_iret dX3_takeNumber_80 rfl (w3)
    refine go_iload_n (i := 1) (pc' := 56) dX3_takeNumber_55 rfl rfl rfl ?_
    refine go_aload_n (i := 0) (pc' := 57) dX3_takeNumber_56 rfl rfl rfl ?_
    refine gf_7_sort (pc' := 60) dX3_takeNumber_57 rfl fl_X3_13 ?_
    refine go_bipush (v := 115) (pc' := 62) dX3_takeNumber_60 rfl (by decide) ?_
    refine gz_icmp_ne (tgt := 70) (pc' := 65) dX3_takeNumber_62 rfl (by decide) (fun c4 => ?_) (fun c4 => ?_)
    · refine go_bipush (v := 125) (pc' := 72) dX3_takeNumber_70 rfl (by decide) ?_
      refine gz_icmp_eq (tgt := 81) (pc' := 75) dX3_takeNumber_72 rfl (by decide) (fun c5 => ?_) (fun c5 => ?_)
      · refine go_aload_n (i := 0) (pc' := 82) dX3_takeNumber_81 rfl rfl rfl ?_
        refine gf_7_sort (pc' := 85) dX3_takeNumber_82 rfl fl_X3_13 ?_
        refine go_bipush (v := 115) (pc' := 87) dX3_takeNumber_85 rfl (by decide) ?_
        refine gz_icmp_ne (tgt := 95) (pc' := 90) dX3_takeNumber_87 rfl (by decide) (fun c6 => ?_) (fun c6 => ?_)
        · refine go_aload_n (i := 0) (pc' := 96) dX3_takeNumber_95 rfl rfl rfl ?_
          refine go_iconst (v := 0) (pc' := 97) dX3_takeNumber_96 rfl (by decide) ?_
          refine pf_7_state (pc' := 100) dX3_takeNumber_97 rfl fl_X3_29 ?_
          refine go_gen (P := WX σ) ⟨ixs_n w0.1 (by decide), Ag_setI w0.2 (by decide)⟩ (fun σ7 w7 => ?_)
          refine go_iconst (v := 4) (pc' := 101) dX3_takeNumber_100 rfl (by decide) ?_
          exact go_iret dX3_takeNumber_101 rfl (w7)
        refine go_aload_n (i := 0) (pc' := 91) dX3_takeNumber_90 rfl rfl rfl ?_
        refine go_cvi (pc' := 94) lk_X3_59 (c_X3_openMark _ _ _ w0.1) rfl rfl (Nat.le_of_ble_eq_true rfl) (by decide) rfl rfl rfl ⟨Nat.le_of_ble_eq_true rfl, Nat.le_of_ble_eq_true rfl⟩ ⟨rfl, rfl⟩ dX3_takeNumber_91 rfl (fun r8 σ8 h8 => ?_)
        have w8 := WX_trans w0 h8
        exact go_iret dX3_takeNumber_94 rfl (w8)
      refine go_aload_n (i := 0) (pc' := 76) dX3_takeNumber_75 rfl rfl rfl ?_
      refine go_iload_n (i := 2) (pc' := 77) dX3_takeNumber_76 rfl rfl rfl ?_
      refine go_cvi (pc' := 80) lk_X3_49 (c_X3_stopAt _ _ _ _ w0.1) rfl rfl (Nat.le_of_ble_eq_true rfl) (by decide) rfl rfl rfl ⟨Nat.le_of_ble_eq_true rfl, Nat.le_of_ble_eq_true rfl⟩ ⟨rfl, rfl⟩ dX3_takeNumber_77 rfl (fun r9 σ9 h9 => ?_)
      have w9 := WX_trans w0 h9
      exact go_iret dX3_takeNumber_80 rfl (w9)
    refine go_bipush (v := 58) (pc' := 67) dX3_takeNumber_65 rfl (by decide) ?_
    refine go_goto (tgt := 72) dX3_takeNumber_67 (by decide) ?_
    refine gz_icmp_eq (tgt := 81) (pc' := 75) dX3_takeNumber_72 rfl (by decide) (fun c10 => ?_) (fun c10 => ?_)
    · refine go_aload_n (i := 0) (pc' := 82) dX3_takeNumber_81 rfl rfl rfl ?_
      refine gf_7_sort (pc' := 85) dX3_takeNumber_82 rfl fl_X3_13 ?_
      refine go_bipush (v := 115) (pc' := 87) dX3_takeNumber_85 rfl (by decide) ?_
      refine gz_icmp_ne (tgt := 95) (pc' := 90) dX3_takeNumber_87 rfl (by decide) (fun c11 => ?_) (fun c11 => ?_)
      · refine go_aload_n (i := 0) (pc' := 96) dX3_takeNumber_95 rfl rfl rfl ?_
        refine go_iconst (v := 0) (pc' := 97) dX3_takeNumber_96 rfl (by decide) ?_
        refine pf_7_state (pc' := 100) dX3_takeNumber_97 rfl fl_X3_29 ?_
        refine go_gen (P := WX σ) ⟨ixs_n w0.1 (by decide), Ag_setI w0.2 (by decide)⟩ (fun σ12 w12 => ?_)
        refine go_iconst (v := 4) (pc' := 101) dX3_takeNumber_100 rfl (by decide) ?_
        exact go_iret dX3_takeNumber_101 rfl (w12)
      refine go_aload_n (i := 0) (pc' := 91) dX3_takeNumber_90 rfl rfl rfl ?_
      refine go_cvi (pc' := 94) lk_X3_59 (c_X3_openMark _ _ _ w0.1) rfl rfl (Nat.le_of_ble_eq_true rfl) (by decide) rfl rfl rfl ⟨Nat.le_of_ble_eq_true rfl, Nat.le_of_ble_eq_true rfl⟩ ⟨rfl, rfl⟩ dX3_takeNumber_91 rfl (fun r13 σ13 h13 => ?_)
      have w13 := WX_trans w0 h13
      exact go_iret dX3_takeNumber_94 rfl (w13)
    refine go_aload_n (i := 0) (pc' := 76) dX3_takeNumber_75 rfl rfl rfl ?_
    refine go_iload_n (i := 2) (pc' := 77) dX3_takeNumber_76 rfl rfl rfl ?_
    refine go_cvi (pc' := 80) lk_X3_49 (c_X3_stopAt _ _ _ _ w0.1) rfl rfl (Nat.le_of_ble_eq_true rfl) (by decide) rfl rfl rfl ⟨Nat.le_of_ble_eq_true rfl, Nat.le_of_ble_eq_true rfl⟩ ⟨rfl, rfl⟩ dX3_takeNumber_77 rfl (fun r14 σ14 h14 => ?_)
    have w14 := WX_trans w0 h14
    exact go_iret dX3_takeNumber_80 rfl (w14)
  refine go_iload_n (i := 1) (pc' := 7) dX3_takeNumber_6 rfl rfl rfl ?_
  refine go_bipush (v := 57) (pc' := 9) dX3_takeNumber_7 rfl (by decide) ?_
  refine gz_icmp_gt (tgt := 48) (pc' := 12) dX3_takeNumber_9 rfl (by decide) (fun c15 => ?_) (fun c15 => ?_)
  · refine go_aload_n (i := 0) (pc' := 49) dX3_takeNumber_48 rfl rfl rfl ?_
    refine gf_7_digits (pc' := 52) dX3_takeNumber_49 rfl fl_X3_32 ?_
    refine gz_if_eq (tgt := 75) (pc' := 55) dX3_takeNumber_52 rfl (by decide) (fun c16 => ?_) (fun c16 => ?_)
    · refine go_aload_n (i := 0) (pc' := 76) dX3_takeNumber_75 rfl rfl rfl ?_
      refine go_iload_n (i := 2) (pc' := 77) dX3_takeNumber_76 rfl rfl rfl ?_
      refine go_cvi (pc' := 80) lk_X3_49 (c_X3_stopAt _ _ _ _ w0.1) rfl rfl (Nat.le_of_ble_eq_true rfl) (by decide) rfl rfl rfl ⟨Nat.le_of_ble_eq_true rfl, Nat.le_of_ble_eq_true rfl⟩ ⟨rfl, rfl⟩ dX3_takeNumber_77 rfl (fun r17 σ17 h17 => ?_)
      have w17 := WX_trans w0 h17
      exact go_iret dX3_takeNumber_80 rfl (w17)
    refine go_iload_n (i := 1) (pc' := 56) dX3_takeNumber_55 rfl rfl rfl ?_
    refine go_aload_n (i := 0) (pc' := 57) dX3_takeNumber_56 rfl rfl rfl ?_
    refine gf_7_sort (pc' := 60) dX3_takeNumber_57 rfl fl_X3_13 ?_
    refine go_bipush (v := 115) (pc' := 62) dX3_takeNumber_60 rfl (by decide) ?_
    refine gz_icmp_ne (tgt := 70) (pc' := 65) dX3_takeNumber_62 rfl (by decide) (fun c18 => ?_) (fun c18 => ?_)
    · refine go_bipush (v := 125) (pc' := 72) dX3_takeNumber_70 rfl (by decide) ?_
      refine gz_icmp_eq (tgt := 81) (pc' := 75) dX3_takeNumber_72 rfl (by decide) (fun c19 => ?_) (fun c19 => ?_)
      · refine go_aload_n (i := 0) (pc' := 82) dX3_takeNumber_81 rfl rfl rfl ?_
        refine gf_7_sort (pc' := 85) dX3_takeNumber_82 rfl fl_X3_13 ?_
        refine go_bipush (v := 115) (pc' := 87) dX3_takeNumber_85 rfl (by decide) ?_
        refine gz_icmp_ne (tgt := 95) (pc' := 90) dX3_takeNumber_87 rfl (by decide) (fun c20 => ?_) (fun c20 => ?_)
        · refine go_aload_n (i := 0) (pc' := 96) dX3_takeNumber_95 rfl rfl rfl ?_
          refine go_iconst (v := 0) (pc' := 97) dX3_takeNumber_96 rfl (by decide) ?_
          refine pf_7_state (pc' := 100) dX3_takeNumber_97 rfl fl_X3_29 ?_
          refine go_gen (P := WX σ) ⟨ixs_n w0.1 (by decide), Ag_setI w0.2 (by decide)⟩ (fun σ21 w21 => ?_)
          refine go_iconst (v := 4) (pc' := 101) dX3_takeNumber_100 rfl (by decide) ?_
          exact go_iret dX3_takeNumber_101 rfl (w21)
        refine go_aload_n (i := 0) (pc' := 91) dX3_takeNumber_90 rfl rfl rfl ?_
        refine go_cvi (pc' := 94) lk_X3_59 (c_X3_openMark _ _ _ w0.1) rfl rfl (Nat.le_of_ble_eq_true rfl) (by decide) rfl rfl rfl ⟨Nat.le_of_ble_eq_true rfl, Nat.le_of_ble_eq_true rfl⟩ ⟨rfl, rfl⟩ dX3_takeNumber_91 rfl (fun r22 σ22 h22 => ?_)
        have w22 := WX_trans w0 h22
        exact go_iret dX3_takeNumber_94 rfl (w22)
      refine go_aload_n (i := 0) (pc' := 76) dX3_takeNumber_75 rfl rfl rfl ?_
      refine go_iload_n (i := 2) (pc' := 77) dX3_takeNumber_76 rfl rfl rfl ?_
      refine go_cvi (pc' := 80) lk_X3_49 (c_X3_stopAt _ _ _ _ w0.1) rfl rfl (Nat.le_of_ble_eq_true rfl) (by decide) rfl rfl rfl ⟨Nat.le_of_ble_eq_true rfl, Nat.le_of_ble_eq_true rfl⟩ ⟨rfl, rfl⟩ dX3_takeNumber_77 rfl (fun r23 σ23 h23 => ?_)
      have w23 := WX_trans w0 h23
      exact go_iret dX3_takeNumber_80 rfl (w23)
    refine go_bipush (v := 58) (pc' := 67) dX3_takeNumber_65 rfl (by decide) ?_
    refine go_goto (tgt := 72) dX3_takeNumber_67 (by decide) ?_
    refine gz_icmp_eq (tgt := 81) (pc' := 75) dX3_takeNumber_72 rfl (by decide) (fun c24 => ?_) (fun c24 => ?_)
    · refine go_aload_n (i := 0) (pc' := 82) dX3_takeNumber_81 rfl rfl rfl ?_
      refine gf_7_sort (pc' := 85) dX3_takeNumber_82 rfl fl_X3_13 ?_
      refine go_bipush (v := 115) (pc' := 87) dX3_takeNumber_85 rfl (by decide) ?_
      refine gz_icmp_ne (tgt := 95) (pc' := 90) dX3_takeNumber_87 rfl (by decide) (fun c25 => ?_) (fun c25 => ?_)
      · refine go_aload_n (i := 0) (pc' := 96) dX3_takeNumber_95 rfl rfl rfl ?_
        refine go_iconst (v := 0) (pc' := 97) dX3_takeNumber_96 rfl (by decide) ?_
        refine pf_7_state (pc' := 100) dX3_takeNumber_97 rfl fl_X3_29 ?_
        refine go_gen (P := WX σ) ⟨ixs_n w0.1 (by decide), Ag_setI w0.2 (by decide)⟩ (fun σ26 w26 => ?_)
        refine go_iconst (v := 4) (pc' := 101) dX3_takeNumber_100 rfl (by decide) ?_
        exact go_iret dX3_takeNumber_101 rfl (w26)
      refine go_aload_n (i := 0) (pc' := 91) dX3_takeNumber_90 rfl rfl rfl ?_
      refine go_cvi (pc' := 94) lk_X3_59 (c_X3_openMark _ _ _ w0.1) rfl rfl (Nat.le_of_ble_eq_true rfl) (by decide) rfl rfl rfl ⟨Nat.le_of_ble_eq_true rfl, Nat.le_of_ble_eq_true rfl⟩ ⟨rfl, rfl⟩ dX3_takeNumber_91 rfl (fun r27 σ27 h27 => ?_)
      have w27 := WX_trans w0 h27
      exact go_iret dX3_takeNumber_94 rfl (w27)
    refine go_aload_n (i := 0) (pc' := 76) dX3_takeNumber_75 rfl rfl rfl ?_
    refine go_iload_n (i := 2) (pc' := 77) dX3_takeNumber_76 rfl rfl rfl ?_
    refine go_cvi (pc' := 80) lk_X3_49 (c_X3_stopAt _ _ _ _ w0.1) rfl rfl (Nat.le_of_ble_eq_true rfl) (by decide) rfl rfl rfl ⟨Nat.le_of_ble_eq_true rfl, Nat.le_of_ble_eq_true rfl⟩ ⟨rfl, rfl⟩ dX3_takeNumber_77 rfl (fun r28 σ28 h28 => ?_)
    have w28 := WX_trans w0 h28
    exact go_iret dX3_takeNumber_80 rfl (w28)
  refine go_aload_n (i := 0) (pc' := 13) dX3_takeNumber_12 rfl rfl rfl ?_
  refine gf_7_digits (pc' := 16) dX3_takeNumber_13 rfl fl_X3_32 ?_
  refine go_iconst (v := 4) (pc' := 17) dX3_takeNumber_16 rfl (by decide) ?_
  refine gz_icmp_ge (tgt := 48) (pc' := 20) dX3_takeNumber_17 rfl (by decide) (fun c29 => ?_) (fun c29 => ?_)
  · refine go_aload_n (i := 0) (pc' := 49) dX3_takeNumber_48 rfl rfl rfl ?_
    refine gf_7_digits (pc' := 52) dX3_takeNumber_49 rfl fl_X3_32 ?_
    refine gz_if_eq (tgt := 75) (pc' := 55) dX3_takeNumber_52 rfl (by decide) (fun c30 => ?_) (fun c30 => ?_)
    · refine go_aload_n (i := 0) (pc' := 76) dX3_takeNumber_75 rfl rfl rfl ?_
      refine go_iload_n (i := 2) (pc' := 77) dX3_takeNumber_76 rfl rfl rfl ?_
      refine go_cvi (pc' := 80) lk_X3_49 (c_X3_stopAt _ _ _ _ w0.1) rfl rfl (Nat.le_of_ble_eq_true rfl) (by decide) rfl rfl rfl ⟨Nat.le_of_ble_eq_true rfl, Nat.le_of_ble_eq_true rfl⟩ ⟨rfl, rfl⟩ dX3_takeNumber_77 rfl (fun r31 σ31 h31 => ?_)
      have w31 := WX_trans w0 h31
      exact go_iret dX3_takeNumber_80 rfl (w31)
    refine go_iload_n (i := 1) (pc' := 56) dX3_takeNumber_55 rfl rfl rfl ?_
    refine go_aload_n (i := 0) (pc' := 57) dX3_takeNumber_56 rfl rfl rfl ?_
    refine gf_7_sort (pc' := 60) dX3_takeNumber_57 rfl fl_X3_13 ?_
    refine go_bipush (v := 115) (pc' := 62) dX3_takeNumber_60 rfl (by decide) ?_
    refine gz_icmp_ne (tgt := 70) (pc' := 65) dX3_takeNumber_62 rfl (by decide) (fun c32 => ?_) (fun c32 => ?_)
    · refine go_bipush (v := 125) (pc' := 72) dX3_takeNumber_70 rfl (by decide) ?_
      refine gz_icmp_eq (tgt := 81) (pc' := 75) dX3_takeNumber_72 rfl (by decide) (fun c33 => ?_) (fun c33 => ?_)
      · refine go_aload_n (i := 0) (pc' := 82) dX3_takeNumber_81 rfl rfl rfl ?_
        refine gf_7_sort (pc' := 85) dX3_takeNumber_82 rfl fl_X3_13 ?_
        refine go_bipush (v := 115) (pc' := 87) dX3_takeNumber_85 rfl (by decide) ?_
        refine gz_icmp_ne (tgt := 95) (pc' := 90) dX3_takeNumber_87 rfl (by decide) (fun c34 => ?_) (fun c34 => ?_)
        · refine go_aload_n (i := 0) (pc' := 96) dX3_takeNumber_95 rfl rfl rfl ?_
          refine go_iconst (v := 0) (pc' := 97) dX3_takeNumber_96 rfl (by decide) ?_
          refine pf_7_state (pc' := 100) dX3_takeNumber_97 rfl fl_X3_29 ?_
          refine go_gen (P := WX σ) ⟨ixs_n w0.1 (by decide), Ag_setI w0.2 (by decide)⟩ (fun σ35 w35 => ?_)
          refine go_iconst (v := 4) (pc' := 101) dX3_takeNumber_100 rfl (by decide) ?_
          exact go_iret dX3_takeNumber_101 rfl (w35)
        refine go_aload_n (i := 0) (pc' := 91) dX3_takeNumber_90 rfl rfl rfl ?_
        refine go_cvi (pc' := 94) lk_X3_59 (c_X3_openMark _ _ _ w0.1) rfl rfl (Nat.le_of_ble_eq_true rfl) (by decide) rfl rfl rfl ⟨Nat.le_of_ble_eq_true rfl, Nat.le_of_ble_eq_true rfl⟩ ⟨rfl, rfl⟩ dX3_takeNumber_91 rfl (fun r36 σ36 h36 => ?_)
        have w36 := WX_trans w0 h36
        exact go_iret dX3_takeNumber_94 rfl (w36)
      refine go_aload_n (i := 0) (pc' := 76) dX3_takeNumber_75 rfl rfl rfl ?_
      refine go_iload_n (i := 2) (pc' := 77) dX3_takeNumber_76 rfl rfl rfl ?_
      refine go_cvi (pc' := 80) lk_X3_49 (c_X3_stopAt _ _ _ _ w0.1) rfl rfl (Nat.le_of_ble_eq_true rfl) (by decide) rfl rfl rfl ⟨Nat.le_of_ble_eq_true rfl, Nat.le_of_ble_eq_true rfl⟩ ⟨rfl, rfl⟩ dX3_takeNumber_77 rfl (fun r37 σ37 h37 => ?_)
      have w37 := WX_trans w0 h37
      exact go_iret dX3_takeNumber_80 rfl (w37)
    refine go_bipush (v := 58) (pc' := 67) dX3_takeNumber_65 rfl (by decide) ?_
    refine go_goto (tgt := 72) dX3_takeNumber_67 (by decide) ?_
    refine gz_icmp_eq (tgt := 81) (pc' := 75) dX3_takeNumber_72 rfl (by decide) (fun c38 => ?_) (fun c38 => ?_)
    · refine go_aload_n (i := 0) (pc' := 82) dX3_takeNumber_81 rfl rfl rfl ?_
      refine gf_7_sort (pc' := 85) dX3_takeNumber_82 rfl fl_X3_13 ?_
      refine go_bipush (v := 115) (pc' := 87) dX3_takeNumber_85 rfl (by decide) ?_
      refine gz_icmp_ne (tgt := 95) (pc' := 90) dX3_takeNumber_87 rfl (by decide) (fun c39 => ?_) (fun c39 => ?_)
      · refine go_aload_n (i := 0) (pc' := 96) dX3_takeNumber_95 rfl rfl rfl ?_
        refine go_iconst (v := 0) (pc' := 97) dX3_takeNumber_96 rfl (by decide) ?_
        refine pf_7_state (pc' := 100) dX3_takeNumber_97 rfl fl_X3_29 ?_
        refine go_gen (P := WX σ) ⟨ixs_n w0.1 (by decide), Ag_setI w0.2 (by decide)⟩ (fun σ40 w40 => ?_)
        refine go_iconst (v := 4) (pc' := 101) dX3_takeNumber_100 rfl (by decide) ?_
        exact go_iret dX3_takeNumber_101 rfl (w40)
      refine go_aload_n (i := 0) (pc' := 91) dX3_takeNumber_90 rfl rfl rfl ?_
      refine go_cvi (pc' := 94) lk_X3_59 (c_X3_openMark _ _ _ w0.1) rfl rfl (Nat.le_of_ble_eq_true rfl) (by decide) rfl rfl rfl ⟨Nat.le_of_ble_eq_true rfl, Nat.le_of_ble_eq_true rfl⟩ ⟨rfl, rfl⟩ dX3_takeNumber_91 rfl (fun r41 σ41 h41 => ?_)
      have w41 := WX_trans w0 h41
      exact go_iret dX3_takeNumber_94 rfl (w41)
    refine go_aload_n (i := 0) (pc' := 76) dX3_takeNumber_75 rfl rfl rfl ?_
    refine go_iload_n (i := 2) (pc' := 77) dX3_takeNumber_76 rfl rfl rfl ?_
    refine go_cvi (pc' := 80) lk_X3_49 (c_X3_stopAt _ _ _ _ w0.1) rfl rfl (Nat.le_of_ble_eq_true rfl) (by decide) rfl rfl rfl ⟨Nat.le_of_ble_eq_true rfl, Nat.le_of_ble_eq_true rfl⟩ ⟨rfl, rfl⟩ dX3_takeNumber_77 rfl (fun r42 σ42 h42 => ?_)
    have w42 := WX_trans w0 h42
    exact go_iret dX3_takeNumber_80 rfl (w42)
  refine go_aload_n (i := 0) (pc' := 21) dX3_takeNumber_20 rfl rfl rfl ?_
  refine go_aload_n (i := 0) (pc' := 22) dX3_takeNumber_21 rfl rfl rfl ?_
  refine gf_7_number (pc' := 25) dX3_takeNumber_22 rfl fl_X3_16 ?_
  refine go_bipush (v := 10) (pc' := 27) dX3_takeNumber_25 rfl (by decide) ?_
  refine go_imul (pc' := 28) dX3_takeNumber_27 rfl ?_
  refine go_iload_n (i := 1) (pc' := 29) dX3_takeNumber_28 rfl rfl rfl ?_
  refine go_iadd (pc' := 30) dX3_takeNumber_29 rfl ?_
  refine go_bipush (v := 48) (pc' := 32) dX3_takeNumber_30 rfl (by decide) ?_
  refine go_isub (pc' := 33) dX3_takeNumber_32 rfl ?_
  refine pf_7_number (pc' := 36) dX3_takeNumber_33 rfl fl_X3_16 ?_
  refine go_gen (P := WX σ) ⟨ixs_n w0.1 (by decide), Ag_setI w0.2 (by decide)⟩ (fun σ43 w43 => ?_)
  refine go_aload_n (i := 0) (pc' := 37) dX3_takeNumber_36 rfl rfl rfl ?_
  refine go_dup (pc' := 38) dX3_takeNumber_37 rfl rfl ?_
  refine gf_7_digits (pc' := 41) dX3_takeNumber_38 rfl fl_X3_32 ?_
  refine go_iconst (v := 1) (pc' := 42) dX3_takeNumber_41 rfl (by decide) ?_
  refine go_iadd (pc' := 43) dX3_takeNumber_42 rfl ?_
  refine pf_7_digits (pc' := 46) dX3_takeNumber_43 rfl fl_X3_32 ?_
  refine go_gen (P := WX σ) ⟨ixs_n w43.1 (by decide), Ag_setI w43.2 (by decide)⟩ (fun σ44 w44 => ?_)
  refine go_iconst (v := 1) (pc' := 47) dX3_takeNumber_46 rfl (by decide) ?_
  exact go_iret dX3_takeNumber_47 rfl (w44)
set_option maxHeartbeats 4000000 in
set_option maxRecDepth 100000 in
theorem c_X3_take (l : Launch) (L : WL) (σ : ST) (s p : Int32) (ix : IV σ) : CtI l L yX3_take cX3_take 3 (some .int) rm_X3_take [.ref (L.2.1 7), .int s, .int p] σ (fun _ σ2 => WX σ σ2) := by
  refine ctI_go (own := RX3) (by decide) rfl (Nat.le_of_ble_eq_true rfl) (fun F hF => ?_)
  subst hF
  have w0 : WX σ σ := WX_rfl ix
  refine go_aload_n (i := 0) (pc' := 1) dX3_take_0 rfl rfl rfl ?_
  refine gf_7_state (pc' := 4) dX3_take_1 rfl fl_X3_29 ?_
  by_cases z1 : (σ.1 12) = 1
  · refine go_lookup (off := 28) (tgt := 32) dX3_take_4 (by decide) (by rw [z1]; decide) (by decide) ?_
    refine go_aload_n (i := 0) (pc' := 33) dX3_take_32 rfl rfl rfl ?_
    refine go_iload_n (i := 1) (pc' := 34) dX3_take_33 rfl rfl rfl ?_
    refine go_iload_n (i := 2) (pc' := 35) dX3_take_34 rfl rfl rfl ?_
    refine go_cvi (pc' := 38) lk_X3_35 (c_X3_takeSort _ _ _ _ _ w0.1) rfl rfl (Nat.le_of_ble_eq_true rfl) (by decide) rfl rfl rfl ⟨Nat.le_of_ble_eq_true rfl, Nat.le_of_ble_eq_true rfl⟩ ⟨rfl, rfl⟩ dX3_take_35 rfl (fun r1 σ1 h1 => ?_)
    have w1 := WX_trans w0 h1
    exact go_iret dX3_take_38 rfl (w1)
  · by_cases z2 : (σ.1 12) = 2
    · refine go_lookup (off := 35) (tgt := 39) dX3_take_4 (by decide) (by rw [z2]; decide) (by decide) ?_
      refine go_aload_n (i := 0) (pc' := 40) dX3_take_39 rfl rfl rfl ?_
      refine go_iload_n (i := 1) (pc' := 41) dX3_take_40 rfl rfl rfl ?_
      refine go_iload_n (i := 2) (pc' := 42) dX3_take_41 rfl rfl rfl ?_
      refine go_cvi (pc' := 45) lk_X3_39 (c_X3_takeNumber _ _ _ _ _ w0.1) rfl rfl (Nat.le_of_ble_eq_true rfl) (by decide) rfl rfl rfl ⟨Nat.le_of_ble_eq_true rfl, Nat.le_of_ble_eq_true rfl⟩ ⟨rfl, rfl⟩ dX3_take_42 rfl (fun r2 σ2 h2 => ?_)
      have w2 := WX_trans w0 h2
      exact go_iret dX3_take_45 rfl (w2)
    · refine go_lookup (off := 42) (tgt := 46) dX3_take_4 (by decide) (lk12_n z1 z2) (by decide) ?_
      refine go_aload_n (i := 0) (pc' := 47) dX3_take_46 rfl rfl rfl ?_
      refine go_iload_n (i := 1) (pc' := 48) dX3_take_47 rfl rfl rfl ?_
      refine go_iload_n (i := 2) (pc' := 49) dX3_take_48 rfl rfl rfl ?_
      refine go_cvi (pc' := 52) lk_X3_42 (c_X3_takeText _ _ _ _ _ w0.1) rfl rfl (Nat.le_of_ble_eq_true rfl) (by decide) rfl rfl rfl ⟨Nat.le_of_ble_eq_true rfl, Nat.le_of_ble_eq_true rfl⟩ ⟨rfl, rfl⟩ dX3_take_49 rfl (fun r3 σ3 h3 => ?_)
      have w3 := WX_trans w0 h3
      exact go_iret dX3_take_52 rfl (w3)
