set_option maxHeartbeats 4000000 in
set_option maxRecDepth 100000 in
theorem c_J9_floorMod_7cf53 (l : Launch) (L : WL) (σ : ST) (x y : Int32) (hy : ¬ y = 0) : CtI l L yJ9_floorMod_7cf53 cJ9_floorMod_7cf53 3 (some .int) rm_J9_floorMod_7cf53 [.int x, .int y] σ (fun _ σ2 => σ2 = σ) := by
  refine ctI_goF (own := RJ9) (by decide) rfl (Nat.le_of_ble_eq_true rfl) (fun F hF => ?_)
  subst hF
  refine go_iload_n (i := 0) (pc' := 1) dJ9_floorMod_7cf53_0 rfl rfl rfl ?_
  refine go_iload_n (i := 1) (pc' := 2) dJ9_floorMod_7cf53_1 rfl rfl rfl ?_
  refine go_irem (pc' := 3) dJ9_floorMod_7cf53_2 rfl hy ?_
  refine go_topz (fun y1 h1 e1 => ?_)
  refine go_istore_n (i := 2) (pc' := 4) dJ9_floorMod_7cf53_3 rfl rfl (by decide) ?_
  refine go_iload_n (i := 0) (pc' := 5) dJ9_floorMod_7cf53_4 rfl rfl rfl ?_
  refine go_iload_n (i := 1) (pc' := 6) dJ9_floorMod_7cf53_5 rfl rfl rfl ?_
  refine go_ixor (pc' := 7) dJ9_floorMod_7cf53_6 rfl ?_
  refine gz_if_ge (tgt := 18) (pc' := 10) dJ9_floorMod_7cf53_7 rfl (by decide) (fun c2 => ?_) (fun c2 => ?_)
  · refine go_iload_n (i := 2) (pc' := 19) dJ9_floorMod_7cf53_18 rfl rfl rfl ?_
    exact go_iret dJ9_floorMod_7cf53_19 rfl (rfl)
  refine go_iload_n (i := 2) (pc' := 11) dJ9_floorMod_7cf53_10 rfl rfl rfl ?_
  refine gz_if_eq (tgt := 18) (pc' := 14) dJ9_floorMod_7cf53_11 rfl (by decide) (fun c3 => ?_) (fun c3 => ?_)
  · refine go_iload_n (i := 2) (pc' := 19) dJ9_floorMod_7cf53_18 rfl rfl rfl ?_
    exact go_iret dJ9_floorMod_7cf53_19 rfl (rfl)
  refine go_iload_n (i := 2) (pc' := 15) dJ9_floorMod_7cf53_14 rfl rfl rfl ?_
  refine go_iload_n (i := 1) (pc' := 16) dJ9_floorMod_7cf53_15 rfl rfl rfl ?_
  refine go_iadd (pc' := 17) dJ9_floorMod_7cf53_16 rfl ?_
  exact go_iret dJ9_floorMod_7cf53_17 rfl (rfl)
set_option maxHeartbeats 4000000 in
set_option maxRecDepth 100000 in
theorem c_X0_dayFrom (l : Launch) (L : WL) (σ : ST) (x y : Int32) : CtI l L yX0_dayFrom cX0_dayFrom 2 (some .int) rm_X0_dayFrom [.int x, .int y] σ (fun _ σ2 => σ2 = σ) := by
  refine ctI_go (own := RX0) (by decide) rfl (Nat.le_of_ble_eq_true rfl) (fun F hF => ?_)
  subst hF
  have nm1 : (-1 : Int32).toInt = -1 := by decide
  have n7 : (7 : Int32).toInt = 7 := by decide
  refine go_iload_n (i := 1) (pc' := 1) dX0_dayFrom_0 rfl rfl rfl ?_
  refine go_iconst (v := (-1)) (pc' := 2) dX0_dayFrom_1 rfl (by decide) ?_
  refine gz_icmp_ne (tgt := 9) (pc' := 5) dX0_dayFrom_2 rfl (by decide) (fun c1 => ?_) (fun c1 => ?_)
  · refine go_iload_n (i := 0) (pc' := 10) dX0_dayFrom_9 rfl rfl rfl ?_
    refine go_iload_n (i := 1) (pc' := 11) dX0_dayFrom_10 rfl rfl rfl ?_
    refine go_iload_n (i := 0) (pc' := 12) dX0_dayFrom_11 rfl rfl rfl ?_
    refine go_isub (pc' := 13) dX0_dayFrom_12 rfl ?_
    refine go_bipush (v := 7) (pc' := 15) dX0_dayFrom_13 rfl (by decide) ?_
    refine go_csi (pc' := 18) ls_X0_103 (c_J9_floorMod_7cf53 _ _ _ _ _ (by decide)) rfl rfl (Nat.le_of_ble_eq_true rfl) ⟨Nat.le_of_ble_eq_true rfl, Nat.le_of_ble_eq_true rfl⟩ ⟨rfl, rfl⟩ dX0_dayFrom_15 rfl (fun r2 σ2 h2 => ?_)
    have h2 := h2.symm
    subst h2
    refine go_iadd (pc' := 19) dX0_dayFrom_18 rfl ?_
    exact go_iret dX0_dayFrom_19 rfl (rfl)
  refine go_iload_n (i := 0) (pc' := 6) dX0_dayFrom_5 rfl rfl rfl ?_
  refine go_goto (tgt := 19) dX0_dayFrom_6 (by decide) ?_
  exact go_iret dX0_dayFrom_19 rfl (rfl)
set_option maxHeartbeats 4000000 in
set_option maxRecDepth 100000 in
theorem c_X0_dayUpTo (l : Launch) (L : WL) (σ : ST) (x y : Int32) : CtI l L yX0_dayUpTo cX0_dayUpTo 2 (some .int) rm_X0_dayUpTo [.int x, .int y] σ (fun _ σ2 => σ2 = σ) := by
  refine ctI_go (own := RX0) (by decide) rfl (Nat.le_of_ble_eq_true rfl) (fun F hF => ?_)
  subst hF
  have nm1 : (-1 : Int32).toInt = -1 := by decide
  have n7 : (7 : Int32).toInt = 7 := by decide
  refine go_iload_n (i := 1) (pc' := 1) dX0_dayUpTo_0 rfl rfl rfl ?_
  refine go_iconst (v := (-1)) (pc' := 2) dX0_dayUpTo_1 rfl (by decide) ?_
  refine gz_icmp_ne (tgt := 9) (pc' := 5) dX0_dayUpTo_2 rfl (by decide) (fun c1 => ?_) (fun c1 => ?_)
  · refine go_iload_n (i := 0) (pc' := 10) dX0_dayUpTo_9 rfl rfl rfl ?_
    refine go_iload_n (i := 0) (pc' := 11) dX0_dayUpTo_10 rfl rfl rfl ?_
    refine go_iload_n (i := 1) (pc' := 12) dX0_dayUpTo_11 rfl rfl rfl ?_
    refine go_isub (pc' := 13) dX0_dayUpTo_12 rfl ?_
    refine go_bipush (v := 7) (pc' := 15) dX0_dayUpTo_13 rfl (by decide) ?_
    refine go_csi (pc' := 18) ls_X0_103 (c_J9_floorMod_7cf53 _ _ _ _ _ (by decide)) rfl rfl (Nat.le_of_ble_eq_true rfl) ⟨Nat.le_of_ble_eq_true rfl, Nat.le_of_ble_eq_true rfl⟩ ⟨rfl, rfl⟩ dX0_dayUpTo_15 rfl (fun r2 σ2 h2 => ?_)
    have h2 := h2.symm
    subst h2
    refine go_isub (pc' := 19) dX0_dayUpTo_18 rfl ?_
    exact go_iret dX0_dayUpTo_19 rfl (rfl)
  refine go_iload_n (i := 0) (pc' := 6) dX0_dayUpTo_5 rfl rfl rfl ?_
  refine go_goto (tgt := 19) dX0_dayUpTo_6 (by decide) ?_
  exact go_iret dX0_dayUpTo_19 rfl (rfl)
set_option maxHeartbeats 4000000 in
set_option maxRecDepth 100000 in
theorem c_X0_raiseBy (l : Launch) (L : WL) (σ : ST) (k : Int32) (hk : 0 ≤ k.toInt ∧ k.toInt < 20) (ix : IV σ) : CtI l L yX0_raiseBy cX0_raiseBy 4 (some .boolean) rm_X0_raiseBy [.ref (L.2.1 3), .int k] σ (fun _ σ2 => WX σ σ2) := by
  refine ctI_go (own := RX0) (by decide) rfl (Nat.le_of_ble_eq_true rfl) (fun F hF => ?_)
  subst hF
  have n0 : (0 : Int32).toInt = 0 := by decide
  have n1 : (1 : Int32).toInt = 1 := by decide
  have w0 : WX σ σ := WX_rfl ix
  refine go_aload_n (i := 0) (pc' := 1) dX0_raiseBy_0 rfl rfl rfl ?_
  refine gf_3_roots (pc' := 4) dX0_raiseBy_1 rfl fl_X0_33 ?_
  refine go_aload_n (i := 0) (pc' := 5) dX0_raiseBy_4 rfl rfl rfl ?_
  refine gf_3_tos (pc' := 8) dX0_raiseBy_5 rfl fl_X0_27 ?_
  refine go_iload_n (i := 1) (pc' := 9) dX0_raiseBy_8 rfl rfl rfl ?_
  refine go_iald (pc' := 10) dX0_raiseBy_9 rfl (by decide) (by decide) rfl (vin_of (n := 20) (by omega) (by omega)) ?_
  refine go_rngA (ixa_36 w0.1) (vinlt (vin_of (n := 20) (by omega) (by omega))) (fun g1 => ?_)
  refine go_iald (pc' := 11) dX0_raiseBy_10 rfl (by decide) (by decide) rfl (vin_of (n := 12) (by omega) (by omega)) ?_
  refine go_rngA (ixa_38 w0.1) (vinlt (vin_of (n := 12) (by omega) (by omega))) (fun g2 => ?_)
  refine go_topz (fun y3 h3 e3 => ?_)
  refine go_istore_n (i := 2) (pc' := 12) dX0_raiseBy_11 rfl rfl (by decide) ?_
  refine go_aload_n (i := 0) (pc' := 13) dX0_raiseBy_12 rfl rfl rfl ?_
  refine gf_3_lows (pc' := 16) dX0_raiseBy_13 rfl fl_X0_11 ?_
  refine go_aload_n (i := 0) (pc' := 17) dX0_raiseBy_16 rfl rfl rfl ?_
  refine gf_3_roots (pc' := 20) dX0_raiseBy_17 rfl fl_X0_33 ?_
  refine go_aload_n (i := 0) (pc' := 21) dX0_raiseBy_20 rfl rfl rfl ?_
  refine gf_3_froms (pc' := 24) dX0_raiseBy_21 rfl fl_X0_24 ?_
  refine go_iload_n (i := 1) (pc' := 25) dX0_raiseBy_24 rfl rfl rfl ?_
  refine go_iald (pc' := 26) dX0_raiseBy_25 rfl (by decide) (by decide) rfl (vin_of (n := 20) (by omega) (by omega)) ?_
  refine go_rngA (ixa_35 w0.1) (vinlt (vin_of (n := 20) (by omega) (by omega))) (fun g4 => ?_)
  refine go_iald (pc' := 27) dX0_raiseBy_26 rfl (by decide) (by decide) rfl (vin_of (n := 12) (by omega) (by omega)) ?_
  refine go_rngA (ixa_38 w0.1) (vinlt (vin_of (n := 12) (by omega) (by omega))) (fun g5 => ?_)
  refine go_iald (pc' := 28) dX0_raiseBy_27 rfl (by decide) (by decide) rfl (vin_of (n := 12) (by omega) (by omega)) ?_
  refine go_aload_n (i := 0) (pc' := 29) dX0_raiseBy_28 rfl rfl rfl ?_
  refine gf_3_shifts (pc' := 32) dX0_raiseBy_29 rfl fl_X0_30 ?_
  refine go_iload_n (i := 1) (pc' := 33) dX0_raiseBy_32 rfl rfl rfl ?_
  refine go_iald (pc' := 34) dX0_raiseBy_33 rfl (by decide) (by decide) rfl (vin_of (n := 20) (by omega) (by omega)) ?_
  refine go_rngA (ixa_37 w0.1) (vinlt (vin_of (n := 20) (by omega) (by omega))) (fun g6 => ?_)
  refine go_iadd (pc' := 35) dX0_raiseBy_34 rfl ?_
  refine go_aload_n (i := 0) (pc' := 36) dX0_raiseBy_35 rfl rfl rfl ?_
  refine gf_3_weekdays (pc' := 39) dX0_raiseBy_36 rfl fl_X0_36 ?_
  refine go_iload_n (i := 2) (pc' := 40) dX0_raiseBy_39 rfl rfl rfl ?_
  refine go_iald (pc' := 41) dX0_raiseBy_40 rfl (by decide) (by decide) rfl (vin_of (n := 12) (by omega) (by omega)) ?_
  refine go_csi (pc' := 44) ls_X0_88 (c_X0_dayFrom _ _ _ _ _) rfl rfl (Nat.le_of_ble_eq_true rfl) ⟨Nat.le_of_ble_eq_true rfl, Nat.le_of_ble_eq_true rfl⟩ ⟨rfl, rfl⟩ dX0_raiseBy_41 rfl (fun r7 σ7 h7 => ?_)
  have h7 := h7.symm
  subst h7
  refine go_istore_n (i := 3) (pc' := 45) dX0_raiseBy_44 rfl rfl (by decide) ?_
  refine go_iload_n (i := 3) (pc' := 46) dX0_raiseBy_45 rfl rfl rfl ?_
  refine go_aload_n (i := 0) (pc' := 47) dX0_raiseBy_46 rfl rfl rfl ?_
  refine gf_3_lows (pc' := 50) dX0_raiseBy_47 rfl fl_X0_11 ?_
  refine go_iload_n (i := 2) (pc' := 51) dX0_raiseBy_50 rfl rfl rfl ?_
  refine go_iald (pc' := 52) dX0_raiseBy_51 rfl (by decide) (by decide) rfl (vin_of (n := 12) (by omega) (by omega)) ?_
  refine gz_icmp_gt (tgt := 57) (pc' := 55) dX0_raiseBy_52 rfl (by decide) (fun c8 => ?_) (fun c8 => ?_)
  · refine go_aload_n (i := 0) (pc' := 58) dX0_raiseBy_57 rfl rfl rfl ?_
    refine gf_3_lows (pc' := 61) dX0_raiseBy_58 rfl fl_X0_11 ?_
    refine go_iload_n (i := 2) (pc' := 62) dX0_raiseBy_61 rfl rfl rfl ?_
    refine go_iload_n (i := 3) (pc' := 63) dX0_raiseBy_62 rfl rfl rfl ?_
    refine go_iast (pc' := 64) dX0_raiseBy_63 rfl (by decide) (by decide) rfl (vin_of (n := 12) (by omega) (by omega)) ?_
    refine go_gen (P := WX σ) ⟨ixt_n w0.1 (by decide), Ag_setA w0.2 (by decide)⟩ (fun σ9 w9 => ?_)
    refine go_iconst (v := 1) (pc' := 65) dX0_raiseBy_64 rfl (by decide) ?_
    exact go_zret dX0_raiseBy_65 rfl rfl (w9)
  refine go_iconst (v := 0) (pc' := 56) dX0_raiseBy_55 rfl (by decide) ?_
  exact go_zret dX0_raiseBy_56 rfl rfl (w0)
set_option maxHeartbeats 4000000 in
set_option maxRecDepth 100000 in
theorem c_X0_sinkBy (l : Launch) (L : WL) (σ : ST) (k : Int32) (hk : 0 ≤ k.toInt ∧ k.toInt < 20) (ix : IV σ) : CtI l L yX0_sinkBy cX0_sinkBy 4 (some .boolean) rm_X0_sinkBy [.ref (L.2.1 3), .int k] σ (fun _ σ2 => WX σ σ2) := by
  refine ctI_go (own := RX0) (by decide) rfl (Nat.le_of_ble_eq_true rfl) (fun F hF => ?_)
  subst hF
  have n0 : (0 : Int32).toInt = 0 := by decide
  have n1 : (1 : Int32).toInt = 1 := by decide
  have w0 : WX σ σ := WX_rfl ix
  refine go_aload_n (i := 0) (pc' := 1) dX0_sinkBy_0 rfl rfl rfl ?_
  refine gf_3_roots (pc' := 4) dX0_sinkBy_1 rfl fl_X0_33 ?_
  refine go_aload_n (i := 0) (pc' := 5) dX0_sinkBy_4 rfl rfl rfl ?_
  refine gf_3_froms (pc' := 8) dX0_sinkBy_5 rfl fl_X0_24 ?_
  refine go_iload_n (i := 1) (pc' := 9) dX0_sinkBy_8 rfl rfl rfl ?_
  refine go_iald (pc' := 10) dX0_sinkBy_9 rfl (by decide) (by decide) rfl (vin_of (n := 20) (by omega) (by omega)) ?_
  refine go_rngA (ixa_35 w0.1) (vinlt (vin_of (n := 20) (by omega) (by omega))) (fun g1 => ?_)
  refine go_iald (pc' := 11) dX0_sinkBy_10 rfl (by decide) (by decide) rfl (vin_of (n := 12) (by omega) (by omega)) ?_
  refine go_rngA (ixa_38 w0.1) (vinlt (vin_of (n := 12) (by omega) (by omega))) (fun g2 => ?_)
  refine go_topz (fun y3 h3 e3 => ?_)
  refine go_istore_n (i := 2) (pc' := 12) dX0_sinkBy_11 rfl rfl (by decide) ?_
  refine go_aload_n (i := 0) (pc' := 13) dX0_sinkBy_12 rfl rfl rfl ?_
  refine gf_3_highs (pc' := 16) dX0_sinkBy_13 rfl fl_X0_17 ?_
  refine go_aload_n (i := 0) (pc' := 17) dX0_sinkBy_16 rfl rfl rfl ?_
  refine gf_3_roots (pc' := 20) dX0_sinkBy_17 rfl fl_X0_33 ?_
  refine go_aload_n (i := 0) (pc' := 21) dX0_sinkBy_20 rfl rfl rfl ?_
  refine gf_3_tos (pc' := 24) dX0_sinkBy_21 rfl fl_X0_27 ?_
  refine go_iload_n (i := 1) (pc' := 25) dX0_sinkBy_24 rfl rfl rfl ?_
  refine go_iald (pc' := 26) dX0_sinkBy_25 rfl (by decide) (by decide) rfl (vin_of (n := 20) (by omega) (by omega)) ?_
  refine go_rngA (ixa_36 w0.1) (vinlt (vin_of (n := 20) (by omega) (by omega))) (fun g4 => ?_)
  refine go_iald (pc' := 27) dX0_sinkBy_26 rfl (by decide) (by decide) rfl (vin_of (n := 12) (by omega) (by omega)) ?_
  refine go_rngA (ixa_38 w0.1) (vinlt (vin_of (n := 12) (by omega) (by omega))) (fun g5 => ?_)
  refine go_iald (pc' := 28) dX0_sinkBy_27 rfl (by decide) (by decide) rfl (vin_of (n := 12) (by omega) (by omega)) ?_
  refine go_aload_n (i := 0) (pc' := 29) dX0_sinkBy_28 rfl rfl rfl ?_
  refine gf_3_shifts (pc' := 32) dX0_sinkBy_29 rfl fl_X0_30 ?_
  refine go_iload_n (i := 1) (pc' := 33) dX0_sinkBy_32 rfl rfl rfl ?_
  refine go_iald (pc' := 34) dX0_sinkBy_33 rfl (by decide) (by decide) rfl (vin_of (n := 20) (by omega) (by omega)) ?_
  refine go_rngA (ixa_37 w0.1) (vinlt (vin_of (n := 20) (by omega) (by omega))) (fun g6 => ?_)
  refine go_isub (pc' := 35) dX0_sinkBy_34 rfl ?_
  refine go_aload_n (i := 0) (pc' := 36) dX0_sinkBy_35 rfl rfl rfl ?_
  refine gf_3_weekdays (pc' := 39) dX0_sinkBy_36 rfl fl_X0_36 ?_
  refine go_iload_n (i := 2) (pc' := 40) dX0_sinkBy_39 rfl rfl rfl ?_
  refine go_iald (pc' := 41) dX0_sinkBy_40 rfl (by decide) (by decide) rfl (vin_of (n := 12) (by omega) (by omega)) ?_
  refine go_csi (pc' := 44) ls_X0_91 (c_X0_dayUpTo _ _ _ _ _) rfl rfl (Nat.le_of_ble_eq_true rfl) ⟨Nat.le_of_ble_eq_true rfl, Nat.le_of_ble_eq_true rfl⟩ ⟨rfl, rfl⟩ dX0_sinkBy_41 rfl (fun r7 σ7 h7 => ?_)
  have h7 := h7.symm
  subst h7
  refine go_istore_n (i := 3) (pc' := 45) dX0_sinkBy_44 rfl rfl (by decide) ?_
  refine go_iload_n (i := 3) (pc' := 46) dX0_sinkBy_45 rfl rfl rfl ?_
  refine go_aload_n (i := 0) (pc' := 47) dX0_sinkBy_46 rfl rfl rfl ?_
  refine gf_3_highs (pc' := 50) dX0_sinkBy_47 rfl fl_X0_17 ?_
  refine go_iload_n (i := 2) (pc' := 51) dX0_sinkBy_50 rfl rfl rfl ?_
  refine go_iald (pc' := 52) dX0_sinkBy_51 rfl (by decide) (by decide) rfl (vin_of (n := 12) (by omega) (by omega)) ?_
  refine gz_icmp_lt (tgt := 57) (pc' := 55) dX0_sinkBy_52 rfl (by decide) (fun c8 => ?_) (fun c8 => ?_)
  · refine go_aload_n (i := 0) (pc' := 58) dX0_sinkBy_57 rfl rfl rfl ?_
    refine gf_3_highs (pc' := 61) dX0_sinkBy_58 rfl fl_X0_17 ?_
    refine go_iload_n (i := 2) (pc' := 62) dX0_sinkBy_61 rfl rfl rfl ?_
    refine go_iload_n (i := 3) (pc' := 63) dX0_sinkBy_62 rfl rfl rfl ?_
    refine go_iast (pc' := 64) dX0_sinkBy_63 rfl (by decide) (by decide) rfl (vin_of (n := 12) (by omega) (by omega)) ?_
    refine go_gen (P := WX σ) ⟨ixt_n w0.1 (by decide), Ag_setA w0.2 (by decide)⟩ (fun σ9 w9 => ?_)
    refine go_iconst (v := 1) (pc' := 65) dX0_sinkBy_64 rfl (by decide) ?_
    exact go_zret dX0_sinkBy_65 rfl rfl (w9)
  refine go_iconst (v := 0) (pc' := 56) dX0_sinkBy_55 rfl (by decide) ?_
  exact go_zret dX0_sinkBy_56 rfl rfl (w0)
set_option maxHeartbeats 4000000 in
set_option maxRecDepth 100000 in
theorem c_X0_isOrdered (l : Launch) (L : WL) (σ : ST) (n : Int32) (hn : n.toInt ≤ 12) (ix : IV σ) : CtI l L yX0_isOrdered cX0_isOrdered 3 (some .boolean) rm_X0_isOrdered [.ref (L.2.1 3), .int n] σ (fun _ σ2 => σ2 = σ) := by
  refine ctI_go (own := RX0) (by decide) rfl (Nat.le_of_ble_eq_true rfl) (fun F hF => ?_)
  subst hF
  have n0 : (0 : Int32).toInt = 0 := by decide
  have n1 : (1 : Int32).toInt = 1 := by decide
  have w0 : WX σ σ := WX_rfl ix
  refine go_iconst (v := 0) (pc' := 1) dX0_isOrdered_0 rfl (by decide) ?_
  refine go_istore_n (i := 2) (pc' := 2) dX0_isOrdered_1 rfl rfl (by decide) ?_
  have loop2_1 : ∀ (d : Nat) (x2_1 : Int32), (0 ≤ (x2_1).toInt ∧ (x2_1).toInt ≤ 12) → (12 - (x2_1).toInt).toNat = d → Go F L RX0 cX0_isOrdered 3 rm_X0_isOrdered (some .boolean) (RI F L (fun _ σ2 => σ2 = σ)) σ 2 [(0, .ref (L.2.1 3)), (1, .int n), (2, .int x2_1)] [] := by
    intro d
    induction d using Nat.strongRecOn with
    | _ d ih1 =>
      intro x2_1 h_1 hm_1
      refine go_iload_n (i := 2) (pc' := 3) dX0_isOrdered_2 rfl rfl rfl ?_
      refine go_iload_n (i := 1) (pc' := 4) dX0_isOrdered_3 rfl rfl rfl ?_
      refine gz_icmp_ge (tgt := 40) (pc' := 7) dX0_isOrdered_4 rfl (by decide) (fun c2 => ?_) (fun c2 => ?_)
      · refine go_iconst (v := 1) (pc' := 41) dX0_isOrdered_40 rfl (by decide) ?_
        exact go_zret dX0_isOrdered_41 rfl rfl (rfl)
      refine go_aload_n (i := 0) (pc' := 8) dX0_isOrdered_7 rfl rfl rfl ?_
      refine gf_3_roots (pc' := 11) dX0_isOrdered_8 rfl fl_X0_33 ?_
      refine go_iload_n (i := 2) (pc' := 12) dX0_isOrdered_11 rfl rfl rfl ?_
      refine go_iald (pc' := 13) dX0_isOrdered_12 rfl (by decide) (by decide) rfl (vin_of (n := 12) (by omega) (by omega)) ?_
      refine go_rngA (ixa_38 w0.1) (vinlt (vin_of (n := 12) (by omega) (by omega))) (fun g3 => ?_)
      refine go_iload_n (i := 2) (pc' := 14) dX0_isOrdered_13 rfl rfl rfl ?_
      refine gz_icmp_ne (tgt := 34) (pc' := 17) dX0_isOrdered_14 rfl (by decide) (fun c4 => ?_) (fun c4 => ?_)
      · refine gz_iinc (c := 1) (pc' := 37) dX0_isOrdered_34 rfl rfl (by decide) (by decide) (by decide) (by omega) (fun v5 h5 e5 => ?_)
        refine go_goto (tgt := 2) dX0_isOrdered_37 (by decide) ?_
        exact go_lv (lv' := [(0, .ref (L.2.1 3)), (1, .int n), (2, .int v5)]) rfl (ih1 _ (by omega)  v5 (by omega) rfl)
      refine go_aload_n (i := 0) (pc' := 18) dX0_isOrdered_17 rfl rfl rfl ?_
      refine gf_3_lows (pc' := 21) dX0_isOrdered_18 rfl fl_X0_11 ?_
      refine go_iload_n (i := 2) (pc' := 22) dX0_isOrdered_21 rfl rfl rfl ?_
      refine go_iald (pc' := 23) dX0_isOrdered_22 rfl (by decide) (by decide) rfl (vin_of (n := 12) (by omega) (by omega)) ?_
      refine go_aload_n (i := 0) (pc' := 24) dX0_isOrdered_23 rfl rfl rfl ?_
      refine gf_3_highs (pc' := 27) dX0_isOrdered_24 rfl fl_X0_17 ?_
      refine go_iload_n (i := 2) (pc' := 28) dX0_isOrdered_27 rfl rfl rfl ?_
      refine go_iald (pc' := 29) dX0_isOrdered_28 rfl (by decide) (by decide) rfl (vin_of (n := 12) (by omega) (by omega)) ?_
      refine gz_icmp_le (tgt := 34) (pc' := 32) dX0_isOrdered_29 rfl (by decide) (fun c6 => ?_) (fun c6 => ?_)
      · refine gz_iinc (c := 1) (pc' := 37) dX0_isOrdered_34 rfl rfl (by decide) (by decide) (by decide) (by omega) (fun v7 h7 e7 => ?_)
        refine go_goto (tgt := 2) dX0_isOrdered_37 (by decide) ?_
        exact go_lv (lv' := [(0, .ref (L.2.1 3)), (1, .int n), (2, .int v7)]) rfl (ih1 _ (by omega)  v7 (by omega) rfl)
      refine go_iconst (v := 0) (pc' := 33) dX0_isOrdered_32 rfl (by decide) ?_
      exact go_zret dX0_isOrdered_33 rfl rfl (rfl)
  exact go_lv (lv' := [(0, .ref (L.2.1 3)), (1, .int n), (2, .int (0 : Int32))]) rfl (loop2_1 _  (0 : Int32) (by omega) rfl)
set_option maxHeartbeats 4000000 in
set_option maxRecDepth 100000 in
theorem c_X0_raiseLows (l : Launch) (L : WL) (σ : ST) (n kk : Int32) (hn : n.toInt ≤ 12) (ix : IV σ) : CtI l L yX0_raiseLows cX0_raiseLows 6 (some .boolean) rm_X0_raiseLows [.ref (L.2.1 3), .int n, .int kk] σ (fun _ σ2 => WX σ σ2) := by
  refine ctI_go (own := RX0) (by decide) rfl (Nat.le_of_ble_eq_true rfl) (fun F hF => ?_)
  subst hF
  have n0 : (0 : Int32).toInt = 0 := by decide
  have n1 : (1 : Int32).toInt = 1 := by decide
  have n50 : (50 : Int32).toInt = 50 := by decide
  have w0 : WX σ σ := WX_rfl ix
  refine go_iconst (v := 1) (pc' := 1) dX0_raiseLows_0 rfl (by decide) ?_
  refine go_istore_n (i := 3) (pc' := 2) dX0_raiseLows_1 rfl rfl (by decide) ?_
  refine go_iconst (v := 0) (pc' := 3) dX0_raiseLows_2 rfl (by decide) ?_
  refine go_istore (pc' := 5) dX0_raiseLows_3 rfl (by decide) ?_
  have loop5_1 : ∀ (d : Nat) (σ1 : ST) (x3_1 : Int32) (x4_1 : Int32), WX σ σ1 → (0 ≤ (x4_1).toInt ∧ (x4_1).toInt ≤ 50) → (50 - (x4_1).toInt).toNat = d → Go F L RX0 cX0_raiseLows 6 rm_X0_raiseLows (some .boolean) (RI F L (fun _ σ2 => WX σ σ2)) σ1 5 [(0, .ref (L.2.1 3)), (1, .int n), (2, .int kk), (3, .int x3_1), (4, .int x4_1)] [] := by
    intro d
    induction d using Nat.strongRecOn with
    | _ d ih1 =>
      intro σ1 x3_1 x4_1 w1 h_1 hm_1
      refine go_iload (pc' := 7) dX0_raiseLows_5 rfl rfl ?_
      refine go_bipush (v := 50) (pc' := 9) dX0_raiseLows_7 rfl (by decide) ?_
      refine gz_icmp_ge (tgt := 73) (pc' := 12) dX0_raiseLows_9 rfl (by decide) (fun c2 => ?_) (fun c2 => ?_)
      · refine go_iload_n (i := 3) (pc' := 74) dX0_raiseLows_73 rfl rfl rfl ?_
        refine gz_if_ne (tgt := 81) (pc' := 77) dX0_raiseLows_74 rfl (by decide) (fun c3 => ?_) (fun c3 => ?_)
        · refine go_iconst (v := 0) (pc' := 82) dX0_raiseLows_81 rfl (by decide) ?_
          exact go_zret dX0_raiseLows_82 rfl rfl (w1)
        refine go_iconst (v := 1) (pc' := 78) dX0_raiseLows_77 rfl (by decide) ?_
        refine go_goto (tgt := 82) dX0_raiseLows_78 (by decide) ?_
        exact go_zret dX0_raiseLows_82 rfl rfl (w1)
      refine go_iload_n (i := 3) (pc' := 13) dX0_raiseLows_12 rfl rfl rfl ?_
      refine gz_if_eq (tgt := 73) (pc' := 16) dX0_raiseLows_13 rfl (by decide) (fun c4 => ?_) (fun c4 => ?_)
      · refine go_iload_n (i := 3) (pc' := 74) dX0_raiseLows_73 rfl rfl rfl ?_
        refine gz_if_ne (tgt := 81) (pc' := 77) dX0_raiseLows_74 rfl (by decide) (fun c5 => ?_) (fun c5 => ?_)
        · refine go_iconst (v := 0) (pc' := 82) dX0_raiseLows_81 rfl (by decide) ?_
          exact go_zret dX0_raiseLows_82 rfl rfl (w1)
        refine go_iconst (v := 1) (pc' := 78) dX0_raiseLows_77 rfl (by decide) ?_
        refine go_goto (tgt := 82) dX0_raiseLows_78 (by decide) ?_
        exact go_zret dX0_raiseLows_82 rfl rfl (w1)
      refine go_iconst (v := 0) (pc' := 17) dX0_raiseLows_16 rfl (by decide) ?_
      refine go_istore_n (i := 3) (pc' := 18) dX0_raiseLows_17 rfl rfl (by decide) ?_
      refine go_iconst (v := 0) (pc' := 19) dX0_raiseLows_18 rfl (by decide) ?_
      refine go_istore (pc' := 21) dX0_raiseLows_19 rfl (by decide) ?_
      have loop21_6 : ∀ (d : Nat) (σ6 : ST) (x3_6 : Int32) (x5_6 : Int32), WX σ σ6 → (0 ≤ (x5_6).toInt ∧ (x5_6).toInt ≤ 20) → (20 - (x5_6).toInt).toNat = d → Go F L RX0 cX0_raiseLows 6 rm_X0_raiseLows (some .boolean) (RI F L (fun _ σ2 => WX σ σ2)) σ6 21 [(0, .ref (L.2.1 3)), (1, .int n), (2, .int kk), (3, .int x3_6), (4, .int x4_1), (5, .int x5_6)] [] := by
        intro d
        induction d using Nat.strongRecOn with
        | _ d ih6 =>
          intro σ6 x3_6 x5_6 w6 h_6 hm_6
          refine go_iload (pc' := 23) dX0_raiseLows_21 rfl rfl ?_
          refine go_aload_n (i := 0) (pc' := 24) dX0_raiseLows_23 rfl rfl rfl ?_
          refine gf_3_size (pc' := 27) dX0_raiseLows_24 rfl fl_X0_20 ?_
          have g7 := ixi_4 w6.1
          refine gz_icmp_ge (tgt := 57) (pc' := 30) dX0_raiseLows_27 rfl (by decide) (fun c8 => ?_) (fun c8 => ?_)
          · refine go_aload_n (i := 0) (pc' := 58) dX0_raiseLows_57 rfl rfl rfl ?_
            refine go_iload_n (i := 1) (pc' := 59) dX0_raiseLows_58 rfl rfl rfl ?_
            refine go_cvi (pc' := 62) lk_X0_97 (c_X0_isOrdered _ _ _ _ hn w6.1) rfl rfl (Nat.le_of_ble_eq_true rfl) (by decide) rfl rfl rfl ⟨Nat.le_of_ble_eq_true rfl, Nat.le_of_ble_eq_true rfl⟩ ⟨rfl, rfl⟩ dX0_raiseLows_59 rfl (fun r9 σ9 h9 => ?_)
            have h9 := h9.symm
            subst h9
            refine gz_if_ne (tgt := 67) (pc' := 65) dX0_raiseLows_62 rfl (by decide) (fun c10 => ?_) (fun c10 => ?_)
            · refine gz_iinc (c := 1) (pc' := 70) dX0_raiseLows_67 rfl rfl (by decide) (by decide) (by decide) (by omega) (fun v11 h11 e11 => ?_)
              refine go_goto (tgt := 5) dX0_raiseLows_70 (by decide) ?_
              exact go_lv (lv' := [(0, .ref (L.2.1 3)), (1, .int n), (2, .int kk), (3, .int x3_6), (4, .int v11)]) rfl (ih1 _ (by omega) σ6 x3_6 v11 w6 (by omega) rfl)
            refine go_iconst (v := 0) (pc' := 66) dX0_raiseLows_65 rfl (by decide) ?_
            exact go_zret dX0_raiseLows_66 rfl rfl (w6)
          refine go_iload_n (i := 2) (pc' := 31) dX0_raiseLows_30 rfl rfl rfl ?_
          refine go_iload (pc' := 33) dX0_raiseLows_31 rfl rfl ?_
          refine go_ishr (pc' := 34) dX0_raiseLows_33 rfl ?_
          refine go_iconst (v := 1) (pc' := 35) dX0_raiseLows_34 rfl (by decide) ?_
          refine go_iand (pc' := 36) dX0_raiseLows_35 rfl ?_
          refine go_iconst (v := 1) (pc' := 37) dX0_raiseLows_36 rfl (by decide) ?_
          refine gz_icmp_ne (tgt := 51) (pc' := 40) dX0_raiseLows_37 rfl (by decide) (fun c12 => ?_) (fun c12 => ?_)
          · refine gz_iinc (c := 1) (pc' := 54) dX0_raiseLows_51 rfl rfl (by decide) (by decide) (by decide) (by omega) (fun v13 h13 e13 => ?_)
            refine go_goto (tgt := 21) dX0_raiseLows_54 (by decide) ?_
            exact go_lv (lv' := [(0, .ref (L.2.1 3)), (1, .int n), (2, .int kk), (3, .int x3_6), (4, .int x4_1), (5, .int v13)]) rfl (ih6 _ (by omega) σ6 x3_6 v13 w6 (by omega) rfl)
          refine go_aload_n (i := 0) (pc' := 41) dX0_raiseLows_40 rfl rfl rfl ?_
          refine go_iload (pc' := 43) dX0_raiseLows_41 rfl rfl ?_
          refine go_cvi (pc' := 46) lk_X0_94 (c_X0_raiseBy _ _ _ _ (by omega) w6.1) rfl rfl (Nat.le_of_ble_eq_true rfl) (by decide) rfl rfl rfl ⟨Nat.le_of_ble_eq_true rfl, Nat.le_of_ble_eq_true rfl⟩ ⟨rfl, rfl⟩ dX0_raiseLows_43 rfl (fun r14 σ14 h14 => ?_)
          have w14 := WX_trans w6 h14
          refine gz_if_eq (tgt := 51) (pc' := 49) dX0_raiseLows_46 rfl (by decide) (fun c15 => ?_) (fun c15 => ?_)
          · refine gz_iinc (c := 1) (pc' := 54) dX0_raiseLows_51 rfl rfl (by decide) (by decide) (by decide) (by omega) (fun v16 h16 e16 => ?_)
            refine go_goto (tgt := 21) dX0_raiseLows_54 (by decide) ?_
            exact go_lv (lv' := [(0, .ref (L.2.1 3)), (1, .int n), (2, .int kk), (3, .int x3_6), (4, .int x4_1), (5, .int v16)]) rfl (ih6 _ (by omega) σ14 x3_6 v16 w14 (by omega) rfl)
          refine go_iconst (v := 1) (pc' := 50) dX0_raiseLows_49 rfl (by decide) ?_
          refine go_istore_n (i := 3) (pc' := 51) dX0_raiseLows_50 rfl rfl (by decide) ?_
          refine gz_iinc (c := 1) (pc' := 54) dX0_raiseLows_51 rfl rfl (by decide) (by decide) (by decide) (by omega) (fun v17 h17 e17 => ?_)
          refine go_goto (tgt := 21) dX0_raiseLows_54 (by decide) ?_
          exact go_lv (lv' := [(0, .ref (L.2.1 3)), (1, .int n), (2, .int kk), (3, .int (1 : Int32)), (4, .int x4_1), (5, .int v17)]) rfl (ih6 _ (by omega) σ14 (1 : Int32) v17 w14 (by omega) rfl)
      exact go_lv (lv' := [(0, .ref (L.2.1 3)), (1, .int n), (2, .int kk), (3, .int (0 : Int32)), (4, .int x4_1), (5, .int (0 : Int32))]) rfl (loop21_6 _ σ1 (0 : Int32) (0 : Int32) w1 (by omega) rfl)
  exact go_lv (lv' := [(0, .ref (L.2.1 3)), (1, .int n), (2, .int kk), (3, .int (1 : Int32)), (4, .int (0 : Int32))]) rfl (loop5_1 _ σ (1 : Int32) (0 : Int32) w0 (by omega) rfl)
set_option maxHeartbeats 4000000 in
set_option maxRecDepth 100000 in
theorem c_X0_joinFound (l : Launch) (L : WL) (σ : ST) (n : Int32) (hn : n.toInt ≤ 12) (ix : IV σ) : CtI l L yX0_joinFound cX0_joinFound 4 (some .boolean) rm_X0_joinFound [.ref (L.2.1 3), .int n] σ (fun _ σ2 => WX σ σ2) := by
  refine ctI_go (own := RX0) (by decide) rfl (Nat.le_of_ble_eq_true rfl) (fun F hF => ?_)
  subst hF
  have nm1 : (-1 : Int32).toInt = -1 := by decide
  have n0 : (0 : Int32).toInt = 0 := by decide
  have n1 : (1 : Int32).toInt = 1 := by decide
  have w0 : WX σ σ := WX_rfl ix
  refine go_iconst (v := 0) (pc' := 1) dX0_joinFound_0 rfl (by decide) ?_
  refine go_istore_n (i := 2) (pc' := 2) dX0_joinFound_1 rfl rfl (by decide) ?_
  have loop2_1 : ∀ (d : Nat) (σ1 : ST) (x2_1 : Int32), WX σ σ1 → (0 ≤ (x2_1).toInt ∧ (x2_1).toInt ≤ 12) → (12 - (x2_1).toInt).toNat = d → Go F L RX0 cX0_joinFound 4 rm_X0_joinFound (some .boolean) (RI F L (fun _ σ2 => WX σ σ2)) σ1 2 [(0, .ref (L.2.1 3)), (1, .int n), (2, .int x2_1)] [] := by
    intro d
    induction d using Nat.strongRecOn with
    | _ d ih1 =>
      intro σ1 x2_1 w1 h_1 hm_1
      refine go_iload_n (i := 2) (pc' := 3) dX0_joinFound_2 rfl rfl rfl ?_
      refine go_iload_n (i := 1) (pc' := 4) dX0_joinFound_3 rfl rfl rfl ?_
      refine gz_icmp_ge (tgt := 114) (pc' := 7) dX0_joinFound_4 rfl (by decide) (fun c2 => ?_) (fun c2 => ?_)
      · refine go_iconst (v := 0) (pc' := 115) dX0_joinFound_114 rfl (by decide) ?_
        refine go_istore_n (i := 2) (pc' := 116) dX0_joinFound_115 rfl rfl (by decide) ?_
        have loop116_3 : ∀ (d : Nat) (σ3 : ST) (x2_3 : Int32), WX σ σ3 → (0 ≤ (x2_3).toInt ∧ (x2_3).toInt ≤ 12) → (12 - (x2_3).toInt).toNat = d → Go F L RX0 cX0_joinFound 4 rm_X0_joinFound (some .boolean) (RI F L (fun _ σ2 => WX σ σ2)) σ3 116 [(0, .ref (L.2.1 3)), (1, .int n), (2, .int x2_3)] [] := by
          intro d
          induction d using Nat.strongRecOn with
          | _ d ih3 =>
            intro σ3 x2_3 w3 h_3 hm_3
            refine go_iload_n (i := 2) (pc' := 117) dX0_joinFound_116 rfl rfl rfl ?_
            refine go_iload_n (i := 1) (pc' := 118) dX0_joinFound_117 rfl rfl rfl ?_
            refine gz_icmp_ge (tgt := 169) (pc' := 121) dX0_joinFound_118 rfl (by decide) (fun c4 => ?_) (fun c4 => ?_)
            · refine go_iconst (v := 1) (pc' := 170) dX0_joinFound_169 rfl (by decide) ?_
              exact go_zret dX0_joinFound_170 rfl rfl (w3)
            refine go_aload_n (i := 0) (pc' := 122) dX0_joinFound_121 rfl rfl rfl ?_
            refine gf_3_lows (pc' := 125) dX0_joinFound_122 rfl fl_X0_11 ?_
            refine go_iload_n (i := 2) (pc' := 126) dX0_joinFound_125 rfl rfl rfl ?_
            refine go_aload_n (i := 0) (pc' := 127) dX0_joinFound_126 rfl rfl rfl ?_
            refine gf_3_lows (pc' := 130) dX0_joinFound_127 rfl fl_X0_11 ?_
            refine go_iload_n (i := 2) (pc' := 131) dX0_joinFound_130 rfl rfl rfl ?_
            refine go_iald (pc' := 132) dX0_joinFound_131 rfl (by decide) (by decide) rfl (vin_of (n := 12) (by omega) (by omega)) ?_
            refine go_aload_n (i := 0) (pc' := 133) dX0_joinFound_132 rfl rfl rfl ?_
            refine gf_3_weekdays (pc' := 136) dX0_joinFound_133 rfl fl_X0_36 ?_
            refine go_iload_n (i := 2) (pc' := 137) dX0_joinFound_136 rfl rfl rfl ?_
            refine go_iald (pc' := 138) dX0_joinFound_137 rfl (by decide) (by decide) rfl (vin_of (n := 12) (by omega) (by omega)) ?_
            refine go_csi (pc' := 141) ls_X0_88 (c_X0_dayFrom _ _ _ _ _) rfl rfl (Nat.le_of_ble_eq_true rfl) ⟨Nat.le_of_ble_eq_true rfl, Nat.le_of_ble_eq_true rfl⟩ ⟨rfl, rfl⟩ dX0_joinFound_138 rfl (fun r5 σ5 h5 => ?_)
            have h5 := h5.symm
            subst h5
            refine go_iast (pc' := 142) dX0_joinFound_141 rfl (by decide) (by decide) rfl (vin_of (n := 12) (by omega) (by omega)) ?_
            refine go_gen (P := WX σ) ⟨ixt_n w3.1 (by decide), Ag_setA w3.2 (by decide)⟩ (fun σ6 w6 => ?_)
            refine go_aload_n (i := 0) (pc' := 143) dX0_joinFound_142 rfl rfl rfl ?_
            refine gf_3_highs (pc' := 146) dX0_joinFound_143 rfl fl_X0_17 ?_
            refine go_iload_n (i := 2) (pc' := 147) dX0_joinFound_146 rfl rfl rfl ?_
            refine go_aload_n (i := 0) (pc' := 148) dX0_joinFound_147 rfl rfl rfl ?_
            refine gf_3_highs (pc' := 151) dX0_joinFound_148 rfl fl_X0_17 ?_
            refine go_iload_n (i := 2) (pc' := 152) dX0_joinFound_151 rfl rfl rfl ?_
            refine go_iald (pc' := 153) dX0_joinFound_152 rfl (by decide) (by decide) rfl (vin_of (n := 12) (by omega) (by omega)) ?_
            refine go_aload_n (i := 0) (pc' := 154) dX0_joinFound_153 rfl rfl rfl ?_
            refine gf_3_weekdays (pc' := 157) dX0_joinFound_154 rfl fl_X0_36 ?_
            refine go_iload_n (i := 2) (pc' := 158) dX0_joinFound_157 rfl rfl rfl ?_
            refine go_iald (pc' := 159) dX0_joinFound_158 rfl (by decide) (by decide) rfl (vin_of (n := 12) (by omega) (by omega)) ?_
            refine go_csi (pc' := 162) ls_X0_91 (c_X0_dayUpTo _ _ _ _ _) rfl rfl (Nat.le_of_ble_eq_true rfl) ⟨Nat.le_of_ble_eq_true rfl, Nat.le_of_ble_eq_true rfl⟩ ⟨rfl, rfl⟩ dX0_joinFound_159 rfl (fun r7 σ7 h7 => ?_)
            have h7 := h7.symm
            subst h7
            refine go_iast (pc' := 163) dX0_joinFound_162 rfl (by decide) (by decide) rfl (vin_of (n := 12) (by omega) (by omega)) ?_
            refine go_gen (P := WX σ) ⟨ixt_n w6.1 (by decide), Ag_setA w6.2 (by decide)⟩ (fun σ8 w8 => ?_)
            refine gz_iinc (c := 1) (pc' := 166) dX0_joinFound_163 rfl rfl (by decide) (by decide) (by decide) (by omega) (fun v9 h9 e9 => ?_)
            refine go_goto (tgt := 116) dX0_joinFound_166 (by decide) ?_
            exact go_lv (lv' := [(0, .ref (L.2.1 3)), (1, .int n), (2, .int v9)]) rfl (ih3 _ (by omega) σ8 v9 w8 (by omega) rfl)
        exact go_lv (lv' := [(0, .ref (L.2.1 3)), (1, .int n), (2, .int (0 : Int32))]) rfl (loop116_3 _ σ1 (0 : Int32) w1 (by omega) rfl)
      refine go_aload_n (i := 0) (pc' := 8) dX0_joinFound_7 rfl rfl rfl ?_
      refine gf_3_roots (pc' := 11) dX0_joinFound_8 rfl fl_X0_33 ?_
      refine go_iload_n (i := 2) (pc' := 12) dX0_joinFound_11 rfl rfl rfl ?_
      refine go_iald (pc' := 13) dX0_joinFound_12 rfl (by decide) (by decide) rfl (vin_of (n := 12) (by omega) (by omega)) ?_
      refine go_rngA (ixa_38 w1.1) (vinlt (vin_of (n := 12) (by omega) (by omega))) (fun g10 => ?_)
      refine go_topz (fun y11 h11 e11 => ?_)
      refine go_istore_n (i := 3) (pc' := 14) dX0_joinFound_13 rfl rfl (by decide) ?_
      refine go_aload_n (i := 0) (pc' := 15) dX0_joinFound_14 rfl rfl rfl ?_
      refine gf_3_lows (pc' := 18) dX0_joinFound_15 rfl fl_X0_11 ?_
      refine go_iload_n (i := 3) (pc' := 19) dX0_joinFound_18 rfl rfl rfl ?_
      refine go_aload_n (i := 0) (pc' := 20) dX0_joinFound_19 rfl rfl rfl ?_
      refine gf_3_lows (pc' := 23) dX0_joinFound_20 rfl fl_X0_11 ?_
      refine go_iload_n (i := 3) (pc' := 24) dX0_joinFound_23 rfl rfl rfl ?_
      refine go_iald (pc' := 25) dX0_joinFound_24 rfl (by decide) (by decide) rfl (vin_of (n := 12) (by omega) (by omega)) ?_
      refine go_aload_n (i := 0) (pc' := 26) dX0_joinFound_25 rfl rfl rfl ?_
      refine gf_3_lows (pc' := 29) dX0_joinFound_26 rfl fl_X0_11 ?_
      refine go_iload_n (i := 2) (pc' := 30) dX0_joinFound_29 rfl rfl rfl ?_
      refine go_iald (pc' := 31) dX0_joinFound_30 rfl (by decide) (by decide) rfl (vin_of (n := 12) (by omega) (by omega)) ?_
      refine gz_max (pc' := 34) dX0_joinFound_31 rfl ml_X0_57 (Nat.le_of_ble_eq_true rfl) (Nat.le_of_ble_eq_true rfl) (fun v12 h12 e12 => ?_)
      refine go_iast (pc' := 35) dX0_joinFound_34 rfl (by decide) (by decide) rfl (vin_of (n := 12) (by omega) (by omega)) ?_
      refine go_gen (P := WX σ) ⟨ixt_n w1.1 (by decide), Ag_setA w1.2 (by decide)⟩ (fun σ13 w13 => ?_)
      refine go_aload_n (i := 0) (pc' := 36) dX0_joinFound_35 rfl rfl rfl ?_
      refine gf_3_highs (pc' := 39) dX0_joinFound_36 rfl fl_X0_17 ?_
      refine go_iload_n (i := 3) (pc' := 40) dX0_joinFound_39 rfl rfl rfl ?_
      refine go_aload_n (i := 0) (pc' := 41) dX0_joinFound_40 rfl rfl rfl ?_
      refine gf_3_highs (pc' := 44) dX0_joinFound_41 rfl fl_X0_17 ?_
      refine go_iload_n (i := 3) (pc' := 45) dX0_joinFound_44 rfl rfl rfl ?_
      refine go_iald (pc' := 46) dX0_joinFound_45 rfl (by decide) (by decide) rfl (vin_of (n := 12) (by omega) (by omega)) ?_
      refine go_aload_n (i := 0) (pc' := 47) dX0_joinFound_46 rfl rfl rfl ?_
      refine gf_3_highs (pc' := 50) dX0_joinFound_47 rfl fl_X0_17 ?_
      refine go_iload_n (i := 2) (pc' := 51) dX0_joinFound_50 rfl rfl rfl ?_
      refine go_iald (pc' := 52) dX0_joinFound_51 rfl (by decide) (by decide) rfl (vin_of (n := 12) (by omega) (by omega)) ?_
      refine gz_min (pc' := 55) dX0_joinFound_52 rfl ml_X0_85 (Nat.le_of_ble_eq_true rfl) (Nat.le_of_ble_eq_true rfl) (fun v14 h14 e14 => ?_)
      refine go_iast (pc' := 56) dX0_joinFound_55 rfl (by decide) (by decide) rfl (vin_of (n := 12) (by omega) (by omega)) ?_
      refine go_gen (P := WX σ) ⟨ixt_n w13.1 (by decide), Ag_setA w13.2 (by decide)⟩ (fun σ15 w15 => ?_)
      refine go_aload_n (i := 0) (pc' := 57) dX0_joinFound_56 rfl rfl rfl ?_
      refine gf_3_weekdays (pc' := 60) dX0_joinFound_57 rfl fl_X0_36 ?_
      refine go_iload_n (i := 3) (pc' := 61) dX0_joinFound_60 rfl rfl rfl ?_
      refine go_iald (pc' := 62) dX0_joinFound_61 rfl (by decide) (by decide) rfl (vin_of (n := 12) (by omega) (by omega)) ?_
      refine go_iconst (v := (-1)) (pc' := 63) dX0_joinFound_62 rfl (by decide) ?_
      refine gz_icmp_ne (tgt := 81) (pc' := 66) dX0_joinFound_63 rfl (by decide) (fun c16 => ?_) (fun c16 => ?_)
      · refine go_aload_n (i := 0) (pc' := 82) dX0_joinFound_81 rfl rfl rfl ?_
        refine gf_3_weekdays (pc' := 85) dX0_joinFound_82 rfl fl_X0_36 ?_
        refine go_iload_n (i := 2) (pc' := 86) dX0_joinFound_85 rfl rfl rfl ?_
        refine go_iald (pc' := 87) dX0_joinFound_86 rfl (by decide) (by decide) rfl (vin_of (n := 12) (by omega) (by omega)) ?_
        refine go_iconst (v := (-1)) (pc' := 88) dX0_joinFound_87 rfl (by decide) ?_
        refine gz_icmp_eq (tgt := 108) (pc' := 91) dX0_joinFound_88 rfl (by decide) (fun c17 => ?_) (fun c17 => ?_)
        · refine gz_iinc (c := 1) (pc' := 111) dX0_joinFound_108 rfl rfl (by decide) (by decide) (by decide) (by omega) (fun v18 h18 e18 => ?_)
          refine go_goto (tgt := 2) dX0_joinFound_111 (by decide) ?_
          exact go_lv (lv' := [(0, .ref (L.2.1 3)), (1, .int n), (2, .int v18)]) rfl (ih1 _ (by omega) σ15 v18 w15 (by omega) rfl)
        refine go_aload_n (i := 0) (pc' := 92) dX0_joinFound_91 rfl rfl rfl ?_
        refine gf_3_weekdays (pc' := 95) dX0_joinFound_92 rfl fl_X0_36 ?_
        refine go_iload_n (i := 2) (pc' := 96) dX0_joinFound_95 rfl rfl rfl ?_
        refine go_iald (pc' := 97) dX0_joinFound_96 rfl (by decide) (by decide) rfl (vin_of (n := 12) (by omega) (by omega)) ?_
        refine go_aload_n (i := 0) (pc' := 98) dX0_joinFound_97 rfl rfl rfl ?_
        refine gf_3_weekdays (pc' := 101) dX0_joinFound_98 rfl fl_X0_36 ?_
        refine go_iload_n (i := 3) (pc' := 102) dX0_joinFound_101 rfl rfl rfl ?_
        refine go_iald (pc' := 103) dX0_joinFound_102 rfl (by decide) (by decide) rfl (vin_of (n := 12) (by omega) (by omega)) ?_
        refine gz_icmp_eq (tgt := 108) (pc' := 106) dX0_joinFound_103 rfl (by decide) (fun c19 => ?_) (fun c19 => ?_)
        · refine gz_iinc (c := 1) (pc' := 111) dX0_joinFound_108 rfl rfl (by decide) (by decide) (by decide) (by omega) (fun v20 h20 e20 => ?_)
          refine go_goto (tgt := 2) dX0_joinFound_111 (by decide) ?_
          exact go_lv (lv' := [(0, .ref (L.2.1 3)), (1, .int n), (2, .int v20)]) rfl (ih1 _ (by omega) σ15 v20 w15 (by omega) rfl)
        refine go_iconst (v := 0) (pc' := 107) dX0_joinFound_106 rfl (by decide) ?_
        exact go_zret dX0_joinFound_107 rfl rfl (w15)
      refine go_aload_n (i := 0) (pc' := 67) dX0_joinFound_66 rfl rfl rfl ?_
      refine gf_3_weekdays (pc' := 70) dX0_joinFound_67 rfl fl_X0_36 ?_
      refine go_iload_n (i := 3) (pc' := 71) dX0_joinFound_70 rfl rfl rfl ?_
      refine go_aload_n (i := 0) (pc' := 72) dX0_joinFound_71 rfl rfl rfl ?_
      refine gf_3_weekdays (pc' := 75) dX0_joinFound_72 rfl fl_X0_36 ?_
      refine go_iload_n (i := 2) (pc' := 76) dX0_joinFound_75 rfl rfl rfl ?_
      refine go_iald (pc' := 77) dX0_joinFound_76 rfl (by decide) (by decide) rfl (vin_of (n := 12) (by omega) (by omega)) ?_
      refine go_iast (pc' := 78) dX0_joinFound_77 rfl (by decide) (by decide) rfl (vin_of (n := 12) (by omega) (by omega)) ?_
      refine go_gen (P := WX σ) ⟨ixt_n w15.1 (by decide), Ag_setA w15.2 (by decide)⟩ (fun σ21 w21 => ?_)
      refine go_goto (tgt := 108) dX0_joinFound_78 (by decide) ?_
      refine gz_iinc (c := 1) (pc' := 111) dX0_joinFound_108 rfl rfl (by decide) (by decide) (by decide) (by omega) (fun v22 h22 e22 => ?_)
      refine go_goto (tgt := 2) dX0_joinFound_111 (by decide) ?_
      exact go_lv (lv' := [(0, .ref (L.2.1 3)), (1, .int n), (2, .int v22)]) rfl (ih1 _ (by omega) σ21 v22 w21 (by omega) rfl)
  exact go_lv (lv' := [(0, .ref (L.2.1 3)), (1, .int n), (2, .int (0 : Int32))]) rfl (loop2_1 _ σ (0 : Int32) w0 (by omega) rfl)
set_option maxHeartbeats 4000000 in
set_option maxRecDepth 100000 in
theorem c_X0_isPossible (l : Launch) (L : WL) (σ : ST) (kk : Int32) (ix : IV σ) : CtI l L yX0_isPossible cX0_isPossible 4 (some .boolean) rm_X0_isPossible [.ref (L.2.1 3), .ref (L.2.1 2), .int kk] σ (fun _ σ2 => WX σ σ2) := by
  refine ctI_go (own := RX0) (by decide) rfl (Nat.le_of_ble_eq_true rfl) (fun F hF => ?_)
  subst hF
  have nm1 : (-1 : Int32).toInt = -1 := by decide
  have n0 : (0 : Int32).toInt = 0 := by decide
  have n1 : (1 : Int32).toInt = 1 := by decide
  have w0 : WX σ σ := WX_rfl ix
  refine go_iconst (v := 0) (pc' := 1) dX0_isPossible_0 rfl (by decide) ?_
  refine go_istore_n (i := 3) (pc' := 2) dX0_isPossible_1 rfl rfl (by decide) ?_
  have loop2_1 : ∀ (d : Nat) (σ1 : ST) (x3_1 : Int32), WX σ σ1 → (0 ≤ (x3_1).toInt ∧ (x3_1).toInt ≤ 12) → (12 - (x3_1).toInt).toNat = d → Go F L RX0 cX0_isPossible 4 rm_X0_isPossible (some .boolean) (RI F L (fun _ σ2 => WX σ σ2)) σ1 2 [(0, .ref (L.2.1 3)), (1, .ref (L.2.1 2)), (2, .int kk), (3, .int x3_1)] [] := by
    intro d
    induction d using Nat.strongRecOn with
    | _ d ih1 =>
      intro σ1 x3_1 w1 h_1 hm_1
      refine go_iload_n (i := 3) (pc' := 3) dX0_isPossible_2 rfl rfl rfl ?_
      refine go_aload_n (i := 1) (pc' := 4) dX0_isPossible_3 rfl rfl rfl ?_
      refine gf_2_size (pc' := 7) dX0_isPossible_4 rfl fl_X0_55 ?_
      have g2 := ixi_3 w1.1
      refine gz_icmp_ge (tgt := 78) (pc' := 10) dX0_isPossible_7 rfl (by decide) (fun c3 => ?_) (fun c3 => ?_)
      · refine go_aload_n (i := 0) (pc' := 79) dX0_isPossible_78 rfl rfl rfl ?_
        refine go_aload_n (i := 1) (pc' := 80) dX0_isPossible_79 rfl rfl rfl ?_
        refine gf_2_size (pc' := 83) dX0_isPossible_80 rfl fl_X0_55 ?_
        have g4 := ixi_3 w1.1
        refine go_cvi (pc' := 86) lk_X0_77 (c_X0_joinFound _ _ _ _ (by omega) w1.1) rfl rfl (Nat.le_of_ble_eq_true rfl) (by decide) rfl rfl rfl ⟨Nat.le_of_ble_eq_true rfl, Nat.le_of_ble_eq_true rfl⟩ ⟨rfl, rfl⟩ dX0_isPossible_83 rfl (fun r5 σ5 h5 => ?_)
        have w5 := WX_trans w1 h5
        refine gz_if_eq (tgt := 105) (pc' := 89) dX0_isPossible_86 rfl (by decide) (fun c6 => ?_) (fun c6 => ?_)
        · refine go_iconst (v := 0) (pc' := 106) dX0_isPossible_105 rfl (by decide) ?_
          exact go_zret dX0_isPossible_106 rfl rfl (w5)
        refine go_aload_n (i := 0) (pc' := 90) dX0_isPossible_89 rfl rfl rfl ?_
        refine go_aload_n (i := 1) (pc' := 91) dX0_isPossible_90 rfl rfl rfl ?_
        refine gf_2_size (pc' := 94) dX0_isPossible_91 rfl fl_X0_55 ?_
        have g7 := ixi_3 w5.1
        refine go_iload_n (i := 2) (pc' := 95) dX0_isPossible_94 rfl rfl rfl ?_
        refine go_cvi (pc' := 98) lk_X0_81 (c_X0_raiseLows _ _ _ _ _ (by omega) w5.1) rfl rfl (Nat.le_of_ble_eq_true rfl) (by decide) rfl rfl rfl ⟨Nat.le_of_ble_eq_true rfl, Nat.le_of_ble_eq_true rfl⟩ ⟨rfl, rfl⟩ dX0_isPossible_95 rfl (fun r8 σ8 h8 => ?_)
        have w8 := WX_trans w5 h8
        refine gz_if_eq (tgt := 105) (pc' := 101) dX0_isPossible_98 rfl (by decide) (fun c9 => ?_) (fun c9 => ?_)
        · refine go_iconst (v := 0) (pc' := 106) dX0_isPossible_105 rfl (by decide) ?_
          exact go_zret dX0_isPossible_106 rfl rfl (w8)
        refine go_iconst (v := 1) (pc' := 102) dX0_isPossible_101 rfl (by decide) ?_
        refine go_goto (tgt := 106) dX0_isPossible_102 (by decide) ?_
        exact go_zret dX0_isPossible_106 rfl rfl (w8)
      refine go_aload_n (i := 0) (pc' := 11) dX0_isPossible_10 rfl rfl rfl ?_
      refine gf_3_roots (pc' := 14) dX0_isPossible_11 rfl fl_X0_33 ?_
      refine go_iload_n (i := 3) (pc' := 15) dX0_isPossible_14 rfl rfl rfl ?_
      refine go_aload_n (i := 1) (pc' := 16) dX0_isPossible_15 rfl rfl rfl ?_
      refine gf_2_founds (pc' := 19) dX0_isPossible_16 rfl fl_X0_67 ?_
      refine go_iload_n (i := 3) (pc' := 20) dX0_isPossible_19 rfl rfl rfl ?_
      refine go_iald (pc' := 21) dX0_isPossible_20 rfl (by decide) (by decide) rfl (vin_of (n := 12) (by omega) (by omega)) ?_
      refine go_rngA (ixa_31 w1.1) (vinlt (vin_of (n := 12) (by omega) (by omega))) (fun g10 => ?_)
      refine go_iconst (v := (-1)) (pc' := 22) dX0_isPossible_21 rfl (by decide) ?_
      have mrg35_11 : ∀ (y0_11 : Int32), (0 ≤ (y0_11).toInt ∧ (y0_11).toInt ≤ 11) → Go F L RX0 cX0_isPossible 4 rm_X0_isPossible (some .boolean) (RI F L (fun _ σ2 => WX σ σ2)) σ1 35 [(0, .ref (L.2.1 3)), (1, .ref (L.2.1 2)), (2, .int kk), (3, .int x3_1)] [.int y0_11, .int x3_1, .ref (L.2.1 38)] := by
        intro y0_11 hy_11
        refine go_iast (pc' := 36) dX0_isPossible_35 rfl (by decide) (by decide) rfl (vin_of (n := 12) (by omega) (by omega)) ?_
        refine go_gen (P := WX σ) ⟨ixt_38 w1.1 (by omega) (by omega), Ag_setA w1.2 (by decide)⟩ (fun σ12 w12 => ?_)
        refine go_aload_n (i := 0) (pc' := 37) dX0_isPossible_36 rfl rfl rfl ?_
        refine gf_3_lows (pc' := 40) dX0_isPossible_37 rfl fl_X0_11 ?_
        refine go_iload_n (i := 3) (pc' := 41) dX0_isPossible_40 rfl rfl rfl ?_
        refine go_aload_n (i := 1) (pc' := 42) dX0_isPossible_41 rfl rfl rfl ?_
        refine gf_2_leasts (pc' := 45) dX0_isPossible_42 rfl fl_X0_70 ?_
        refine go_iload_n (i := 3) (pc' := 46) dX0_isPossible_45 rfl rfl rfl ?_
        refine go_iald (pc' := 47) dX0_isPossible_46 rfl (by decide) (by decide) rfl (vin_of (n := 12) (by omega) (by omega)) ?_
        refine go_rngA (ixa_28 w12.1) (vinlt (vin_of (n := 12) (by omega) (by omega))) (fun g13 => ?_)
        refine go_iast (pc' := 48) dX0_isPossible_47 rfl (by decide) (by decide) rfl (vin_of (n := 12) (by omega) (by omega)) ?_
        refine go_gen (P := WX σ) ⟨ixt_n w12.1 (by decide), Ag_setA w12.2 (by decide)⟩ (fun σ14 w14 => ?_)
        refine go_aload_n (i := 0) (pc' := 49) dX0_isPossible_48 rfl rfl rfl ?_
        refine gf_3_highs (pc' := 52) dX0_isPossible_49 rfl fl_X0_17 ?_
        refine go_iload_n (i := 3) (pc' := 53) dX0_isPossible_52 rfl rfl rfl ?_
        refine go_aload_n (i := 1) (pc' := 54) dX0_isPossible_53 rfl rfl rfl ?_
        refine gf_2_greatests (pc' := 57) dX0_isPossible_54 rfl fl_X0_73 ?_
        refine go_iload_n (i := 3) (pc' := 58) dX0_isPossible_57 rfl rfl rfl ?_
        refine go_iald (pc' := 59) dX0_isPossible_58 rfl (by decide) (by decide) rfl (vin_of (n := 12) (by omega) (by omega)) ?_
        refine go_rngA (ixa_29 w14.1) (vinlt (vin_of (n := 12) (by omega) (by omega))) (fun g15 => ?_)
        refine go_iast (pc' := 60) dX0_isPossible_59 rfl (by decide) (by decide) rfl (vin_of (n := 12) (by omega) (by omega)) ?_
        refine go_gen (P := WX σ) ⟨ixt_n w14.1 (by decide), Ag_setA w14.2 (by decide)⟩ (fun σ16 w16 => ?_)
        refine go_aload_n (i := 0) (pc' := 61) dX0_isPossible_60 rfl rfl rfl ?_
        refine gf_3_weekdays (pc' := 64) dX0_isPossible_61 rfl fl_X0_36 ?_
        refine go_iload_n (i := 3) (pc' := 65) dX0_isPossible_64 rfl rfl rfl ?_
        refine go_aload_n (i := 1) (pc' := 66) dX0_isPossible_65 rfl rfl rfl ?_
        refine gf_2_weekdays (pc' := 69) dX0_isPossible_66 rfl fl_X0_76 ?_
        refine go_iload_n (i := 3) (pc' := 70) dX0_isPossible_69 rfl rfl rfl ?_
        refine go_iald (pc' := 71) dX0_isPossible_70 rfl (by decide) (by decide) rfl (vin_of (n := 12) (by omega) (by omega)) ?_
        refine go_rngA (ixa_30 w16.1) (vinlt (vin_of (n := 12) (by omega) (by omega))) (fun g17 => ?_)
        refine go_iast (pc' := 72) dX0_isPossible_71 rfl (by decide) (by decide) rfl (vin_of (n := 12) (by omega) (by omega)) ?_
        refine go_gen (P := WX σ) ⟨ixt_n w16.1 (by decide), Ag_setA w16.2 (by decide)⟩ (fun σ18 w18 => ?_)
        refine gz_iinc (c := 1) (pc' := 75) dX0_isPossible_72 rfl rfl (by decide) (by decide) (by decide) (by omega) (fun v19 h19 e19 => ?_)
        refine go_goto (tgt := 2) dX0_isPossible_75 (by decide) ?_
        exact go_lv (lv' := [(0, .ref (L.2.1 3)), (1, .ref (L.2.1 2)), (2, .int kk), (3, .int v19)]) rfl (ih1 _ (by omega) σ18 v19 w18 (by omega) rfl)
      refine gz_icmp_ne (tgt := 29) (pc' := 25) dX0_isPossible_22 rfl (by decide) (fun c20 => ?_) (fun c20 => ?_)
      · refine go_aload_n (i := 1) (pc' := 30) dX0_isPossible_29 rfl rfl rfl ?_
        refine gf_2_founds (pc' := 33) dX0_isPossible_30 rfl fl_X0_67 ?_
        refine go_iload_n (i := 3) (pc' := 34) dX0_isPossible_33 rfl rfl rfl ?_
        refine go_iald (pc' := 35) dX0_isPossible_34 rfl (by decide) (by decide) rfl (vin_of (n := 12) (by omega) (by omega)) ?_
        refine go_rngA (ixa_31 w1.1) (vinlt (vin_of (n := 12) (by omega) (by omega))) (fun g21 => ?_)
        exact go_lv (lv' := [(0, .ref (L.2.1 3)), (1, .ref (L.2.1 2)), (2, .int kk), (3, .int x3_1)]) rfl (mrg35_11  (σ1.2 31 (x3_1).toNatClampNeg) (by omega))
      refine go_iload_n (i := 3) (pc' := 26) dX0_isPossible_25 rfl rfl rfl ?_
      refine go_goto (tgt := 35) dX0_isPossible_26 (by decide) ?_
      exact go_lv (lv' := [(0, .ref (L.2.1 3)), (1, .ref (L.2.1 2)), (2, .int kk), (3, .int x3_1)]) rfl (mrg35_11  x3_1 (by omega))
  exact go_lv (lv' := [(0, .ref (L.2.1 3)), (1, .ref (L.2.1 2)), (2, .int kk), (3, .int (0 : Int32))]) rfl (loop2_1 _ σ (0 : Int32) w0 (by omega) rfl)
set_option maxHeartbeats 4000000 in
set_option maxRecDepth 100000 in
theorem c_X0_sinkHighs (l : Launch) (L : WL) (σ : ST)  (ix : IV σ) : CtV l L yX0_sinkHighs cX0_sinkHighs 4 none rm_X0_sinkHighs [.ref (L.2.1 3)] σ (fun σ2 => WX σ σ2) := by
  refine ctV_go (own := RX0) (by decide) rfl (Nat.le_of_ble_eq_true rfl) (fun F hF => ?_)
  subst hF
  have n0 : (0 : Int32).toInt = 0 := by decide
  have n1 : (1 : Int32).toInt = 1 := by decide
  have n50 : (50 : Int32).toInt = 50 := by decide
  have w0 : WX σ σ := WX_rfl ix
  refine go_iconst (v := 1) (pc' := 1) dX0_sinkHighs_0 rfl (by decide) ?_
  refine go_istore_n (i := 1) (pc' := 2) dX0_sinkHighs_1 rfl rfl (by decide) ?_
  refine go_iconst (v := 0) (pc' := 3) dX0_sinkHighs_2 rfl (by decide) ?_
  refine go_istore_n (i := 2) (pc' := 4) dX0_sinkHighs_3 rfl rfl (by decide) ?_
  have loop4_1 : ∀ (d : Nat) (σ1 : ST) (x1_1 : Int32) (x2_1 : Int32), WX σ σ1 → (0 ≤ (x2_1).toInt ∧ (x2_1).toInt ≤ 50) → (50 - (x2_1).toInt).toNat = d → Go F L RX0 cX0_sinkHighs 4 rm_X0_sinkHighs none (RV F L (fun σ2 => WX σ σ2)) σ1 4 [(0, .ref (L.2.1 3)), (1, .int x1_1), (2, .int x2_1)] [] := by
    intro d
    induction d using Nat.strongRecOn with
    | _ d ih1 =>
      intro σ1 x1_1 x2_1 w1 h_1 hm_1
      refine go_iload_n (i := 2) (pc' := 5) dX0_sinkHighs_4 rfl rfl rfl ?_
      refine go_bipush (v := 50) (pc' := 7) dX0_sinkHighs_5 rfl (by decide) ?_
      refine gz_icmp_ge (tgt := 48) (pc' := 10) dX0_sinkHighs_7 rfl (by decide) (fun c2 => ?_) (fun c2 => ?_)
      · exact go_vret dX0_sinkHighs_48 rfl (w1)
      refine go_iload_n (i := 1) (pc' := 11) dX0_sinkHighs_10 rfl rfl rfl ?_
      refine gz_if_eq (tgt := 48) (pc' := 14) dX0_sinkHighs_11 rfl (by decide) (fun c3 => ?_) (fun c3 => ?_)
      · exact go_vret dX0_sinkHighs_48 rfl (w1)
      refine go_iconst (v := 0) (pc' := 15) dX0_sinkHighs_14 rfl (by decide) ?_
      refine go_istore_n (i := 1) (pc' := 16) dX0_sinkHighs_15 rfl rfl (by decide) ?_
      refine go_iconst (v := 0) (pc' := 17) dX0_sinkHighs_16 rfl (by decide) ?_
      refine go_istore_n (i := 3) (pc' := 18) dX0_sinkHighs_17 rfl rfl (by decide) ?_
      have loop18_4 : ∀ (d : Nat) (σ4 : ST) (x1_4 : Int32) (x3_4 : Int32), WX σ σ4 → (0 ≤ (x3_4).toInt ∧ (x3_4).toInt ≤ 20) → (20 - (x3_4).toInt).toNat = d → Go F L RX0 cX0_sinkHighs 4 rm_X0_sinkHighs none (RV F L (fun σ2 => WX σ σ2)) σ4 18 [(0, .ref (L.2.1 3)), (1, .int x1_4), (2, .int x2_1), (3, .int x3_4)] [] := by
        intro d
        induction d using Nat.strongRecOn with
        | _ d ih4 =>
          intro σ4 x1_4 x3_4 w4 h_4 hm_4
          refine go_iload_n (i := 3) (pc' := 19) dX0_sinkHighs_18 rfl rfl rfl ?_
          refine go_aload_n (i := 0) (pc' := 20) dX0_sinkHighs_19 rfl rfl rfl ?_
          refine gf_3_size (pc' := 23) dX0_sinkHighs_20 rfl fl_X0_20 ?_
          have g5 := ixi_4 w4.1
          refine gz_icmp_ge (tgt := 42) (pc' := 26) dX0_sinkHighs_23 rfl (by decide) (fun c6 => ?_) (fun c6 => ?_)
          · refine gz_iinc (c := 1) (pc' := 45) dX0_sinkHighs_42 rfl rfl (by decide) (by decide) (by decide) (by omega) (fun v7 h7 e7 => ?_)
            refine go_goto (tgt := 4) dX0_sinkHighs_45 (by decide) ?_
            exact go_lv (lv' := [(0, .ref (L.2.1 3)), (1, .int x1_4), (2, .int v7)]) rfl (ih1 _ (by omega) σ4 x1_4 v7 w4 (by omega) rfl)
          refine go_aload_n (i := 0) (pc' := 27) dX0_sinkHighs_26 rfl rfl rfl ?_
          refine go_iload_n (i := 3) (pc' := 28) dX0_sinkHighs_27 rfl rfl rfl ?_
          refine go_cvi (pc' := 31) lk_X0_100 (c_X0_sinkBy _ _ _ _ (by omega) w4.1) rfl rfl (Nat.le_of_ble_eq_true rfl) (by decide) rfl rfl rfl ⟨Nat.le_of_ble_eq_true rfl, Nat.le_of_ble_eq_true rfl⟩ ⟨rfl, rfl⟩ dX0_sinkHighs_28 rfl (fun r8 σ8 h8 => ?_)
          have w8 := WX_trans w4 h8
          refine gz_if_eq (tgt := 36) (pc' := 34) dX0_sinkHighs_31 rfl (by decide) (fun c9 => ?_) (fun c9 => ?_)
          · refine gz_iinc (c := 1) (pc' := 39) dX0_sinkHighs_36 rfl rfl (by decide) (by decide) (by decide) (by omega) (fun v10 h10 e10 => ?_)
            refine go_goto (tgt := 18) dX0_sinkHighs_39 (by decide) ?_
            exact go_lv (lv' := [(0, .ref (L.2.1 3)), (1, .int x1_4), (2, .int x2_1), (3, .int v10)]) rfl (ih4 _ (by omega) σ8 x1_4 v10 w8 (by omega) rfl)
          refine go_iconst (v := 1) (pc' := 35) dX0_sinkHighs_34 rfl (by decide) ?_
          refine go_istore_n (i := 1) (pc' := 36) dX0_sinkHighs_35 rfl rfl (by decide) ?_
          refine gz_iinc (c := 1) (pc' := 39) dX0_sinkHighs_36 rfl rfl (by decide) (by decide) (by decide) (by omega) (fun v11 h11 e11 => ?_)
          refine go_goto (tgt := 18) dX0_sinkHighs_39 (by decide) ?_
          exact go_lv (lv' := [(0, .ref (L.2.1 3)), (1, .int (1 : Int32)), (2, .int x2_1), (3, .int v11)]) rfl (ih4 _ (by omega) σ8 (1 : Int32) v11 w8 (by omega) rfl)
      exact go_lv (lv' := [(0, .ref (L.2.1 3)), (1, .int (0 : Int32)), (2, .int x2_1), (3, .int (0 : Int32))]) rfl (loop18_4 _ σ1 (0 : Int32) (0 : Int32) w1 (by omega) rfl)
  exact go_lv (lv' := [(0, .ref (L.2.1 3)), (1, .int (1 : Int32)), (2, .int (0 : Int32))]) rfl (loop4_1 _ σ (1 : Int32) (0 : Int32) w0 (by omega) rfl)
set_option maxHeartbeats 4000000 in
set_option maxRecDepth 100000 in
theorem b_X0_allBounds (l : Launch) (L : WL) (σ : ST)  (ix : IV σ) : CtI l L yX0_allBounds cX0_allBounds 1 (some .int) rm_X0_allBounds [.ref (L.2.1 3)] σ (fun _ σ2 => σ2 = σ) := by
  refine ctI_go (own := RX0) (by decide) rfl (Nat.le_of_ble_eq_true rfl) (fun F hF => ?_)
  subst hF
  have n1 : (1 : Int32).toInt = 1 := by decide
  have w0 : WX σ σ := WX_rfl ix
  refine go_iconst (v := 1) (pc' := 1) dX0_allBounds_0 rfl (by decide) ?_
  refine go_aload_n (i := 0) (pc' := 2) dX0_allBounds_1 rfl rfl rfl ?_
  refine gf_3_size (pc' := 5) dX0_allBounds_2 rfl fl_X0_20 ?_
  have g1 := ixi_4 w0.1
  refine go_ishl (pc' := 6) dX0_allBounds_5 rfl ?_
  refine go_iconst (v := 1) (pc' := 7) dX0_allBounds_6 rfl (by decide) ?_
  refine go_isub (pc' := 8) dX0_allBounds_7 rfl ?_
  exact go_iret dX0_allBounds_8 rfl (rfl)
set_option maxHeartbeats 4000000 in
set_option maxRecDepth 100000 in
theorem c_X0_settle (l : Launch) (L : WL) (σ : ST)  (ix : IV σ) : CtI l L yX0_settle cX0_settle 3 (some .boolean) rm_X0_settle [.ref (L.2.1 3), .ref (L.2.1 2)] σ (fun _ σ2 => WX σ σ2) := by
  refine ctI_go (own := RX0) (by decide) rfl (Nat.le_of_ble_eq_true rfl) (fun F hF => ?_)
  subst hF
  have n0 : (0 : Int32).toInt = 0 := by decide
  have n1 : (1 : Int32).toInt = 1 := by decide
  have w0 : WX σ σ := WX_rfl ix
  refine go_aload_n (i := 0) (pc' := 1) dX0_settle_0 rfl rfl rfl ?_
  refine go_aload_n (i := 1) (pc' := 2) dX0_settle_1 rfl rfl rfl ?_
  refine go_aload_n (i := 0) (pc' := 3) dX0_settle_2 rfl rfl rfl ?_
  refine go_cvi (pc' := 6) lk_X0_44 (b_X0_allBounds _ _ _ w0.1) rfl rfl (Nat.le_of_ble_eq_true rfl) (by decide) rfl rfl rfl ⟨Nat.le_of_ble_eq_true rfl, Nat.le_of_ble_eq_true rfl⟩ ⟨rfl, rfl⟩ dX0_settle_3 rfl (fun r1 σ1 h1 => ?_)
  have h1 := h1.symm
  subst h1
  refine go_cvi (pc' := 9) lk_X0_48 (c_X0_isPossible _ _ _ _ w0.1) rfl rfl (Nat.le_of_ble_eq_true rfl) (by decide) rfl rfl rfl ⟨Nat.le_of_ble_eq_true rfl, Nat.le_of_ble_eq_true rfl⟩ ⟨rfl, rfl⟩ dX0_settle_6 rfl (fun r2 σ2 h2 => ?_)
  have w2 := WX_trans w0 h2
  refine gz_if_ne (tgt := 14) (pc' := 12) dX0_settle_9 rfl (by decide) (fun c3 => ?_) (fun c3 => ?_)
  · refine go_aload_n (i := 0) (pc' := 15) dX0_settle_14 rfl rfl rfl ?_
    refine go_cvv (pc' := 18) lk_X0_52 (c_X0_sinkHighs _ _ _ w2.1) rfl rfl (Nat.le_of_ble_eq_true rfl) (by decide) rfl rfl rfl ⟨Nat.le_of_ble_eq_true rfl, Nat.le_of_ble_eq_true rfl⟩ ⟨rfl, rfl⟩ dX0_settle_15 rfl (fun σ4 h4 => ?_)
    have w4 := WX_trans w2 h4
    refine go_iconst (v := 0) (pc' := 19) dX0_settle_18 rfl (by decide) ?_
    refine go_istore_n (i := 2) (pc' := 20) dX0_settle_19 rfl rfl (by decide) ?_
    have loop20_5 : ∀ (d : Nat) (σ5 : ST) (x2_5 : Int32), WX σ σ5 → (0 ≤ (x2_5).toInt ∧ (x2_5).toInt ≤ 12) → (12 - (x2_5).toInt).toNat = d → Go F L RX0 cX0_settle 3 rm_X0_settle (some .boolean) (RI F L (fun _ σ2 => WX σ σ2)) σ5 20 [(0, .ref (L.2.1 3)), (1, .ref (L.2.1 2)), (2, .int x2_5)] [] := by
      intro d
      induction d using Nat.strongRecOn with
      | _ d ih5 =>
        intro σ5 x2_5 w5 h_5 hm_5
        refine go_iload_n (i := 2) (pc' := 21) dX0_settle_20 rfl rfl rfl ?_
        refine go_aload_n (i := 1) (pc' := 22) dX0_settle_21 rfl rfl rfl ?_
        refine gf_2_size (pc' := 25) dX0_settle_22 rfl fl_X0_55 ?_
        have g6 := ixi_3 w5.1
        refine gz_icmp_ge (tgt := 68) (pc' := 28) dX0_settle_25 rfl (by decide) (fun c7 => ?_) (fun c7 => ?_)
        · refine go_iconst (v := 1) (pc' := 69) dX0_settle_68 rfl (by decide) ?_
          exact go_zret dX0_settle_69 rfl rfl (w5)
        refine go_aload_n (i := 0) (pc' := 29) dX0_settle_28 rfl rfl rfl ?_
        refine gf_3_lows (pc' := 32) dX0_settle_29 rfl fl_X0_11 ?_
        refine go_iload_n (i := 2) (pc' := 33) dX0_settle_32 rfl rfl rfl ?_
        refine go_aload_n (i := 0) (pc' := 34) dX0_settle_33 rfl rfl rfl ?_
        refine gf_3_lows (pc' := 37) dX0_settle_34 rfl fl_X0_11 ?_
        refine go_aload_n (i := 0) (pc' := 38) dX0_settle_37 rfl rfl rfl ?_
        refine gf_3_roots (pc' := 41) dX0_settle_38 rfl fl_X0_33 ?_
        refine go_iload_n (i := 2) (pc' := 42) dX0_settle_41 rfl rfl rfl ?_
        refine go_iald (pc' := 43) dX0_settle_42 rfl (by decide) (by decide) rfl (vin_of (n := 12) (by omega) (by omega)) ?_
        refine go_rngA (ixa_38 w5.1) (vinlt (vin_of (n := 12) (by omega) (by omega))) (fun g8 => ?_)
        refine go_iald (pc' := 44) dX0_settle_43 rfl (by decide) (by decide) rfl (vin_of (n := 12) (by omega) (by omega)) ?_
        refine go_iast (pc' := 45) dX0_settle_44 rfl (by decide) (by decide) rfl (vin_of (n := 12) (by omega) (by omega)) ?_
        refine go_gen (P := WX σ) ⟨ixt_n w5.1 (by decide), Ag_setA w5.2 (by decide)⟩ (fun σ9 w9 => ?_)
        refine go_aload_n (i := 0) (pc' := 46) dX0_settle_45 rfl rfl rfl ?_
        refine gf_3_highs (pc' := 49) dX0_settle_46 rfl fl_X0_17 ?_
        refine go_iload_n (i := 2) (pc' := 50) dX0_settle_49 rfl rfl rfl ?_
        refine go_aload_n (i := 0) (pc' := 51) dX0_settle_50 rfl rfl rfl ?_
        refine gf_3_highs (pc' := 54) dX0_settle_51 rfl fl_X0_17 ?_
        refine go_aload_n (i := 0) (pc' := 55) dX0_settle_54 rfl rfl rfl ?_
        refine gf_3_roots (pc' := 58) dX0_settle_55 rfl fl_X0_33 ?_
        refine go_iload_n (i := 2) (pc' := 59) dX0_settle_58 rfl rfl rfl ?_
        refine go_iald (pc' := 60) dX0_settle_59 rfl (by decide) (by decide) rfl (vin_of (n := 12) (by omega) (by omega)) ?_
        refine go_rngA (ixa_38 w9.1) (vinlt (vin_of (n := 12) (by omega) (by omega))) (fun g10 => ?_)
        refine go_iald (pc' := 61) dX0_settle_60 rfl (by decide) (by decide) rfl (vin_of (n := 12) (by omega) (by omega)) ?_
        refine go_iast (pc' := 62) dX0_settle_61 rfl (by decide) (by decide) rfl (vin_of (n := 12) (by omega) (by omega)) ?_
        refine go_gen (P := WX σ) ⟨ixt_n w9.1 (by decide), Ag_setA w9.2 (by decide)⟩ (fun σ11 w11 => ?_)
        refine gz_iinc (c := 1) (pc' := 65) dX0_settle_62 rfl rfl (by decide) (by decide) (by decide) (by omega) (fun v12 h12 e12 => ?_)
        refine go_goto (tgt := 20) dX0_settle_65 (by decide) ?_
        exact go_lv (lv' := [(0, .ref (L.2.1 3)), (1, .ref (L.2.1 2)), (2, .int v12)]) rfl (ih5 _ (by omega) σ11 v12 w11 (by omega) rfl)
    exact go_lv (lv' := [(0, .ref (L.2.1 3)), (1, .ref (L.2.1 2)), (2, .int (0 : Int32))]) rfl (loop20_5 _ σ4 (0 : Int32) w4 (by omega) rfl)
  refine go_iconst (v := 0) (pc' := 13) dX0_settle_12 rfl (by decide) ?_
  exact go_zret dX0_settle_13 rfl rfl (w2)
set_option maxHeartbeats 4000000 in
set_option maxRecDepth 100000 in
theorem c_X0_conflict (l : Launch) (L : WL) (σ : ST)  (ix : IV σ) : CtI l L yX0_conflict cX0_conflict 5 (some .int) rm_X0_conflict [.ref (L.2.1 3), .ref (L.2.1 2)] σ (fun _ σ2 => WX σ σ2) := by
  refine ctI_go (own := RX0) (by decide) rfl (Nat.le_of_ble_eq_true rfl) (fun F hF => ?_)
  subst hF
  have nm1 : (-1 : Int32).toInt = -1 := by decide
  have n1 : (1 : Int32).toInt = 1 := by decide
  have w0 : WX σ σ := WX_rfl ix
  refine go_aload_n (i := 0) (pc' := 1) dX0_conflict_0 rfl rfl rfl ?_
  refine go_cvi (pc' := 4) lk_X0_44 (b_X0_allBounds _ _ _ w0.1) rfl rfl (Nat.le_of_ble_eq_true rfl) (by decide) rfl rfl rfl ⟨Nat.le_of_ble_eq_true rfl, Nat.le_of_ble_eq_true rfl⟩ ⟨rfl, rfl⟩ dX0_conflict_1 rfl (fun r1 σ1 h1 => ?_)
  have h1 := h1.symm
  subst h1
  refine go_istore_n (i := 2) (pc' := 5) dX0_conflict_4 rfl rfl (by decide) ?_
  refine go_aload_n (i := 0) (pc' := 6) dX0_conflict_5 rfl rfl rfl ?_
  refine go_aload_n (i := 1) (pc' := 7) dX0_conflict_6 rfl rfl rfl ?_
  refine go_iload_n (i := 2) (pc' := 8) dX0_conflict_7 rfl rfl rfl ?_
  refine go_cvi (pc' := 11) lk_X0_48 (c_X0_isPossible _ _ _ _ w0.1) rfl rfl (Nat.le_of_ble_eq_true rfl) (by decide) rfl rfl rfl ⟨Nat.le_of_ble_eq_true rfl, Nat.le_of_ble_eq_true rfl⟩ ⟨rfl, rfl⟩ dX0_conflict_8 rfl (fun r2 σ2 h2 => ?_)
  have w2 := WX_trans w0 h2
  refine gz_if_eq (tgt := 16) (pc' := 14) dX0_conflict_11 rfl (by decide) (fun c3 => ?_) (fun c3 => ?_)
  · refine go_aload_n (i := 0) (pc' := 17) dX0_conflict_16 rfl rfl rfl ?_
    refine gf_3_size (pc' := 20) dX0_conflict_17 rfl fl_X0_20 ?_
    have g4 := ixi_4 w2.1
    refine go_iconst (v := 1) (pc' := 21) dX0_conflict_20 rfl (by decide) ?_
    refine gz_isub (pc' := 22) dX0_conflict_21 rfl (by omega) (fun v5 h5 e5 => ?_)
    refine go_istore_n (i := 3) (pc' := 23) dX0_conflict_22 rfl rfl (by decide) ?_
    have loop23_6 : ∀ (d : Nat) (σ6 : ST) (x2_6 : Int32) (x3_6 : Int32), WX σ σ6 → (-1 ≤ (x3_6).toInt ∧ (x3_6).toInt ≤ 19) → ((x3_6).toInt + 1).toNat = d → Go F L RX0 cX0_conflict 5 rm_X0_conflict (some .int) (RI F L (fun _ σ2 => WX σ σ2)) σ6 23 [(0, .ref (L.2.1 3)), (1, .ref (L.2.1 2)), (2, .int x2_6), (3, .int x3_6)] [] := by
      intro d
      induction d using Nat.strongRecOn with
      | _ d ih6 =>
        intro σ6 x2_6 x3_6 w6 h_6 hm_6
        refine go_iload_n (i := 3) (pc' := 24) dX0_conflict_23 rfl rfl rfl ?_
        refine gz_if_lt (tgt := 55) (pc' := 27) dX0_conflict_24 rfl (by decide) (fun c7 => ?_) (fun c7 => ?_)
        · refine go_iload_n (i := 2) (pc' := 56) dX0_conflict_55 rfl rfl rfl ?_
          exact go_iret dX0_conflict_56 rfl (w6)
        refine go_iload_n (i := 2) (pc' := 28) dX0_conflict_27 rfl rfl rfl ?_
        refine go_iconst (v := 1) (pc' := 29) dX0_conflict_28 rfl (by decide) ?_
        refine go_iload_n (i := 3) (pc' := 30) dX0_conflict_29 rfl rfl rfl ?_
        refine go_ishl (pc' := 31) dX0_conflict_30 rfl ?_
        refine go_iconst (v := (-1)) (pc' := 32) dX0_conflict_31 rfl (by decide) ?_
        refine go_ixor (pc' := 33) dX0_conflict_32 rfl ?_
        refine go_iand (pc' := 34) dX0_conflict_33 rfl ?_
        refine go_topz (fun y8 h8 e8 => ?_)
        refine go_istore (pc' := 36) dX0_conflict_34 rfl (by decide) ?_
        refine go_aload_n (i := 0) (pc' := 37) dX0_conflict_36 rfl rfl rfl ?_
        refine go_aload_n (i := 1) (pc' := 38) dX0_conflict_37 rfl rfl rfl ?_
        refine go_iload (pc' := 40) dX0_conflict_38 rfl rfl ?_
        refine go_cvi (pc' := 43) lk_X0_48 (c_X0_isPossible _ _ _ _ w6.1) rfl rfl (Nat.le_of_ble_eq_true rfl) (by decide) rfl rfl rfl ⟨Nat.le_of_ble_eq_true rfl, Nat.le_of_ble_eq_true rfl⟩ ⟨rfl, rfl⟩ dX0_conflict_40 rfl (fun r9 σ9 h9 => ?_)
        have w9 := WX_trans w6 h9
        refine gz_if_ne (tgt := 49) (pc' := 46) dX0_conflict_43 rfl (by decide) (fun c10 => ?_) (fun c10 => ?_)
        · refine gz_iinc (c := (-1)) (pc' := 52) dX0_conflict_49 rfl rfl (by decide) (by decide) (by decide) (by omega) (fun v11 h11 e11 => ?_)
          refine go_goto (tgt := 23) dX0_conflict_52 (by decide) ?_
          exact go_lv (lv' := [(0, .ref (L.2.1 3)), (1, .ref (L.2.1 2)), (2, .int x2_6), (3, .int v11)]) rfl (ih6 _ (by omega) σ9 x2_6 v11 w9 (by omega) rfl)
        refine go_iload (pc' := 48) dX0_conflict_46 rfl rfl ?_
        refine go_istore_n (i := 2) (pc' := 49) dX0_conflict_48 rfl rfl (by decide) ?_
        refine gz_iinc (c := (-1)) (pc' := 52) dX0_conflict_49 rfl rfl (by decide) (by decide) (by decide) (by omega) (fun v12 h12 e12 => ?_)
        refine go_goto (tgt := 23) dX0_conflict_52 (by decide) ?_
        exact go_lv (lv' := [(0, .ref (L.2.1 3)), (1, .ref (L.2.1 2)), (2, .int y8), (3, .int v12)]) rfl (ih6 _ (by omega) σ9 y8 v12 w9 (by omega) rfl)
    exact go_lv (lv' := [(0, .ref (L.2.1 3)), (1, .ref (L.2.1 2)), (2, .int r1), (3, .int v5)]) rfl (loop23_6 _ σ2 r1 v5 w2 (by omega) rfl)
  refine go_iconst (v := (-1)) (pc' := 15) dX0_conflict_14 rfl (by decide) ?_
  exact go_iret dX0_conflict_15 rfl (w2)
set_option maxHeartbeats 4000000 in
set_option maxRecDepth 100000 in
theorem c_X0_isAhead (l : Launch) (L : WL) (σ : ST) (a b : Int32) (ha : 0 ≤ a.toInt ∧ a.toInt < 12) (hb : 0 ≤ b.toInt ∧ b.toInt < 12) (ix : IV σ) : CtI l L yX0_isAhead cX0_isAhead 3 (some .boolean) rm_X0_isAhead [.ref (L.2.1 3), .int a, .int b] σ (fun _ σ2 => σ2 = σ) := by
  refine ctI_go (own := RX0) (by decide) rfl (Nat.le_of_ble_eq_true rfl) (fun F hF => ?_)
  subst hF
  have n0 : (0 : Int32).toInt = 0 := by decide
  have n1 : (1 : Int32).toInt = 1 := by decide
  have w0 : WX σ σ := WX_rfl ix
  refine go_aload_n (i := 0) (pc' := 1) dX0_isAhead_0 rfl rfl rfl ?_
  refine gf_3_highs (pc' := 4) dX0_isAhead_1 rfl fl_X0_17 ?_
  refine go_iload_n (i := 1) (pc' := 5) dX0_isAhead_4 rfl rfl rfl ?_
  refine go_iald (pc' := 6) dX0_isAhead_5 rfl (by decide) (by decide) rfl (vin_of (n := 12) (by omega) (by omega)) ?_
  refine go_aload_n (i := 0) (pc' := 7) dX0_isAhead_6 rfl rfl rfl ?_
  refine gf_3_lows (pc' := 10) dX0_isAhead_7 rfl fl_X0_11 ?_
  refine go_iload_n (i := 2) (pc' := 11) dX0_isAhead_10 rfl rfl rfl ?_
  refine go_iald (pc' := 12) dX0_isAhead_11 rfl (by decide) (by decide) rfl (vin_of (n := 12) (by omega) (by omega)) ?_
  refine gz_icmp_lt (tgt := 36) (pc' := 15) dX0_isAhead_12 rfl (by decide) (fun c1 => ?_) (fun c1 => ?_)
  · refine go_iconst (v := 1) (pc' := 37) dX0_isAhead_36 rfl (by decide) ?_
    refine go_goto (tgt := 41) dX0_isAhead_37 (by decide) ?_
    exact go_zret dX0_isAhead_41 rfl rfl (rfl)
  refine go_aload_n (i := 0) (pc' := 16) dX0_isAhead_15 rfl rfl rfl ?_
  refine gf_3_paths (pc' := 19) dX0_isAhead_16 rfl fl_X0_41 ?_
  refine go_aload_n (i := 0) (pc' := 20) dX0_isAhead_19 rfl rfl rfl ?_
  refine gf_3_roots (pc' := 23) dX0_isAhead_20 rfl fl_X0_33 ?_
  refine go_iload_n (i := 1) (pc' := 24) dX0_isAhead_23 rfl rfl rfl ?_
  refine go_iald (pc' := 25) dX0_isAhead_24 rfl (by decide) (by decide) rfl (vin_of (n := 12) (by omega) (by omega)) ?_
  refine go_rngA (ixa_38 w0.1) (vinlt (vin_of (n := 12) (by omega) (by omega))) (fun g2 => ?_)
  have p3 : ((σ.2 38 (a).toNatClampNeg)).toNatClampNeg < 12 := vinlt (vin_of (n := 12) (by omega) (by omega))
  refine go_aald (b := 68) (pc' := 26) dX0_isAhead_25 rfl (by decide) (by decide) ⟨_, rfl⟩ (vin_of (n := 12) (by omega) (by omega)) rfl ?_
  refine go_aload_n (i := 0) (pc' := 27) dX0_isAhead_26 rfl rfl rfl ?_
  refine gf_3_roots (pc' := 30) dX0_isAhead_27 rfl fl_X0_33 ?_
  refine go_iload_n (i := 2) (pc' := 31) dX0_isAhead_30 rfl rfl rfl ?_
  refine go_iald (pc' := 32) dX0_isAhead_31 rfl (by decide) (by decide) rfl (vin_of (n := 12) (by omega) (by omega)) ?_
  refine go_rngA (ixa_38 w0.1) (vinlt (vin_of (n := 12) (by omega) (by omega))) (fun g4 => ?_)
  refine go_iald (pc' := 33) dX0_isAhead_32 rfl (by omega) (by omega) (rowt_68 p3) (by rw [rowl_68 p3]; exact (vin_of (n := 12) (by omega) (by omega))) ?_
  refine gz_if_le (tgt := 40) (pc' := 36) dX0_isAhead_33 rfl (by decide) (fun c5 => ?_) (fun c5 => ?_)
  · refine go_iconst (v := 0) (pc' := 41) dX0_isAhead_40 rfl (by decide) ?_
    exact go_zret dX0_isAhead_41 rfl rfl (rfl)
  refine go_iconst (v := 1) (pc' := 37) dX0_isAhead_36 rfl (by decide) ?_
  refine go_goto (tgt := 41) dX0_isAhead_37 (by decide) ?_
  exact go_zret dX0_isAhead_41 rfl rfl (rfl)
set_option maxHeartbeats 4000000 in
set_option maxRecDepth 100000 in
theorem c_X0_joinPaths (l : Launch) (L : WL) (σ : ST) (n k : Int32) (hn : n.toInt ≤ 12) (hk : 0 ≤ k.toInt ∧ k.toInt < 12) (ix : IV σ) : CtV l L yX0_joinPaths cX0_joinPaths 5 none rm_X0_joinPaths [.ref (L.2.1 3), .int n, .int k] σ (fun σ2 => WX σ σ2) := by
  refine ctV_go (own := RX0) (by decide) rfl (Nat.le_of_ble_eq_true rfl) (fun F hF => ?_)
  subst hF
  have nm1000000 : (-1000000 : Int32).toInt = -1000000 := by decide
  have n0 : (0 : Int32).toInt = 0 := by decide
  have w0 : WX σ σ := WX_rfl ix
  refine go_iconst (v := 0) (pc' := 1) dX0_joinPaths_0 rfl (by decide) ?_
  refine go_istore_n (i := 3) (pc' := 2) dX0_joinPaths_1 rfl rfl (by decide) ?_
  have loop2_1 : ∀ (d : Nat) (σ1 : ST) (x3_1 : Int32), WX σ σ1 → (0 ≤ (x3_1).toInt ∧ (x3_1).toInt ≤ 12) → (12 - (x3_1).toInt).toNat = d → Go F L RX0 cX0_joinPaths 5 rm_X0_joinPaths none (RV F L (fun σ2 => WX σ σ2)) σ1 2 [(0, .ref (L.2.1 3)), (1, .int n), (2, .int k), (3, .int x3_1)] [] := by
    intro d
    induction d using Nat.strongRecOn with
    | _ d ih1 =>
      intro σ1 x3_1 w1 h_1 hm_1
      refine go_iload_n (i := 3) (pc' := 3) dX0_joinPaths_2 rfl rfl rfl ?_
      refine go_iload_n (i := 1) (pc' := 4) dX0_joinPaths_3 rfl rfl rfl ?_
      refine gz_icmp_ge (tgt := 94) (pc' := 7) dX0_joinPaths_4 rfl (by decide) (fun c2 => ?_) (fun c2 => ?_)
      · exact go_vret dX0_joinPaths_94 rfl (w1)
      refine go_iconst (v := 0) (pc' := 8) dX0_joinPaths_7 rfl (by decide) ?_
      refine go_istore (pc' := 10) dX0_joinPaths_8 rfl (by decide) ?_
      have loop10_3 : ∀ (d : Nat) (σ3 : ST) (x4_3 : Int32), WX σ σ3 → (0 ≤ (x4_3).toInt ∧ (x4_3).toInt ≤ 12) → (12 - (x4_3).toInt).toNat = d → Go F L RX0 cX0_joinPaths 5 rm_X0_joinPaths none (RV F L (fun σ2 => WX σ σ2)) σ3 10 [(0, .ref (L.2.1 3)), (1, .int n), (2, .int k), (3, .int x3_1), (4, .int x4_3)] [] := by
        intro d
        induction d using Nat.strongRecOn with
        | _ d ih3 =>
          intro σ3 x4_3 w3 h_3 hm_3
          refine go_iload (pc' := 12) dX0_joinPaths_10 rfl rfl ?_
          refine go_iload_n (i := 1) (pc' := 13) dX0_joinPaths_12 rfl rfl rfl ?_
          refine gz_icmp_ge (tgt := 88) (pc' := 16) dX0_joinPaths_13 rfl (by decide) (fun c4 => ?_) (fun c4 => ?_)
          · refine gz_iinc (c := 1) (pc' := 91) dX0_joinPaths_88 rfl rfl (by decide) (by decide) (by decide) (by omega) (fun v5 h5 e5 => ?_)
            refine go_goto (tgt := 2) dX0_joinPaths_91 (by decide) ?_
            exact go_lv (lv' := [(0, .ref (L.2.1 3)), (1, .int n), (2, .int k), (3, .int v5)]) rfl (ih1 _ (by omega) σ3 v5 w3 (by omega) rfl)
          refine go_aload_n (i := 0) (pc' := 17) dX0_joinPaths_16 rfl rfl rfl ?_
          refine gf_3_paths (pc' := 20) dX0_joinPaths_17 rfl fl_X0_41 ?_
          refine go_iload_n (i := 3) (pc' := 21) dX0_joinPaths_20 rfl rfl rfl ?_
          have p6 : (x3_1).toNatClampNeg < 12 := vinlt (vin_of (n := 12) (by omega) (by omega))
          refine go_aald (b := 68) (pc' := 22) dX0_joinPaths_21 rfl (by decide) (by decide) ⟨_, rfl⟩ (vin_of (n := 12) (by omega) (by omega)) rfl ?_
          refine go_iload_n (i := 2) (pc' := 23) dX0_joinPaths_22 rfl rfl rfl ?_
          refine go_iald (pc' := 24) dX0_joinPaths_23 rfl (by omega) (by omega) (rowt_68 p6) (by rw [rowl_68 p6]; exact (vin_of (n := 12) (by omega) (by omega))) ?_
          refine go_ldc (pc' := 26) dX0_joinPaths_24 rfl cst_X0_56 ?_
          refine gz_icmp_eq (tgt := 82) (pc' := 29) dX0_joinPaths_26 rfl (by decide) (fun c7 => ?_) (fun c7 => ?_)
          · refine gz_iinc (c := 1) (pc' := 85) dX0_joinPaths_82 rfl rfl (by decide) (by decide) (by decide) (by omega) (fun v8 h8 e8 => ?_)
            refine go_goto (tgt := 10) dX0_joinPaths_85 (by decide) ?_
            exact go_lv (lv' := [(0, .ref (L.2.1 3)), (1, .int n), (2, .int k), (3, .int x3_1), (4, .int v8)]) rfl (ih3 _ (by omega) σ3 v8 w3 (by omega) rfl)
          refine go_aload_n (i := 0) (pc' := 30) dX0_joinPaths_29 rfl rfl rfl ?_
          refine gf_3_paths (pc' := 33) dX0_joinPaths_30 rfl fl_X0_41 ?_
          refine go_iload_n (i := 2) (pc' := 34) dX0_joinPaths_33 rfl rfl rfl ?_
          have p9 : (k).toNatClampNeg < 12 := vinlt (vin_of (n := 12) (by omega) (by omega))
          refine go_aald (b := 68) (pc' := 35) dX0_joinPaths_34 rfl (by decide) (by decide) ⟨_, rfl⟩ (vin_of (n := 12) (by omega) (by omega)) rfl ?_
          refine go_iload (pc' := 37) dX0_joinPaths_35 rfl rfl ?_
          refine go_iald (pc' := 38) dX0_joinPaths_37 rfl (by omega) (by omega) (rowt_68 p9) (by rw [rowl_68 p9]; exact (vin_of (n := 12) (by omega) (by omega))) ?_
          refine go_ldc (pc' := 40) dX0_joinPaths_38 rfl cst_X0_56 ?_
          refine gz_icmp_eq (tgt := 82) (pc' := 43) dX0_joinPaths_40 rfl (by decide) (fun c10 => ?_) (fun c10 => ?_)
          · refine gz_iinc (c := 1) (pc' := 85) dX0_joinPaths_82 rfl rfl (by decide) (by decide) (by decide) (by omega) (fun v11 h11 e11 => ?_)
            refine go_goto (tgt := 10) dX0_joinPaths_85 (by decide) ?_
            exact go_lv (lv' := [(0, .ref (L.2.1 3)), (1, .int n), (2, .int k), (3, .int x3_1), (4, .int v11)]) rfl (ih3 _ (by omega) σ3 v11 w3 (by omega) rfl)
          refine go_aload_n (i := 0) (pc' := 44) dX0_joinPaths_43 rfl rfl rfl ?_
          refine gf_3_paths (pc' := 47) dX0_joinPaths_44 rfl fl_X0_41 ?_
          refine go_iload_n (i := 3) (pc' := 48) dX0_joinPaths_47 rfl rfl rfl ?_
          have p12 : (x3_1).toNatClampNeg < 12 := vinlt (vin_of (n := 12) (by omega) (by omega))
          refine go_aald (b := 68) (pc' := 49) dX0_joinPaths_48 rfl (by decide) (by decide) ⟨_, rfl⟩ (vin_of (n := 12) (by omega) (by omega)) rfl ?_
          refine go_iload (pc' := 51) dX0_joinPaths_49 rfl rfl ?_
          refine go_aload_n (i := 0) (pc' := 52) dX0_joinPaths_51 rfl rfl rfl ?_
          refine gf_3_paths (pc' := 55) dX0_joinPaths_52 rfl fl_X0_41 ?_
          refine go_iload_n (i := 3) (pc' := 56) dX0_joinPaths_55 rfl rfl rfl ?_
          have p13 : (x3_1).toNatClampNeg < 12 := vinlt (vin_of (n := 12) (by omega) (by omega))
          refine go_aald (b := 68) (pc' := 57) dX0_joinPaths_56 rfl (by decide) (by decide) ⟨_, rfl⟩ (vin_of (n := 12) (by omega) (by omega)) rfl ?_
          refine go_iload (pc' := 59) dX0_joinPaths_57 rfl rfl ?_
          refine go_iald (pc' := 60) dX0_joinPaths_59 rfl (by omega) (by omega) (rowt_68 p13) (by rw [rowl_68 p13]; exact (vin_of (n := 12) (by omega) (by omega))) ?_
          refine go_aload_n (i := 0) (pc' := 61) dX0_joinPaths_60 rfl rfl rfl ?_
          refine gf_3_paths (pc' := 64) dX0_joinPaths_61 rfl fl_X0_41 ?_
          refine go_iload_n (i := 3) (pc' := 65) dX0_joinPaths_64 rfl rfl rfl ?_
          have p14 : (x3_1).toNatClampNeg < 12 := vinlt (vin_of (n := 12) (by omega) (by omega))
          refine go_aald (b := 68) (pc' := 66) dX0_joinPaths_65 rfl (by decide) (by decide) ⟨_, rfl⟩ (vin_of (n := 12) (by omega) (by omega)) rfl ?_
          refine go_iload_n (i := 2) (pc' := 67) dX0_joinPaths_66 rfl rfl rfl ?_
          refine go_iald (pc' := 68) dX0_joinPaths_67 rfl (by omega) (by omega) (rowt_68 p14) (by rw [rowl_68 p14]; exact (vin_of (n := 12) (by omega) (by omega))) ?_
          refine go_aload_n (i := 0) (pc' := 69) dX0_joinPaths_68 rfl rfl rfl ?_
          refine gf_3_paths (pc' := 72) dX0_joinPaths_69 rfl fl_X0_41 ?_
          refine go_iload_n (i := 2) (pc' := 73) dX0_joinPaths_72 rfl rfl rfl ?_
          have p15 : (k).toNatClampNeg < 12 := vinlt (vin_of (n := 12) (by omega) (by omega))
          refine go_aald (b := 68) (pc' := 74) dX0_joinPaths_73 rfl (by decide) (by decide) ⟨_, rfl⟩ (vin_of (n := 12) (by omega) (by omega)) rfl ?_
          refine go_iload (pc' := 76) dX0_joinPaths_74 rfl rfl ?_
          refine go_iald (pc' := 77) dX0_joinPaths_76 rfl (by omega) (by omega) (rowt_68 p15) (by rw [rowl_68 p15]; exact (vin_of (n := 12) (by omega) (by omega))) ?_
          refine go_iadd (pc' := 78) dX0_joinPaths_77 rfl ?_
          refine gz_max (pc' := 81) dX0_joinPaths_78 rfl ml_X0_57 (Nat.le_of_ble_eq_true rfl) (Nat.le_of_ble_eq_true rfl) (fun v16 h16 e16 => ?_)
          refine go_iast (pc' := 82) dX0_joinPaths_81 rfl (by omega) (by omega) (rowt_68 p12) (by rw [rowl_68 p12]; exact (vin_of (n := 12) (by omega) (by omega))) ?_
          refine go_gen (P := WX σ) ⟨ixt_p w3.1 (by omega) (by omega), Ag_setA w3.2 (QX_path p12)⟩ (fun σ17 w17 => ?_)
          refine gz_iinc (c := 1) (pc' := 85) dX0_joinPaths_82 rfl rfl (by decide) (by decide) (by decide) (by omega) (fun v18 h18 e18 => ?_)
          refine go_goto (tgt := 10) dX0_joinPaths_85 (by decide) ?_
          exact go_lv (lv' := [(0, .ref (L.2.1 3)), (1, .int n), (2, .int k), (3, .int x3_1), (4, .int v18)]) rfl (ih3 _ (by omega) σ17 v18 w17 (by omega) rfl)
      exact go_lv (lv' := [(0, .ref (L.2.1 3)), (1, .int n), (2, .int k), (3, .int x3_1), (4, .int (0 : Int32))]) rfl (loop10_3 _ σ1 (0 : Int32) w1 (by omega) rfl)
  exact go_lv (lv' := [(0, .ref (L.2.1 3)), (1, .int n), (2, .int k), (3, .int (0 : Int32))]) rfl (loop2_1 _ σ (0 : Int32) w0 (by omega) rfl)
set_option maxHeartbeats 4000000 in
set_option maxRecDepth 100000 in
theorem c_X0_measurePaths (l : Launch) (L : WL) (σ : ST) (n : Int32) (hn : n.toInt ≤ 12) (ix : IV σ) : CtV l L yX0_measurePaths cX0_measurePaths 5 none rm_X0_measurePaths [.ref (L.2.1 3), .int n] σ (fun σ2 => WX σ σ2) := by
  refine ctV_go (own := RX0) (by decide) rfl (Nat.le_of_ble_eq_true rfl) (fun F hF => ?_)
  subst hF
  have nm1000000 : (-1000000 : Int32).toInt = -1000000 := by decide
  have n0 : (0 : Int32).toInt = 0 := by decide
  have w0 : WX σ σ := WX_rfl ix
  refine go_iconst (v := 0) (pc' := 1) dX0_measurePaths_0 rfl (by decide) ?_
  refine go_istore_n (i := 2) (pc' := 2) dX0_measurePaths_1 rfl rfl (by decide) ?_
  have loop2_1 : ∀ (d : Nat) (σ1 : ST) (x2_1 : Int32), WX σ σ1 → (0 ≤ (x2_1).toInt ∧ (x2_1).toInt ≤ 12) → (12 - (x2_1).toInt).toNat = d → Go F L RX0 cX0_measurePaths 5 rm_X0_measurePaths none (RV F L (fun σ2 => WX σ σ2)) σ1 2 [(0, .ref (L.2.1 3)), (1, .int n), (2, .int x2_1)] [] := by
    intro d
    induction d using Nat.strongRecOn with
    | _ d ih1 =>
      intro σ1 x2_1 w1 h_1 hm_1
      refine go_iload_n (i := 2) (pc' := 3) dX0_measurePaths_2 rfl rfl rfl ?_
      refine go_iload_n (i := 1) (pc' := 4) dX0_measurePaths_3 rfl rfl rfl ?_
      refine gz_icmp_ge (tgt := 45) (pc' := 7) dX0_measurePaths_4 rfl (by decide) (fun c2 => ?_) (fun c2 => ?_)
      · refine go_iconst (v := 0) (pc' := 46) dX0_measurePaths_45 rfl (by decide) ?_
        refine go_istore_n (i := 2) (pc' := 47) dX0_measurePaths_46 rfl rfl (by decide) ?_
        have loop47_3 : ∀ (d : Nat) (σ3 : ST) (x2_3 : Int32), WX σ σ3 → (0 ≤ (x2_3).toInt ∧ (x2_3).toInt ≤ 20) → (20 - (x2_3).toInt).toNat = d → Go F L RX0 cX0_measurePaths 5 rm_X0_measurePaths none (RV F L (fun σ2 => WX σ σ2)) σ3 47 [(0, .ref (L.2.1 3)), (1, .int n), (2, .int x2_3)] [] := by
          intro d
          induction d using Nat.strongRecOn with
          | _ d ih3 =>
            intro σ3 x2_3 w3 h_3 hm_3
            refine go_iload_n (i := 2) (pc' := 48) dX0_measurePaths_47 rfl rfl rfl ?_
            refine go_aload_n (i := 0) (pc' := 49) dX0_measurePaths_48 rfl rfl rfl ?_
            refine gf_3_size (pc' := 52) dX0_measurePaths_49 rfl fl_X0_20 ?_
            have g4 := ixi_4 w3.1
            refine gz_icmp_ge (tgt := 113) (pc' := 55) dX0_measurePaths_52 rfl (by decide) (fun c5 => ?_) (fun c5 => ?_)
            · refine go_iconst (v := 0) (pc' := 114) dX0_measurePaths_113 rfl (by decide) ?_
              refine go_istore_n (i := 2) (pc' := 115) dX0_measurePaths_114 rfl rfl (by decide) ?_
              have loop115_6 : ∀ (d : Nat) (σ6 : ST) (x2_6 : Int32), WX σ σ6 → (0 ≤ (x2_6).toInt ∧ (x2_6).toInt ≤ 12) → (12 - (x2_6).toInt).toNat = d → Go F L RX0 cX0_measurePaths 5 rm_X0_measurePaths none (RV F L (fun σ2 => WX σ σ2)) σ6 115 [(0, .ref (L.2.1 3)), (1, .int n), (2, .int x2_6)] [] := by
                intro d
                induction d using Nat.strongRecOn with
                | _ d ih6 =>
                  intro σ6 x2_6 w6 h_6 hm_6
                  refine go_iload_n (i := 2) (pc' := 116) dX0_measurePaths_115 rfl rfl rfl ?_
                  refine go_iload_n (i := 1) (pc' := 117) dX0_measurePaths_116 rfl rfl rfl ?_
                  refine gz_icmp_ge (tgt := 132) (pc' := 120) dX0_measurePaths_117 rfl (by decide) (fun c7 => ?_) (fun c7 => ?_)
                  · exact go_vret dX0_measurePaths_132 rfl (w6)
                  refine go_aload_n (i := 0) (pc' := 121) dX0_measurePaths_120 rfl rfl rfl ?_
                  refine go_iload_n (i := 1) (pc' := 122) dX0_measurePaths_121 rfl rfl rfl ?_
                  refine go_iload_n (i := 2) (pc' := 123) dX0_measurePaths_122 rfl rfl rfl ?_
                  refine go_cvv (pc' := 126) lk_X0_63 (c_X0_joinPaths _ _ _ _ _ hn (by omega) w6.1) rfl rfl (Nat.le_of_ble_eq_true rfl) (by decide) rfl rfl rfl ⟨Nat.le_of_ble_eq_true rfl, Nat.le_of_ble_eq_true rfl⟩ ⟨rfl, rfl⟩ dX0_measurePaths_123 rfl (fun σ8 h8 => ?_)
                  have w8 := WX_trans w6 h8
                  refine gz_iinc (c := 1) (pc' := 129) dX0_measurePaths_126 rfl rfl (by decide) (by decide) (by decide) (by omega) (fun v9 h9 e9 => ?_)
                  refine go_goto (tgt := 115) dX0_measurePaths_129 (by decide) ?_
                  exact go_lv (lv' := [(0, .ref (L.2.1 3)), (1, .int n), (2, .int v9)]) rfl (ih6 _ (by omega) σ8 v9 w8 (by omega) rfl)
              exact go_lv (lv' := [(0, .ref (L.2.1 3)), (1, .int n), (2, .int (0 : Int32))]) rfl (loop115_6 _ σ3 (0 : Int32) w3 (by omega) rfl)
            refine go_aload_n (i := 0) (pc' := 56) dX0_measurePaths_55 rfl rfl rfl ?_
            refine gf_3_roots (pc' := 59) dX0_measurePaths_56 rfl fl_X0_33 ?_
            refine go_aload_n (i := 0) (pc' := 60) dX0_measurePaths_59 rfl rfl rfl ?_
            refine gf_3_froms (pc' := 63) dX0_measurePaths_60 rfl fl_X0_24 ?_
            refine go_iload_n (i := 2) (pc' := 64) dX0_measurePaths_63 rfl rfl rfl ?_
            refine go_iald (pc' := 65) dX0_measurePaths_64 rfl (by decide) (by decide) rfl (vin_of (n := 20) (by omega) (by omega)) ?_
            refine go_rngA (ixa_35 w3.1) (vinlt (vin_of (n := 20) (by omega) (by omega))) (fun g10 => ?_)
            refine go_iald (pc' := 66) dX0_measurePaths_65 rfl (by decide) (by decide) rfl (vin_of (n := 12) (by omega) (by omega)) ?_
            refine go_rngA (ixa_38 w3.1) (vinlt (vin_of (n := 12) (by omega) (by omega))) (fun g11 => ?_)
            refine go_topz (fun y12 h12 e12 => ?_)
            refine go_istore_n (i := 3) (pc' := 67) dX0_measurePaths_66 rfl rfl (by decide) ?_
            refine go_aload_n (i := 0) (pc' := 68) dX0_measurePaths_67 rfl rfl rfl ?_
            refine gf_3_roots (pc' := 71) dX0_measurePaths_68 rfl fl_X0_33 ?_
            refine go_aload_n (i := 0) (pc' := 72) dX0_measurePaths_71 rfl rfl rfl ?_
            refine gf_3_tos (pc' := 75) dX0_measurePaths_72 rfl fl_X0_27 ?_
            refine go_iload_n (i := 2) (pc' := 76) dX0_measurePaths_75 rfl rfl rfl ?_
            refine go_iald (pc' := 77) dX0_measurePaths_76 rfl (by decide) (by decide) rfl (vin_of (n := 20) (by omega) (by omega)) ?_
            refine go_rngA (ixa_36 w3.1) (vinlt (vin_of (n := 20) (by omega) (by omega))) (fun g13 => ?_)
            refine go_iald (pc' := 78) dX0_measurePaths_77 rfl (by decide) (by decide) rfl (vin_of (n := 12) (by omega) (by omega)) ?_
            refine go_rngA (ixa_38 w3.1) (vinlt (vin_of (n := 12) (by omega) (by omega))) (fun g14 => ?_)
            refine go_topz (fun y15 h15 e15 => ?_)
            refine go_istore (pc' := 80) dX0_measurePaths_78 rfl (by decide) ?_
            refine go_aload_n (i := 0) (pc' := 81) dX0_measurePaths_80 rfl rfl rfl ?_
            refine gf_3_paths (pc' := 84) dX0_measurePaths_81 rfl fl_X0_41 ?_
            refine go_iload_n (i := 3) (pc' := 85) dX0_measurePaths_84 rfl rfl rfl ?_
            have p16 : (y12).toNatClampNeg < 12 := vinlt (vin_of (n := 12) (by omega) (by omega))
            refine go_aald (b := 68) (pc' := 86) dX0_measurePaths_85 rfl (by decide) (by decide) ⟨_, rfl⟩ (vin_of (n := 12) (by omega) (by omega)) rfl ?_
            refine go_iload (pc' := 88) dX0_measurePaths_86 rfl rfl ?_
            refine go_aload_n (i := 0) (pc' := 89) dX0_measurePaths_88 rfl rfl rfl ?_
            refine gf_3_paths (pc' := 92) dX0_measurePaths_89 rfl fl_X0_41 ?_
            refine go_iload_n (i := 3) (pc' := 93) dX0_measurePaths_92 rfl rfl rfl ?_
            have p17 : (y12).toNatClampNeg < 12 := vinlt (vin_of (n := 12) (by omega) (by omega))
            refine go_aald (b := 68) (pc' := 94) dX0_measurePaths_93 rfl (by decide) (by decide) ⟨_, rfl⟩ (vin_of (n := 12) (by omega) (by omega)) rfl ?_
            refine go_iload (pc' := 96) dX0_measurePaths_94 rfl rfl ?_
            refine go_iald (pc' := 97) dX0_measurePaths_96 rfl (by omega) (by omega) (rowt_68 p17) (by rw [rowl_68 p17]; exact (vin_of (n := 12) (by omega) (by omega))) ?_
            refine go_aload_n (i := 0) (pc' := 98) dX0_measurePaths_97 rfl rfl rfl ?_
            refine gf_3_shifts (pc' := 101) dX0_measurePaths_98 rfl fl_X0_30 ?_
            refine go_iload_n (i := 2) (pc' := 102) dX0_measurePaths_101 rfl rfl rfl ?_
            refine go_iald (pc' := 103) dX0_measurePaths_102 rfl (by decide) (by decide) rfl (vin_of (n := 20) (by omega) (by omega)) ?_
            refine go_rngA (ixa_37 w3.1) (vinlt (vin_of (n := 20) (by omega) (by omega))) (fun g18 => ?_)
            refine gz_max (pc' := 106) dX0_measurePaths_103 rfl ml_X0_57 (Nat.le_of_ble_eq_true rfl) (Nat.le_of_ble_eq_true rfl) (fun v19 h19 e19 => ?_)
            refine go_iast (pc' := 107) dX0_measurePaths_106 rfl (by omega) (by omega) (rowt_68 p16) (by rw [rowl_68 p16]; exact (vin_of (n := 12) (by omega) (by omega))) ?_
            refine go_gen (P := WX σ) ⟨ixt_p w3.1 (by omega) (by omega), Ag_setA w3.2 (QX_path p16)⟩ (fun σ20 w20 => ?_)
            refine gz_iinc (c := 1) (pc' := 110) dX0_measurePaths_107 rfl rfl (by decide) (by decide) (by decide) (by omega) (fun v21 h21 e21 => ?_)
            refine go_goto (tgt := 47) dX0_measurePaths_110 (by decide) ?_
            exact go_lv (lv' := [(0, .ref (L.2.1 3)), (1, .int n), (2, .int v21)]) rfl (ih3 _ (by omega) σ20 v21 w20 (by omega) rfl)
        exact go_lv (lv' := [(0, .ref (L.2.1 3)), (1, .int n), (2, .int (0 : Int32))]) rfl (loop47_3 _ σ1 (0 : Int32) w1 (by omega) rfl)
      refine go_iconst (v := 0) (pc' := 8) dX0_measurePaths_7 rfl (by decide) ?_
      refine go_istore_n (i := 3) (pc' := 9) dX0_measurePaths_8 rfl rfl (by decide) ?_
      have loop9_22 : ∀ (d : Nat) (σ22 : ST) (x3_22 : Int32), WX σ σ22 → (0 ≤ (x3_22).toInt ∧ (x3_22).toInt ≤ 12) → (12 - (x3_22).toInt).toNat = d → Go F L RX0 cX0_measurePaths 5 rm_X0_measurePaths none (RV F L (fun σ2 => WX σ σ2)) σ22 9 [(0, .ref (L.2.1 3)), (1, .int n), (2, .int x2_1), (3, .int x3_22)] [] := by
        intro d
        induction d using Nat.strongRecOn with
        | _ d ih22 =>
          intro σ22 x3_22 w22 h_22 hm_22
          refine go_iload_n (i := 3) (pc' := 10) dX0_measurePaths_9 rfl rfl rfl ?_
          refine go_iload_n (i := 1) (pc' := 11) dX0_measurePaths_10 rfl rfl rfl ?_
          refine gz_icmp_ge (tgt := 39) (pc' := 14) dX0_measurePaths_11 rfl (by decide) (fun c23 => ?_) (fun c23 => ?_)
          · refine gz_iinc (c := 1) (pc' := 42) dX0_measurePaths_39 rfl rfl (by decide) (by decide) (by decide) (by omega) (fun v24 h24 e24 => ?_)
            refine go_goto (tgt := 2) dX0_measurePaths_42 (by decide) ?_
            exact go_lv (lv' := [(0, .ref (L.2.1 3)), (1, .int n), (2, .int v24)]) rfl (ih1 _ (by omega) σ22 v24 w22 (by omega) rfl)
          refine go_aload_n (i := 0) (pc' := 15) dX0_measurePaths_14 rfl rfl rfl ?_
          refine gf_3_paths (pc' := 18) dX0_measurePaths_15 rfl fl_X0_41 ?_
          refine go_iload_n (i := 2) (pc' := 19) dX0_measurePaths_18 rfl rfl rfl ?_
          have p25 : (x2_1).toNatClampNeg < 12 := vinlt (vin_of (n := 12) (by omega) (by omega))
          refine go_aald (b := 68) (pc' := 20) dX0_measurePaths_19 rfl (by decide) (by decide) ⟨_, rfl⟩ (vin_of (n := 12) (by omega) (by omega)) rfl ?_
          refine go_iload_n (i := 3) (pc' := 21) dX0_measurePaths_20 rfl rfl rfl ?_
          refine go_iload_n (i := 2) (pc' := 22) dX0_measurePaths_21 rfl rfl rfl ?_
          refine go_iload_n (i := 3) (pc' := 23) dX0_measurePaths_22 rfl rfl rfl ?_
          have mrg32_26 : ∀ (y0_26 : Int32), Go F L RX0 cX0_measurePaths 5 rm_X0_measurePaths none (RV F L (fun σ2 => WX σ σ2)) σ22 32 [(0, .ref (L.2.1 3)), (1, .int n), (2, .int x2_1), (3, .int x3_22)] [.int y0_26, .int x3_22, .ref (L.2.1 (68 + (x2_1).toNatClampNeg))] := by
            intro y0_26
            refine go_iast (pc' := 33) dX0_measurePaths_32 rfl (by omega) (by omega) (rowt_68 p25) (by rw [rowl_68 p25]; exact (vin_of (n := 12) (by omega) (by omega))) ?_
            refine go_gen (P := WX σ) ⟨ixt_p w22.1 (by omega) (by omega), Ag_setA w22.2 (QX_path p25)⟩ (fun σ27 w27 => ?_)
            refine gz_iinc (c := 1) (pc' := 36) dX0_measurePaths_33 rfl rfl (by decide) (by decide) (by decide) (by omega) (fun v28 h28 e28 => ?_)
            refine go_goto (tgt := 9) dX0_measurePaths_36 (by decide) ?_
            exact go_lv (lv' := [(0, .ref (L.2.1 3)), (1, .int n), (2, .int x2_1), (3, .int v28)]) rfl (ih22 _ (by omega) σ27 v28 w27 (by omega) rfl)
          refine gz_icmp_ne (tgt := 30) (pc' := 26) dX0_measurePaths_23 rfl (by decide) (fun c29 => ?_) (fun c29 => ?_)
          · refine go_ldc (pc' := 32) dX0_measurePaths_30 rfl cst_X0_56 ?_
            exact go_lv (lv' := [(0, .ref (L.2.1 3)), (1, .int n), (2, .int x2_1), (3, .int x3_22)]) rfl (mrg32_26  (-1000000 : Int32) )
          refine go_iconst (v := 0) (pc' := 27) dX0_measurePaths_26 rfl (by decide) ?_
          refine go_goto (tgt := 32) dX0_measurePaths_27 (by decide) ?_
          exact go_lv (lv' := [(0, .ref (L.2.1 3)), (1, .int n), (2, .int x2_1), (3, .int x3_22)]) rfl (mrg32_26  (0 : Int32) )
      exact go_lv (lv' := [(0, .ref (L.2.1 3)), (1, .int n), (2, .int x2_1), (3, .int (0 : Int32))]) rfl (loop9_22 _ σ1 (0 : Int32) w1 (by omega) rfl)
  exact go_lv (lv' := [(0, .ref (L.2.1 3)), (1, .int n), (2, .int (0 : Int32))]) rfl (loop2_1 _ σ (0 : Int32) w0 (by omega) rfl)
