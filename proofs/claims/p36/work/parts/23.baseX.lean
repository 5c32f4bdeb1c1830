/-- the bits of a number, as the library counts them -/
def bcf (x : Int32) : Int32 :=
  let a := x - ((x.toUInt32 >>> ((1 : Int32).toUInt32 &&& Int32.toUInt32 31)).toInt32 &&& 1431655765)
  let b := (a &&& 858993459) + ((a.toUInt32 >>> ((2 : Int32).toUInt32 &&& Int32.toUInt32 31)).toInt32 &&& 858993459)
  let c := (b + (b.toUInt32 >>> ((4 : Int32).toUInt32 &&& Int32.toUInt32 31)).toInt32) &&& 252645135
  let d := c + (c.toUInt32 >>> ((8 : Int32).toUInt32 &&& Int32.toUInt32 31)).toInt32
  let e := d + (d.toUInt32 >>> ((16 : Int32).toUInt32 &&& Int32.toUInt32 31)).toInt32
  e &&& 63
set_option maxHeartbeats 4000000 in
set_option maxRecDepth 100000 in
theorem b_bitCount (l : Launch) (L : WL) (σ : ST) (x : Int32) : CtI l L yJ6_bitCount_0f7a4 cJ6_bitCount_0f7a4 1 (some .int) rm_J6_bitCount_0f7a4 [.int x] σ (fun r σ2 => σ2 = σ ∧ r = bcf x) := by
  refine ctI_go (own := RJ6) (by decide) rfl (Nat.le_of_ble_eq_true rfl) (fun F hF => ?_)
  subst hF
  refine go_iload_n (i := 0) (pc' := 1) dJ6_bitCount_0f7a4_0 rfl rfl rfl ?_
  refine go_iload_n (i := 0) (pc' := 2) dJ6_bitCount_0f7a4_1 rfl rfl rfl ?_
  refine go_iconst (v := 1) (pc' := 3) dJ6_bitCount_0f7a4_2 rfl (by decide) ?_
  refine go_iushr (pc' := 4) dJ6_bitCount_0f7a4_3 rfl rfl ?_
  refine go_ldcw (pc' := 7) dJ6_bitCount_0f7a4_4 rfl cst_J6_265 ?_
  refine go_iand (pc' := 8) dJ6_bitCount_0f7a4_7 rfl ?_
  refine go_isub (pc' := 9) dJ6_bitCount_0f7a4_8 rfl ?_
  refine go_istore_n (i := 0) (pc' := 10) dJ6_bitCount_0f7a4_9 rfl rfl (by decide) ?_
  refine go_iload_n (i := 0) (pc' := 11) dJ6_bitCount_0f7a4_10 rfl rfl rfl ?_
  refine go_ldcw (pc' := 14) dJ6_bitCount_0f7a4_11 rfl cst_J6_266 ?_
  refine go_iand (pc' := 15) dJ6_bitCount_0f7a4_14 rfl ?_
  refine go_iload_n (i := 0) (pc' := 16) dJ6_bitCount_0f7a4_15 rfl rfl rfl ?_
  refine go_iconst (v := 2) (pc' := 17) dJ6_bitCount_0f7a4_16 rfl (by decide) ?_
  refine go_iushr (pc' := 18) dJ6_bitCount_0f7a4_17 rfl rfl ?_
  refine go_ldcw (pc' := 21) dJ6_bitCount_0f7a4_18 rfl cst_J6_266 ?_
  refine go_iand (pc' := 22) dJ6_bitCount_0f7a4_21 rfl ?_
  refine go_iadd (pc' := 23) dJ6_bitCount_0f7a4_22 rfl ?_
  refine go_istore_n (i := 0) (pc' := 24) dJ6_bitCount_0f7a4_23 rfl rfl (by decide) ?_
  refine go_iload_n (i := 0) (pc' := 25) dJ6_bitCount_0f7a4_24 rfl rfl rfl ?_
  refine go_iload_n (i := 0) (pc' := 26) dJ6_bitCount_0f7a4_25 rfl rfl rfl ?_
  refine go_iconst (v := 4) (pc' := 27) dJ6_bitCount_0f7a4_26 rfl (by decide) ?_
  refine go_iushr (pc' := 28) dJ6_bitCount_0f7a4_27 rfl rfl ?_
  refine go_iadd (pc' := 29) dJ6_bitCount_0f7a4_28 rfl ?_
  refine go_ldcw (pc' := 32) dJ6_bitCount_0f7a4_29 rfl cst_J6_267 ?_
  refine go_iand (pc' := 33) dJ6_bitCount_0f7a4_32 rfl ?_
  refine go_istore_n (i := 0) (pc' := 34) dJ6_bitCount_0f7a4_33 rfl rfl (by decide) ?_
  refine go_iload_n (i := 0) (pc' := 35) dJ6_bitCount_0f7a4_34 rfl rfl rfl ?_
  refine go_iload_n (i := 0) (pc' := 36) dJ6_bitCount_0f7a4_35 rfl rfl rfl ?_
  refine go_bipush (v := 8) (pc' := 38) dJ6_bitCount_0f7a4_36 rfl (by decide) ?_
  refine go_iushr (pc' := 39) dJ6_bitCount_0f7a4_38 rfl rfl ?_
  refine go_iadd (pc' := 40) dJ6_bitCount_0f7a4_39 rfl ?_
  refine go_istore_n (i := 0) (pc' := 41) dJ6_bitCount_0f7a4_40 rfl rfl (by decide) ?_
  refine go_iload_n (i := 0) (pc' := 42) dJ6_bitCount_0f7a4_41 rfl rfl rfl ?_
  refine go_iload_n (i := 0) (pc' := 43) dJ6_bitCount_0f7a4_42 rfl rfl rfl ?_
  refine go_bipush (v := 16) (pc' := 45) dJ6_bitCount_0f7a4_43 rfl (by decide) ?_
  refine go_iushr (pc' := 46) dJ6_bitCount_0f7a4_45 rfl rfl ?_
  refine go_iadd (pc' := 47) dJ6_bitCount_0f7a4_46 rfl ?_
  refine go_istore_n (i := 0) (pc' := 48) dJ6_bitCount_0f7a4_47 rfl rfl (by decide) ?_
  refine go_iload_n (i := 0) (pc' := 49) dJ6_bitCount_0f7a4_48 rfl rfl rfl ?_
  refine go_bipush (v := 63) (pc' := 51) dJ6_bitCount_0f7a4_49 rfl (by decide) ?_
  refine go_iand (pc' := 52) dJ6_bitCount_0f7a4_51 rfl ?_
  exact go_iret dJ6_bitCount_0f7a4_52 rfl ⟨rfl, rfl⟩
set_option maxHeartbeats 4000000 in
set_option maxRecDepth 100000 in
theorem c_X11_hasRead (l : Launch) (L : WL) (σ : ST) (a b c d : Int32) (ha : 0 ≤ a.toInt ∧ a.toInt < 12) (hb : 0 ≤ b.toInt ∧ b.toInt < 10) (ix : IV σ) : CtI l L yX11_hasRead cX11_hasRead 7 (some .boolean) rm_X11_hasRead [.ref (L.2.1 0), .int a, .int b, .int c, .int d] σ (fun _ σ2 => σ2 = σ) := by
  refine ctI_go (own := RX11) (by decide) rfl (Nat.le_of_ble_eq_true rfl) (fun F hF => ?_)
  subst hF
  have n0 : (0 : Int32).toInt = 0 := by decide
  have n1 : (1 : Int32).toInt = 1 := by decide
  have w0 : WX σ σ := WX_rfl ix
  refine go_aload_n (i := 0) (pc' := 1) dX11_hasRead_0 rfl rfl rfl ?_
  refine gf_0_letters (pc' := 4) dX11_hasRead_1 rfl fl_X11_19 ?_
  refine go_iload_n (i := 1) (pc' := 5) dX11_hasRead_4 rfl rfl rfl ?_
  refine go_iload_n (i := 2) (pc' := 6) dX11_hasRead_5 rfl rfl rfl ?_
  refine go_cvi (pc' := 9) lk_X11_313 (c_X2_isReader _ _ _ _ _ (by omega) w0.1) rfl rfl (Nat.le_of_ble_eq_true rfl) (by decide) rfl rfl rfl ⟨Nat.le_of_ble_eq_true rfl, Nat.le_of_ble_eq_true rfl⟩ ⟨rfl, rfl⟩ dX11_hasRead_6 rfl (fun r1 σ1 h1 => ?_)
  have h1 := h1.symm
  subst h1
  refine gz_if_ne (tgt := 14) (pc' := 12) dX11_hasRead_9 rfl (by decide) (fun c2 => ?_) (fun c2 => ?_)
  · refine go_aload_n (i := 0) (pc' := 15) dX11_hasRead_14 rfl rfl rfl ?_
    refine gf_0_letters (pc' := 18) dX11_hasRead_15 rfl fl_X11_19 ?_
    refine gf_2_places (pc' := 21) dX11_hasRead_18 rfl fl_X11_140 ?_
    refine go_iload_n (i := 1) (pc' := 22) dX11_hasRead_21 rfl rfl rfl ?_
    refine go_iald (pc' := 23) dX11_hasRead_22 rfl (by decide) (by decide) rfl (vin_of (n := 12) (by omega) (by omega)) ?_
    refine go_rngA (ixa_27 w0.1) (vinlt (vin_of (n := 12) (by omega) (by omega))) (fun g3 => ?_)
    refine go_topz (fun y4 h4 e4 => ?_)
    refine go_istore (pc' := 25) dX11_hasRead_23 rfl (by decide) ?_
    refine go_aload_n (i := 0) (pc' := 26) dX11_hasRead_25 rfl rfl rfl ?_
    refine gf_0_people (pc' := 29) dX11_hasRead_26 rfl fl_X11_10 ?_
    refine gf_1_places (pc' := 32) dX11_hasRead_29 rfl fl_X11_316 ?_
    refine go_iload_n (i := 2) (pc' := 33) dX11_hasRead_32 rfl rfl rfl ?_
    refine go_iald (pc' := 34) dX11_hasRead_33 rfl (by decide) (by decide) rfl (vin_of (n := 10) (by omega) (by omega)) ?_
    refine go_rngA (ixa_20 w0.1) (vinlt (vin_of (n := 10) (by omega) (by omega))) (fun g5 => ?_)
    refine go_topz (fun y6 h6 e6 => ?_)
    refine go_istore (pc' := 36) dX11_hasRead_34 rfl (by decide) ?_
    refine go_iload (pc' := 38) dX11_hasRead_36 rfl rfl ?_
    refine gz_if_ne (tgt := 74) (pc' := 41) dX11_hasRead_38 rfl (by decide) (fun c7 => ?_) (fun c7 => ?_)
    · refine go_aload_n (i := 0) (pc' := 75) dX11_hasRead_74 rfl rfl rfl ?_
      refine gf_0_calendar (pc' := 78) dX11_hasRead_75 rfl fl_X11_26 ?_
      refine gf_3_highs (pc' := 81) dX11_hasRead_78 rfl fl_X11_178 ?_
      refine go_iload_n (i := 1) (pc' := 82) dX11_hasRead_81 rfl rfl rfl ?_
      refine go_iald (pc' := 83) dX11_hasRead_82 rfl (by decide) (by decide) rfl (vin_of (n := 12) (by omega) (by omega)) ?_
      refine go_aload_n (i := 0) (pc' := 84) dX11_hasRead_83 rfl rfl rfl ?_
      refine gf_0_posts (pc' := 87) dX11_hasRead_84 rfl fl_X11_33 ?_
      refine gf_4_mosts (pc' := 90) dX11_hasRead_87 rfl fl_X11_202 ?_
      refine go_iload (pc' := 92) dX11_hasRead_90 rfl rfl ?_
      have p8 : (y4).toNatClampNeg < 6 := vinlt (vin_of (n := 6) (by omega) (by omega))
      refine go_aald (b := 86) (pc' := 93) dX11_hasRead_92 rfl (by decide) (by decide) ⟨_, rfl⟩ (vin_of (n := 6) (by omega) (by omega)) rfl ?_
      refine go_iload (pc' := 95) dX11_hasRead_93 rfl rfl ?_
      refine go_iald (pc' := 96) dX11_hasRead_95 rfl (by omega) (by omega) (rowt_86 p8) (by rw [rowl_86 p8]; exact (vin_of (n := 6) (by omega) (by omega))) ?_
      refine go_iadd (pc' := 97) dX11_hasRead_96 rfl ?_
      refine go_iload_n (i := 3) (pc' := 98) dX11_hasRead_97 rfl rfl rfl ?_
      refine gz_icmp_gt (tgt := 105) (pc' := 101) dX11_hasRead_98 rfl (by decide) (fun c9 => ?_) (fun c9 => ?_)
      · refine go_iconst (v := 0) (pc' := 106) dX11_hasRead_105 rfl (by decide) ?_
        exact go_zret dX11_hasRead_106 rfl rfl (rfl)
      refine go_iconst (v := 1) (pc' := 102) dX11_hasRead_101 rfl (by decide) ?_
      refine go_goto (tgt := 106) dX11_hasRead_102 (by decide) ?_
      exact go_zret dX11_hasRead_106 rfl rfl (rfl)
    refine go_aload_n (i := 0) (pc' := 42) dX11_hasRead_41 rfl rfl rfl ?_
    refine gf_0_calendar (pc' := 45) dX11_hasRead_42 rfl fl_X11_26 ?_
    refine gf_3_lows (pc' := 48) dX11_hasRead_45 rfl fl_X11_175 ?_
    refine go_iload_n (i := 1) (pc' := 49) dX11_hasRead_48 rfl rfl rfl ?_
    refine go_iald (pc' := 50) dX11_hasRead_49 rfl (by decide) (by decide) rfl (vin_of (n := 12) (by omega) (by omega)) ?_
    refine go_aload_n (i := 0) (pc' := 51) dX11_hasRead_50 rfl rfl rfl ?_
    refine gf_0_posts (pc' := 54) dX11_hasRead_51 rfl fl_X11_33 ?_
    refine gf_4_leasts (pc' := 57) dX11_hasRead_54 rfl fl_X11_199 ?_
    refine go_iload (pc' := 59) dX11_hasRead_57 rfl rfl ?_
    have p10 : (y4).toNatClampNeg < 6 := vinlt (vin_of (n := 6) (by omega) (by omega))
    refine go_aald (b := 80) (pc' := 60) dX11_hasRead_59 rfl (by decide) (by decide) ⟨_, rfl⟩ (vin_of (n := 6) (by omega) (by omega)) rfl ?_
    refine go_iload (pc' := 62) dX11_hasRead_60 rfl rfl ?_
    refine go_iald (pc' := 63) dX11_hasRead_62 rfl (by omega) (by omega) (rowt_80 p10) (by rw [rowl_80 p10]; exact (vin_of (n := 6) (by omega) (by omega))) ?_
    refine go_iadd (pc' := 64) dX11_hasRead_63 rfl ?_
    refine go_iload_n (i := 3) (pc' := 65) dX11_hasRead_64 rfl rfl rfl ?_
    refine gz_icmp_gt (tgt := 72) (pc' := 68) dX11_hasRead_65 rfl (by decide) (fun c11 => ?_) (fun c11 => ?_)
    · refine go_iconst (v := 0) (pc' := 73) dX11_hasRead_72 rfl (by decide) ?_
      exact go_zret dX11_hasRead_73 rfl rfl (rfl)
    refine go_iconst (v := 1) (pc' := 69) dX11_hasRead_68 rfl (by decide) ?_
    refine go_goto (tgt := 73) dX11_hasRead_69 (by decide) ?_
    exact go_zret dX11_hasRead_73 rfl rfl (rfl)
  refine go_iconst (v := 0) (pc' := 13) dX11_hasRead_12 rfl (by decide) ?_
  exact go_zret dX11_hasRead_13 rfl rfl (rfl)
set_option maxHeartbeats 4000000 in
set_option maxRecDepth 100000 in
theorem c_X11_meant (l : Launch) (L : WL) (σ : ST) (a b : Int32) (ha : 0 ≤ a.toInt ∧ a.toInt < 12) (ix : IV σ) : CtI l L yX11_meant cX11_meant 6 (some .int) rm_X11_meant [.ref (L.2.1 0), .int a, .int b] σ (fun _ σ2 => WX σ σ2) := by
  refine ctI_go (own := RX11) (by decide) rfl (Nat.le_of_ble_eq_true rfl) (fun F hF => ?_)
  subst hF
  have n0 : (0 : Int32).toInt = 0 := by decide
  have n9999 : (9999 : Int32).toInt = 9999 := by decide
  have w0 : WX σ σ := WX_rfl ix
  refine go_aload_n (i := 0) (pc' := 1) dX11_meant_0 rfl rfl rfl ?_
  refine gf_0_calendar (pc' := 4) dX11_meant_1 rfl fl_X11_26 ?_
  refine go_aload_n (i := 0) (pc' := 5) dX11_meant_4 rfl rfl rfl ?_
  refine gf_0_letters (pc' := 8) dX11_meant_5 rfl fl_X11_19 ?_
  refine go_cvi (pc' := 11) lk_X11_171 (c_X0_settle _ _ _ w0.1) rfl rfl (Nat.le_of_ble_eq_true rfl) (by decide) rfl rfl rfl ⟨Nat.le_of_ble_eq_true rfl, Nat.le_of_ble_eq_true rfl⟩ ⟨rfl, rfl⟩ dX11_meant_8 rfl (fun r1 σ1 h1 => ?_)
  have w1 := WX_trans w0 h1
  refine go_istore_n (i := 3) (pc' := 12) dX11_meant_11 rfl rfl (by decide) ?_
  refine go_iload_n (i := 3) (pc' := 13) dX11_meant_12 rfl rfl rfl ?_
  refine gz_if_eq (tgt := 28) (pc' := 16) dX11_meant_13 rfl (by decide) (fun c2 => ?_) (fun c2 => ?_)
  · refine go_iconst (v := 0) (pc' := 29) dX11_meant_28 rfl (by decide) ?_
    refine go_istore (pc' := 31) dX11_meant_29 rfl (by decide) ?_
    refine go_iload_n (i := 3) (pc' := 32) dX11_meant_31 rfl rfl rfl ?_
    refine gz_if_eq (tgt := 47) (pc' := 35) dX11_meant_32 rfl (by decide) (fun c3 => ?_) (fun c3 => ?_)
    · refine go_sipush (v := 9999) (pc' := 50) dX11_meant_47 rfl (by decide) ?_
      refine go_istore (pc' := 52) dX11_meant_50 rfl (by decide) ?_
      refine go_aload_n (i := 0) (pc' := 53) dX11_meant_52 rfl rfl rfl ?_
      refine gf_0_people (pc' := 56) dX11_meant_53 rfl fl_X11_10 ?_
      refine go_aload_n (i := 0) (pc' := 57) dX11_meant_56 rfl rfl rfl ?_
      refine gf_0_letters (pc' := 60) dX11_meant_57 rfl fl_X11_19 ?_
      refine gf_2_writers (pc' := 63) dX11_meant_60 rfl fl_X11_134 ?_
      refine go_iload_n (i := 1) (pc' := 64) dX11_meant_63 rfl rfl rfl ?_
      refine go_iald (pc' := 65) dX11_meant_64 rfl (by decide) (by decide) rfl (vin_of (n := 12) (by omega) (by omega)) ?_
      refine go_rngA (ixa_25 w1.1) (vinlt (vin_of (n := 12) (by omega) (by omega))) (fun g4 => ?_)
      refine go_iload_n (i := 2) (pc' := 66) dX11_meant_65 rfl rfl rfl ?_
      refine go_iload (pc' := 68) dX11_meant_66 rfl rfl ?_
      refine go_iload (pc' := 70) dX11_meant_68 rfl rfl ?_
      refine go_cvi (pc' := 73) lk_X11_317 (c_X4_knownBy _ _ _ _ _ _ _ (by omega) w1.1) rfl rfl (Nat.le_of_ble_eq_true rfl) (by decide) rfl rfl rfl ⟨Nat.le_of_ble_eq_true rfl, Nat.le_of_ble_eq_true rfl⟩ ⟨rfl, rfl⟩ dX11_meant_70 rfl (fun r5 σ5 h5 => ?_)
      have h5 := h5.symm
      subst h5
      exact go_iret dX11_meant_73 rfl (w1)
    refine go_aload_n (i := 0) (pc' := 36) dX11_meant_35 rfl rfl rfl ?_
    refine gf_0_calendar (pc' := 39) dX11_meant_36 rfl fl_X11_26 ?_
    refine gf_3_highs (pc' := 42) dX11_meant_39 rfl fl_X11_178 ?_
    refine go_iload_n (i := 1) (pc' := 43) dX11_meant_42 rfl rfl rfl ?_
    refine go_iald (pc' := 44) dX11_meant_43 rfl (by decide) (by decide) rfl (vin_of (n := 12) (by omega) (by omega)) ?_
    refine go_goto (tgt := 50) dX11_meant_44 (by decide) ?_
    refine go_topz (fun y6 h6 e6 => ?_)
    refine go_istore (pc' := 52) dX11_meant_50 rfl (by decide) ?_
    refine go_aload_n (i := 0) (pc' := 53) dX11_meant_52 rfl rfl rfl ?_
    refine gf_0_people (pc' := 56) dX11_meant_53 rfl fl_X11_10 ?_
    refine go_aload_n (i := 0) (pc' := 57) dX11_meant_56 rfl rfl rfl ?_
    refine gf_0_letters (pc' := 60) dX11_meant_57 rfl fl_X11_19 ?_
    refine gf_2_writers (pc' := 63) dX11_meant_60 rfl fl_X11_134 ?_
    refine go_iload_n (i := 1) (pc' := 64) dX11_meant_63 rfl rfl rfl ?_
    refine go_iald (pc' := 65) dX11_meant_64 rfl (by decide) (by decide) rfl (vin_of (n := 12) (by omega) (by omega)) ?_
    refine go_rngA (ixa_25 w1.1) (vinlt (vin_of (n := 12) (by omega) (by omega))) (fun g7 => ?_)
    refine go_iload_n (i := 2) (pc' := 66) dX11_meant_65 rfl rfl rfl ?_
    refine go_iload (pc' := 68) dX11_meant_66 rfl rfl ?_
    refine go_iload (pc' := 70) dX11_meant_68 rfl rfl ?_
    refine go_cvi (pc' := 73) lk_X11_317 (c_X4_knownBy _ _ _ _ _ _ _ (by omega) w1.1) rfl rfl (Nat.le_of_ble_eq_true rfl) (by decide) rfl rfl rfl ⟨Nat.le_of_ble_eq_true rfl, Nat.le_of_ble_eq_true rfl⟩ ⟨rfl, rfl⟩ dX11_meant_70 rfl (fun r8 σ8 h8 => ?_)
    have h8 := h8.symm
    subst h8
    exact go_iret dX11_meant_73 rfl (w1)
  refine go_aload_n (i := 0) (pc' := 17) dX11_meant_16 rfl rfl rfl ?_
  refine gf_0_calendar (pc' := 20) dX11_meant_17 rfl fl_X11_26 ?_
  refine gf_3_lows (pc' := 23) dX11_meant_20 rfl fl_X11_175 ?_
  refine go_iload_n (i := 1) (pc' := 24) dX11_meant_23 rfl rfl rfl ?_
  refine go_iald (pc' := 25) dX11_meant_24 rfl (by decide) (by decide) rfl (vin_of (n := 12) (by omega) (by omega)) ?_
  refine go_goto (tgt := 29) dX11_meant_25 (by decide) ?_
  refine go_topz (fun y9 h9 e9 => ?_)
  refine go_istore (pc' := 31) dX11_meant_29 rfl (by decide) ?_
  refine go_iload_n (i := 3) (pc' := 32) dX11_meant_31 rfl rfl rfl ?_
  refine gz_if_eq (tgt := 47) (pc' := 35) dX11_meant_32 rfl (by decide) (fun c10 => ?_) (fun c10 => ?_)
  · refine go_sipush (v := 9999) (pc' := 50) dX11_meant_47 rfl (by decide) ?_
    refine go_istore (pc' := 52) dX11_meant_50 rfl (by decide) ?_
    refine go_aload_n (i := 0) (pc' := 53) dX11_meant_52 rfl rfl rfl ?_
    refine gf_0_people (pc' := 56) dX11_meant_53 rfl fl_X11_10 ?_
    refine go_aload_n (i := 0) (pc' := 57) dX11_meant_56 rfl rfl rfl ?_
    refine gf_0_letters (pc' := 60) dX11_meant_57 rfl fl_X11_19 ?_
    refine gf_2_writers (pc' := 63) dX11_meant_60 rfl fl_X11_134 ?_
    refine go_iload_n (i := 1) (pc' := 64) dX11_meant_63 rfl rfl rfl ?_
    refine go_iald (pc' := 65) dX11_meant_64 rfl (by decide) (by decide) rfl (vin_of (n := 12) (by omega) (by omega)) ?_
    refine go_rngA (ixa_25 w1.1) (vinlt (vin_of (n := 12) (by omega) (by omega))) (fun g11 => ?_)
    refine go_iload_n (i := 2) (pc' := 66) dX11_meant_65 rfl rfl rfl ?_
    refine go_iload (pc' := 68) dX11_meant_66 rfl rfl ?_
    refine go_iload (pc' := 70) dX11_meant_68 rfl rfl ?_
    refine go_cvi (pc' := 73) lk_X11_317 (c_X4_knownBy _ _ _ _ _ _ _ (by omega) w1.1) rfl rfl (Nat.le_of_ble_eq_true rfl) (by decide) rfl rfl rfl ⟨Nat.le_of_ble_eq_true rfl, Nat.le_of_ble_eq_true rfl⟩ ⟨rfl, rfl⟩ dX11_meant_70 rfl (fun r12 σ12 h12 => ?_)
    have h12 := h12.symm
    subst h12
    exact go_iret dX11_meant_73 rfl (w1)
  refine go_aload_n (i := 0) (pc' := 36) dX11_meant_35 rfl rfl rfl ?_
  refine gf_0_calendar (pc' := 39) dX11_meant_36 rfl fl_X11_26 ?_
  refine gf_3_highs (pc' := 42) dX11_meant_39 rfl fl_X11_178 ?_
  refine go_iload_n (i := 1) (pc' := 43) dX11_meant_42 rfl rfl rfl ?_
  refine go_iald (pc' := 44) dX11_meant_43 rfl (by decide) (by decide) rfl (vin_of (n := 12) (by omega) (by omega)) ?_
  refine go_goto (tgt := 50) dX11_meant_44 (by decide) ?_
  refine go_topz (fun y13 h13 e13 => ?_)
  refine go_istore (pc' := 52) dX11_meant_50 rfl (by decide) ?_
  refine go_aload_n (i := 0) (pc' := 53) dX11_meant_52 rfl rfl rfl ?_
  refine gf_0_people (pc' := 56) dX11_meant_53 rfl fl_X11_10 ?_
  refine go_aload_n (i := 0) (pc' := 57) dX11_meant_56 rfl rfl rfl ?_
  refine gf_0_letters (pc' := 60) dX11_meant_57 rfl fl_X11_19 ?_
  refine gf_2_writers (pc' := 63) dX11_meant_60 rfl fl_X11_134 ?_
  refine go_iload_n (i := 1) (pc' := 64) dX11_meant_63 rfl rfl rfl ?_
  refine go_iald (pc' := 65) dX11_meant_64 rfl (by decide) (by decide) rfl (vin_of (n := 12) (by omega) (by omega)) ?_
  refine go_rngA (ixa_25 w1.1) (vinlt (vin_of (n := 12) (by omega) (by omega))) (fun g14 => ?_)
  refine go_iload_n (i := 2) (pc' := 66) dX11_meant_65 rfl rfl rfl ?_
  refine go_iload (pc' := 68) dX11_meant_66 rfl rfl ?_
  refine go_iload (pc' := 70) dX11_meant_68 rfl rfl ?_
  refine go_cvi (pc' := 73) lk_X11_317 (c_X4_knownBy _ _ _ _ _ _ _ (by omega) w1.1) rfl rfl (Nat.le_of_ble_eq_true rfl) (by decide) rfl rfl rfl ⟨Nat.le_of_ble_eq_true rfl, Nat.le_of_ble_eq_true rfl⟩ ⟨rfl, rfl⟩ dX11_meant_70 rfl (fun r15 σ15 h15 => ?_)
  have h15 := h15.symm
  subst h15
  exact go_iret dX11_meant_73 rfl (w1)
set_option maxHeartbeats 4000000 in
set_option maxRecDepth 100000 in
theorem c_X11_printText (l : Launch) (L : WL) (σ : ST) (a b c : Int32) (ha : 0 ≤ a.toInt ∧ a.toInt < 12) (ix : IV σ) : CtV l L yX11_printText cX11_printText 4 none rm_X11_printText [.ref (L.2.1 0), .int a, .int b, .int c] σ (fun σ2 => WX σ σ2) := by
  refine ctV_go (own := RX11) (by decide) rfl (Nat.le_of_ble_eq_true rfl) (fun F hF => ?_)
  subst hF
  have w0 : WX σ σ := WX_rfl ix
  refine go_aload_n (i := 0) (pc' := 1) dX11_printText_0 rfl rfl rfl ?_
  refine gf_0_printer (pc' := 4) dX11_printText_1 rfl fl_X11_61 ?_
  refine go_aload_n (i := 0) (pc' := 5) dX11_printText_4 rfl rfl rfl ?_
  refine gf_0_reader (pc' := 8) dX11_printText_5 rfl fl_X11_54 ?_
  refine go_aload_n (i := 0) (pc' := 9) dX11_printText_8 rfl rfl rfl ?_
  refine gf_0_letters (pc' := 12) dX11_printText_9 rfl fl_X11_19 ?_
  refine gf_2_texts (pc' := 15) dX11_printText_12 rfl fl_X11_267 ?_
  refine go_iload_n (i := 1) (pc' := 16) dX11_printText_15 rfl rfl rfl ?_
  have p1 : (a).toNatClampNeg < 12 := vinlt (vin_of (n := 12) (by omega) (by omega))
  refine go_aald (b := 56) (pc' := 17) dX11_printText_16 rfl (by decide) (by decide) ⟨_, rfl⟩ (vin_of (n := 12) (by omega) (by omega)) rfl ?_
  refine go_aload_n (i := 0) (pc' := 18) dX11_printText_17 rfl rfl rfl ?_
  refine gf_0_letters (pc' := 21) dX11_printText_18 rfl fl_X11_19 ?_
  refine gf_2_sizes (pc' := 24) dX11_printText_21 rfl fl_X11_155 ?_
  refine go_iload_n (i := 1) (pc' := 25) dX11_printText_24 rfl rfl rfl ?_
  refine go_iald (pc' := 26) dX11_printText_25 rfl (by decide) (by decide) rfl (vin_of (n := 12) (by omega) (by omega)) ?_
  refine go_rngA (ixa_32 w0.1) (vinlt (vin_of (n := 12) (by omega) (by omega))) (fun g2 => ?_)
  refine go_iload_n (i := 2) (pc' := 27) dX11_printText_26 rfl rfl rfl ?_
  refine go_iload_n (i := 3) (pc' := 28) dX11_printText_27 rfl rfl rfl ?_
  refine go_cvv (pc' := 31) lk_X11_330 (c_X6_render _ _ _ _ _ _ _ p1 w0.1) rfl rfl (Nat.le_of_ble_eq_true rfl) (by decide) rfl rfl rfl ⟨Nat.le_of_ble_eq_true rfl, Nat.le_of_ble_eq_true rfl⟩ ⟨rfl, rfl⟩ dX11_printText_28 rfl (fun σ3 h3 => ?_)
  have w3 := WX_trans w0 h3
  exact go_vret dX11_printText_31 rfl (w3)
set_option maxHeartbeats 4000000 in
set_option maxRecDepth 100000 in
theorem c_X11_readWords_9 (l : Launch) (L : WL) (σ : ST) (a : Int32) (ha : 0 ≤ a.toInt ∧ a.toInt < 12) (ix : IV σ) : CtV l L yX11_readWords cX11_readWords 3 none rm_X11_readWords [.ref (L.2.1 0), .int a, .ref (L.2.1 9)] σ (fun σ2 => WX σ σ2) := by
  refine ctV_go (own := RX11) (by decide) rfl (Nat.le_of_ble_eq_true rfl) (fun F hF => ?_)
  subst hF
  have n0 : (0 : Int32).toInt = 0 := by decide
  have n9999 : (9999 : Int32).toInt = 9999 := by decide
  have w0 : WX σ σ := WX_rfl ix
  refine go_aload_n (i := 0) (pc' := 1) dX11_readWords_0 rfl rfl rfl ?_
  refine go_iload_n (i := 1) (pc' := 2) dX11_readWords_1 rfl rfl rfl ?_
  refine go_sipush (v := 9999) (pc' := 5) dX11_readWords_2 rfl (by decide) ?_
  refine go_iconst (v := 0) (pc' := 6) dX11_readWords_5 rfl (by decide) ?_
  refine go_cvv (pc' := 9) lk_X11_252 (c_X11_printText _ _ _ _ _ _ (by omega) w0.1) rfl rfl (Nat.le_of_ble_eq_true rfl) (by decide) rfl rfl rfl ⟨Nat.le_of_ble_eq_true rfl, Nat.le_of_ble_eq_true rfl⟩ ⟨rfl, rfl⟩ dX11_readWords_6 rfl (fun σ1 h1 => ?_)
  have w1 := WX_trans w0 h1
  refine go_aload_n (i := 2) (pc' := 10) dX11_readWords_9 rfl rfl rfl ?_
  refine go_aload_n (i := 0) (pc' := 11) dX11_readWords_10 rfl rfl rfl ?_
  refine gf_0_printer (pc' := 14) dX11_readWords_11 rfl fl_X11_61 ?_
  refine gf_8_bytes (pc' := 17) dX11_readWords_14 rfl fl_X11_257 ?_
  refine go_aload_n (i := 0) (pc' := 18) dX11_readWords_17 rfl rfl rfl ?_
  refine gf_0_printer (pc' := 21) dX11_readWords_18 rfl fl_X11_61 ?_
  refine gf_8_size (pc' := 24) dX11_readWords_21 rfl fl_X11_256 ?_
  have g2 := ixi_14 w1.1
  refine go_cvv (pc' := 27) lk_X11_334 (c_X10_split_9 _ _ _ _ w1.1) rfl rfl (Nat.le_of_ble_eq_true rfl) (by decide) rfl rfl rfl ⟨Nat.le_of_ble_eq_true rfl, Nat.le_of_ble_eq_true rfl⟩ ⟨rfl, rfl⟩ dX11_readWords_24 rfl (fun σ3 h3 => ?_)
  have w3 := WX_trans w1 h3
  exact go_vret dX11_readWords_27 rfl (w3)
set_option maxHeartbeats 4000000 in
set_option maxRecDepth 100000 in
theorem c_X11_readWords_10 (l : Launch) (L : WL) (σ : ST) (a : Int32) (ha : 0 ≤ a.toInt ∧ a.toInt < 12) (ix : IV σ) : CtV l L yX11_readWords cX11_readWords 3 none rm_X11_readWords [.ref (L.2.1 0), .int a, .ref (L.2.1 10)] σ (fun σ2 => WX σ σ2) := by
  refine ctV_go (own := RX11) (by decide) rfl (Nat.le_of_ble_eq_true rfl) (fun F hF => ?_)
  subst hF
  have n0 : (0 : Int32).toInt = 0 := by decide
  have n9999 : (9999 : Int32).toInt = 9999 := by decide
  have w0 : WX σ σ := WX_rfl ix
  refine go_aload_n (i := 0) (pc' := 1) dX11_readWords_0 rfl rfl rfl ?_
  refine go_iload_n (i := 1) (pc' := 2) dX11_readWords_1 rfl rfl rfl ?_
  refine go_sipush (v := 9999) (pc' := 5) dX11_readWords_2 rfl (by decide) ?_
  refine go_iconst (v := 0) (pc' := 6) dX11_readWords_5 rfl (by decide) ?_
  refine go_cvv (pc' := 9) lk_X11_252 (c_X11_printText _ _ _ _ _ _ (by omega) w0.1) rfl rfl (Nat.le_of_ble_eq_true rfl) (by decide) rfl rfl rfl ⟨Nat.le_of_ble_eq_true rfl, Nat.le_of_ble_eq_true rfl⟩ ⟨rfl, rfl⟩ dX11_readWords_6 rfl (fun σ1 h1 => ?_)
  have w1 := WX_trans w0 h1
  refine go_aload_n (i := 2) (pc' := 10) dX11_readWords_9 rfl rfl rfl ?_
  refine go_aload_n (i := 0) (pc' := 11) dX11_readWords_10 rfl rfl rfl ?_
  refine gf_0_printer (pc' := 14) dX11_readWords_11 rfl fl_X11_61 ?_
  refine gf_8_bytes (pc' := 17) dX11_readWords_14 rfl fl_X11_257 ?_
  refine go_aload_n (i := 0) (pc' := 18) dX11_readWords_17 rfl rfl rfl ?_
  refine gf_0_printer (pc' := 21) dX11_readWords_18 rfl fl_X11_61 ?_
  refine gf_8_size (pc' := 24) dX11_readWords_21 rfl fl_X11_256 ?_
  have g2 := ixi_14 w1.1
  refine go_cvv (pc' := 27) lk_X11_334 (c_X10_split_10 _ _ _ _ w1.1) rfl rfl (Nat.le_of_ble_eq_true rfl) (by decide) rfl rfl rfl ⟨Nat.le_of_ble_eq_true rfl, Nat.le_of_ble_eq_true rfl⟩ ⟨rfl, rfl⟩ dX11_readWords_24 rfl (fun σ3 h3 => ?_)
  have w3 := WX_trans w1 h3
  exact go_vret dX11_readWords_27 rfl (w3)
set_option maxHeartbeats 4000000 in
set_option maxRecDepth 100000 in
theorem c_X11_arrange (l : Launch) (L : WL) (σ : ST) (a : Int32) (ix : IV σ) : CtI l L yX11_arrange cX11_arrange 2 (some .boolean) rm_X11_arrange [.ref (L.2.1 0), .int a] σ (fun _ σ2 => WX σ σ2) := by
  refine ctI_go (own := RX11) (by decide) rfl (Nat.le_of_ble_eq_true rfl) (fun F hF => ?_)
  subst hF
  have n0 : (0 : Int32).toInt = 0 := by decide
  have n1 : (1 : Int32).toInt = 1 := by decide
  have w0 : WX σ σ := WX_rfl ix
  refine go_aload_n (i := 0) (pc' := 1) dX11_arrange_0 rfl rfl rfl ?_
  refine gf_0_calendar (pc' := 4) dX11_arrange_1 rfl fl_X11_26 ?_
  refine go_aload_n (i := 0) (pc' := 5) dX11_arrange_4 rfl rfl rfl ?_
  refine gf_0_letters (pc' := 8) dX11_arrange_5 rfl fl_X11_19 ?_
  refine go_cvi (pc' := 11) lk_X11_171 (c_X0_settle _ _ _ w0.1) rfl rfl (Nat.le_of_ble_eq_true rfl) (by decide) rfl rfl rfl ⟨Nat.le_of_ble_eq_true rfl, Nat.le_of_ble_eq_true rfl⟩ ⟨rfl, rfl⟩ dX11_arrange_8 rfl (fun r1 σ1 h1 => ?_)
  have w1 := WX_trans w0 h1
  refine gz_if_ne (tgt := 16) (pc' := 14) dX11_arrange_11 rfl (by decide) (fun c2 => ?_) (fun c2 => ?_)
  · refine go_aload_n (i := 0) (pc' := 17) dX11_arrange_16 rfl rfl rfl ?_
    refine gf_0_calendar (pc' := 20) dX11_arrange_17 rfl fl_X11_26 ?_
    refine go_aload_n (i := 0) (pc' := 21) dX11_arrange_20 rfl rfl rfl ?_
    refine gf_0_letters (pc' := 24) dX11_arrange_21 rfl fl_X11_19 ?_
    refine gf_2_size (pc' := 27) dX11_arrange_24 rfl fl_X11_185 ?_
    have g3 := ixi_3 w1.1
    refine go_cvv (pc' := 30) lk_X11_188 (c_X0_measurePaths _ _ _ _ (by omega) w1.1) rfl rfl (Nat.le_of_ble_eq_true rfl) (by decide) rfl rfl rfl ⟨Nat.le_of_ble_eq_true rfl, Nat.le_of_ble_eq_true rfl⟩ ⟨rfl, rfl⟩ dX11_arrange_27 rfl (fun σ4 h4 => ?_)
    have w4 := WX_trans w1 h4
    refine go_aload_n (i := 0) (pc' := 31) dX11_arrange_30 rfl rfl rfl ?_
    refine gf_0_sequence (pc' := 34) dX11_arrange_31 rfl fl_X11_78 ?_
    refine go_iload_n (i := 1) (pc' := 35) dX11_arrange_34 rfl rfl rfl ?_
    refine go_aload_n (i := 0) (pc' := 36) dX11_arrange_35 rfl rfl rfl ?_
    refine gf_0_calendar (pc' := 39) dX11_arrange_36 rfl fl_X11_26 ?_
    refine go_cvv (pc' := 42) lk_X11_338 (c_X7_arrange _ _ _ _ w4.1) rfl rfl (Nat.le_of_ble_eq_true rfl) (by decide) rfl rfl rfl ⟨Nat.le_of_ble_eq_true rfl, Nat.le_of_ble_eq_true rfl⟩ ⟨rfl, rfl⟩ dX11_arrange_39 rfl (fun σ5 h5 => ?_)
    have w5 := WX_trans w4 h5
    refine go_iconst (v := 1) (pc' := 43) dX11_arrange_42 rfl (by decide) ?_
    exact go_zret dX11_arrange_43 rfl rfl (w5)
  refine go_iconst (v := 0) (pc' := 15) dX11_arrange_14 rfl (by decide) ?_
  exact go_zret dX11_arrange_15 rfl rfl (w1)
set_option maxHeartbeats 4000000 in
set_option maxRecDepth 100000 in
theorem b_X11_isOrderable (l : Launch) (L : WL) (σ : ST) (x : Int32) (ix : IV σ) : CtI l L yX11_isOrderable cX11_isOrderable 2 (some .boolean) rm_X11_isOrderable [.ref (L.2.1 0), .int x] σ (fun r σ2 => σ2 = σ ∧ bq ((x.toUInt32 >>> ((σ.1 3).toUInt32 &&& Int32.toUInt32 31)).toInt32.toInt = 0 ∧ (bcf x).toInt ≤ 8) r) := by
  refine ctI_go (own := RX11) (by decide) rfl (Nat.le_of_ble_eq_true rfl) (fun F hF => ?_)
  subst hF
  have n0 : (0 : Int32).toInt = 0 := by decide
  have n1 : (1 : Int32).toInt = 1 := by decide
  have n8 : (8 : Int32).toInt = 8 := by decide
  have w0 : WX σ σ := WX_rfl ix
  refine go_iload_n (i := 1) (pc' := 1) dX11_isOrderable_0 rfl rfl rfl ?_
  refine go_aload_n (i := 0) (pc' := 2) dX11_isOrderable_1 rfl rfl rfl ?_
  refine gf_0_letters (pc' := 5) dX11_isOrderable_2 rfl fl_X11_19 ?_
  refine gf_2_size (pc' := 8) dX11_isOrderable_5 rfl fl_X11_185 ?_
  have g1 := ixi_3 w0.1
  refine go_iushr (pc' := 9) dX11_isOrderable_8 rfl rfl ?_
  refine gz_if_ne (tgt := 25) (pc' := 12) dX11_isOrderable_9 rfl (by decide) (fun c2 => ?_) (fun c2 => ?_)
  · refine go_iconst (v := 0) (pc' := 26) dX11_isOrderable_25 rfl (by decide) ?_
    exact go_zret dX11_isOrderable_26 rfl rfl (⟨rfl, by first | exact bq_t (by omega) | exact bq_f (by omega)⟩)
  refine go_iload_n (i := 1) (pc' := 13) dX11_isOrderable_12 rfl rfl rfl ?_
  refine go_csi (pc' := 16) ls_X11_219 (b_bitCount _ _ _ _) rfl rfl (Nat.le_of_ble_eq_true rfl) ⟨Nat.le_of_ble_eq_true rfl, Nat.le_of_ble_eq_true rfl⟩ ⟨rfl, rfl⟩ dX11_isOrderable_13 rfl (fun r3 σ3 h3 => ?_)
  obtain ⟨e3, h3⟩ := h3
  have e3 := e3.symm
  subst e3
  subst h3
  refine go_bipush (v := 8) (pc' := 18) dX11_isOrderable_16 rfl (by decide) ?_
  refine gz_icmp_gt (tgt := 25) (pc' := 21) dX11_isOrderable_18 rfl (by decide) (fun c4 => ?_) (fun c4 => ?_)
  · refine go_iconst (v := 0) (pc' := 26) dX11_isOrderable_25 rfl (by decide) ?_
    exact go_zret dX11_isOrderable_26 rfl rfl (⟨rfl, by first | exact bq_t (by omega) | exact bq_f (by omega)⟩)
  refine go_iconst (v := 1) (pc' := 22) dX11_isOrderable_21 rfl (by decide) ?_
  refine go_goto (tgt := 26) dX11_isOrderable_22 (by decide) ?_
  exact go_zret dX11_isOrderable_26 rfl rfl (⟨rfl, by first | exact bq_t (by omega) | exact bq_f (by omega)⟩)
set_option maxHeartbeats 4000000 in
set_option maxRecDepth 100000 in
theorem c_X11_span (l : Launch) (L : WL) (σ : ST) (a b : Int32) (ix : IV σ) : CtI l L yX11_span cX11_span 3 (some .int) rm_X11_span [.ref (L.2.1 0), .int a, .int b] σ (fun _ σ2 => WX σ σ2) := by
  refine ctI_go (own := RX11) (by decide) rfl (Nat.le_of_ble_eq_true rfl) (fun F hF => ?_)
  subst hF
  have nm2 : (-2 : Int32).toInt = -2 := by decide
  have nm1 : (-1 : Int32).toInt = -1 := by decide
  have n1 : (1 : Int32).toInt = 1 := by decide
  have w0 : WX σ σ := WX_rfl ix
  have gl := ixi_3 w0.1
  have gp := ixi_2 w0.1
  refine go_aload_n (i := 0) (pc' := 1) dX11_span_0 rfl rfl rfl ?_
  refine gf_0_letters (pc' := 4) dX11_span_1 rfl fl_X11_19 ?_
  refine go_iload_n (i := 1) (pc' := 5) dX11_span_4 rfl rfl rfl ?_
  refine go_cvi (pc' := 8) lk_X11_130 (c_X2_has _ _ _ _) rfl rfl (Nat.le_of_ble_eq_true rfl) (by decide) rfl rfl rfl ⟨Nat.le_of_ble_eq_true rfl, Nat.le_of_ble_eq_true rfl⟩ ⟨rfl, rfl⟩ dX11_span_5 rfl (fun r1 σ1 h1 => ?_)
  obtain ⟨e1, h1⟩ := h1
  have e1 := e1.symm
  subst e1
  refine go_eqB (tgt := 20) (pc' := 11) h1 dX11_span_8 rfl (by decide) (fun c2 => ?_) (fun c2 => ?_)
  · refine go_bipush (v := (-2)) (pc' := 22) dX11_span_20 rfl (by decide) ?_
    exact go_iret dX11_span_22 rfl (w0)
  refine go_iload_n (i := 2) (pc' := 12) dX11_span_11 rfl rfl rfl ?_
  refine gz_if_lt (tgt := 20) (pc' := 15) dX11_span_12 rfl (by decide) (fun c3 => ?_) (fun c3 => ?_)
  · refine go_bipush (v := (-2)) (pc' := 22) dX11_span_20 rfl (by decide) ?_
    exact go_iret dX11_span_22 rfl (w0)
  refine go_iload_n (i := 2) (pc' := 16) dX11_span_15 rfl rfl rfl ?_
  refine go_iconst (v := 1) (pc' := 17) dX11_span_16 rfl (by decide) ?_
  refine gz_icmp_le (tgt := 23) (pc' := 20) dX11_span_17 rfl (by decide) (fun c4 => ?_) (fun c4 => ?_)
  · refine go_aload_n (i := 0) (pc' := 24) dX11_span_23 rfl rfl rfl ?_
    refine gf_0_calendar (pc' := 27) dX11_span_24 rfl fl_X11_26 ?_
    refine go_aload_n (i := 0) (pc' := 28) dX11_span_27 rfl rfl rfl ?_
    refine gf_0_letters (pc' := 31) dX11_span_28 rfl fl_X11_19 ?_
    refine go_cvi (pc' := 34) lk_X11_171 (c_X0_settle _ _ _ w0.1) rfl rfl (Nat.le_of_ble_eq_true rfl) (by decide) rfl rfl rfl ⟨Nat.le_of_ble_eq_true rfl, Nat.le_of_ble_eq_true rfl⟩ ⟨rfl, rfl⟩ dX11_span_31 rfl (fun r5 σ5 h5 => ?_)
    have w5 := WX_trans w0 h5
    refine gz_if_ne (tgt := 39) (pc' := 37) dX11_span_34 rfl (by decide) (fun c6 => ?_) (fun c6 => ?_)
    · refine go_iload_n (i := 2) (pc' := 40) dX11_span_39 rfl rfl rfl ?_
      refine gz_if_ne (tgt := 55) (pc' := 43) dX11_span_40 rfl (by decide) (fun c7 => ?_) (fun c7 => ?_)
      · refine go_aload_n (i := 0) (pc' := 56) dX11_span_55 rfl rfl rfl ?_
        refine gf_0_calendar (pc' := 59) dX11_span_56 rfl fl_X11_26 ?_
        refine gf_3_highs (pc' := 62) dX11_span_59 rfl fl_X11_178 ?_
        refine go_iload_n (i := 1) (pc' := 63) dX11_span_62 rfl rfl rfl ?_
        refine go_iald (pc' := 64) dX11_span_63 rfl (by decide) (by decide) rfl (vin_of (n := 12) (by omega) (by omega)) ?_
        exact go_iret dX11_span_64 rfl (w5)
      refine go_aload_n (i := 0) (pc' := 44) dX11_span_43 rfl rfl rfl ?_
      refine gf_0_calendar (pc' := 47) dX11_span_44 rfl fl_X11_26 ?_
      refine gf_3_lows (pc' := 50) dX11_span_47 rfl fl_X11_175 ?_
      refine go_iload_n (i := 1) (pc' := 51) dX11_span_50 rfl rfl rfl ?_
      refine go_iald (pc' := 52) dX11_span_51 rfl (by decide) (by decide) rfl (vin_of (n := 12) (by omega) (by omega)) ?_
      refine go_goto (tgt := 64) dX11_span_52 (by decide) ?_
      exact go_iret dX11_span_64 rfl (w5)
    refine go_iconst (v := (-1)) (pc' := 38) dX11_span_37 rfl (by decide) ?_
    exact go_iret dX11_span_38 rfl (w5)
  refine go_bipush (v := (-2)) (pc' := 22) dX11_span_20 rfl (by decide) ?_
  exact go_iret dX11_span_22 rfl (w0)
set_option maxHeartbeats 4000000 in
set_option maxRecDepth 100000 in
theorem c_X11_clash (l : Launch) (L : WL) (σ : ST)  (ix : IV σ) : CtI l L yX11_clash cX11_clash 1 (some .int) rm_X11_clash [.ref (L.2.1 0)] σ (fun _ σ2 => WX σ σ2) := by
  refine ctI_go (own := RX11) (by decide) rfl (Nat.le_of_ble_eq_true rfl) (fun F hF => ?_)
  subst hF
  have w0 : WX σ σ := WX_rfl ix
  refine go_aload_n (i := 0) (pc' := 1) dX11_clash_0 rfl rfl rfl ?_
  refine gf_0_calendar (pc' := 4) dX11_clash_1 rfl fl_X11_26 ?_
  refine go_aload_n (i := 0) (pc' := 5) dX11_clash_4 rfl rfl rfl ?_
  refine gf_0_letters (pc' := 8) dX11_clash_5 rfl fl_X11_19 ?_
  refine go_cvi (pc' := 11) lk_X11_181 (c_X0_conflict _ _ _ w0.1) rfl rfl (Nat.le_of_ble_eq_true rfl) (by decide) rfl rfl rfl ⟨Nat.le_of_ble_eq_true rfl, Nat.le_of_ble_eq_true rfl⟩ ⟨rfl, rfl⟩ dX11_clash_8 rfl (fun r1 σ1 h1 => ?_)
  have w1 := WX_trans w0 h1
  exact go_iret dX11_clash_11 rfl (w1)
set_option maxHeartbeats 4000000 in
set_option maxRecDepth 100000 in
theorem c_X11_before (l : Launch) (L : WL) (σ : ST) (a b : Int32) (ix : IV σ) : CtI l L yX11_before cX11_before 3 (some .int) rm_X11_before [.ref (L.2.1 0), .int a, .int b] σ (fun _ σ2 => WX σ σ2) := by
  refine ctI_go (own := RX11) (by decide) rfl (Nat.le_of_ble_eq_true rfl) (fun F hF => ?_)
  subst hF
  have nm2 : (-2 : Int32).toInt = -2 := by decide
  have n0 : (0 : Int32).toInt = 0 := by decide
  have n1 : (1 : Int32).toInt = 1 := by decide
  have w0 : WX σ σ := WX_rfl ix
  have gl := ixi_3 w0.1
  have gp := ixi_2 w0.1
  refine go_aload_n (i := 0) (pc' := 1) dX11_before_0 rfl rfl rfl ?_
  refine gf_0_letters (pc' := 4) dX11_before_1 rfl fl_X11_19 ?_
  refine go_iload_n (i := 1) (pc' := 5) dX11_before_4 rfl rfl rfl ?_
  refine go_cvi (pc' := 8) lk_X11_130 (c_X2_has _ _ _ _) rfl rfl (Nat.le_of_ble_eq_true rfl) (by decide) rfl rfl rfl ⟨Nat.le_of_ble_eq_true rfl, Nat.le_of_ble_eq_true rfl⟩ ⟨rfl, rfl⟩ dX11_before_5 rfl (fun r1 σ1 h1 => ?_)
  obtain ⟨e1, h1⟩ := h1
  have e1 := e1.symm
  subst e1
  refine go_eqB (tgt := 27) (pc' := 11) h1 dX11_before_8 rfl (by decide) (fun c2 => ?_) (fun c2 => ?_)
  · refine go_bipush (v := (-2)) (pc' := 29) dX11_before_27 rfl (by decide) ?_
    exact go_iret dX11_before_29 rfl (w0)
  refine go_aload_n (i := 0) (pc' := 12) dX11_before_11 rfl rfl rfl ?_
  refine gf_0_letters (pc' := 15) dX11_before_12 rfl fl_X11_19 ?_
  refine go_iload_n (i := 2) (pc' := 16) dX11_before_15 rfl rfl rfl ?_
  refine go_cvi (pc' := 19) lk_X11_130 (c_X2_has _ _ _ _) rfl rfl (Nat.le_of_ble_eq_true rfl) (by decide) rfl rfl rfl ⟨Nat.le_of_ble_eq_true rfl, Nat.le_of_ble_eq_true rfl⟩ ⟨rfl, rfl⟩ dX11_before_16 rfl (fun r3 σ3 h3 => ?_)
  obtain ⟨e3, h3⟩ := h3
  have e3 := e3.symm
  subst e3
  refine go_eqB (tgt := 27) (pc' := 22) h3 dX11_before_19 rfl (by decide) (fun c4 => ?_) (fun c4 => ?_)
  · refine go_bipush (v := (-2)) (pc' := 29) dX11_before_27 rfl (by decide) ?_
    exact go_iret dX11_before_29 rfl (w0)
  refine go_iload_n (i := 1) (pc' := 23) dX11_before_22 rfl rfl rfl ?_
  refine go_iload_n (i := 2) (pc' := 24) dX11_before_23 rfl rfl rfl ?_
  refine gz_icmp_ne (tgt := 30) (pc' := 27) dX11_before_24 rfl (by decide) (fun c5 => ?_) (fun c5 => ?_)
  · refine go_aload_n (i := 0) (pc' := 31) dX11_before_30 rfl rfl rfl ?_
    refine gf_0_calendar (pc' := 34) dX11_before_31 rfl fl_X11_26 ?_
    refine go_aload_n (i := 0) (pc' := 35) dX11_before_34 rfl rfl rfl ?_
    refine gf_0_letters (pc' := 38) dX11_before_35 rfl fl_X11_19 ?_
    refine go_cvi (pc' := 41) lk_X11_171 (c_X0_settle _ _ _ w0.1) rfl rfl (Nat.le_of_ble_eq_true rfl) (by decide) rfl rfl rfl ⟨Nat.le_of_ble_eq_true rfl, Nat.le_of_ble_eq_true rfl⟩ ⟨rfl, rfl⟩ dX11_before_38 rfl (fun r6 σ6 h6 => ?_)
    have w6 := WX_trans w0 h6
    refine gz_if_ne (tgt := 46) (pc' := 44) dX11_before_41 rfl (by decide) (fun c7 => ?_) (fun c7 => ?_)
    · refine go_aload_n (i := 0) (pc' := 47) dX11_before_46 rfl rfl rfl ?_
      refine gf_0_calendar (pc' := 50) dX11_before_47 rfl fl_X11_26 ?_
      refine go_aload_n (i := 0) (pc' := 51) dX11_before_50 rfl rfl rfl ?_
      refine gf_0_letters (pc' := 54) dX11_before_51 rfl fl_X11_19 ?_
      refine gf_2_size (pc' := 57) dX11_before_54 rfl fl_X11_185 ?_
      have g8 := ixi_3 w6.1
      refine go_cvv (pc' := 60) lk_X11_188 (c_X0_measurePaths _ _ _ _ (by omega) w6.1) rfl rfl (Nat.le_of_ble_eq_true rfl) (by decide) rfl rfl rfl ⟨Nat.le_of_ble_eq_true rfl, Nat.le_of_ble_eq_true rfl⟩ ⟨rfl, rfl⟩ dX11_before_57 rfl (fun σ9 h9 => ?_)
      have w9 := WX_trans w6 h9
      refine go_aload_n (i := 0) (pc' := 61) dX11_before_60 rfl rfl rfl ?_
      refine gf_0_calendar (pc' := 64) dX11_before_61 rfl fl_X11_26 ?_
      refine go_iload_n (i := 1) (pc' := 65) dX11_before_64 rfl rfl rfl ?_
      refine go_iload_n (i := 2) (pc' := 66) dX11_before_65 rfl rfl rfl ?_
      refine go_cvi (pc' := 69) lk_X11_192 (c_X0_isAhead _ _ _ _ _ (by omega) (by omega) w9.1) rfl rfl (Nat.le_of_ble_eq_true rfl) (by decide) rfl rfl rfl ⟨Nat.le_of_ble_eq_true rfl, Nat.le_of_ble_eq_true rfl⟩ ⟨rfl, rfl⟩ dX11_before_66 rfl (fun r10 σ10 h10 => ?_)
      have h10 := h10.symm
      subst h10
      refine gz_if_eq (tgt := 76) (pc' := 72) dX11_before_69 rfl (by decide) (fun c11 => ?_) (fun c11 => ?_)
      · refine go_iconst (v := 0) (pc' := 77) dX11_before_76 rfl (by decide) ?_
        exact go_iret dX11_before_77 rfl (w9)
      refine go_iconst (v := 1) (pc' := 73) dX11_before_72 rfl (by decide) ?_
      refine go_goto (tgt := 77) dX11_before_73 (by decide) ?_
      exact go_iret dX11_before_77 rfl (w9)
    refine go_iconst (v := 0) (pc' := 45) dX11_before_44 rfl (by decide) ?_
    exact go_iret dX11_before_45 rfl (w6)
  refine go_bipush (v := (-2)) (pc' := 29) dX11_before_27 rfl (by decide) ?_
  exact go_iret dX11_before_29 rfl (w0)
set_option maxHeartbeats 4000000 in
set_option maxRecDepth 100000 in
theorem c_X11_read (l : Launch) (L : WL) (σ : ST) (a b c d : Int32) (ix : IV σ) : CtI l L yX11_read cX11_read 5 (some .int) rm_X11_read [.ref (L.2.1 0), .int a, .int b, .int c, .int d] σ (fun _ σ2 => WX σ σ2) := by
  refine ctI_go (own := RX11) (by decide) rfl (Nat.le_of_ble_eq_true rfl) (fun F hF => ?_)
  subst hF
  have nm2 : (-2 : Int32).toInt = -2 := by decide
  have n0 : (0 : Int32).toInt = 0 := by decide
  have n1 : (1 : Int32).toInt = 1 := by decide
  have w0 : WX σ σ := WX_rfl ix
  have gl := ixi_3 w0.1
  have gp := ixi_2 w0.1
  refine go_aload_n (i := 0) (pc' := 1) dX11_read_0 rfl rfl rfl ?_
  refine gf_0_letters (pc' := 4) dX11_read_1 rfl fl_X11_19 ?_
  refine go_iload_n (i := 1) (pc' := 5) dX11_read_4 rfl rfl rfl ?_
  refine go_cvi (pc' := 8) lk_X11_130 (c_X2_has _ _ _ _) rfl rfl (Nat.le_of_ble_eq_true rfl) (by decide) rfl rfl rfl ⟨Nat.le_of_ble_eq_true rfl, Nat.le_of_ble_eq_true rfl⟩ ⟨rfl, rfl⟩ dX11_read_5 rfl (fun r1 σ1 h1 => ?_)
  obtain ⟨e1, h1⟩ := h1
  have e1 := e1.symm
  subst e1
  refine go_eqB (tgt := 22) (pc' := 11) h1 dX11_read_8 rfl (by decide) (fun c2 => ?_) (fun c2 => ?_)
  · refine go_bipush (v := (-2)) (pc' := 24) dX11_read_22 rfl (by decide) ?_
    exact go_iret dX11_read_24 rfl (w0)
  refine go_aload_n (i := 0) (pc' := 12) dX11_read_11 rfl rfl rfl ?_
  refine go_iload_n (i := 2) (pc' := 13) dX11_read_12 rfl rfl rfl ?_
  refine go_iload_n (i := 3) (pc' := 14) dX11_read_13 rfl rfl rfl ?_
  refine go_iload (pc' := 16) dX11_read_14 rfl rfl ?_
  refine go_cvi (pc' := 19) lk_X11_205 (c_X11_isReading _ _ _ _ _ _) rfl rfl (Nat.le_of_ble_eq_true rfl) (by decide) rfl rfl rfl ⟨Nat.le_of_ble_eq_true rfl, Nat.le_of_ble_eq_true rfl⟩ ⟨rfl, rfl⟩ dX11_read_16 rfl (fun r3 σ3 h3 => ?_)
  obtain ⟨e3, h3⟩ := h3
  have e3 := e3.symm
  subst e3
  refine go_neB (tgt := 25) (pc' := 22) h3 dX11_read_19 rfl (by decide) (fun c4 => ?_) (fun c4 => ?_)
  · refine go_aload_n (i := 0) (pc' := 26) dX11_read_25 rfl rfl rfl ?_
    refine gf_0_calendar (pc' := 29) dX11_read_26 rfl fl_X11_26 ?_
    refine go_aload_n (i := 0) (pc' := 30) dX11_read_29 rfl rfl rfl ?_
    refine gf_0_letters (pc' := 33) dX11_read_30 rfl fl_X11_19 ?_
    refine go_cvi (pc' := 36) lk_X11_171 (c_X0_settle _ _ _ w0.1) rfl rfl (Nat.le_of_ble_eq_true rfl) (by decide) rfl rfl rfl ⟨Nat.le_of_ble_eq_true rfl, Nat.le_of_ble_eq_true rfl⟩ ⟨rfl, rfl⟩ dX11_read_33 rfl (fun r5 σ5 h5 => ?_)
    have w5 := WX_trans w0 h5
    refine gz_if_eq (tgt := 55) (pc' := 39) dX11_read_36 rfl (by decide) (fun c6 => ?_) (fun c6 => ?_)
    · refine go_iconst (v := 0) (pc' := 56) dX11_read_55 rfl (by decide) ?_
      exact go_iret dX11_read_56 rfl (w5)
    refine go_aload_n (i := 0) (pc' := 40) dX11_read_39 rfl rfl rfl ?_
    refine go_iload_n (i := 1) (pc' := 41) dX11_read_40 rfl rfl rfl ?_
    refine go_iload_n (i := 2) (pc' := 42) dX11_read_41 rfl rfl rfl ?_
    refine go_iload_n (i := 3) (pc' := 43) dX11_read_42 rfl rfl rfl ?_
    refine go_iload (pc' := 45) dX11_read_43 rfl rfl ?_
    refine go_cvi (pc' := 48) lk_X11_209 (c_X11_hasRead _ _ _ _ _ _ _ (by omega) (by omega) w5.1) rfl rfl (Nat.le_of_ble_eq_true rfl) (by decide) rfl rfl rfl ⟨Nat.le_of_ble_eq_true rfl, Nat.le_of_ble_eq_true rfl⟩ ⟨rfl, rfl⟩ dX11_read_45 rfl (fun r7 σ7 h7 => ?_)
    have h7 := h7.symm
    subst h7
    refine gz_if_eq (tgt := 55) (pc' := 51) dX11_read_48 rfl (by decide) (fun c8 => ?_) (fun c8 => ?_)
    · refine go_iconst (v := 0) (pc' := 56) dX11_read_55 rfl (by decide) ?_
      exact go_iret dX11_read_56 rfl (w5)
    refine go_iconst (v := 1) (pc' := 52) dX11_read_51 rfl (by decide) ?_
    refine go_goto (tgt := 56) dX11_read_52 (by decide) ?_
    exact go_iret dX11_read_56 rfl (w5)
  refine go_bipush (v := (-2)) (pc' := 24) dX11_read_22 rfl (by decide) ?_
  exact go_iret dX11_read_24 rfl (w0)
set_option maxHeartbeats 4000000 in
set_option maxRecDepth 100000 in
theorem c_X11_reads (l : Launch) (L : WL) (σ : ST) (a b c : Int32) (ix : IV σ) : CtI l L yX11_reads cX11_reads 6 (some .int) rm_X11_reads [.ref (L.2.1 0), .int a, .int b, .int c] σ (fun _ σ2 => WX σ σ2) := by
  refine ctI_go (own := RX11) (by decide) rfl (Nat.le_of_ble_eq_true rfl) (fun F hF => ?_)
  subst hF
  have nm2 : (-2 : Int32).toInt = -2 := by decide
  have n0 : (0 : Int32).toInt = 0 := by decide
  have w0 : WX σ σ := WX_rfl ix
  have gl := ixi_3 w0.1
  have gp := ixi_2 w0.1
  refine go_aload_n (i := 0) (pc' := 1) dX11_reads_0 rfl rfl rfl ?_
  refine go_iload_n (i := 1) (pc' := 2) dX11_reads_1 rfl rfl rfl ?_
  refine go_iload_n (i := 2) (pc' := 3) dX11_reads_2 rfl rfl rfl ?_
  refine go_iload_n (i := 3) (pc' := 4) dX11_reads_3 rfl rfl rfl ?_
  refine go_cvi (pc' := 7) lk_X11_205 (c_X11_isReading _ _ _ _ _ _) rfl rfl (Nat.le_of_ble_eq_true rfl) (by decide) rfl rfl rfl ⟨Nat.le_of_ble_eq_true rfl, Nat.le_of_ble_eq_true rfl⟩ ⟨rfl, rfl⟩ dX11_reads_4 rfl (fun r1 σ1 h1 => ?_)
  obtain ⟨e1, h1⟩ := h1
  have e1 := e1.symm
  subst e1
  refine go_neB (tgt := 13) (pc' := 10) h1 dX11_reads_7 rfl (by decide) (fun c2 => ?_) (fun c2 => ?_)
  · refine go_aload_n (i := 0) (pc' := 14) dX11_reads_13 rfl rfl rfl ?_
    refine gf_0_calendar (pc' := 17) dX11_reads_14 rfl fl_X11_26 ?_
    refine go_aload_n (i := 0) (pc' := 18) dX11_reads_17 rfl rfl rfl ?_
    refine gf_0_letters (pc' := 21) dX11_reads_18 rfl fl_X11_19 ?_
    refine go_cvi (pc' := 24) lk_X11_171 (c_X0_settle _ _ _ w0.1) rfl rfl (Nat.le_of_ble_eq_true rfl) (by decide) rfl rfl rfl ⟨Nat.le_of_ble_eq_true rfl, Nat.le_of_ble_eq_true rfl⟩ ⟨rfl, rfl⟩ dX11_reads_21 rfl (fun r3 σ3 h3 => ?_)
    have w3 := WX_trans w0 h3
    refine gz_if_ne (tgt := 29) (pc' := 27) dX11_reads_24 rfl (by decide) (fun c4 => ?_) (fun c4 => ?_)
    · refine go_iconst (v := 0) (pc' := 30) dX11_reads_29 rfl (by decide) ?_
      refine go_istore (pc' := 32) dX11_reads_30 rfl (by decide) ?_
      refine go_iconst (v := 0) (pc' := 33) dX11_reads_32 rfl (by decide) ?_
      refine go_istore (pc' := 35) dX11_reads_33 rfl (by decide) ?_
      have loop35_5 : ∀ (dd5 : Nat) (σ5 : ST) (x4_5 : Int32) (x5_5 : Int32), WX σ σ5 → (0 ≤ (x5_5).toInt ∧ (x5_5).toInt ≤ 12) → (12 - (x5_5).toInt).toNat = dd5 → Go F L RX11 cX11_reads 6 rm_X11_reads (some .int) (RI F L (fun _ σ2 => WX σ σ2)) σ5 35 [(0, .ref (L.2.1 0)), (1, .int a), (2, .int b), (3, .int c), (4, .int x4_5), (5, .int x5_5)] [] := by
        intro dd5
        induction dd5 using Nat.strongRecOn with
        | _ dd5 ih5 =>
          intro σ5 x4_5 x5_5 w5 h_5 hm_5
          refine go_iload (pc' := 37) dX11_reads_35 rfl rfl ?_
          refine go_aload_n (i := 0) (pc' := 38) dX11_reads_37 rfl rfl rfl ?_
          refine gf_0_letters (pc' := 41) dX11_reads_38 rfl fl_X11_19 ?_
          refine gf_2_size (pc' := 44) dX11_reads_41 rfl fl_X11_185 ?_
          have g6 := ixi_3 w5.1
          refine gz_icmp_ge (tgt := 68) (pc' := 47) dX11_reads_44 rfl (by decide) (fun c7 => ?_) (fun c7 => ?_)
          · refine go_iload (pc' := 70) dX11_reads_68 rfl rfl ?_
            exact go_iret dX11_reads_70 rfl (w5)
          refine go_aload_n (i := 0) (pc' := 48) dX11_reads_47 rfl rfl rfl ?_
          refine go_iload (pc' := 50) dX11_reads_48 rfl rfl ?_
          refine go_iload_n (i := 1) (pc' := 51) dX11_reads_50 rfl rfl rfl ?_
          refine go_iload_n (i := 2) (pc' := 52) dX11_reads_51 rfl rfl rfl ?_
          refine go_iload_n (i := 3) (pc' := 53) dX11_reads_52 rfl rfl rfl ?_
          refine go_cvi (pc' := 56) lk_X11_209 (c_X11_hasRead _ _ _ _ _ _ _ (by omega) (by omega) w5.1) rfl rfl (Nat.le_of_ble_eq_true rfl) (by decide) rfl rfl rfl ⟨Nat.le_of_ble_eq_true rfl, Nat.le_of_ble_eq_true rfl⟩ ⟨rfl, rfl⟩ dX11_reads_53 rfl (fun r8 σ8 h8 => ?_)
          have h8 := h8.symm
          subst h8
          refine gz_if_eq (tgt := 62) (pc' := 59) dX11_reads_56 rfl (by decide) (fun c9 => ?_) (fun c9 => ?_)
          · refine gz_iinc (c := 1) (pc' := 65) dX11_reads_62 rfl rfl (by decide) (by decide) (by decide) (by omega) (fun v10 h10 e10 => ?_)
            refine go_goto (tgt := 35) dX11_reads_65 (by decide) ?_
            exact go_lv (lv' := [(0, .ref (L.2.1 0)), (1, .int a), (2, .int b), (3, .int c), (4, .int x4_5), (5, .int v10)]) rfl (ih5 _ (by omega) σ5 x4_5 v10 w5 (by omega) rfl)
          refine go_iinc (c := 1) (pc' := 62) dX11_reads_59 rfl rfl (by decide) (by decide) ?_
          refine gz_iinc (c := 1) (pc' := 65) dX11_reads_62 rfl rfl (by decide) (by decide) (by decide) (by omega) (fun v12 h12 e12 => ?_)
          refine go_goto (tgt := 35) dX11_reads_65 (by decide) ?_
          exact go_lv (lv' := [(0, .ref (L.2.1 0)), (1, .int a), (2, .int b), (3, .int c), (4, .int (x4_5 + 1)), (5, .int v12)]) rfl (ih5 _ (by omega) σ5 (x4_5 + 1) v12 w5 (by omega) rfl)
      exact go_lv (lv' := [(0, .ref (L.2.1 0)), (1, .int a), (2, .int b), (3, .int c), (4, .int (0 : Int32)), (5, .int (0 : Int32))]) rfl (loop35_5 _ σ3 (0 : Int32) (0 : Int32) w3 (by omega) rfl)
    refine go_iconst (v := 0) (pc' := 28) dX11_reads_27 rfl (by decide) ?_
    exact go_iret dX11_reads_28 rfl (w3)
  refine go_bipush (v := (-2)) (pc' := 12) dX11_reads_10 rfl (by decide) ?_
  exact go_iret dX11_reads_12 rfl (w0)
set_option maxHeartbeats 4000000 in
set_option maxRecDepth 100000 in
theorem c_X11_means (l : Launch) (L : WL) (σ : ST) (a b : Int32) (ix : IV σ) : CtI l L yX11_means cX11_means 3 (some .int) rm_X11_means [.ref (L.2.1 0), .int a, .int b] σ (fun _ σ2 => WX σ σ2) := by
  refine ctI_go (own := RX11) (by decide) rfl (Nat.le_of_ble_eq_true rfl) (fun F hF => ?_)
  subst hF
  have nm2 : (-2 : Int32).toInt = -2 := by decide
  have nm1 : (-1 : Int32).toInt = -1 := by decide
  have n1 : (1 : Int32).toInt = 1 := by decide
  have w0 : WX σ σ := WX_rfl ix
  have gl := ixi_3 w0.1
  have gp := ixi_2 w0.1
  refine go_aload_n (i := 0) (pc' := 1) dX11_means_0 rfl rfl rfl ?_
  refine gf_0_letters (pc' := 4) dX11_means_1 rfl fl_X11_19 ?_
  refine go_iload_n (i := 1) (pc' := 5) dX11_means_4 rfl rfl rfl ?_
  refine go_cvi (pc' := 8) lk_X11_130 (c_X2_has _ _ _ _) rfl rfl (Nat.le_of_ble_eq_true rfl) (by decide) rfl rfl rfl ⟨Nat.le_of_ble_eq_true rfl, Nat.le_of_ble_eq_true rfl⟩ ⟨rfl, rfl⟩ dX11_means_5 rfl (fun r1 σ1 h1 => ?_)
  obtain ⟨e1, h1⟩ := h1
  have e1 := e1.symm
  subst e1
  refine go_eqB (tgt := 18) (pc' := 11) h1 dX11_means_8 rfl (by decide) (fun c2 => ?_) (fun c2 => ?_)
  · refine go_bipush (v := (-2)) (pc' := 20) dX11_means_18 rfl (by decide) ?_
    exact go_iret dX11_means_20 rfl (w0)
  refine go_iload_n (i := 2) (pc' := 12) dX11_means_11 rfl rfl rfl ?_
  refine go_csi (pc' := 15) ls_X11_96 (c_X11_isName _ _ _ _) rfl rfl (Nat.le_of_ble_eq_true rfl) ⟨Nat.le_of_ble_eq_true rfl, Nat.le_of_ble_eq_true rfl⟩ ⟨rfl, rfl⟩ dX11_means_12 rfl (fun r3 σ3 h3 => ?_)
  obtain ⟨e3, h3⟩ := h3
  have e3 := e3.symm
  subst e3
  refine go_neB (tgt := 21) (pc' := 18) h3 dX11_means_15 rfl (by decide) (fun c4 => ?_) (fun c4 => ?_)
  · refine go_aload_n (i := 0) (pc' := 22) dX11_means_21 rfl rfl rfl ?_
    refine gf_0_hands (pc' := 25) dX11_means_22 rfl fl_X11_40 ?_
    refine go_iload_n (i := 1) (pc' := 26) dX11_means_25 rfl rfl rfl ?_
    refine go_iload_n (i := 2) (pc' := 27) dX11_means_26 rfl rfl rfl ?_
    refine go_cvi (pc' := 30) lk_X11_213 (c_X1_find _ _ _ _ _ w0.1) rfl rfl (Nat.le_of_ble_eq_true rfl) (by decide) rfl rfl rfl ⟨Nat.le_of_ble_eq_true rfl, Nat.le_of_ble_eq_true rfl⟩ ⟨rfl, rfl⟩ dX11_means_27 rfl (fun r5 σ5 h5 => ?_)
    obtain ⟨e5, h5⟩ := h5
    have e5 := e5.symm
    subst e5
    refine go_iconst (v := (-1)) (pc' := 31) dX11_means_30 rfl (by decide) ?_
    refine gz_icmp_ne (tgt := 46) (pc' := 34) dX11_means_31 rfl (by decide) (fun c6 => ?_) (fun c6 => ?_)
    · refine go_iconst (v := 1) (pc' := 47) dX11_means_46 rfl (by decide) ?_
      exact go_iret dX11_means_47 rfl (w0)
    refine go_aload_n (i := 0) (pc' := 35) dX11_means_34 rfl rfl rfl ?_
    refine go_iload_n (i := 1) (pc' := 36) dX11_means_35 rfl rfl rfl ?_
    refine go_iload_n (i := 2) (pc' := 37) dX11_means_36 rfl rfl rfl ?_
    refine go_cvi (pc' := 40) lk_X11_216 (c_X11_meant _ _ _ _ _ (by omega) w0.1) rfl rfl (Nat.le_of_ble_eq_true rfl) (by decide) rfl rfl rfl ⟨Nat.le_of_ble_eq_true rfl, Nat.le_of_ble_eq_true rfl⟩ ⟨rfl, rfl⟩ dX11_means_37 rfl (fun r7 σ7 h7 => ?_)
    have w7 := WX_trans w0 h7
    refine go_csi (pc' := 43) ls_X11_219 (b_bitCount _ _ _ _) rfl rfl (Nat.le_of_ble_eq_true rfl) ⟨Nat.le_of_ble_eq_true rfl, Nat.le_of_ble_eq_true rfl⟩ ⟨rfl, rfl⟩ dX11_means_40 rfl (fun r8 σ8 h8 => ?_)
    obtain ⟨e8, h8⟩ := h8
    have e8 := e8.symm
    subst e8
    refine go_goto (tgt := 47) dX11_means_43 (by decide) ?_
    exact go_iret dX11_means_47 rfl (w7)
  refine go_bipush (v := (-2)) (pc' := 20) dX11_means_18 rfl (by decide) ?_
  exact go_iret dX11_means_20 rfl (w0)
set_option maxHeartbeats 4000000 in
set_option maxRecDepth 100000 in
theorem c_X11_who (l : Launch) (L : WL) (σ : ST) (a b : Int32) (ix : IV σ) : CtI l L yX11_who cX11_who 4 (some .int) rm_X11_who [.ref (L.2.1 0), .int a, .int b] σ (fun _ σ2 => WX σ σ2) := by
  refine ctI_go (own := RX11) (by decide) rfl (Nat.le_of_ble_eq_true rfl) (fun F hF => ?_)
  subst hF
  have nm2 : (-2 : Int32).toInt = -2 := by decide
  have nm1 : (-1 : Int32).toInt = -1 := by decide
  have w0 : WX σ σ := WX_rfl ix
  have gl := ixi_3 w0.1
  have gp := ixi_2 w0.1
  have gh := ixi_5 w0.1
  refine go_aload_n (i := 0) (pc' := 1) dX11_who_0 rfl rfl rfl ?_
  refine gf_0_letters (pc' := 4) dX11_who_1 rfl fl_X11_19 ?_
  refine go_iload_n (i := 1) (pc' := 5) dX11_who_4 rfl rfl rfl ?_
  refine go_cvi (pc' := 8) lk_X11_130 (c_X2_has _ _ _ _) rfl rfl (Nat.le_of_ble_eq_true rfl) (by decide) rfl rfl rfl ⟨Nat.le_of_ble_eq_true rfl, Nat.le_of_ble_eq_true rfl⟩ ⟨rfl, rfl⟩ dX11_who_5 rfl (fun r1 σ1 h1 => ?_)
  obtain ⟨e1, h1⟩ := h1
  have e1 := e1.symm
  subst e1
  refine go_eqB (tgt := 18) (pc' := 11) h1 dX11_who_8 rfl (by decide) (fun c2 => ?_) (fun c2 => ?_)
  · refine go_bipush (v := (-2)) (pc' := 20) dX11_who_18 rfl (by decide) ?_
    exact go_iret dX11_who_20 rfl (w0)
  refine go_iload_n (i := 2) (pc' := 12) dX11_who_11 rfl rfl rfl ?_
  refine go_csi (pc' := 15) ls_X11_96 (c_X11_isName _ _ _ _) rfl rfl (Nat.le_of_ble_eq_true rfl) ⟨Nat.le_of_ble_eq_true rfl, Nat.le_of_ble_eq_true rfl⟩ ⟨rfl, rfl⟩ dX11_who_12 rfl (fun r3 σ3 h3 => ?_)
  obtain ⟨e3, h3⟩ := h3
  have e3 := e3.symm
  subst e3
  refine go_neB (tgt := 21) (pc' := 18) h3 dX11_who_15 rfl (by decide) (fun c4 => ?_) (fun c4 => ?_)
  · refine go_aload_n (i := 0) (pc' := 22) dX11_who_21 rfl rfl rfl ?_
    refine gf_0_hands (pc' := 25) dX11_who_22 rfl fl_X11_40 ?_
    refine go_iload_n (i := 1) (pc' := 26) dX11_who_25 rfl rfl rfl ?_
    refine go_iload_n (i := 2) (pc' := 27) dX11_who_26 rfl rfl rfl ?_
    refine go_cvi (pc' := 30) lk_X11_213 (c_X1_find _ _ _ _ _ w0.1) rfl rfl (Nat.le_of_ble_eq_true rfl) (by decide) rfl rfl rfl ⟨Nat.le_of_ble_eq_true rfl, Nat.le_of_ble_eq_true rfl⟩ ⟨rfl, rfl⟩ dX11_who_27 rfl (fun r5 σ5 h5 => ?_)
    obtain ⟨e5, h5⟩ := h5
    have e5 := e5.symm
    subst e5
    refine go_istore_n (i := 3) (pc' := 31) dX11_who_30 rfl rfl (by decide) ?_
    refine go_iload_n (i := 3) (pc' := 32) dX11_who_31 rfl rfl rfl ?_
    refine go_iconst (v := (-1)) (pc' := 33) dX11_who_32 rfl (by decide) ?_
    refine gz_icmp_eq (tgt := 46) (pc' := 36) dX11_who_33 rfl (by decide) (fun c6 => ?_) (fun c6 => ?_)
    · refine go_aload_n (i := 0) (pc' := 47) dX11_who_46 rfl rfl rfl ?_
      refine gf_0_people (pc' := 50) dX11_who_47 rfl fl_X11_10 ?_
      refine go_aload_n (i := 0) (pc' := 51) dX11_who_50 rfl rfl rfl ?_
      refine go_iload_n (i := 1) (pc' := 52) dX11_who_51 rfl rfl rfl ?_
      refine go_iload_n (i := 2) (pc' := 53) dX11_who_52 rfl rfl rfl ?_
      refine go_cvi (pc' := 56) lk_X11_216 (c_X11_meant _ _ _ _ _ (by omega) w0.1) rfl rfl (Nat.le_of_ble_eq_true rfl) (by decide) rfl rfl rfl ⟨Nat.le_of_ble_eq_true rfl, Nat.le_of_ble_eq_true rfl⟩ ⟨rfl, rfl⟩ dX11_who_53 rfl (fun r7 σ7 h7 => ?_)
      have w7 := WX_trans w0 h7
      refine go_cvi (pc' := 59) lk_X11_228 (c_X4_onlyOne _ _ _ _ w7.1) rfl rfl (Nat.le_of_ble_eq_true rfl) (by decide) rfl rfl rfl ⟨Nat.le_of_ble_eq_true rfl, Nat.le_of_ble_eq_true rfl⟩ ⟨rfl, rfl⟩ dX11_who_56 rfl (fun r8 σ8 h8 => ?_)
      have h8 := h8.symm
      subst h8
      exact go_iret dX11_who_59 rfl (w7)
    refine go_aload_n (i := 0) (pc' := 37) dX11_who_36 rfl rfl rfl ?_
    refine gf_0_hands (pc' := 40) dX11_who_37 rfl fl_X11_40 ?_
    refine gf_5_persons (pc' := 43) dX11_who_40 rfl fl_X11_225 ?_
    refine go_iload_n (i := 3) (pc' := 44) dX11_who_43 rfl rfl rfl ?_
    refine go_iald (pc' := 45) dX11_who_44 rfl (by decide) (by decide) rfl (vin_of (n := 10) (by omega) (by omega)) ?_
    refine go_rngA (ixa_40 w0.1) (vinlt (vin_of (n := 10) (by omega) (by omega))) (fun g9 => ?_)
    exact go_iret dX11_who_45 rfl (w0)
  refine go_bipush (v := (-2)) (pc' := 20) dX11_who_18 rfl (by decide) ?_
  exact go_iret dX11_who_20 rfl (w0)
set_option maxHeartbeats 4000000 in
set_option maxRecDepth 100000 in
theorem c_X11_print (l : Launch) (L : WL) (σ : ST) (a b c : Int32) (ix : IV σ) : CtI l L yX11_print cX11_print 4 (some .int) rm_X11_print [.ref (L.2.1 0), .int a, .int b, .int c] σ (fun _ σ2 => WX σ σ2) := by
  refine ctI_go (own := RX11) (by decide) rfl (Nat.le_of_ble_eq_true rfl) (fun F hF => ?_)
  subst hF
  have nm2 : (-2 : Int32).toInt = -2 := by decide
  have w0 : WX σ σ := WX_rfl ix
  have gl := ixi_3 w0.1
  have gp := ixi_2 w0.1
  refine go_aload_n (i := 0) (pc' := 1) dX11_print_0 rfl rfl rfl ?_
  refine go_iload_n (i := 1) (pc' := 2) dX11_print_1 rfl rfl rfl ?_
  refine go_iload_n (i := 2) (pc' := 3) dX11_print_2 rfl rfl rfl ?_
  refine go_iload_n (i := 3) (pc' := 4) dX11_print_3 rfl rfl rfl ?_
  refine go_cvi (pc' := 7) lk_X11_249 (c_X11_isPrinting _ _ _ _ _ _) rfl rfl (Nat.le_of_ble_eq_true rfl) (by decide) rfl rfl rfl ⟨Nat.le_of_ble_eq_true rfl, Nat.le_of_ble_eq_true rfl⟩ ⟨rfl, rfl⟩ dX11_print_4 rfl (fun r1 σ1 h1 => ?_)
  obtain ⟨e1, h1⟩ := h1
  have e1 := e1.symm
  subst e1
  refine go_neB (tgt := 13) (pc' := 10) h1 dX11_print_7 rfl (by decide) (fun c2 => ?_) (fun c2 => ?_)
  · refine go_aload_n (i := 0) (pc' := 14) dX11_print_13 rfl rfl rfl ?_
    refine go_iload_n (i := 1) (pc' := 15) dX11_print_14 rfl rfl rfl ?_
    refine go_iload_n (i := 2) (pc' := 16) dX11_print_15 rfl rfl rfl ?_
    refine go_iload_n (i := 3) (pc' := 17) dX11_print_16 rfl rfl rfl ?_
    refine go_cvv (pc' := 20) lk_X11_252 (c_X11_printText _ _ _ _ _ _ (by omega) w0.1) rfl rfl (Nat.le_of_ble_eq_true rfl) (by decide) rfl rfl rfl ⟨Nat.le_of_ble_eq_true rfl, Nat.le_of_ble_eq_true rfl⟩ ⟨rfl, rfl⟩ dX11_print_17 rfl (fun σ3 h3 => ?_)
    have w3 := WX_trans w0 h3
    refine go_aload_n (i := 0) (pc' := 21) dX11_print_20 rfl rfl rfl ?_
    refine gf_0_printer (pc' := 24) dX11_print_21 rfl fl_X11_61 ?_
    refine gf_8_size (pc' := 27) dX11_print_24 rfl fl_X11_256 ?_
    have g4 := ixi_14 w3.1
    exact go_iret dX11_print_27 rfl (w3)
  refine go_bipush (v := (-2)) (pc' := 12) dX11_print_10 rfl (by decide) ?_
  exact go_iret dX11_print_12 rfl (w0)
set_option maxHeartbeats 4000000 in
set_option maxRecDepth 100000 in
theorem c_X11_printed (l : Launch) (L : WL) (σ : ST) (a b c d : Int32) (ix : IV σ) : CtI l L yX11_printed cX11_printed 5 (some .int) rm_X11_printed [.ref (L.2.1 0), .int a, .int b, .int c, .int d] σ (fun _ σ2 => WX σ σ2) := by
  refine ctI_go (own := RX11) (by decide) rfl (Nat.le_of_ble_eq_true rfl) (fun F hF => ?_)
  subst hF
  have nm2 : (-2 : Int32).toInt = -2 := by decide
  have nm1 : (-1 : Int32).toInt = -1 := by decide
  have n255 : (255 : Int32).toInt = 255 := by decide
  have w0 : WX σ σ := WX_rfl ix
  have gl := ixi_3 w0.1
  have gp := ixi_2 w0.1
  refine go_aload_n (i := 0) (pc' := 1) dX11_printed_0 rfl rfl rfl ?_
  refine go_iload_n (i := 1) (pc' := 2) dX11_printed_1 rfl rfl rfl ?_
  refine go_iload_n (i := 2) (pc' := 3) dX11_printed_2 rfl rfl rfl ?_
  refine go_iload_n (i := 3) (pc' := 4) dX11_printed_3 rfl rfl rfl ?_
  refine go_cvi (pc' := 7) lk_X11_249 (c_X11_isPrinting _ _ _ _ _ _) rfl rfl (Nat.le_of_ble_eq_true rfl) (by decide) rfl rfl rfl ⟨Nat.le_of_ble_eq_true rfl, Nat.le_of_ble_eq_true rfl⟩ ⟨rfl, rfl⟩ dX11_printed_4 rfl (fun r1 σ1 h1 => ?_)
  obtain ⟨e1, h1⟩ := h1
  have e1 := e1.symm
  subst e1
  refine go_neB (tgt := 13) (pc' := 10) h1 dX11_printed_7 rfl (by decide) (fun c2 => ?_) (fun c2 => ?_)
  · refine go_aload_n (i := 0) (pc' := 14) dX11_printed_13 rfl rfl rfl ?_
    refine go_iload_n (i := 1) (pc' := 15) dX11_printed_14 rfl rfl rfl ?_
    refine go_iload_n (i := 2) (pc' := 16) dX11_printed_15 rfl rfl rfl ?_
    refine go_iload_n (i := 3) (pc' := 17) dX11_printed_16 rfl rfl rfl ?_
    refine go_cvv (pc' := 20) lk_X11_252 (c_X11_printText _ _ _ _ _ _ (by omega) w0.1) rfl rfl (Nat.le_of_ble_eq_true rfl) (by decide) rfl rfl rfl ⟨Nat.le_of_ble_eq_true rfl, Nat.le_of_ble_eq_true rfl⟩ ⟨rfl, rfl⟩ dX11_printed_17 rfl (fun σ3 h3 => ?_)
    have w3 := WX_trans w0 h3
    refine go_iload (pc' := 22) dX11_printed_20 rfl rfl ?_
    refine gz_if_lt (tgt := 54) (pc' := 25) dX11_printed_22 rfl (by decide) (fun c4 => ?_) (fun c4 => ?_)
    · refine go_iconst (v := (-1)) (pc' := 55) dX11_printed_54 rfl (by decide) ?_
      exact go_iret dX11_printed_55 rfl (w3)
    refine go_iload (pc' := 27) dX11_printed_25 rfl rfl ?_
    refine go_aload_n (i := 0) (pc' := 28) dX11_printed_27 rfl rfl rfl ?_
    refine gf_0_printer (pc' := 31) dX11_printed_28 rfl fl_X11_61 ?_
    refine gf_8_size (pc' := 34) dX11_printed_31 rfl fl_X11_256 ?_
    have g5 := ixi_14 w3.1
    refine gz_icmp_ge (tgt := 54) (pc' := 37) dX11_printed_34 rfl (by decide) (fun c6 => ?_) (fun c6 => ?_)
    · refine go_iconst (v := (-1)) (pc' := 55) dX11_printed_54 rfl (by decide) ?_
      exact go_iret dX11_printed_55 rfl (w3)
    refine go_aload_n (i := 0) (pc' := 38) dX11_printed_37 rfl rfl rfl ?_
    refine gf_0_printer (pc' := 41) dX11_printed_38 rfl fl_X11_61 ?_
    refine gf_8_bytes (pc' := 44) dX11_printed_41 rfl fl_X11_257 ?_
    refine go_iload (pc' := 46) dX11_printed_44 rfl rfl ?_
    refine go_bald (pc' := 47) dX11_printed_46 rfl (by decide) (by decide) rfl (vin_of (n := 160) (by omega) (by omega)) ?_
    refine go_rngA (ixa_45 w3.1) (vinlt (vin_of (n := 160) (by omega) (by omega))) (fun g7 => ?_)
    refine go_sipush (v := 255) (pc' := 50) dX11_printed_47 rfl (by decide) ?_
    refine go_iand (pc' := 51) dX11_printed_50 rfl ?_
    refine go_goto (tgt := 55) dX11_printed_51 (by decide) ?_
    exact go_iret dX11_printed_55 rfl (w3)
  refine go_bipush (v := (-2)) (pc' := 12) dX11_printed_10 rfl (by decide) ?_
  exact go_iret dX11_printed_12 rfl (w0)
set_option maxHeartbeats 4000000 in
set_option maxRecDepth 100000 in
theorem c_X11_words (l : Launch) (L : WL) (σ : ST) (a : Int32) (ix : IV σ) : CtI l L yX11_words cX11_words 2 (some .int) rm_X11_words [.ref (L.2.1 0), .int a] σ (fun _ σ2 => WX σ σ2) := by
  refine ctI_go (own := RX11) (by decide) rfl (Nat.le_of_ble_eq_true rfl) (fun F hF => ?_)
  subst hF
  have nm2 : (-2 : Int32).toInt = -2 := by decide
  have w0 : WX σ σ := WX_rfl ix
  have gl := ixi_3 w0.1
  have gp := ixi_2 w0.1
  refine go_aload_n (i := 0) (pc' := 1) dX11_words_0 rfl rfl rfl ?_
  refine gf_0_letters (pc' := 4) dX11_words_1 rfl fl_X11_19 ?_
  refine go_iload_n (i := 1) (pc' := 5) dX11_words_4 rfl rfl rfl ?_
  refine go_cvi (pc' := 8) lk_X11_130 (c_X2_has _ _ _ _) rfl rfl (Nat.le_of_ble_eq_true rfl) (by decide) rfl rfl rfl ⟨Nat.le_of_ble_eq_true rfl, Nat.le_of_ble_eq_true rfl⟩ ⟨rfl, rfl⟩ dX11_words_5 rfl (fun r1 σ1 h1 => ?_)
  obtain ⟨e1, h1⟩ := h1
  have e1 := e1.symm
  subst e1
  refine go_neB (tgt := 14) (pc' := 11) h1 dX11_words_8 rfl (by decide) (fun c2 => ?_) (fun c2 => ?_)
  · refine go_aload_n (i := 0) (pc' := 15) dX11_words_14 rfl rfl rfl ?_
    refine go_iload_n (i := 1) (pc' := 16) dX11_words_15 rfl rfl rfl ?_
    refine go_aload_n (i := 0) (pc' := 17) dX11_words_16 rfl rfl rfl ?_
    refine gf_0_someWords (pc' := 20) dX11_words_17 rfl fl_X11_68 ?_
    refine go_cvv (pc' := 23) lk_X11_258 (c_X11_readWords_9 _ _ _ _ (by omega) w0.1) rfl rfl (Nat.le_of_ble_eq_true rfl) (by decide) rfl rfl rfl ⟨Nat.le_of_ble_eq_true rfl, Nat.le_of_ble_eq_true rfl⟩ ⟨rfl, rfl⟩ dX11_words_20 rfl (fun σ3 h3 => ?_)
    have w3 := WX_trans w0 h3
    refine go_aload_n (i := 0) (pc' := 24) dX11_words_23 rfl rfl rfl ?_
    refine gf_0_someWords (pc' := 27) dX11_words_24 rfl fl_X11_68 ?_
    refine gf_9_size (pc' := 30) dX11_words_27 rfl fl_X11_262 ?_
    have g4 := ixi_15 w3.1
    exact go_iret dX11_words_30 rfl (w3)
  refine go_bipush (v := (-2)) (pc' := 13) dX11_words_11 rfl (by decide) ?_
  exact go_iret dX11_words_13 rfl (w0)
set_option maxHeartbeats 4000000 in
set_option maxRecDepth 100000 in
theorem c_X11_differ (l : Launch) (L : WL) (σ : ST) (a b : Int32) (ix : IV σ) : CtI l L yX11_differ cX11_differ 3 (some .int) rm_X11_differ [.ref (L.2.1 0), .int a, .int b] σ (fun _ σ2 => WX σ σ2) := by
  refine ctI_go (own := RX11) (by decide) rfl (Nat.le_of_ble_eq_true rfl) (fun F hF => ?_)
  subst hF
  have nm2 : (-2 : Int32).toInt = -2 := by decide
  have w0 : WX σ σ := WX_rfl ix
  have gl := ixi_3 w0.1
  have gp := ixi_2 w0.1
  refine go_aload_n (i := 0) (pc' := 1) dX11_differ_0 rfl rfl rfl ?_
  refine gf_0_letters (pc' := 4) dX11_differ_1 rfl fl_X11_19 ?_
  refine go_iload_n (i := 1) (pc' := 5) dX11_differ_4 rfl rfl rfl ?_
  refine go_cvi (pc' := 8) lk_X11_130 (c_X2_has _ _ _ _) rfl rfl (Nat.le_of_ble_eq_true rfl) (by decide) rfl rfl rfl ⟨Nat.le_of_ble_eq_true rfl, Nat.le_of_ble_eq_true rfl⟩ ⟨rfl, rfl⟩ dX11_differ_5 rfl (fun r1 σ1 h1 => ?_)
  obtain ⟨e1, h1⟩ := h1
  have e1 := e1.symm
  subst e1
  refine go_eqB (tgt := 22) (pc' := 11) h1 dX11_differ_8 rfl (by decide) (fun c2 => ?_) (fun c2 => ?_)
  · refine go_bipush (v := (-2)) (pc' := 24) dX11_differ_22 rfl (by decide) ?_
    exact go_iret dX11_differ_24 rfl (w0)
  refine go_aload_n (i := 0) (pc' := 12) dX11_differ_11 rfl rfl rfl ?_
  refine gf_0_letters (pc' := 15) dX11_differ_12 rfl fl_X11_19 ?_
  refine go_iload_n (i := 2) (pc' := 16) dX11_differ_15 rfl rfl rfl ?_
  refine go_cvi (pc' := 19) lk_X11_130 (c_X2_has _ _ _ _) rfl rfl (Nat.le_of_ble_eq_true rfl) (by decide) rfl rfl rfl ⟨Nat.le_of_ble_eq_true rfl, Nat.le_of_ble_eq_true rfl⟩ ⟨rfl, rfl⟩ dX11_differ_16 rfl (fun r3 σ3 h3 => ?_)
  obtain ⟨e3, h3⟩ := h3
  have e3 := e3.symm
  subst e3
  refine go_neB (tgt := 25) (pc' := 22) h3 dX11_differ_19 rfl (by decide) (fun c4 => ?_) (fun c4 => ?_)
  · refine go_aload_n (i := 0) (pc' := 26) dX11_differ_25 rfl rfl rfl ?_
    refine go_iload_n (i := 1) (pc' := 27) dX11_differ_26 rfl rfl rfl ?_
    refine go_aload_n (i := 0) (pc' := 28) dX11_differ_27 rfl rfl rfl ?_
    refine gf_0_someWords (pc' := 31) dX11_differ_28 rfl fl_X11_68 ?_
    refine go_cvv (pc' := 34) lk_X11_258 (c_X11_readWords_9 _ _ _ _ (by omega) w0.1) rfl rfl (Nat.le_of_ble_eq_true rfl) (by decide) rfl rfl rfl ⟨Nat.le_of_ble_eq_true rfl, Nat.le_of_ble_eq_true rfl⟩ ⟨rfl, rfl⟩ dX11_differ_31 rfl (fun σ5 h5 => ?_)
    have w5 := WX_trans w0 h5
    refine go_aload_n (i := 0) (pc' := 35) dX11_differ_34 rfl rfl rfl ?_
    refine go_iload_n (i := 2) (pc' := 36) dX11_differ_35 rfl rfl rfl ?_
    refine go_aload_n (i := 0) (pc' := 37) dX11_differ_36 rfl rfl rfl ?_
    refine gf_0_otherWords (pc' := 40) dX11_differ_37 rfl fl_X11_72 ?_
    refine go_cvv (pc' := 43) lk_X11_258 (c_X11_readWords_10 _ _ _ _ (by omega) w5.1) rfl rfl (Nat.le_of_ble_eq_true rfl) (by decide) rfl rfl rfl ⟨Nat.le_of_ble_eq_true rfl, Nat.le_of_ble_eq_true rfl⟩ ⟨rfl, rfl⟩ dX11_differ_40 rfl (fun σ6 h6 => ?_)
    have w6 := WX_trans w5 h6
    refine go_aload_n (i := 0) (pc' := 44) dX11_differ_43 rfl rfl rfl ?_
    refine gf_0_someWords (pc' := 47) dX11_differ_44 rfl fl_X11_68 ?_
    refine go_aload_n (i := 0) (pc' := 48) dX11_differ_47 rfl rfl rfl ?_
    refine gf_0_otherWords (pc' := 51) dX11_differ_48 rfl fl_X11_72 ?_
    refine go_cvi (pc' := 54) lk_X11_263 (c_X10_stepsTo _ _ _ w6.1) rfl rfl (Nat.le_of_ble_eq_true rfl) (by decide) rfl rfl rfl ⟨Nat.le_of_ble_eq_true rfl, Nat.le_of_ble_eq_true rfl⟩ ⟨rfl, rfl⟩ dX11_differ_51 rfl (fun r7 σ7 h7 => ?_)
    have w7 := WX_trans w6 h7
    exact go_iret dX11_differ_54 rfl (w7)
  refine go_bipush (v := (-2)) (pc' := 24) dX11_differ_22 rfl (by decide) ?_
  exact go_iret dX11_differ_24 rfl (w0)
set_option maxHeartbeats 4000000 in
set_option maxRecDepth 100000 in
theorem c_X11_note (l : Launch) (L : WL) (σ : ST) (a b : Int32) (ix : IV σ) : CtI l L yX11_note cX11_note 6 (some .int) rm_X11_note [.ref (L.2.1 0), .int a, .int b] σ (fun _ σ2 => WX σ σ2) := by
  refine ctI_go (own := RX11) (by decide) rfl (Nat.le_of_ble_eq_true rfl) (fun F hF => ?_)
  subst hF
  have nm2 : (-2 : Int32).toInt = -2 := by decide
  have nm1 : (-1 : Int32).toInt = -1 := by decide
  have n0 : (0 : Int32).toInt = 0 := by decide
  have n4 : (4 : Int32).toInt = 4 := by decide
  have n255 : (255 : Int32).toInt = 255 := by decide
  have w0 : WX σ σ := WX_rfl ix
  have gl := ixi_3 w0.1
  have gp := ixi_2 w0.1
  refine go_aload_n (i := 0) (pc' := 1) dX11_note_0 rfl rfl rfl ?_
  refine gf_0_letters (pc' := 4) dX11_note_1 rfl fl_X11_19 ?_
  refine go_iload_n (i := 1) (pc' := 5) dX11_note_4 rfl rfl rfl ?_
  refine go_cvi (pc' := 8) lk_X11_130 (c_X2_has _ _ _ _) rfl rfl (Nat.le_of_ble_eq_true rfl) (by decide) rfl rfl rfl ⟨Nat.le_of_ble_eq_true rfl, Nat.le_of_ble_eq_true rfl⟩ ⟨rfl, rfl⟩ dX11_note_5 rfl (fun r1 σ1 h1 => ?_)
  obtain ⟨e1, h1⟩ := h1
  have e1 := e1.symm
  subst e1
  refine go_neB (tgt := 14) (pc' := 11) h1 dX11_note_8 rfl (by decide) (fun c2 => ?_) (fun c2 => ?_)
  · refine go_aload_n (i := 0) (pc' := 15) dX11_note_14 rfl rfl rfl ?_
    refine gf_0_letters (pc' := 18) dX11_note_15 rfl fl_X11_19 ?_
    refine gf_2_texts (pc' := 21) dX11_note_18 rfl fl_X11_267 ?_
    refine go_iload_n (i := 1) (pc' := 22) dX11_note_21 rfl rfl rfl ?_
    have p3 : (a).toNatClampNeg < 12 := vinlt (vin_of (n := 12) (by omega) (by omega))
    refine go_aald (b := 56) (pc' := 23) dX11_note_22 rfl (by decide) (by decide) ⟨_, rfl⟩ (vin_of (n := 12) (by omega) (by omega)) rfl ?_
    refine go_astore_n (i := 3) (pc' := 24) dX11_note_23 rfl rfl (by decide) ?_
    refine go_iconst (v := 0) (pc' := 25) dX11_note_24 rfl (by decide) ?_
    refine go_istore (pc' := 27) dX11_note_25 rfl (by decide) ?_
    refine go_aload_n (i := 0) (pc' := 28) dX11_note_27 rfl rfl rfl ?_
    refine gf_0_reader (pc' := 31) dX11_note_28 rfl fl_X11_54 ?_
    refine go_cvv (pc' := 34) lk_X11_271 (c_X3_begin _ _ _ w0.1) rfl rfl (Nat.le_of_ble_eq_true rfl) (by decide) rfl rfl rfl ⟨Nat.le_of_ble_eq_true rfl, Nat.le_of_ble_eq_true rfl⟩ ⟨rfl, rfl⟩ dX11_note_31 rfl (fun σ4 h4 => ?_)
    have w4 := WX_trans w0 h4
    refine go_iconst (v := 0) (pc' := 35) dX11_note_34 rfl (by decide) ?_
    refine go_istore (pc' := 37) dX11_note_35 rfl (by decide) ?_
    have loop37_5 : ∀ (dd5 : Nat) (σ5 : ST) (x4_5 : Int32) (x5_5 : Int32), WX σ σ5 → (0 ≤ (x5_5).toInt ∧ (x5_5).toInt ≤ 160) → (160 - (x5_5).toInt).toNat = dd5 → Go F L RX11 cX11_note 6 rm_X11_note (some .int) (RI F L (fun _ σ2 => WX σ σ2)) σ5 37 [(0, .ref (L.2.1 0)), (1, .int a), (2, .int b), (3, .ref (L.2.1 (56 + (a).toNatClampNeg))), (4, .int x4_5), (5, .int x5_5)] [] := by
      intro dd5
      induction dd5 using Nat.strongRecOn with
      | _ dd5 ih5 =>
        intro σ5 x4_5 x5_5 w5 h_5 hm_5
        refine go_iload (pc' := 39) dX11_note_37 rfl rfl ?_
        refine go_aload_n (i := 0) (pc' := 40) dX11_note_39 rfl rfl rfl ?_
        refine gf_0_letters (pc' := 43) dX11_note_40 rfl fl_X11_19 ?_
        refine gf_2_sizes (pc' := 46) dX11_note_43 rfl fl_X11_155 ?_
        refine go_iload_n (i := 1) (pc' := 47) dX11_note_46 rfl rfl rfl ?_
        refine go_iald (pc' := 48) dX11_note_47 rfl (by decide) (by decide) rfl (vin_of (n := 12) (by omega) (by omega)) ?_
        refine go_rngA (ixa_32 w5.1) (vinlt (vin_of (n := 12) (by omega) (by omega))) (fun g6 => ?_)
        refine gz_icmp_ge (tgt := 95) (pc' := 51) dX11_note_48 rfl (by decide) (fun c7 => ?_) (fun c7 => ?_)
        · refine go_iconst (v := (-1)) (pc' := 96) dX11_note_95 rfl (by decide) ?_
          exact go_iret dX11_note_96 rfl (w5)
        refine go_aload_n (i := 0) (pc' := 52) dX11_note_51 rfl rfl rfl ?_
        refine gf_0_reader (pc' := 55) dX11_note_52 rfl fl_X11_54 ?_
        refine go_aload_n (i := 3) (pc' := 56) dX11_note_55 rfl rfl rfl ?_
        refine go_iload (pc' := 58) dX11_note_56 rfl rfl ?_
        refine go_bald (pc' := 59) dX11_note_58 rfl (by omega) (by omega) (rowt_56 p3) (by rw [rowl_56 p3]; exact (vin_of (n := 160) (by omega) (by omega))) ?_
        refine go_rngA (ixr_56 w5.1 p3) (vinlt (vin_of (n := 160) (by omega) (by omega))) (fun g8 => ?_)
        refine go_sipush (v := 255) (pc' := 62) dX11_note_59 rfl (by decide) ?_
        refine go_iand (pc' := 63) dX11_note_62 rfl ?_
        refine go_iload (pc' := 65) dX11_note_63 rfl rfl ?_
        refine go_cvi (pc' := 68) lk_X11_274 (c_X3_take _ _ _ _ _ w5.1) rfl rfl (Nat.le_of_ble_eq_true rfl) (by decide) rfl rfl rfl ⟨Nat.le_of_ble_eq_true rfl, Nat.le_of_ble_eq_true rfl⟩ ⟨rfl, rfl⟩ dX11_note_65 rfl (fun r9 σ9 h9 => ?_)
        have w9 := WX_trans w5 h9
        refine go_iconst (v := 4) (pc' := 69) dX11_note_68 rfl (by decide) ?_
        refine gz_icmp_ne (tgt := 89) (pc' := 72) dX11_note_69 rfl (by decide) (fun c10 => ?_) (fun c10 => ?_)
        · refine gz_iinc (c := 1) (pc' := 92) dX11_note_89 rfl rfl (by decide) (by decide) (by decide) (by omega) (fun v11 h11 e11 => ?_)
          refine go_goto (tgt := 37) dX11_note_92 (by decide) ?_
          exact go_lv (lv' := [(0, .ref (L.2.1 0)), (1, .int a), (2, .int b), (3, .ref (L.2.1 (56 + (a).toNatClampNeg))), (4, .int x4_5), (5, .int v11)]) rfl (ih5 _ (by omega) σ9 x4_5 v11 w9 (by omega) rfl)
        refine go_iload (pc' := 74) dX11_note_72 rfl rfl ?_
        refine go_iload_n (i := 2) (pc' := 75) dX11_note_74 rfl rfl rfl ?_
        refine gz_icmp_ne (tgt := 86) (pc' := 78) dX11_note_75 rfl (by decide) (fun c12 => ?_) (fun c12 => ?_)
        · refine go_iinc (c := 1) (pc' := 89) dX11_note_86 rfl rfl (by decide) (by decide) ?_
          refine gz_iinc (c := 1) (pc' := 92) dX11_note_89 rfl rfl (by decide) (by decide) (by decide) (by omega) (fun v14 h14 e14 => ?_)
          refine go_goto (tgt := 37) dX11_note_92 (by decide) ?_
          exact go_lv (lv' := [(0, .ref (L.2.1 0)), (1, .int a), (2, .int b), (3, .ref (L.2.1 (56 + (a).toNatClampNeg))), (4, .int (x4_5 + 1)), (5, .int v14)]) rfl (ih5 _ (by omega) σ9 (x4_5 + 1) v14 w9 (by omega) rfl)
        refine go_aload_n (i := 0) (pc' := 79) dX11_note_78 rfl rfl rfl ?_
        refine gf_0_reader (pc' := 82) dX11_note_79 rfl fl_X11_54 ?_
        refine gf_7_number (pc' := 85) dX11_note_82 rfl fl_X11_277 ?_
        exact go_iret dX11_note_85 rfl (w9)
    exact go_lv (lv' := [(0, .ref (L.2.1 0)), (1, .int a), (2, .int b), (3, .ref (L.2.1 (56 + (a).toNatClampNeg))), (4, .int (0 : Int32)), (5, .int (0 : Int32))]) rfl (loop37_5 _ σ4 (0 : Int32) (0 : Int32) w4 (by omega) rfl)
  refine go_bipush (v := (-2)) (pc' := 13) dX11_note_11 rfl (by decide) ?_
  exact go_iret dX11_note_13 rfl (w0)
set_option maxHeartbeats 4000000 in
set_option maxRecDepth 100000 in
theorem c_X11_jumps (l : Launch) (L : WL) (σ : ST) (a : Int32) (ix : IV σ) : CtI l L yX11_jumps cX11_jumps 2 (some .int) rm_X11_jumps [.ref (L.2.1 0), .int a] σ (fun _ σ2 => WX σ σ2) := by
  refine ctI_go (own := RX11) (by decide) rfl (Nat.le_of_ble_eq_true rfl) (fun F hF => ?_)
  subst hF
  have nm2 : (-2 : Int32).toInt = -2 := by decide
  have nm1 : (-1 : Int32).toInt = -1 := by decide
  have w0 : WX σ σ := WX_rfl ix
  refine go_aload_n (i := 0) (pc' := 1) dX11_jumps_0 rfl rfl rfl ?_
  refine go_iload_n (i := 1) (pc' := 2) dX11_jumps_1 rfl rfl rfl ?_
  refine go_cvi (pc' := 5) lk_X11_280 (b_X11_isOrderable _ _ _ _ w0.1) rfl rfl (Nat.le_of_ble_eq_true rfl) (by decide) rfl rfl rfl ⟨Nat.le_of_ble_eq_true rfl, Nat.le_of_ble_eq_true rfl⟩ ⟨rfl, rfl⟩ dX11_jumps_2 rfl (fun r1 σ1 h1 => ?_)
  obtain ⟨e1, h1⟩ := h1
  have e1 := e1.symm
  subst e1
  refine go_neB (tgt := 11) (pc' := 8) h1 dX11_jumps_5 rfl (by decide) (fun c2 => ?_) (fun c2 => ?_)
  · refine go_aload_n (i := 0) (pc' := 12) dX11_jumps_11 rfl rfl rfl ?_
    refine go_iload_n (i := 1) (pc' := 13) dX11_jumps_12 rfl rfl rfl ?_
    refine go_cvi (pc' := 16) lk_X11_283 (c_X11_arrange _ _ _ _ w0.1) rfl rfl (Nat.le_of_ble_eq_true rfl) (by decide) rfl rfl rfl ⟨Nat.le_of_ble_eq_true rfl, Nat.le_of_ble_eq_true rfl⟩ ⟨rfl, rfl⟩ dX11_jumps_13 rfl (fun r3 σ3 h3 => ?_)
    have w3 := WX_trans w0 h3
    refine gz_if_eq (tgt := 29) (pc' := 19) dX11_jumps_16 rfl (by decide) (fun c4 => ?_) (fun c4 => ?_)
    · refine go_iconst (v := (-1)) (pc' := 30) dX11_jumps_29 rfl (by decide) ?_
      exact go_iret dX11_jumps_30 rfl (w3)
    refine go_aload_n (i := 0) (pc' := 20) dX11_jumps_19 rfl rfl rfl ?_
    refine gf_0_sequence (pc' := 23) dX11_jumps_20 rfl fl_X11_78 ?_
    refine gf_11_jumps (pc' := 26) dX11_jumps_23 rfl fl_X11_286 ?_
    refine go_goto (tgt := 30) dX11_jumps_26 (by decide) ?_
    exact go_iret dX11_jumps_30 rfl (w3)
  refine go_bipush (v := (-2)) (pc' := 10) dX11_jumps_8 rfl (by decide) ?_
  exact go_iret dX11_jumps_10 rfl (w0)
set_option maxHeartbeats 4000000 in
set_option maxRecDepth 100000 in
theorem c_X11_order (l : Launch) (L : WL) (σ : ST) (a b : Int32) (ix : IV σ) : CtI l L yX11_order cX11_order 3 (some .int) rm_X11_order [.ref (L.2.1 0), .int a, .int b] σ (fun _ σ2 => WX σ σ2) := by
  refine ctI_go (own := RX11) (by decide) rfl (Nat.le_of_ble_eq_true rfl) (fun F hF => ?_)
  subst hF
  have nm2 : (-2 : Int32).toInt = -2 := by decide
  have nm1 : (-1 : Int32).toInt = -1 := by decide
  have w0 : WX σ σ := WX_rfl ix
  refine go_aload_n (i := 0) (pc' := 1) dX11_order_0 rfl rfl rfl ?_
  refine go_iload_n (i := 1) (pc' := 2) dX11_order_1 rfl rfl rfl ?_
  refine go_cvi (pc' := 5) lk_X11_280 (b_X11_isOrderable _ _ _ _ w0.1) rfl rfl (Nat.le_of_ble_eq_true rfl) (by decide) rfl rfl rfl ⟨Nat.le_of_ble_eq_true rfl, Nat.le_of_ble_eq_true rfl⟩ ⟨rfl, rfl⟩ dX11_order_2 rfl (fun r1 σ1 h1 => ?_)
  obtain ⟨e1, h1⟩ := h1
  have e1 := e1.symm
  subst e1
  refine go_neB (tgt := 11) (pc' := 8) h1 dX11_order_5 rfl (by decide) (fun c2 => ?_) (fun c2 => ?_)
  · refine go_iload_n (i := 2) (pc' := 12) dX11_order_11 rfl rfl rfl ?_
    refine gz_if_lt (tgt := 43) (pc' := 15) dX11_order_12 rfl (by decide) (fun c3 => ?_) (fun c3 => ?_)
    · refine go_iconst (v := (-1)) (pc' := 44) dX11_order_43 rfl (by decide) ?_
      exact go_iret dX11_order_44 rfl (w0)
    refine go_iload_n (i := 2) (pc' := 16) dX11_order_15 rfl rfl rfl ?_
    refine go_iload_n (i := 1) (pc' := 17) dX11_order_16 rfl rfl rfl ?_
    refine go_csi (pc' := 20) ls_X11_219 (b_bitCount _ _ _ _) rfl rfl (Nat.le_of_ble_eq_true rfl) ⟨Nat.le_of_ble_eq_true rfl, Nat.le_of_ble_eq_true rfl⟩ ⟨rfl, rfl⟩ dX11_order_17 rfl (fun r4 σ4 h4 => ?_)
    obtain ⟨e4, h4⟩ := h4
    have e4 := e4.symm
    subst e4
    subst h4
    refine gz_icmp_ge (tgt := 43) (pc' := 23) dX11_order_20 rfl (by decide) (fun c5 => ?_) (fun c5 => ?_)
    · refine go_iconst (v := (-1)) (pc' := 44) dX11_order_43 rfl (by decide) ?_
      exact go_iret dX11_order_44 rfl (w0)
    refine go_aload_n (i := 0) (pc' := 24) dX11_order_23 rfl rfl rfl ?_
    refine go_iload_n (i := 1) (pc' := 25) dX11_order_24 rfl rfl rfl ?_
    refine go_cvi (pc' := 28) lk_X11_283 (c_X11_arrange _ _ _ _ w0.1) rfl rfl (Nat.le_of_ble_eq_true rfl) (by decide) rfl rfl rfl ⟨Nat.le_of_ble_eq_true rfl, Nat.le_of_ble_eq_true rfl⟩ ⟨rfl, rfl⟩ dX11_order_25 rfl (fun r6 σ6 h6 => ?_)
    have w6 := WX_trans w0 h6
    refine gz_if_eq (tgt := 43) (pc' := 31) dX11_order_28 rfl (by decide) (fun c7 => ?_) (fun c7 => ?_)
    · refine go_iconst (v := (-1)) (pc' := 44) dX11_order_43 rfl (by decide) ?_
      exact go_iret dX11_order_44 rfl (w6)
    refine go_aload_n (i := 0) (pc' := 32) dX11_order_31 rfl rfl rfl ?_
    refine gf_0_sequence (pc' := 35) dX11_order_32 rfl fl_X11_78 ?_
    refine gf_11_row (pc' := 38) dX11_order_35 rfl fl_X11_289 ?_
    refine go_iload_n (i := 2) (pc' := 39) dX11_order_38 rfl rfl rfl ?_
    refine go_iald (pc' := 40) dX11_order_39 rfl (by decide) (by decide) rfl (vin_of (n := 8) (by omega) (by omega)) ?_
    refine go_rngA (ixa_54 w6.1) (vinlt (vin_of (n := 8) (by omega) (by omega))) (fun g8 => ?_)
    refine go_goto (tgt := 44) dX11_order_40 (by decide) ?_
    exact go_iret dX11_order_44 rfl (w6)
  refine go_bipush (v := (-2)) (pc' := 10) dX11_order_8 rfl (by decide) ?_
  exact go_iret dX11_order_10 rfl (w0)
set_option maxHeartbeats 4000000 in
set_option maxRecDepth 100000 in
theorem c_X11_count (l : Launch) (L : WL) (σ : ST) (x : Int32) (ix : IV σ) : CtI l L yX11_count cX11_count 2 (some .int) rm_X11_count [.ref (L.2.1 0), .int x] σ (fun _ σ2 => σ2 = σ) := by
  refine ctI_go (own := RX11) (by decide) rfl (Nat.le_of_ble_eq_true rfl) (fun F hF => ?_)
  subst hF
  have nm2 : (-2 : Int32).toInt = -2 := by decide
  have w0 : WX σ σ := WX_rfl ix
  refine go_iload_n (i := 1) (pc' := 1) dX11_count_0 rfl rfl rfl ?_
  have hx1 : x = 0 ∨ x = 1 ∨ x = 2 ∨ x = 3 ∨ x = 4 ∨ x = 5 ∨ ¬ (0 ≤ x.toInt ∧ x.toInt ≤ 5) := by
    simp only [← Int32.toInt_inj, Int32.reduceToInt]
    omega
  rcases hx1 with z1 | z1 | z1 | z1 | z1 | z1 | z1
  · refine go_swIn (tgt := 40) dX11_count_1 (by rw [z1]; decide) (by rw [z1]; decide) (by rw [z1]; rfl) (by decide) ?_
    refine go_aload_n (i := 0) (pc' := 41) dX11_count_40 rfl rfl rfl ?_
    refine gf_0_people (pc' := 44) dX11_count_41 rfl fl_X11_10 ?_
    refine gf_1_size (pc' := 47) dX11_count_44 rfl fl_X11_292 ?_
    have g2 := ixi_2 w0.1
    exact go_iret dX11_count_47 rfl (rfl)
  · refine go_swIn (tgt := 48) dX11_count_1 (by rw [z1]; decide) (by rw [z1]; decide) (by rw [z1]; rfl) (by decide) ?_
    refine go_aload_n (i := 0) (pc' := 49) dX11_count_48 rfl rfl rfl ?_
    refine gf_0_letters (pc' := 52) dX11_count_49 rfl fl_X11_19 ?_
    refine gf_2_size (pc' := 55) dX11_count_52 rfl fl_X11_185 ?_
    have g3 := ixi_3 w0.1
    exact go_iret dX11_count_55 rfl (rfl)
  · refine go_swIn (tgt := 56) dX11_count_1 (by rw [z1]; decide) (by rw [z1]; decide) (by rw [z1]; rfl) (by decide) ?_
    refine go_aload_n (i := 0) (pc' := 57) dX11_count_56 rfl rfl rfl ?_
    refine gf_0_calendar (pc' := 60) dX11_count_57 rfl fl_X11_26 ?_
    refine gf_3_size (pc' := 63) dX11_count_60 rfl fl_X11_293 ?_
    have g4 := ixi_4 w0.1
    exact go_iret dX11_count_63 rfl (rfl)
  · refine go_swIn (tgt := 64) dX11_count_1 (by rw [z1]; decide) (by rw [z1]; decide) (by rw [z1]; rfl) (by decide) ?_
    refine go_aload_n (i := 0) (pc' := 65) dX11_count_64 rfl rfl rfl ?_
    refine gf_0_letters (pc' := 68) dX11_count_65 rfl fl_X11_19 ?_
    refine go_cvi (pc' := 71) lk_X11_294 (c_X2_stillLost _ _ _ w0.1) rfl rfl (Nat.le_of_ble_eq_true rfl) (by decide) rfl rfl rfl ⟨Nat.le_of_ble_eq_true rfl, Nat.le_of_ble_eq_true rfl⟩ ⟨rfl, rfl⟩ dX11_count_68 rfl (fun r5 σ5 h5 => ?_)
    have h5 := h5.symm
    subst h5
    exact go_iret dX11_count_71 rfl (rfl)
  · refine go_swIn (tgt := 72) dX11_count_1 (by rw [z1]; decide) (by rw [z1]; decide) (by rw [z1]; rfl) (by decide) ?_
    refine go_aload_n (i := 0) (pc' := 73) dX11_count_72 rfl rfl rfl ?_
    refine gf_0_tape (pc' := 76) dX11_count_73 rfl fl_X11_47 ?_
    refine gf_6_size (pc' := 79) dX11_count_76 rfl fl_X11_234 ?_
    have g6 := ixi_6 w0.1
    exact go_iret dX11_count_79 rfl (rfl)
  · refine go_swIn (tgt := 80) dX11_count_1 (by rw [z1]; decide) (by rw [z1]; decide) (by rw [z1]; rfl) (by decide) ?_
    refine go_aload_n (i := 0) (pc' := 81) dX11_count_80 rfl rfl rfl ?_
    refine gf_0_hands (pc' := 84) dX11_count_81 rfl fl_X11_40 ?_
    refine gf_5_size (pc' := 87) dX11_count_84 rfl fl_X11_297 ?_
    have g7 := ixi_5 w0.1
    exact go_iret dX11_count_87 rfl (rfl)
  · refine go_swOut (tgt := 88) dX11_count_1 (by omega) (by decide) ?_
    refine go_bipush (v := (-2)) (pc' := 90) dX11_count_88 rfl (by decide) ?_
    exact go_iret dX11_count_90 rfl (rfl)
set_option maxHeartbeats 4000000 in
set_option maxRecDepth 100000 in
theorem c_X11_told (l : Launch) (L : WL) (σ : ST) (a b : Int32) (ix : IV σ) : CtI l L yX11_told cX11_told 3 (some .int) rm_X11_told [.ref (L.2.1 0), .int a, .int b] σ (fun _ σ2 => σ2 = σ) := by
  refine ctI_go (own := RX11) (by decide) rfl (Nat.le_of_ble_eq_true rfl) (fun F hF => ?_)
  subst hF
  have nm2 : (-2 : Int32).toInt = -2 := by decide
  have w0 : WX σ σ := WX_rfl ix
  have gl := ixi_3 w0.1
  have gp := ixi_2 w0.1
  refine go_aload_n (i := 0) (pc' := 1) dX11_told_0 rfl rfl rfl ?_
  refine gf_0_letters (pc' := 4) dX11_told_1 rfl fl_X11_19 ?_
  refine go_iload_n (i := 1) (pc' := 5) dX11_told_4 rfl rfl rfl ?_
  refine go_cvi (pc' := 8) lk_X11_130 (c_X2_has _ _ _ _) rfl rfl (Nat.le_of_ble_eq_true rfl) (by decide) rfl rfl rfl ⟨Nat.le_of_ble_eq_true rfl, Nat.le_of_ble_eq_true rfl⟩ ⟨rfl, rfl⟩ dX11_told_5 rfl (fun r1 σ1 h1 => ?_)
  obtain ⟨e1, h1⟩ := h1
  have e1 := e1.symm
  subst e1
  refine go_neB (tgt := 14) (pc' := 11) h1 dX11_told_8 rfl (by decide) (fun c2 => ?_) (fun c2 => ?_)
  · refine go_iload_n (i := 2) (pc' := 15) dX11_told_14 rfl rfl rfl ?_
    have hx3 : b = 0 ∨ b = 1 ∨ b = 2 ∨ b = 3 ∨ b = 4 ∨ b = 5 ∨ b = 6 ∨ b = 7 ∨ b = 8 ∨ ¬ (0 ≤ b.toInt ∧ b.toInt ≤ 8) := by
      simp only [← Int32.toInt_inj, Int32.reduceToInt]
      omega
    rcases hx3 with z3 | z3 | z3 | z3 | z3 | z3 | z3 | z3 | z3 | z3
    · refine go_swIn (tgt := 64) dX11_told_15 (by rw [z3]; decide) (by rw [z3]; decide) (by rw [z3]; rfl) (by decide) ?_
      refine go_aload_n (i := 0) (pc' := 65) dX11_told_64 rfl rfl rfl ?_
      refine gf_0_letters (pc' := 68) dX11_told_65 rfl fl_X11_19 ?_
      refine gf_2_kinds (pc' := 71) dX11_told_68 rfl fl_X11_131 ?_
      refine go_iload_n (i := 1) (pc' := 72) dX11_told_71 rfl rfl rfl ?_
      refine go_iald (pc' := 73) dX11_told_72 rfl (by decide) (by decide) rfl (vin_of (n := 12) (by omega) (by omega)) ?_
      refine go_rngA (ixa_24 w0.1) (vinlt (vin_of (n := 12) (by omega) (by omega))) (fun g4 => ?_)
      exact go_iret dX11_told_73 rfl (rfl)
    · refine go_swIn (tgt := 74) dX11_told_15 (by rw [z3]; decide) (by rw [z3]; decide) (by rw [z3]; rfl) (by decide) ?_
      refine go_aload_n (i := 0) (pc' := 75) dX11_told_74 rfl rfl rfl ?_
      refine gf_0_letters (pc' := 78) dX11_told_75 rfl fl_X11_19 ?_
      refine gf_2_writers (pc' := 81) dX11_told_78 rfl fl_X11_134 ?_
      refine go_iload_n (i := 1) (pc' := 82) dX11_told_81 rfl rfl rfl ?_
      refine go_iald (pc' := 83) dX11_told_82 rfl (by decide) (by decide) rfl (vin_of (n := 12) (by omega) (by omega)) ?_
      refine go_rngA (ixa_25 w0.1) (vinlt (vin_of (n := 12) (by omega) (by omega))) (fun g5 => ?_)
      exact go_iret dX11_told_83 rfl (rfl)
    · refine go_swIn (tgt := 84) dX11_told_15 (by rw [z3]; decide) (by rw [z3]; decide) (by rw [z3]; rfl) (by decide) ?_
      refine go_aload_n (i := 0) (pc' := 85) dX11_told_84 rfl rfl rfl ?_
      refine gf_0_letters (pc' := 88) dX11_told_85 rfl fl_X11_19 ?_
      refine gf_2_readers (pc' := 91) dX11_told_88 rfl fl_X11_137 ?_
      refine go_iload_n (i := 1) (pc' := 92) dX11_told_91 rfl rfl rfl ?_
      refine go_iald (pc' := 93) dX11_told_92 rfl (by decide) (by decide) rfl (vin_of (n := 12) (by omega) (by omega)) ?_
      refine go_rngA (ixa_26 w0.1) (vinlt (vin_of (n := 12) (by omega) (by omega))) (fun g6 => ?_)
      exact go_iret dX11_told_93 rfl (rfl)
    · refine go_swIn (tgt := 94) dX11_told_15 (by rw [z3]; decide) (by rw [z3]; decide) (by rw [z3]; rfl) (by decide) ?_
      refine go_aload_n (i := 0) (pc' := 95) dX11_told_94 rfl rfl rfl ?_
      refine gf_0_letters (pc' := 98) dX11_told_95 rfl fl_X11_19 ?_
      refine gf_2_places (pc' := 101) dX11_told_98 rfl fl_X11_140 ?_
      refine go_iload_n (i := 1) (pc' := 102) dX11_told_101 rfl rfl rfl ?_
      refine go_iald (pc' := 103) dX11_told_102 rfl (by decide) (by decide) rfl (vin_of (n := 12) (by omega) (by omega)) ?_
      refine go_rngA (ixa_27 w0.1) (vinlt (vin_of (n := 12) (by omega) (by omega))) (fun g7 => ?_)
      exact go_iret dX11_told_103 rfl (rfl)
    · refine go_swIn (tgt := 104) dX11_told_15 (by rw [z3]; decide) (by rw [z3]; decide) (by rw [z3]; rfl) (by decide) ?_
      refine go_aload_n (i := 0) (pc' := 105) dX11_told_104 rfl rfl rfl ?_
      refine gf_0_letters (pc' := 108) dX11_told_105 rfl fl_X11_19 ?_
      refine gf_2_leasts (pc' := 111) dX11_told_108 rfl fl_X11_143 ?_
      refine go_iload_n (i := 1) (pc' := 112) dX11_told_111 rfl rfl rfl ?_
      refine go_iald (pc' := 113) dX11_told_112 rfl (by decide) (by decide) rfl (vin_of (n := 12) (by omega) (by omega)) ?_
      refine go_rngA (ixa_28 w0.1) (vinlt (vin_of (n := 12) (by omega) (by omega))) (fun g8 => ?_)
      exact go_iret dX11_told_113 rfl (rfl)
    · refine go_swIn (tgt := 114) dX11_told_15 (by rw [z3]; decide) (by rw [z3]; decide) (by rw [z3]; rfl) (by decide) ?_
      refine go_aload_n (i := 0) (pc' := 115) dX11_told_114 rfl rfl rfl ?_
      refine gf_0_letters (pc' := 118) dX11_told_115 rfl fl_X11_19 ?_
      refine gf_2_greatests (pc' := 121) dX11_told_118 rfl fl_X11_146 ?_
      refine go_iload_n (i := 1) (pc' := 122) dX11_told_121 rfl rfl rfl ?_
      refine go_iald (pc' := 123) dX11_told_122 rfl (by decide) (by decide) rfl (vin_of (n := 12) (by omega) (by omega)) ?_
      refine go_rngA (ixa_29 w0.1) (vinlt (vin_of (n := 12) (by omega) (by omega))) (fun g9 => ?_)
      exact go_iret dX11_told_123 rfl (rfl)
    · refine go_swIn (tgt := 124) dX11_told_15 (by rw [z3]; decide) (by rw [z3]; decide) (by rw [z3]; rfl) (by decide) ?_
      refine go_aload_n (i := 0) (pc' := 125) dX11_told_124 rfl rfl rfl ?_
      refine gf_0_letters (pc' := 128) dX11_told_125 rfl fl_X11_19 ?_
      refine gf_2_weekdays (pc' := 131) dX11_told_128 rfl fl_X11_149 ?_
      refine go_iload_n (i := 1) (pc' := 132) dX11_told_131 rfl rfl rfl ?_
      refine go_iald (pc' := 133) dX11_told_132 rfl (by decide) (by decide) rfl (vin_of (n := 12) (by omega) (by omega)) ?_
      refine go_rngA (ixa_30 w0.1) (vinlt (vin_of (n := 12) (by omega) (by omega))) (fun g10 => ?_)
      exact go_iret dX11_told_133 rfl (rfl)
    · refine go_swIn (tgt := 134) dX11_told_15 (by rw [z3]; decide) (by rw [z3]; decide) (by rw [z3]; rfl) (by decide) ?_
      refine go_aload_n (i := 0) (pc' := 135) dX11_told_134 rfl rfl rfl ?_
      refine gf_0_letters (pc' := 138) dX11_told_135 rfl fl_X11_19 ?_
      refine gf_2_founds (pc' := 141) dX11_told_138 rfl fl_X11_152 ?_
      refine go_iload_n (i := 1) (pc' := 142) dX11_told_141 rfl rfl rfl ?_
      refine go_iald (pc' := 143) dX11_told_142 rfl (by decide) (by decide) rfl (vin_of (n := 12) (by omega) (by omega)) ?_
      refine go_rngA (ixa_31 w0.1) (vinlt (vin_of (n := 12) (by omega) (by omega))) (fun g11 => ?_)
      exact go_iret dX11_told_143 rfl (rfl)
    · refine go_swIn (tgt := 144) dX11_told_15 (by rw [z3]; decide) (by rw [z3]; decide) (by rw [z3]; rfl) (by decide) ?_
      refine go_aload_n (i := 0) (pc' := 145) dX11_told_144 rfl rfl rfl ?_
      refine gf_0_letters (pc' := 148) dX11_told_145 rfl fl_X11_19 ?_
      refine gf_2_sizes (pc' := 151) dX11_told_148 rfl fl_X11_155 ?_
      refine go_iload_n (i := 1) (pc' := 152) dX11_told_151 rfl rfl rfl ?_
      refine go_iald (pc' := 153) dX11_told_152 rfl (by decide) (by decide) rfl (vin_of (n := 12) (by omega) (by omega)) ?_
      refine go_rngA (ixa_32 w0.1) (vinlt (vin_of (n := 12) (by omega) (by omega))) (fun g12 => ?_)
      exact go_iret dX11_told_153 rfl (rfl)
    · refine go_swOut (tgt := 154) dX11_told_15 (by omega) (by decide) ?_
      refine go_bipush (v := (-2)) (pc' := 156) dX11_told_154 rfl (by decide) ?_
      exact go_iret dX11_told_156 rfl (rfl)
  refine go_bipush (v := (-2)) (pc' := 13) dX11_told_11 rfl (by decide) ?_
  exact go_iret dX11_told_13 rfl (rfl)
set_option maxHeartbeats 4000000 in
set_option maxRecDepth 100000 in
theorem c_X11_fault (l : Launch) (L : WL) (σ : ST) (a : Int32) (ix : IV σ) : CtI l L yX11_fault cX11_fault 2 (some .int) rm_X11_fault [.ref (L.2.1 0), .int a] σ (fun _ σ2 => σ2 = σ) := by
  refine ctI_go (own := RX11) (by decide) rfl (Nat.le_of_ble_eq_true rfl) (fun F hF => ?_)
  subst hF
  have nm2 : (-2 : Int32).toInt = -2 := by decide
  have n1 : (1 : Int32).toInt = 1 := by decide
  have w0 : WX σ σ := WX_rfl ix
  refine go_iload_n (i := 1) (pc' := 1) dX11_fault_0 rfl rfl rfl ?_
  refine gz_if_ne (tgt := 9) (pc' := 4) dX11_fault_1 rfl (by decide) (fun c1 => ?_) (fun c1 => ?_)
  · refine go_iload_n (i := 1) (pc' := 10) dX11_fault_9 rfl rfl rfl ?_
    refine go_iconst (v := 1) (pc' := 11) dX11_fault_10 rfl (by decide) ?_
    refine gz_icmp_ne (tgt := 21) (pc' := 14) dX11_fault_11 rfl (by decide) (fun c2 => ?_) (fun c2 => ?_)
    · refine go_bipush (v := (-2)) (pc' := 23) dX11_fault_21 rfl (by decide) ?_
      exact go_iret dX11_fault_23 rfl (rfl)
    refine go_aload_n (i := 0) (pc' := 15) dX11_fault_14 rfl rfl rfl ?_
    refine gf_0_faultPlace (pc' := 18) dX11_fault_15 rfl fl_X11_93 ?_
    refine go_goto (tgt := 23) dX11_fault_18 (by decide) ?_
    exact go_iret dX11_fault_23 rfl (rfl)
  refine go_aload_n (i := 0) (pc' := 5) dX11_fault_4 rfl rfl rfl ?_
  refine gf_0_faultKind (pc' := 8) dX11_fault_5 rfl fl_X11_89 ?_
  exact go_iret dX11_fault_8 rfl (rfl)
