theorem IS_step {σ s s1 s2 s3 s4 : ST} {x v u a b c : Int32} {k1 k2 k3 k4 : Nat} (h : ∀ j : Nat, (j : Int) < x.toInt → (s.2 38 j).toInt = (rtX σ j : Int) ∧ s.2 33 j = σ.2 28 j ∧ s.2 34 j = σ.2 29 j ∧ s.2 39 j = σ.2 30 j) (h0 : 0 ≤ x.toInt) (e : v.toInt = x.toInt + 1) (q1 : k1 = x.toNatClampNeg) (q2 : k2 = x.toNatClampNeg) (q3 : k3 = x.toNatClampNeg) (q4 : k4 = x.toNatClampNeg) (g1 : (∀ q : Nat, q ≠ 38 → s1.2 q = s.2 q) ∧ s1.2 38 = upd (s.2 38) k1 u) (g2 : (∀ q : Nat, q ≠ 33 → s2.2 q = s1.2 q) ∧ s2.2 33 = upd (s1.2 33) k2 a) (g3 : (∀ q : Nat, q ≠ 34 → s3.2 q = s2.2 q) ∧ s3.2 34 = upd (s2.2 34) k3 b) (g4 : (∀ q : Nat, q ≠ 39 → s4.2 q = s3.2 q) ∧ s4.2 39 = upd (s3.2 39) k4 c) (fu : u.toInt = (rtX σ x.toNatClampNeg : Int)) (fa : a = σ.2 28 x.toNatClampNeg) (fb : b = σ.2 29 x.toNatClampNeg) (fc : c = σ.2 30 x.toNatClampNeg) : ∀ j : Nat, (j : Int) < v.toInt → (s4.2 38 j).toInt = (rtX σ j : Int) ∧ s4.2 33 j = σ.2 28 j ∧ s4.2 34 j = σ.2 29 j ∧ s4.2 39 j = σ.2 30 j := fun j hj => by
  subst q1
  subst q2
  subst q3
  subst q4
  have cx := cnat h0
  rw [g4.1 38 (by decide), g3.1 38 (by decide), g2.1 38 (by decide), g1.2, g4.1 33 (by decide), g3.1 33 (by decide), g2.2, g1.1 33 (by decide), g4.1 34 (by decide), g3.2, g2.1 34 (by decide), g1.1 34 (by decide), g4.2, g3.1 39 (by decide), g2.1 39 (by decide), g1.1 39 (by decide)]
  by_cases z : j = x.toNatClampNeg
  · rw [z, upd_eq, upd_eq, upd_eq, upd_eq]
    exact ⟨fu, fa, fb, fc⟩
  · rw [upd_ne z, upd_ne z, upd_ne z, upd_ne z]
    exact h j (by omega)
set_option maxHeartbeats 4000000 in
set_option maxRecDepth 100000 in
theorem f_X0_isPossible (l : Launch) (L : WL) (σ : ST) (kk : Int32) (ix : IV σ) (fd : FDX σ) : CtI l L yX0_isPossible cX0_isPossible 4 (some .boolean) rm_X0_isPossible [.ref (L.2.1 3), .ref (L.2.1 2), .int kk] σ (fun r σ2 => WX σ σ2 ∧ ((r.toInt = 0 ∧ ∀ x : Nat → Int, ¬ FSX σ (kpF kk) x) ∨ (r.toInt = 1 ∧ PO (kpF kk) σ2))) := by
  refine ctI_go (own := RX0) (by decide) rfl (Nat.le_of_ble_eq_true rfl) (fun F hF => ?_)
  subst hF
  have nm1 : (-1 : Int32).toInt = -1 := by decide
  have n0 : (0 : Int32).toInt = 0 := by decide
  have n1 : (1 : Int32).toInt = 1 := by decide
  have w0 : WX σ σ := WX_rfl ix
  have u3 := ixi_3 ix
  refine go_iconst (v := 0) (pc' := 1) dX0_isPossible_0 rfl (by decide) ?_
  refine go_istore_n (i := 3) (pc' := 2) dX0_isPossible_1 rfl rfl (by decide) ?_
  have loop2_1 : ∀ (dd1 : Nat) (σ1 : ST) (x3_1 : Int32), WX σ σ1 → (0 ≤ (x3_1).toInt ∧ (x3_1).toInt ≤ (σ.1 3).toInt) → (∀ j : Nat, (j : Int) < (x3_1).toInt → (σ1.2 38 j).toInt = (rtX σ j : Int) ∧ σ1.2 33 j = σ.2 28 j ∧ σ1.2 34 j = σ.2 29 j ∧ σ1.2 39 j = σ.2 30 j) → (12 - (x3_1).toInt).toNat = dd1 → Go F L RX0 cX0_isPossible 4 rm_X0_isPossible (some .boolean) (RI F L (fun r σ2 => WX σ σ2 ∧ ((r.toInt = 0 ∧ ∀ x : Nat → Int, ¬ FSX σ (kpF kk) x) ∨ (r.toInt = 1 ∧ PO (kpF kk) σ2)))) σ1 2 [(0, .ref (L.2.1 3)), (1, .ref (L.2.1 2)), (2, .int kk), (3, .int x3_1)] [] := by
    intro dd1
    induction dd1 using Nat.strongRecOn with
    | _ dd1 ih1 =>
      intro σ1 x3_1 w1 h_1 hI_1 hm_1
      refine go_iload_n (i := 3) (pc' := 3) dX0_isPossible_2 rfl rfl rfl ?_
      refine go_aload_n (i := 1) (pc' := 4) dX0_isPossible_3 rfl rfl rfl ?_
      have k3 := congrArg Int32.toInt (w1.2.1 3 (by decide))
      refine gf_2_size (pc' := 7) dX0_isPossible_4 rfl fl_X0_55 ?_
      have g2 := ixi_3 w1.1
      refine gz_icmp_ge (tgt := 78) (pc' := 10) dX0_isPossible_7 rfl (by decide) (fun c3 => ?_) (fun c3 => ?_)
      · have sd := SD_WX w1
        have fd1 := FD_e sd fd
        have k3 := congrArg Int32.toInt sd.1
        have rt1 : RTS σ1 := fun j hj => by
          have z := (hI_1 j (by omega)).1
          unfold rtX
          rw [sd.2.2.2.2.2.1]
          exact z
        have is1 : ISv σ1 := fun j hj => by
          have z := (hI_1 j (by omega)).2
          rw [sd.2.2.1, sd.2.2.2.1, sd.2.2.2.2.1]
          exact z
        refine go_aload_n (i := 0) (pc' := 79) dX0_isPossible_78 rfl rfl rfl ?_
        refine go_aload_n (i := 1) (pc' := 80) dX0_isPossible_79 rfl rfl rfl ?_
        refine gf_2_size (pc' := 83) dX0_isPossible_80 rfl fl_X0_55 ?_
        have g4 := ixi_3 w1.1
        refine go_cvi (pc' := 86) lk_X0_77 (f_X0_joinFound (kp := kpF kk) _ _ _ _ rfl w1.1 fd1 rt1 is1) rfl rfl (Nat.le_of_ble_eq_true rfl) (by decide) rfl rfl rfl ⟨Nat.le_of_ble_eq_true rfl, Nat.le_of_ble_eq_true rfl⟩ ⟨rfl, rfl⟩ dX0_isPossible_83 rfl (fun r5 σ5 h5 => ?_)
        obtain ⟨u5, h5⟩ := h5
        have w5 := WX_trans w1 (WXj_WX u5)
        have jp := h5
        have uj := u5
        refine gz_if_eq (tgt := 105) (pc' := 89) dX0_isPossible_86 rfl (by decide) (fun c6 => ?_) (fun c6 => ?_)
        · refine go_iconst (v := 0) (pc' := 106) dX0_isPossible_105 rfl (by decide) ?_
          exact go_zret dX0_isPossible_106 rfl rfl (by
              first
              | exact ⟨w5, Or.inl ⟨n0, fun x hx => (jp.resolve_right (fun q => by have := q.1; omega)).2 x ((FSX_e sd).mpr hx)⟩⟩
              | exact ⟨w5, Or.inl ⟨n0, fun x hx => (rp.resolve_right (fun q => by have := q.1; omega)).2 x ((FSX_e (WXj_SD uj)).mpr ((FSX_e sd).mpr hx))⟩⟩
              | exact ⟨w5, Or.inr ⟨n1, PO_of (FD_e (WXj_SD uj) fd1) (RTS_e (WXj_SD uj) (uj.2.2 38 (by decide)) rt1) jf.2 ur (rp.resolve_left (fun q => c6 q.1)).2⟩⟩)
        have jf := jp.resolve_left (fun q => c6 q.1)
        refine go_aload_n (i := 0) (pc' := 90) dX0_isPossible_89 rfl rfl rfl ?_
        refine go_aload_n (i := 1) (pc' := 91) dX0_isPossible_90 rfl rfl rfl ?_
        refine gf_2_size (pc' := 94) dX0_isPossible_91 rfl fl_X0_55 ?_
        have g7 := ixi_3 w5.1
        refine go_iload_n (i := 2) (pc' := 95) dX0_isPossible_94 rfl rfl rfl ?_
        refine go_cvi (pc' := 98) lk_X0_81 (f_X0_raiseLows _ _ _ _ _ rfl w5.1 (FD_e (WXj_SD uj) fd1) (RTS_e (WXj_SD uj) (uj.2.2 38 (by decide)) rt1) jf.2) rfl rfl (Nat.le_of_ble_eq_true rfl) (by decide) rfl rfl rfl ⟨Nat.le_of_ble_eq_true rfl, Nat.le_of_ble_eq_true rfl⟩ ⟨rfl, rfl⟩ dX0_isPossible_95 rfl (fun r8 σ8 h8 => ?_)
        obtain ⟨u8, h8⟩ := h8
        have w8 := WX_trans w5 (WXr_WX u8)
        have rp := h8
        have ur := u8
        refine gz_if_eq (tgt := 105) (pc' := 101) dX0_isPossible_98 rfl (by decide) (fun c9 => ?_) (fun c9 => ?_)
        · refine go_iconst (v := 0) (pc' := 106) dX0_isPossible_105 rfl (by decide) ?_
          exact go_zret dX0_isPossible_106 rfl rfl (by
              first
              | exact ⟨w8, Or.inl ⟨n0, fun x hx => (jp.resolve_right (fun q => by have := q.1; omega)).2 x ((FSX_e sd).mpr hx)⟩⟩
              | exact ⟨w8, Or.inl ⟨n0, fun x hx => (rp.resolve_right (fun q => by have := q.1; omega)).2 x ((FSX_e (WXj_SD uj)).mpr ((FSX_e sd).mpr hx))⟩⟩
              | exact ⟨w8, Or.inr ⟨n1, PO_of (FD_e (WXj_SD uj) fd1) (RTS_e (WXj_SD uj) (uj.2.2 38 (by decide)) rt1) jf.2 ur (rp.resolve_left (fun q => c9 q.1)).2⟩⟩)
        refine go_iconst (v := 1) (pc' := 102) dX0_isPossible_101 rfl (by decide) ?_
        refine go_goto (tgt := 106) dX0_isPossible_102 (by decide) ?_
        exact go_zret dX0_isPossible_106 rfl rfl (by
            first
            | exact ⟨w8, Or.inl ⟨n0, fun x hx => (jp.resolve_right (fun q => by have := q.1; omega)).2 x ((FSX_e sd).mpr hx)⟩⟩
            | exact ⟨w8, Or.inl ⟨n0, fun x hx => (rp.resolve_right (fun q => by have := q.1; omega)).2 x ((FSX_e (WXj_SD uj)).mpr ((FSX_e sd).mpr hx))⟩⟩
            | exact ⟨w8, Or.inr ⟨n1, PO_of (FD_e (WXj_SD uj) fd1) (RTS_e (WXj_SD uj) (uj.2.2 38 (by decide)) rt1) jf.2 ur (rp.resolve_left (fun q => c9 q.1)).2⟩⟩)
      have c3 := cnat (x := x3_1) (by omega)
      have e31 : σ1.2 31 = σ.2 31 := w1.2.2 31 (by decide)
      have rr := (fd.1 (x3_1).toNatClampNeg (by omega)).1
      have w10 := w1
      refine go_aload_n (i := 0) (pc' := 11) dX0_isPossible_10 rfl rfl rfl ?_
      refine gf_3_roots (pc' := 14) dX0_isPossible_11 rfl fl_X0_33 ?_
      refine go_iload_n (i := 3) (pc' := 15) dX0_isPossible_14 rfl rfl rfl ?_
      refine go_aload_n (i := 1) (pc' := 16) dX0_isPossible_15 rfl rfl rfl ?_
      refine gf_2_founds (pc' := 19) dX0_isPossible_16 rfl fl_X0_67 ?_
      refine go_iload_n (i := 3) (pc' := 20) dX0_isPossible_19 rfl rfl rfl ?_
      refine go_iald (pc' := 21) dX0_isPossible_20 rfl (by decide) (by decide) rfl (vin_of (n := 12) (by omega) (by omega)) ?_
      refine go_rngA (ixa_31 w1.1) (vinlt (vin_of (n := 12) (by omega) (by omega))) (fun g10 => ?_)
      refine go_iconst (v := (-1)) (pc' := 22) dX0_isPossible_21 rfl (by decide) ?_
      have mrg35_11 : ∀ (y0_11 : Int32), ((y0_11).toInt = (rtX σ (x3_1).toNatClampNeg : Int)) → Go F L RX0 cX0_isPossible 4 rm_X0_isPossible (some .boolean) (RI F L (fun r σ2 => WX σ σ2 ∧ ((r.toInt = 0 ∧ ∀ x : Nat → Int, ¬ FSX σ (kpF kk) x) ∨ (r.toInt = 1 ∧ PO (kpF kk) σ2)))) σ1 35 [(0, .ref (L.2.1 3)), (1, .ref (L.2.1 2)), (2, .int kk), (3, .int x3_1)] [.int y0_11, .int x3_1, .ref (L.2.1 38)] := by
        intro y0_11 hy_11
        refine go_iast (pc' := 36) dX0_isPossible_35 rfl (by decide) (by decide) rfl (vin_of (n := 12) (by omega) (by omega)) ?_
        refine go_gen (P := fun s => WX σ s ∧ (∀ q : Nat, q ≠ 38 → s.2 q = σ1.2 q) ∧ s.2 38 = upd (σ1.2 38) (x3_1).toNatClampNeg y0_11 ∧ s.1 = σ1.1) ⟨⟨ixt_38 w1.1 (by omega) (by omega), Ag_setA w1.2 (by decide)⟩, ⟨fun q hq => setA_ne (a := q) _ _ _ _ hq, setA_same _ _ _ _, rfl⟩⟩ (fun σ12 z12 => ?_)
        obtain ⟨w12, g12⟩ := z12
        have ga := g12
        refine go_aload_n (i := 0) (pc' := 37) dX0_isPossible_36 rfl rfl rfl ?_
        refine gf_3_lows (pc' := 40) dX0_isPossible_37 rfl fl_X0_11 ?_
        refine go_iload_n (i := 3) (pc' := 41) dX0_isPossible_40 rfl rfl rfl ?_
        refine go_aload_n (i := 1) (pc' := 42) dX0_isPossible_41 rfl rfl rfl ?_
        refine gf_2_leasts (pc' := 45) dX0_isPossible_42 rfl fl_X0_70 ?_
        refine go_iload_n (i := 3) (pc' := 46) dX0_isPossible_45 rfl rfl rfl ?_
        refine go_iald (pc' := 47) dX0_isPossible_46 rfl (by decide) (by decide) rfl (vin_of (n := 12) (by omega) (by omega)) ?_
        refine go_rngA (ixa_28 w12.1) (vinlt (vin_of (n := 12) (by omega) (by omega))) (fun g13 => ?_)
        have fa : (σ12.2 28 (x3_1).toNatClampNeg) = σ.2 28 (x3_1).toNatClampNeg := congrFun (w12.2.2 28 (by decide)) _
        refine go_iast (pc' := 48) dX0_isPossible_47 rfl (by decide) (by decide) rfl (vin_of (n := 12) (by omega) (by omega)) ?_
        refine go_gen (P := fun s => WX σ s ∧ (∀ q : Nat, q ≠ 33 → s.2 q = σ12.2 q) ∧ s.2 33 = upd (σ12.2 33) (x3_1).toNatClampNeg (σ12.2 28 (x3_1).toNatClampNeg) ∧ s.1 = σ12.1) ⟨⟨ixt_n w12.1 (by decide), Ag_setA w12.2 (by decide)⟩, ⟨fun q hq => setA_ne (a := q) _ _ _ _ hq, setA_same _ _ _ _, rfl⟩⟩ (fun σ14 z14 => ?_)
        obtain ⟨w14, g14⟩ := z14
        have gb := g14
        refine go_aload_n (i := 0) (pc' := 49) dX0_isPossible_48 rfl rfl rfl ?_
        refine gf_3_highs (pc' := 52) dX0_isPossible_49 rfl fl_X0_17 ?_
        refine go_iload_n (i := 3) (pc' := 53) dX0_isPossible_52 rfl rfl rfl ?_
        refine go_aload_n (i := 1) (pc' := 54) dX0_isPossible_53 rfl rfl rfl ?_
        refine gf_2_greatests (pc' := 57) dX0_isPossible_54 rfl fl_X0_73 ?_
        refine go_iload_n (i := 3) (pc' := 58) dX0_isPossible_57 rfl rfl rfl ?_
        refine go_iald (pc' := 59) dX0_isPossible_58 rfl (by decide) (by decide) rfl (vin_of (n := 12) (by omega) (by omega)) ?_
        refine go_rngA (ixa_29 w14.1) (vinlt (vin_of (n := 12) (by omega) (by omega))) (fun g15 => ?_)
        have fb : (σ14.2 29 (x3_1).toNatClampNeg) = σ.2 29 (x3_1).toNatClampNeg := congrFun (w14.2.2 29 (by decide)) _
        refine go_iast (pc' := 60) dX0_isPossible_59 rfl (by decide) (by decide) rfl (vin_of (n := 12) (by omega) (by omega)) ?_
        refine go_gen (P := fun s => WX σ s ∧ (∀ q : Nat, q ≠ 34 → s.2 q = σ14.2 q) ∧ s.2 34 = upd (σ14.2 34) (x3_1).toNatClampNeg (σ14.2 29 (x3_1).toNatClampNeg) ∧ s.1 = σ14.1) ⟨⟨ixt_n w14.1 (by decide), Ag_setA w14.2 (by decide)⟩, ⟨fun q hq => setA_ne (a := q) _ _ _ _ hq, setA_same _ _ _ _, rfl⟩⟩ (fun σ16 z16 => ?_)
        obtain ⟨w16, g16⟩ := z16
        have gc := g16
        refine go_aload_n (i := 0) (pc' := 61) dX0_isPossible_60 rfl rfl rfl ?_
        refine gf_3_weekdays (pc' := 64) dX0_isPossible_61 rfl fl_X0_36 ?_
        refine go_iload_n (i := 3) (pc' := 65) dX0_isPossible_64 rfl rfl rfl ?_
        refine go_aload_n (i := 1) (pc' := 66) dX0_isPossible_65 rfl rfl rfl ?_
        refine gf_2_weekdays (pc' := 69) dX0_isPossible_66 rfl fl_X0_76 ?_
        refine go_iload_n (i := 3) (pc' := 70) dX0_isPossible_69 rfl rfl rfl ?_
        refine go_iald (pc' := 71) dX0_isPossible_70 rfl (by decide) (by decide) rfl (vin_of (n := 12) (by omega) (by omega)) ?_
        refine go_rngA (ixa_30 w16.1) (vinlt (vin_of (n := 12) (by omega) (by omega))) (fun g17 => ?_)
        have fc : (σ16.2 30 (x3_1).toNatClampNeg) = σ.2 30 (x3_1).toNatClampNeg := congrFun (w16.2.2 30 (by decide)) _
        refine go_iast (pc' := 72) dX0_isPossible_71 rfl (by decide) (by decide) rfl (vin_of (n := 12) (by omega) (by omega)) ?_
        refine go_gen (P := fun s => WX σ s ∧ (∀ q : Nat, q ≠ 39 → s.2 q = σ16.2 q) ∧ s.2 39 = upd (σ16.2 39) (x3_1).toNatClampNeg (σ16.2 30 (x3_1).toNatClampNeg) ∧ s.1 = σ16.1) ⟨⟨ixt_n w16.1 (by decide), Ag_setA w16.2 (by decide)⟩, ⟨fun q hq => setA_ne (a := q) _ _ _ _ hq, setA_same _ _ _ _, rfl⟩⟩ (fun σ18 z18 => ?_)
        obtain ⟨w18, g18⟩ := z18
        have gd := g18
        refine gz_iinc (c := 1) (pc' := 75) dX0_isPossible_72 rfl rfl (by decide) (by decide) (by decide) (by omega) (fun v19 h19 e19 => ?_)
        refine go_goto (tgt := 2) dX0_isPossible_75 (by decide) ?_
        exact go_lv (lv' := [(0, .ref (L.2.1 3)), (1, .ref (L.2.1 2)), (2, .int kk), (3, .int v19)]) rfl (ih1 _ (by omega) σ18 v19 w18 (by omega) (IS_step hI_1 (by omega) (by omega) rfl rfl rfl rfl ⟨ga.1, ga.2.1⟩ ⟨gb.1, gb.2.1⟩ ⟨gc.1, gc.2.1⟩ ⟨gd.1, gd.2.1⟩ hy_11 fa fb fc) rfl)
      refine gz_icmp_ne (tgt := 29) (pc' := 25) dX0_isPossible_22 rfl (by decide) (fun c20 => ?_) (fun c20 => ?_)
      · refine go_aload_n (i := 1) (pc' := 30) dX0_isPossible_29 rfl rfl rfl ?_
        refine gf_2_founds (pc' := 33) dX0_isPossible_30 rfl fl_X0_67 ?_
        refine go_iload_n (i := 3) (pc' := 34) dX0_isPossible_33 rfl rfl rfl ?_
        refine go_iald (pc' := 35) dX0_isPossible_34 rfl (by decide) (by decide) rfl (vin_of (n := 12) (by omega) (by omega)) ?_
        refine go_rngA (ixa_31 w1.1) (vinlt (vin_of (n := 12) (by omega) (by omega))) (fun g21 => ?_)
        exact go_lv (lv' := [(0, .ref (L.2.1 3)), (1, .ref (L.2.1 2)), (2, .int kk), (3, .int x3_1)]) rfl (mrg35_11  (σ1.2 31 (x3_1).toNatClampNeg) (by first | (rw [rt_no e31 (by omega)]; omega) | exact rt_yes e31 (by omega) (by omega)))
      refine go_iload_n (i := 3) (pc' := 26) dX0_isPossible_25 rfl rfl rfl ?_
      refine go_goto (tgt := 35) dX0_isPossible_26 (by decide) ?_
      exact go_lv (lv' := [(0, .ref (L.2.1 3)), (1, .ref (L.2.1 2)), (2, .int kk), (3, .int x3_1)]) rfl (mrg35_11  x3_1 (by first | (rw [rt_no e31 (by omega)]; omega) | exact rt_yes e31 (by omega) (by omega)))
  exact go_lv (lv' := [(0, .ref (L.2.1 3)), (1, .ref (L.2.1 2)), (2, .int kk), (3, .int (0 : Int32))]) rfl (loop2_1 _ σ (0 : Int32) w0 (by omega) (fun j hj => by exfalso; omega) rfl)
set_option maxHeartbeats 4000000 in
set_option maxRecDepth 100000 in
theorem f_X0_allBounds (l : Launch) (L : WL) (σ : ST)  (ix : IV σ) : CtI l L yX0_allBounds cX0_allBounds 1 (some .int) rm_X0_allBounds [.ref (L.2.1 3)] σ (fun r σ2 => σ2 = σ ∧ r = allS (σ.1 4)) := by
  refine ctI_go (own := RX0) (by decide) rfl (Nat.le_of_ble_eq_true rfl) (fun F hF => ?_)
  subst hF
  have n1 : (1 : Int32).toInt = 1 := by decide
  have w0 : WX σ σ := WX_rfl ix
  refine go_iconst (v := 1) (pc' := 1) dX0_allBounds_0 rfl (by decide) ?_
  refine go_aload_n (i := 0) (pc' := 2) dX0_allBounds_1 rfl rfl rfl ?_
  refine gf_3_size (pc' := 5) dX0_allBounds_2 rfl fl_X0_20 ?_
  have g1 := ixi_4 w0.1
  refine go_ishl (pc' := 6) dX0_allBounds_5 rfl ?_
  refine go_iconst (v := 1) (pc' := 7) dX0_allBounds_6 rfl (by decide) ?_
  refine go_isub (pc' := 8) dX0_allBounds_7 rfl ?_
  exact go_iret dX0_allBounds_8 rfl (⟨rfl, rfl⟩)
theorem PO_SD {kp : Nat → Prop} {s s2 : ST} (w : WXs s s2) (fd : FDX s) (p : PO kp s) (h : JH s kp (s2.2 34)) : FSX s2 kp (fun i => (s2.2 33 (rtX s2 i)).toInt) ∧ FSX s2 kp (fun i => (s2.2 34 (rtX s2 i)).toInt) ∧ ∀ x : Nat → Int, FSX s2 kp x → ∀ j : Nat, ROOT s2 j → (s2.2 33 j).toInt ≤ x j ∧ x j ≤ (s2.2 34 j).toInt := by
  have sd := WXs_SD w
  have e33 : s2.2 33 = s.2 33 := w.2.2 33 (by decide)
  have e31 := sd.2.2.2.2.2.1
  have er : ∀ i : Nat, rtX s2 i = rtX s i := fun i => by
    unfold rtX
    rw [e31]
  refine ⟨(FSX_e sd).mpr ?_, (FSX_e sd).mpr ?_, fun x hx j hj => ?_⟩
  · have q := p.2.2
    rw [show (fun i => (s2.2 33 (rtX s2 i)).toInt) = fun i => (s.2 33 (rtX s i)).toInt from by funext i; rw [e33, er]]
    exact q
  · have q := JH_FS fd p.2.1 p.2.2 h
    rw [show (fun i => (s2.2 34 (rtX s2 i)).toInt) = fun i => (s2.2 34 (rtX s i)).toInt from by funext i; rw [er]]
    exact q
  · have hx' := (FSX_e sd).mp hx
    have hj' : ROOT s j := by
      unfold ROOT at hj
      rw [sd.1, e31] at hj
      exact hj
    rw [e33]
    exact ⟨((p.2.1 j hj').2.2.1 x hx').1, (h.1 j hj').2.2.2 x hx'⟩
theorem LG_cpy {kp : Nat → Prop} {m s : ST} {i : Nat} (iv : IV m) (fd : FDX m) (rt : RTS m) (sd : SD m s) (e38 : s.2 38 = m.2 38) (h : CPY m s i) (hi : (i : Int) = (m.1 3).toInt) (q : FSX m kp (fun i => (m.2 33 (rtX m i)).toInt) ∧ FSX m kp (fun i => (m.2 34 (rtX m i)).toInt) ∧ ∀ x : Nat → Int, FSX m kp x → ∀ j : Nat, ROOT m j → (m.2 33 j).toInt ≤ x j ∧ x j ≤ (m.2 34 j).toInt) : LG (FSX m kp) (m.1 3).toInt (lowX s) (higX s) := by
  have key : ∀ j : Nat, (j : Int) < (m.1 3).toInt → lowX s j = (m.2 33 (rtX m j)).toInt ∧ higX s j = (m.2 34 (rtX m j)).toInt := fun j hj => by
    have c := h j
    rw [if_pos (by omega), if_pos (by omega), rts_n rt hj] at c
    unfold lowX higX
    rw [c.1, c.2]
    exact ⟨rfl, rfl⟩
  have cg : ∀ {x y : Nat → Int}, (∀ j : Nat, (j : Int) < (m.1 3).toInt → x j = y j) → FSX m kp y → FSX m kp x := fun {x y} e f => by
    refine ⟨fun i hi2 => ?_, fun k hk p => ?_⟩
    · have z := f.1 i hi2
      rw [e i hi2]
      refine ⟨z.1, z.2.1, z.2.2.1, fun g => ?_⟩
      have r := fd.1 i hi2
      rw [rtX_ne (show ¬ (m.2 31 i).toInt < 0 by omega)] at r
      rw [e _ r.1]
      exact z.2.2.2 g
    · have z := f.2 k hk p
      have sr := sr_root fd iv hk
      rw [e _ sr.2.2.1, e _ sr.2.2.2]
      exact z
  refine ⟨cg (fun j hj => (key j hj).1) q.1, cg (fun j hj => (key j hj).2) q.2.1, fun x hx j hj => ?_⟩
  rw [(key j hj).1, (key j hj).2, FSX_rt hx hj]
  exact q.2.2 x hx _ (fd.1 j hj)
theorem LG_sd {kp : Nat → Prop} {σ m : ST} {L H : Nat → Int} (sd : SD σ m) (h : LG (FSX m kp) (m.1 3).toInt L H) : LG (FSX σ kp) (σ.1 3).toInt L H := by
  rw [sd.1] at h
  exact ⟨(FSX_e sd).mp h.1, (FSX_e sd).mp h.2.1, fun x hx => h.2.2 x ((FSX_e sd).mpr hx)⟩
theorem SD_t {m s s2 : ST} (h : SD m s) (hA : ∀ q : Nat, q ≠ 33 → q ≠ 34 → s2.2 q = s.2 q) (hI : s2.1 = s.1) : SD m s2 := by
  obtain ⟨a, b, c, d, e, f, g, i, j⟩ := h
  refine ⟨?_, ?_, ?_, ?_, ?_, ?_, ?_, ?_, ?_⟩
  · rw [hI]; exact a
  · rw [hI]; exact b
  · rw [hA 28 (by decide) (by decide)]; exact c
  · rw [hA 29 (by decide) (by decide)]; exact d
  · rw [hA 30 (by decide) (by decide)]; exact e
  · rw [hA 31 (by decide) (by decide)]; exact f
  · rw [hA 35 (by decide) (by decide)]; exact g
  · rw [hA 36 (by decide) (by decide)]; exact i
  · rw [hA 37 (by decide) (by decide)]; exact j
set_option maxHeartbeats 4000000 in
set_option maxRecDepth 100000 in
theorem f_X0_settle (l : Launch) (L : WL) (σ : ST)  (ix : IV σ) (fd : FDX σ) : CtI l L yX0_settle cX0_settle 3 (some .boolean) rm_X0_settle [.ref (L.2.1 3), .ref (L.2.1 2)] σ (fun r σ2 => WX σ σ2 ∧ ((r.toInt = 0 ∧ ∀ x : Nat → Int, ¬ FSX σ (kpF (allS (σ.1 4))) x) ∨ (r.toInt = 1 ∧ RTS σ2 ∧ LG (FSX σ (kpF (allS (σ.1 4)))) (σ.1 3).toInt (lowX σ2) (higX σ2)))) := by
  refine ctI_go (own := RX0) (by decide) rfl (Nat.le_of_ble_eq_true rfl) (fun F hF => ?_)
  subst hF
  have n0 : (0 : Int32).toInt = 0 := by decide
  have n1 : (1 : Int32).toInt = 1 := by decide
  have w0 : WX σ σ := WX_rfl ix
  have u3 := ixi_3 ix
  have u4 := ixi_4 ix
  have z0 : (0 : Int32).toNatClampNeg = 0 := rfl
  refine go_aload_n (i := 0) (pc' := 1) dX0_settle_0 rfl rfl rfl ?_
  refine go_aload_n (i := 1) (pc' := 2) dX0_settle_1 rfl rfl rfl ?_
  refine go_aload_n (i := 0) (pc' := 3) dX0_settle_2 rfl rfl rfl ?_
  refine go_cvi (pc' := 6) lk_X0_44 (f_X0_allBounds _ _ _ w0.1) rfl rfl (Nat.le_of_ble_eq_true rfl) (by decide) rfl rfl rfl ⟨Nat.le_of_ble_eq_true rfl, Nat.le_of_ble_eq_true rfl⟩ ⟨rfl, rfl⟩ dX0_settle_3 rfl (fun r1 σ1 h1 => ?_)
  obtain ⟨e1, h1⟩ := h1
  have e1 := e1.symm
  subst e1
  have ab := h1
  refine go_cvi (pc' := 9) lk_X0_48 (f_X0_isPossible _ _ _ _ w0.1 fd) rfl rfl (Nat.le_of_ble_eq_true rfl) (by decide) rfl rfl rfl ⟨Nat.le_of_ble_eq_true rfl, Nat.le_of_ble_eq_true rfl⟩ ⟨rfl, rfl⟩ dX0_settle_6 rfl (fun r2 σ2 h2 => ?_)
  obtain ⟨u2, h2⟩ := h2
  have w2 := WX_trans w0 u2
  have ip := h2
  have up := u2
  refine gz_if_ne (tgt := 14) (pc' := 12) dX0_settle_9 rfl (by decide) (fun c3 => ?_) (fun c3 => ?_)
  · have po := (ip.resolve_left (fun q => c3 q.1)).2
    rw [ab] at po
    have sd1 := SD_WX w2
    have fd1 := FD_e sd1 fd
    have k41 := congrArg Int32.toInt sd1.2.1
    refine go_aload_n (i := 0) (pc' := 15) dX0_settle_14 rfl rfl rfl ?_
    refine go_cvv (pc' := 18) lk_X0_52 (f_X0_sinkHighs _ _ _ w2.1 fd1 po.1 po.2.1 (fun k hk => kp_allN (by omega) (by omega)) po.2.2) rfl rfl (Nat.le_of_ble_eq_true rfl) (by decide) rfl rfl rfl ⟨Nat.le_of_ble_eq_true rfl, Nat.le_of_ble_eq_true rfl⟩ ⟨rfl, rfl⟩ dX0_settle_15 rfl (fun σ4 h4 => ?_)
    obtain ⟨u4, h4⟩ := h4
    have w4 := WX_trans w2 (WXs_WX u4)
    have hh := h4
    have us := u4
    have q0 := PO_SD us fd1 po hh
    have sd2 := SD_WX w4
    have fd2 := FD_e sd2 fd
    have rt2 := RTS_e (WXs_SD us) (us.2.2 38 (by decide)) po.1
    have iv2 := w4.1
    have k32 := congrArg Int32.toInt sd2.1
    refine go_iconst (v := 0) (pc' := 19) dX0_settle_18 rfl (by decide) ?_
    refine go_istore_n (i := 2) (pc' := 20) dX0_settle_19 rfl rfl (by decide) ?_
    have loop20_5 : ∀ (dd5 : Nat) (σ5 : ST) (x2_5 : Int32), WX σ σ5 → (0 ≤ (x2_5).toInt ∧ (x2_5).toInt ≤ (σ.1 3).toInt) → (CPY σ4 σ5 (x2_5).toNatClampNeg) → (SD σ4 σ5 ∧ σ5.2 38 = σ4.2 38) → (12 - (x2_5).toInt).toNat = dd5 → Go F L RX0 cX0_settle 3 rm_X0_settle (some .boolean) (RI F L (fun r σ2 => WX σ σ2 ∧ ((r.toInt = 0 ∧ ∀ x : Nat → Int, ¬ FSX σ (kpF (allS (σ.1 4))) x) ∨ (r.toInt = 1 ∧ RTS σ2 ∧ LG (FSX σ (kpF (allS (σ.1 4)))) (σ.1 3).toInt (lowX σ2) (higX σ2))))) σ5 20 [(0, .ref (L.2.1 3)), (1, .ref (L.2.1 2)), (2, .int x2_5)] [] := by
      intro dd5
      induction dd5 using Nat.strongRecOn with
      | _ dd5 ih5 =>
        intro σ5 x2_5 w5 h_5 hc_5 he_5 hm_5
        refine go_iload_n (i := 2) (pc' := 21) dX0_settle_20 rfl rfl rfl ?_
        refine go_aload_n (i := 1) (pc' := 22) dX0_settle_21 rfl rfl rfl ?_
        refine gf_2_size (pc' := 25) dX0_settle_22 rfl fl_X0_55 ?_
        have g6 := ixi_3 w5.1
        refine gz_icmp_ge (tgt := 68) (pc' := 28) dX0_settle_25 rfl (by decide) (fun c7 => ?_) (fun c7 => ?_)
        · refine go_iconst (v := 1) (pc' := 69) dX0_settle_68 rfl (by decide) ?_
          exact go_zret dX0_settle_69 rfl rfl (⟨w5, Or.inr ⟨n1, RTS_e he_5.1 he_5.2 rt2, LG_sd sd2 (LG_cpy iv2 fd2 rt2 he_5.1 he_5.2 hc_5 (by have c2 := cnat (x := x2_5) (by omega); have q := congrArg Int32.toInt he_5.1.1; omega) q0)⟩⟩)
        have c2 := cnat (x := x2_5) (by omega)
        have k3m := congrArg Int32.toInt he_5.1.1
        have e38 : σ5.2 38 = σ4.2 38 := he_5.2
        have rn := rts_n rt2 (j := (x2_5).toNatClampNeg) (by omega)
        have rn2 := rts_n rt2 (j := rtX σ4 (x2_5).toNatClampNeg) (fd2.1 (x2_5).toNatClampNeg (by omega)).1
        rw [rtX_root (fd2.1 (x2_5).toNatClampNeg (by omega)), ← rn] at rn2
        have cr := CPY_r hc_5 (j := (x2_5).toNatClampNeg) rn2
        refine go_aload_n (i := 0) (pc' := 29) dX0_settle_28 rfl rfl rfl ?_
        refine gf_3_lows (pc' := 32) dX0_settle_29 rfl fl_X0_11 ?_
        refine go_iload_n (i := 2) (pc' := 33) dX0_settle_32 rfl rfl rfl ?_
        refine go_aload_n (i := 0) (pc' := 34) dX0_settle_33 rfl rfl rfl ?_
        refine gf_3_lows (pc' := 37) dX0_settle_34 rfl fl_X0_11 ?_
        refine go_aload_n (i := 0) (pc' := 38) dX0_settle_37 rfl rfl rfl ?_
        refine gf_3_roots (pc' := 41) dX0_settle_38 rfl fl_X0_33 ?_
        refine go_iload_n (i := 2) (pc' := 42) dX0_settle_41 rfl rfl rfl ?_
        refine go_iald (pc' := 43) dX0_settle_42 rfl (by decide) (by decide) rfl (vin_of (n := 12) (by omega) (by omega)) ?_
        refine go_rngA (ixa_38 w5.1) (vinlt (vin_of (n := 12) (by omega) (by omega))) (fun g8 => ?_)
        refine go_iald (pc' := 44) dX0_settle_43 rfl (by decide) (by decide) rfl (vin_of (n := 12) (by omega) (by omega)) ?_
        have fv : ((σ5.2 33 ((σ5.2 38 (x2_5).toNatClampNeg)).toNatClampNeg)) = σ4.2 33 (σ4.2 38 (x2_5).toNatClampNeg).toNatClampNeg := by rw [e38]; exact cr.1
        refine go_iast (pc' := 45) dX0_settle_44 rfl (by decide) (by decide) rfl (vin_of (n := 12) (by omega) (by omega)) ?_
        refine go_gen (P := fun s => WX σ s ∧ (∀ q : Nat, q ≠ 33 → s.2 q = σ5.2 q) ∧ s.2 33 = upd (σ5.2 33) (x2_5).toNatClampNeg (σ5.2 33 ((σ5.2 38 (x2_5).toNatClampNeg)).toNatClampNeg) ∧ s.1 = σ5.1) ⟨⟨ixt_n w5.1 (by decide), Ag_setA w5.2 (by decide)⟩, ⟨fun q hq => setA_ne (a := q) _ _ _ _ hq, setA_same _ _ _ _, rfl⟩⟩ (fun σ9 z9 => ?_)
        obtain ⟨w9, g9⟩ := z9
        have ga := g9
        refine go_aload_n (i := 0) (pc' := 46) dX0_settle_45 rfl rfl rfl ?_
        refine gf_3_highs (pc' := 49) dX0_settle_46 rfl fl_X0_17 ?_
        refine go_iload_n (i := 2) (pc' := 50) dX0_settle_49 rfl rfl rfl ?_
        refine go_aload_n (i := 0) (pc' := 51) dX0_settle_50 rfl rfl rfl ?_
        refine gf_3_highs (pc' := 54) dX0_settle_51 rfl fl_X0_17 ?_
        refine go_aload_n (i := 0) (pc' := 55) dX0_settle_54 rfl rfl rfl ?_
        refine gf_3_roots (pc' := 58) dX0_settle_55 rfl fl_X0_33 ?_
        refine go_iload_n (i := 2) (pc' := 59) dX0_settle_58 rfl rfl rfl ?_
        refine go_iald (pc' := 60) dX0_settle_59 rfl (by decide) (by decide) rfl (vin_of (n := 12) (by omega) (by omega)) ?_
        refine go_rngA (ixa_38 w9.1) (vinlt (vin_of (n := 12) (by omega) (by omega))) (fun g10 => ?_)
        refine go_iald (pc' := 61) dX0_settle_60 rfl (by decide) (by decide) rfl (vin_of (n := 12) (by omega) (by omega)) ?_
        have fu : ((σ9.2 34 ((σ9.2 38 (x2_5).toNatClampNeg)).toNatClampNeg)) = σ4.2 34 (σ4.2 38 (x2_5).toNatClampNeg).toNatClampNeg := by rw [ga.1 38 (by decide), ga.1 34 (by decide), e38]; exact cr.2
        refine go_iast (pc' := 62) dX0_settle_61 rfl (by decide) (by decide) rfl (vin_of (n := 12) (by omega) (by omega)) ?_
        refine go_gen (P := fun s => WX σ s ∧ (∀ q : Nat, q ≠ 34 → s.2 q = σ9.2 q) ∧ s.2 34 = upd (σ9.2 34) (x2_5).toNatClampNeg (σ9.2 34 ((σ9.2 38 (x2_5).toNatClampNeg)).toNatClampNeg) ∧ s.1 = σ9.1) ⟨⟨ixt_n w9.1 (by decide), Ag_setA w9.2 (by decide)⟩, ⟨fun q hq => setA_ne (a := q) _ _ _ _ hq, setA_same _ _ _ _, rfl⟩⟩ (fun σ11 z11 => ?_)
        obtain ⟨w11, g11⟩ := z11
        have gb := g11
        refine gz_iinc (c := 1) (pc' := 65) dX0_settle_62 rfl rfl (by decide) (by decide) (by decide) (by omega) (fun v12 h12 e12 => ?_)
        refine go_goto (tgt := 20) dX0_settle_65 (by decide) ?_
        exact go_lv (lv' := [(0, .ref (L.2.1 3)), (1, .ref (L.2.1 2)), (2, .int v12)]) rfl (ih5 _ (by omega) σ11 v12 w11 (by have q := congrArg Int32.toInt he_5.1.1; omega) (CPY_s hc_5 (by have cv := cnat (x := v12) (by omega); omega) rfl ((gb.1 33 (by decide)).trans ga.2.1) (by rw [gb.2.1, ga.1 34 (by decide)]) fv fu) ⟨SD_t he_5.1 (fun q h1 h2 => (gb.1 q h2).trans (ga.1 q h1)) (gb.2.2.trans ga.2.2), ((gb.1 38 (by decide)).trans (ga.1 38 (by decide))).trans he_5.2⟩ rfl)
    exact go_lv (lv' := [(0, .ref (L.2.1 3)), (1, .ref (L.2.1 2)), (2, .int (0 : Int32))]) rfl (loop20_5 _ σ4 (0 : Int32) w4 (by omega) (by rw [z0]; exact CPY_0 _) ⟨SD_WX (WX_rfl iv2), rfl⟩ rfl)
  refine go_iconst (v := 0) (pc' := 13) dX0_settle_12 rfl (by decide) ?_
  exact go_zret dX0_settle_13 rfl rfl (⟨w2, Or.inl ⟨n0, by have z := (ip.resolve_right (fun q => by have := q.1; omega)).2; rw [ab] at z; exact z⟩⟩)
set_option maxHeartbeats 4000000 in
set_option maxRecDepth 100000 in
theorem f_X0_conflict (l : Launch) (L : WL) (σ : ST)  (ix : IV σ) (fd : FDX σ) : CtI l L yX0_conflict cX0_conflict 5 (some .int) rm_X0_conflict [.ref (L.2.1 3), .ref (L.2.1 2)] σ (fun r σ2 => WX σ σ2 ∧ (((∃ x : Nat → Int, FSX σ (kpF (allS (σ.1 4))) x) ∧ r = -1) ∨ ((∀ x : Nat → Int, ¬ FSX σ (kpF (allS (σ.1 4))) x) ∧ CFR (fun s => ∀ x : Nat → Int, ¬ FSX σ (kpF s) x) (σ.1 4).toNatClampNeg (allS (σ.1 4)) r))) := by
  refine ctI_go (own := RX0) (by decide) rfl (Nat.le_of_ble_eq_true rfl) (fun F hF => ?_)
  subst hF
  have nm1 : (-1 : Int32).toInt = -1 := by decide
  have n1 : (1 : Int32).toInt = 1 := by decide
  have w0 : WX σ σ := WX_rfl ix
  have u4 := ixi_4 ix
  have c4 := cnat u4.1
  refine go_aload_n (i := 0) (pc' := 1) dX0_conflict_0 rfl rfl rfl ?_
  refine go_cvi (pc' := 4) lk_X0_44 (f_X0_allBounds _ _ _ w0.1) rfl rfl (Nat.le_of_ble_eq_true rfl) (by decide) rfl rfl rfl ⟨Nat.le_of_ble_eq_true rfl, Nat.le_of_ble_eq_true rfl⟩ ⟨rfl, rfl⟩ dX0_conflict_1 rfl (fun r1 σ1 h1 => ?_)
  obtain ⟨e1, h1⟩ := h1
  have e1 := e1.symm
  subst e1
  have ab := h1
  refine go_istore_n (i := 2) (pc' := 5) dX0_conflict_4 rfl rfl (by decide) ?_
  refine go_aload_n (i := 0) (pc' := 6) dX0_conflict_5 rfl rfl rfl ?_
  refine go_aload_n (i := 1) (pc' := 7) dX0_conflict_6 rfl rfl rfl ?_
  refine go_iload_n (i := 2) (pc' := 8) dX0_conflict_7 rfl rfl rfl ?_
  refine go_cvi (pc' := 11) lk_X0_48 (f_X0_isPossible _ _ _ _ w0.1 fd) rfl rfl (Nat.le_of_ble_eq_true rfl) (by decide) rfl rfl rfl ⟨Nat.le_of_ble_eq_true rfl, Nat.le_of_ble_eq_true rfl⟩ ⟨rfl, rfl⟩ dX0_conflict_8 rfl (fun r2 σ2 h2 => ?_)
  obtain ⟨u2, h2⟩ := h2
  have w2 := WX_trans w0 u2
  have ip := h2
  have up := u2
  refine gz_if_eq (tgt := 16) (pc' := 14) dX0_conflict_11 rfl (by decide) (fun c3 => ?_) (fun c3 => ?_)
  · have k4 := congrArg Int32.toInt (w2.2.1 4 (by decide))
    have no := (ip.resolve_right (fun q => by have := q.1; omega)).2
    rw [ab] at no
    refine go_aload_n (i := 0) (pc' := 17) dX0_conflict_16 rfl rfl rfl ?_
    refine gf_3_size (pc' := 20) dX0_conflict_17 rfl fl_X0_20 ?_
    have g4 := ixi_4 w2.1
    refine go_iconst (v := 1) (pc' := 21) dX0_conflict_20 rfl (by decide) ?_
    refine gz_isub (pc' := 22) dX0_conflict_21 rfl (by omega) (fun v5 h5 e5 => ?_)
    refine go_istore_n (i := 3) (pc' := 23) dX0_conflict_22 rfl rfl (by decide) ?_
    have loop23_6 : ∀ (dd6 : Nat) (σ6 : ST) (x2_6 : Int32) (x3_6 : Int32), WX σ σ6 → (-1 ≤ (x3_6).toInt ∧ (x3_6).toInt ≤ 19) → (∀ r : Int32, CFR (fun s => ∀ x : Nat → Int, ¬ FSX σ (kpF s) x) ((x3_6).toInt + 1).toNat (x2_6) r → CFR (fun s => ∀ x : Nat → Int, ¬ FSX σ (kpF s) x) (σ.1 4).toNatClampNeg (allS (σ.1 4)) r) → ((x3_6).toInt + 1).toNat = dd6 → Go F L RX0 cX0_conflict 5 rm_X0_conflict (some .int) (RI F L (fun r σ2 => WX σ σ2 ∧ (((∃ x : Nat → Int, FSX σ (kpF (allS (σ.1 4))) x) ∧ r = -1) ∨ ((∀ x : Nat → Int, ¬ FSX σ (kpF (allS (σ.1 4))) x) ∧ CFR (fun s => ∀ x : Nat → Int, ¬ FSX σ (kpF s) x) (σ.1 4).toNatClampNeg (allS (σ.1 4)) r)))) σ6 23 [(0, .ref (L.2.1 3)), (1, .ref (L.2.1 2)), (2, .int x2_6), (3, .int x3_6)] [] := by
      intro dd6
      induction dd6 using Nat.strongRecOn with
      | _ dd6 ih6 =>
        intro σ6 x2_6 x3_6 w6 h_6 hc_6 hm_6
        refine go_iload_n (i := 3) (pc' := 24) dX0_conflict_23 rfl rfl rfl ?_
        refine gz_if_lt (tgt := 55) (pc' := 27) dX0_conflict_24 rfl (by decide) (fun c7 => ?_) (fun c7 => ?_)
        · refine go_iload_n (i := 2) (pc' := 56) dX0_conflict_55 rfl rfl rfl ?_
          exact go_iret dX0_conflict_56 rfl (⟨w6, Or.inr ⟨no, hc_6 _ (by rw [show ((x3_6).toInt + 1).toNat = 0 from by omega]; rfl)⟩⟩)
        have c3 := cnat (x := x3_6) (by omega)
        have e3 : ((x3_6).toInt + 1).toNat = (x3_6).toNatClampNeg + 1 := by omega
        have o3 := of_nat (x := x3_6) (by omega)
        refine go_iload_n (i := 2) (pc' := 28) dX0_conflict_27 rfl rfl rfl ?_
        refine go_iconst (v := 1) (pc' := 29) dX0_conflict_28 rfl (by decide) ?_
        refine go_iload_n (i := 3) (pc' := 30) dX0_conflict_29 rfl rfl rfl ?_
        refine go_ishl (pc' := 31) dX0_conflict_30 rfl ?_
        refine go_iconst (v := (-1)) (pc' := 32) dX0_conflict_31 rfl (by decide) ?_
        refine go_ixor (pc' := 33) dX0_conflict_32 rfl ?_
        refine go_iand (pc' := 34) dX0_conflict_33 rfl ?_
        refine go_topz (fun y8 h8 e8 => ?_)
        refine go_istore (pc' := 36) dX0_conflict_34 rfl (by decide) ?_
        have sdc := SD_WX w6
        have fdc := FD_e sdc fd
        have hy4 : (y8) = ((x2_6) &&& (((1 : Int32) <<< ((x3_6) &&& 31)) ^^^ (-1))) := by assumption
        refine go_aload_n (i := 0) (pc' := 37) dX0_conflict_36 rfl rfl rfl ?_
        refine go_aload_n (i := 1) (pc' := 38) dX0_conflict_37 rfl rfl rfl ?_
        refine go_iload (pc' := 40) dX0_conflict_38 rfl rfl ?_
        refine go_cvi (pc' := 43) lk_X0_48 (f_X0_isPossible _ _ _ _ w6.1 fdc) rfl rfl (Nat.le_of_ble_eq_true rfl) (by decide) rfl rfl rfl ⟨Nat.le_of_ble_eq_true rfl, Nat.le_of_ble_eq_true rfl⟩ ⟨rfl, rfl⟩ dX0_conflict_40 rfl (fun r9 σ9 h9 => ?_)
        obtain ⟨u9, h9⟩ := h9
        have w9 := WX_trans w6 u9
        have ip := h9
        have up := u9
        refine gz_if_ne (tgt := 49) (pc' := 46) dX0_conflict_43 rfl (by decide) (fun c10 => ?_) (fun c10 => ?_)
        · have st49 : ∀ r : Int32, CFR (fun s => ∀ x : Nat → Int, ¬ FSX σ (kpF s) x) (x3_6).toNatClampNeg (x2_6) r → CFR (fun s => ∀ x : Nat → Int, ¬ FSX σ (kpF s) x) ((x3_6).toNatClampNeg + 1) (x2_6) r := fun r q => by
            unfold CFR
            rw [o3, ← hy4]
            first
            | exact Or.inl ⟨fun x hx => (ip.resolve_right (fun q => by have := q.1; omega)).2 x ((FSX_e sdc).mpr hx), q⟩
            | exact Or.inr ⟨fun y => y _ ((FSX_e sdc).mp ((FSX_e (SD_WX up)).mp (ip.resolve_left (fun q => by have := q.1; omega)).2.2.2)), q⟩
          refine gz_iinc (c := (-1)) (pc' := 52) dX0_conflict_49 rfl rfl (by decide) (by decide) (by decide) (by omega) (fun v11 h11 e11 => ?_)
          refine go_goto (tgt := 23) dX0_conflict_52 (by decide) ?_
          exact go_lv (lv' := [(0, .ref (L.2.1 3)), (1, .ref (L.2.1 2)), (2, .int x2_6), (3, .int v11)]) rfl (ih6 _ (by omega) σ9 x2_6 v11 w9 (by omega) (fun r q => hc_6 r (by rw [e3]; exact st49 r (by rw [show (x3_6).toNatClampNeg = ((v11).toInt + 1).toNat from by omega]; exact q))) rfl)
        refine go_iload (pc' := 48) dX0_conflict_46 rfl rfl ?_
        refine go_istore_n (i := 2) (pc' := 49) dX0_conflict_48 rfl rfl (by decide) ?_
        have st49 : ∀ r : Int32, CFR (fun s => ∀ x : Nat → Int, ¬ FSX σ (kpF s) x) (x3_6).toNatClampNeg (y8) r → CFR (fun s => ∀ x : Nat → Int, ¬ FSX σ (kpF s) x) ((x3_6).toNatClampNeg + 1) (x2_6) r := fun r q => by
          unfold CFR
          rw [o3, ← hy4]
          first
          | exact Or.inl ⟨fun x hx => (ip.resolve_right (fun q => by have := q.1; omega)).2 x ((FSX_e sdc).mpr hx), q⟩
          | exact Or.inr ⟨fun y => y _ ((FSX_e sdc).mp ((FSX_e (SD_WX up)).mp (ip.resolve_left (fun q => by have := q.1; omega)).2.2.2)), q⟩
        refine gz_iinc (c := (-1)) (pc' := 52) dX0_conflict_49 rfl rfl (by decide) (by decide) (by decide) (by omega) (fun v12 h12 e12 => ?_)
        refine go_goto (tgt := 23) dX0_conflict_52 (by decide) ?_
        exact go_lv (lv' := [(0, .ref (L.2.1 3)), (1, .ref (L.2.1 2)), (2, .int y8), (3, .int v12)]) rfl (ih6 _ (by omega) σ9 y8 v12 w9 (by omega) (fun r q => hc_6 r (by rw [e3]; exact st49 r (by rw [show (x3_6).toNatClampNeg = ((v12).toInt + 1).toNat from by omega]; exact q))) rfl)
    exact go_lv (lv' := [(0, .ref (L.2.1 3)), (1, .ref (L.2.1 2)), (2, .int r1), (3, .int v5)]) rfl (loop23_6 _ σ2 r1 v5 w2 (by omega) (fun r q => by rw [show ((v5).toInt + 1).toNat = (σ.1 4).toNatClampNeg from by omega, ab] at q; exact q) rfl)
  refine go_iconst (v := (-1)) (pc' := 15) dX0_conflict_14 rfl (by decide) ?_
  exact go_iret dX0_conflict_15 rfl (⟨w2, Or.inl ⟨⟨_, (FSX_e (SD_WX up)).mp (by have z := (ip.resolve_left (fun q => c3 q.1)).2.2.2; rw [ab] at z; exact z)⟩, rfl⟩⟩)
