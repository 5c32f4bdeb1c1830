set_option maxHeartbeats 4000000 in
set_option maxRecDepth 100000 in
theorem e_X6_addNumber (l : Launch) (L : WL) (σ : ST) (a : Int32) (ha : 0 ≤ a.toInt ∧ a.toInt ≤ 9999) (hs : (σ.1 14).toInt + ((digL a.toInt).length : Int) ≤ 160) (ix : IV σ) : CtV l L yX6_addNumber cX6_addNumber 3 none rm_X6_addNumber [.ref (L.2.1 8), .int a] σ (fun σ2 => WXo σ σ2 ∧ PD σ σ2 (digL a.toInt)) := by
  refine ctV_go (own := RX6) (by decide) rfl (Nat.le_of_ble_eq_true rfl) (fun F hF => ?_)
  subst hF
  have n1 : (1 : Int32).toInt = 1 := by decide
  have n10 : (10 : Int32).toInt = 10 := by decide
  have n48 : (48 : Int32).toInt = 48 := by decide
  have n1000 : (1000 : Int32).toInt = 1000 := by decide
  have w0 : WXo σ σ := WXo_rfl ix
  refine go_sipush (v := 1000) (pc' := 3) dX6_addNumber_0 rfl (by decide) ?_
  refine go_istore_n (i := 2) (pc' := 4) dX6_addNumber_3 rfl rfl (by decide) ?_
  have loop4_1 : ∀ (dd1 : Nat) (σ1 : ST) (x2_1 : Int32), WXo σ σ1 → (unitP (x2_1).toInt ∨ (x2_1).toInt = 0) → (PD σ σ1 (dgU a.toInt (x2_1).toInt)) → (x2_1).toInt.toNat = dd1 → Go F L RX6 cX6_addNumber 3 rm_X6_addNumber none (RV F L (fun σ2 => WXo σ σ2 ∧ PD σ σ2 (digL a.toInt))) σ1 4 [(0, .ref (L.2.1 8)), (1, .int a), (2, .int x2_1)] [] := by
    intro dd1
    induction dd1 using Nat.strongRecOn with
    | _ dd1 ih1 =>
      intro σ1 x2_1 w1 hu_1 hp_1 hm_1
      refine go_iload_n (i := 2) (pc' := 5) dX6_addNumber_4 rfl rfl rfl ?_
      have ivp := w1.1
      have h14 := hp_1.2.2
      refine gz_if_le (tgt := 39) (pc' := 8) dX6_addNumber_5 rfl (by decide) (fun c2 => ?_) (fun c2 => ?_)
      · exact go_vret dX6_addNumber_39 rfl (⟨w1, PD_e hp_1 (by rw [show (x2_1).toInt = 0 by omega]; rfl)⟩)
      have hv : unitP (x2_1).toInt := hu_1.resolve_right (by omega)
      refine go_iload_n (i := 1) (pc' := 9) dX6_addNumber_8 rfl rfl rfl ?_
      refine go_iload_n (i := 2) (pc' := 10) dX6_addNumber_9 rfl rfl rfl ?_
      refine gz_icmp_ge (tgt := 18) (pc' := 13) dX6_addNumber_10 rfl (by decide) (fun c3 => ?_) (fun c3 => ?_)
      · refine go_aload_n (i := 0) (pc' := 19) dX6_addNumber_18 rfl rfl rfl ?_
        refine go_bipush (v := 48) (pc' := 21) dX6_addNumber_19 rfl (by decide) ?_
        refine go_iload_n (i := 1) (pc' := 22) dX6_addNumber_21 rfl rfl rfl ?_
        refine go_iload_n (i := 2) (pc' := 23) dX6_addNumber_22 rfl rfl rfl ?_
        refine go_idiv (pc' := 24) dX6_addNumber_23 rfl (ne0 (by omega)) ?_
        refine go_bipush (v := 10) (pc' := 26) dX6_addNumber_24 rfl (by decide) ?_
        refine go_irem (pc' := 27) dX6_addNumber_26 rfl (by decide) ?_
        refine go_iadd (pc' := 28) dX6_addNumber_27 rfl ?_
        have dl := dgU_len (v := a.toInt) hv (by omega)
        have dv := dig_v (x := a) (u := x2_1) ha (by omega)
        have d0 : 0 ≤ a.toInt / (x2_1).toInt % 10 ∧ a.toInt / (x2_1).toInt % 10 ≤ 9 := by omega
        refine go_cvv (pc' := 31) lk_X6_31 (e_X6_add _ _ _ _ (by omega) w1.1) rfl rfl (Nat.le_of_ble_eq_true rfl) (by decide) rfl rfl rfl ⟨Nat.le_of_ble_eq_true rfl, Nat.le_of_ble_eq_true rfl⟩ ⟨rfl, rfl⟩ dX6_addNumber_28 rfl (fun σ4 h4 => ?_)
        have w4 := WXo_trans w1 ((fun z => (add_PD w1.1 (by omega) (by omega) z).1) h4)
        have pd := (add_PD ivp (by omega) (by omega) h4).2
        rw [dv] at pd
        refine go_iload_n (i := 2) (pc' := 32) dX6_addNumber_31 rfl rfl rfl ?_
        refine go_bipush (v := 10) (pc' := 34) dX6_addNumber_32 rfl (by decide) ?_
        refine go_idiv (pc' := 35) dX6_addNumber_34 rfl (by decide) ?_
        have q35 := i32_div10 x2_1 (by omega)
        refine go_topz (fun y5 h5 e5 => ?_)
        refine go_istore_n (i := 2) (pc' := 36) dX6_addNumber_35 rfl rfl (by decide) ?_
        refine go_goto (tgt := 4) dX6_addNumber_36 (by decide) ?_
        exact go_lv (lv' := [(0, .ref (L.2.1 8)), (1, .int a), (2, .int y5)]) rfl (ih1 _ (by omega) σ4 y5 w4 (by omega) (by first | exact PD_e hp_1 (dgU_skip hv (by omega) (by omega) (by omega)) | exact PD_trans hp_1 pd (by rw [dgU_step hv (show _ = _ / 10 by omega) (by omega)])) rfl)
      refine go_iload_n (i := 2) (pc' := 14) dX6_addNumber_13 rfl rfl rfl ?_
      refine go_iconst (v := 1) (pc' := 15) dX6_addNumber_14 rfl (by decide) ?_
      refine gz_icmp_ne (tgt := 31) (pc' := 18) dX6_addNumber_15 rfl (by decide) (fun c6 => ?_) (fun c6 => ?_)
      · refine go_iload_n (i := 2) (pc' := 32) dX6_addNumber_31 rfl rfl rfl ?_
        refine go_bipush (v := 10) (pc' := 34) dX6_addNumber_32 rfl (by decide) ?_
        refine go_idiv (pc' := 35) dX6_addNumber_34 rfl (by decide) ?_
        have q35 := i32_div10 x2_1 (by omega)
        refine go_topz (fun y7 h7 e7 => ?_)
        refine go_istore_n (i := 2) (pc' := 36) dX6_addNumber_35 rfl rfl (by decide) ?_
        refine go_goto (tgt := 4) dX6_addNumber_36 (by decide) ?_
        exact go_lv (lv' := [(0, .ref (L.2.1 8)), (1, .int a), (2, .int y7)]) rfl (ih1 _ (by omega) σ1 y7 w1 (by omega) (by first | exact PD_e hp_1 (dgU_skip hv (by omega) (by omega) (by omega)) | exact PD_trans hp_1 pd (by rw [dgU_step hv (show _ = _ / 10 by omega) (by omega)])) rfl)
      refine go_aload_n (i := 0) (pc' := 19) dX6_addNumber_18 rfl rfl rfl ?_
      refine go_bipush (v := 48) (pc' := 21) dX6_addNumber_19 rfl (by decide) ?_
      refine go_iload_n (i := 1) (pc' := 22) dX6_addNumber_21 rfl rfl rfl ?_
      refine go_iload_n (i := 2) (pc' := 23) dX6_addNumber_22 rfl rfl rfl ?_
      refine go_idiv (pc' := 24) dX6_addNumber_23 rfl (ne0 (by omega)) ?_
      refine go_bipush (v := 10) (pc' := 26) dX6_addNumber_24 rfl (by decide) ?_
      refine go_irem (pc' := 27) dX6_addNumber_26 rfl (by decide) ?_
      refine go_iadd (pc' := 28) dX6_addNumber_27 rfl ?_
      have dl := dgU_len (v := a.toInt) hv (by omega)
      have dv := dig_v (x := a) (u := x2_1) ha (by omega)
      have d0 : 0 ≤ a.toInt / (x2_1).toInt % 10 ∧ a.toInt / (x2_1).toInt % 10 ≤ 9 := by omega
      refine go_cvv (pc' := 31) lk_X6_31 (e_X6_add _ _ _ _ (by omega) w1.1) rfl rfl (Nat.le_of_ble_eq_true rfl) (by decide) rfl rfl rfl ⟨Nat.le_of_ble_eq_true rfl, Nat.le_of_ble_eq_true rfl⟩ ⟨rfl, rfl⟩ dX6_addNumber_28 rfl (fun σ8 h8 => ?_)
      have w8 := WXo_trans w1 ((fun z => (add_PD w1.1 (by omega) (by omega) z).1) h8)
      have pd := (add_PD ivp (by omega) (by omega) h8).2
      rw [dv] at pd
      refine go_iload_n (i := 2) (pc' := 32) dX6_addNumber_31 rfl rfl rfl ?_
      refine go_bipush (v := 10) (pc' := 34) dX6_addNumber_32 rfl (by decide) ?_
      refine go_idiv (pc' := 35) dX6_addNumber_34 rfl (by decide) ?_
      have q35 := i32_div10 x2_1 (by omega)
      refine go_topz (fun y9 h9 e9 => ?_)
      refine go_istore_n (i := 2) (pc' := 36) dX6_addNumber_35 rfl rfl (by decide) ?_
      refine go_goto (tgt := 4) dX6_addNumber_36 (by decide) ?_
      exact go_lv (lv' := [(0, .ref (L.2.1 8)), (1, .int a), (2, .int y9)]) rfl (ih1 _ (by omega) σ8 y9 w8 (by omega) (by first | exact PD_e hp_1 (dgU_skip hv (by omega) (by omega) (by omega)) | exact PD_trans hp_1 pd (by rw [dgU_step hv (show _ = _ / 10 by omega) (by omega)])) rfl)
  exact go_lv (lv' := [(0, .ref (L.2.1 8)), (1, .int a), (2, .int (1000 : Int32))]) rfl (loop4_1 _ σ (1000 : Int32) w0 (Or.inl (by omega)) (PD_e (PD_rfl σ) (by rw [n1000]; rfl)) rfl)
set_option maxHeartbeats 4000000 in
set_option maxRecDepth 100000 in
theorem e_X6_addMark (l : Launch) (L : WL) (σ : ST) (a : Int32) (h0 : a.toInt ≠ 0) (hs : (σ.1 14).toInt + ((mkL a.toInt (σ.1 8).toInt (σ.1 9).toInt).length : Int) ≤ 160) (hn : a.toInt = 4 → 0 ≤ (σ.1 9).toInt ∧ (σ.1 9).toInt ≤ 9999) (hq : a.toInt = 2 ∨ a.toInt = 3 → sortQ (σ.1 8).toInt) (ix : IV σ) : CtV l L yX6_addMark cX6_addMark 4 none rm_X6_addMark [.ref (L.2.1 8), .int a, .ref (L.2.1 7)] σ (fun σ2 => WXo σ σ2 ∧ PD σ σ2 (mkL a.toInt (σ.1 8).toInt (σ.1 9).toInt)) := by
  refine ctV_go (own := RX6) (by decide) rfl (Nat.le_of_ble_eq_true rfl) (fun F hF => ?_)
  subst hF
  have n0 : (0 : Int32).toInt = 0 := by decide
  have n1 : (1 : Int32).toInt = 1 := by decide
  have n2 : (2 : Int32).toInt = 2 := by decide
  have n3 : (3 : Int32).toInt = 3 := by decide
  have n4 : (4 : Int32).toInt = 4 := by decide
  have n39 : (39 : Int32).toInt = 39 := by decide
  have n40 : (40 : Int32).toInt = 40 := by decide
  have n41 : (41 : Int32).toInt = 41 := by decide
  have n47 : (47 : Int32).toInt = 47 := by decide
  have n60 : (60 : Int32).toInt = 60 := by decide
  have n62 : (62 : Int32).toInt = 62 := by decide
  have n91 : (91 : Int32).toInt = 91 := by decide
  have n93 : (93 : Int32).toInt = 93 := by decide
  have w0 : WXo σ σ := WXo_rfl ix
  have v97 : (97 : Int32).toInt = 97 := by decide
  have v100 : (100 : Int32).toInt = 100 := by decide
  have v104 : (104 : Int32).toInt = 104 := by decide
  have v117 : (117 : Int32).toInt = 117 := by decide
  have pd := PD_rfl σ
  refine go_iload_n (i := 1) (pc' := 1) dX6_addMark_0 rfl rfl rfl ?_
  refine go_iconst (v := 4) (pc' := 2) dX6_addMark_1 rfl (by decide) ?_
  refine gz_icmp_ne (tgt := 26) (pc' := 5) dX6_addMark_2 rfl (by decide) (fun c1 => ?_) (fun c1 => ?_)
  · refine go_iload_n (i := 1) (pc' := 27) dX6_addMark_26 rfl rfl rfl ?_
    refine go_iconst (v := 2) (pc' := 28) dX6_addMark_27 rfl (by decide) ?_
    refine gz_icmp_eq (tgt := 37) (pc' := 31) dX6_addMark_28 rfl (by decide) (fun c2 => ?_) (fun c2 => ?_)
    · have ivp := w0.1
      have h23 : a.toInt = 2 ∨ a.toInt = 3 := by omega
      have hq2 := hq h23
      refine go_iload_n (i := 1) (pc' := 38) dX6_addMark_37 rfl rfl rfl ?_
      refine go_iconst (v := 2) (pc' := 39) dX6_addMark_38 rfl (by decide) ?_
      refine gz_icmp_ne (tgt := 46) (pc' := 42) dX6_addMark_39 rfl (by decide) (fun c3 => ?_) (fun c3 => ?_)
      · refine go_iconst (v := 0) (pc' := 47) dX6_addMark_46 rfl (by decide) ?_
        refine go_istore_n (i := 3) (pc' := 48) dX6_addMark_47 rfl rfl (by decide) ?_
        refine go_aload_n (i := 2) (pc' := 49) dX6_addMark_48 rfl rfl rfl ?_
        refine gf_7_sort (pc' := 52) dX6_addMark_49 rfl fl_X6_43 ?_
        by_cases z4_0 : (σ.1 8) = 97
        · refine go_lookup (off := 62) (tgt := 114) dX6_addMark_52 (by decide) (by rw [z4_0]; decide) (by decide) ?_
          refine go_aload_n (i := 0) (pc' := 115) dX6_addMark_114 rfl rfl rfl ?_
          refine go_bipush (v := 47) (pc' := 117) dX6_addMark_115 rfl (by decide) ?_
          have e8 : (σ.1 8).toInt = 97 := (congrArg Int32.toInt (by assumption : σ.1 8 = 97)).trans v97
          have el : mkL a.toInt (σ.1 8).toInt (σ.1 9).toInt = [((47 : Int32)).toInt] := by
            first | exact (mkL_2 (by omega)).trans ((congrArg opnL e8).trans (by decide)) | exact (mkL_3 (by omega)).trans ((congrArg clsL e8).trans (by decide))
          have ell : (mkL a.toInt (σ.1 8).toInt (σ.1 9).toInt).length = 1 := by rw [el]; rfl
          refine go_cvv (pc' := 120) lk_X6_31 (e_X6_add _ _ _ _ (by omega) w0.1) rfl rfl (Nat.le_of_ble_eq_true rfl) (by decide) rfl rfl rfl ⟨Nat.le_of_ble_eq_true rfl, Nat.le_of_ble_eq_true rfl⟩ ⟨rfl, rfl⟩ dX6_addMark_117 rfl (fun σ5 h5 => ?_)
          have w5 := WXo_trans w0 ((fun z => (add_PD w0.1 (by omega) (by omega) z).1) h5)
          have pd := PD_trans pd (add_PD ivp (by omega) (by omega) h5).2 rfl
          refine go_goto (tgt := 150) dX6_addMark_120 (by decide) ?_
          exact go_vret dX6_addMark_150 rfl (by first | exact ⟨w5, PD_e pd el⟩ | exact ⟨w5, PD_e pd (by have e8 : (σ.1 8).toInt = 115 := by { rcases hq2 with q | q | q | q | q; exact absurd (Int32.toInt_inj.mp (q.trans v100.symm)) (by assumption); exact absurd (Int32.toInt_inj.mp (q.trans v97.symm)) (by assumption); exact absurd (Int32.toInt_inj.mp (q.trans v117.symm)) (by assumption); exact absurd (Int32.toInt_inj.mp (q.trans v104.symm)) (by assumption); exact q }; first | exact (mkL_2 (by omega)).trans ((congrArg opnL e8).trans (by decide)) | exact (mkL_3 (by omega)).trans ((congrArg clsL e8).trans (by decide)))⟩)
        by_cases z4_1 : (σ.1 8) = 100
        · refine go_lookup (off := 44) (tgt := 96) dX6_addMark_52 (by decide) (by rw [z4_1]; decide) (by decide) ?_
          refine go_aload_n (i := 0) (pc' := 97) dX6_addMark_96 rfl rfl rfl ?_
          refine go_iload_n (i := 3) (pc' := 98) dX6_addMark_97 rfl rfl rfl ?_
          refine gz_if_eq (tgt := 106) (pc' := 101) dX6_addMark_98 rfl (by decide) (fun c6 => ?_) (fun c6 => (by exfalso; omega))
          refine go_bipush (v := 62) (pc' := 108) dX6_addMark_106 rfl (by decide) ?_
          have e8 : (σ.1 8).toInt = 100 := (congrArg Int32.toInt (by assumption : σ.1 8 = 100)).trans v100
          have el : mkL a.toInt (σ.1 8).toInt (σ.1 9).toInt = [((62 : Int32)).toInt] := by
            first | exact (mkL_2 (by omega)).trans ((congrArg opnL e8).trans (by decide)) | exact (mkL_3 (by omega)).trans ((congrArg clsL e8).trans (by decide))
          have ell : (mkL a.toInt (σ.1 8).toInt (σ.1 9).toInt).length = 1 := by rw [el]; rfl
          refine go_cvv (pc' := 111) lk_X6_31 (e_X6_add _ _ _ _ (by omega) w0.1) rfl rfl (Nat.le_of_ble_eq_true rfl) (by decide) rfl rfl rfl ⟨Nat.le_of_ble_eq_true rfl, Nat.le_of_ble_eq_true rfl⟩ ⟨rfl, rfl⟩ dX6_addMark_108 rfl (fun σ7 h7 => ?_)
          have w7 := WXo_trans w0 ((fun z => (add_PD w0.1 (by omega) (by omega) z).1) h7)
          have pd := PD_trans pd (add_PD ivp (by omega) (by omega) h7).2 rfl
          refine go_goto (tgt := 150) dX6_addMark_111 (by decide) ?_
          exact go_vret dX6_addMark_150 rfl (by first | exact ⟨w7, PD_e pd el⟩ | exact ⟨w7, PD_e pd (by have e8 : (σ.1 8).toInt = 115 := by { rcases hq2 with q | q | q | q | q; exact absurd (Int32.toInt_inj.mp (q.trans v100.symm)) (by assumption); exact absurd (Int32.toInt_inj.mp (q.trans v97.symm)) (by assumption); exact absurd (Int32.toInt_inj.mp (q.trans v117.symm)) (by assumption); exact absurd (Int32.toInt_inj.mp (q.trans v104.symm)) (by assumption); exact q }; first | exact (mkL_2 (by omega)).trans ((congrArg opnL e8).trans (by decide)) | exact (mkL_3 (by omega)).trans ((congrArg clsL e8).trans (by decide)))⟩)
        by_cases z4_2 : (σ.1 8) = 104
        · refine go_lookup (off := 89) (tgt := 141) dX6_addMark_52 (by decide) (by rw [z4_2]; decide) (by decide) ?_
          refine go_aload_n (i := 0) (pc' := 142) dX6_addMark_141 rfl rfl rfl ?_
          refine go_bipush (v := 39) (pc' := 144) dX6_addMark_142 rfl (by decide) ?_
          have e8 : (σ.1 8).toInt = 104 := (congrArg Int32.toInt (by assumption : σ.1 8 = 104)).trans v104
          have el : mkL a.toInt (σ.1 8).toInt (σ.1 9).toInt = [((39 : Int32)).toInt] := by
            first | exact (mkL_2 (by omega)).trans ((congrArg opnL e8).trans (by decide)) | exact (mkL_3 (by omega)).trans ((congrArg clsL e8).trans (by decide))
          have ell : (mkL a.toInt (σ.1 8).toInt (σ.1 9).toInt).length = 1 := by rw [el]; rfl
          refine go_cvv (pc' := 147) lk_X6_31 (e_X6_add _ _ _ _ (by omega) w0.1) rfl rfl (Nat.le_of_ble_eq_true rfl) (by decide) rfl rfl rfl ⟨Nat.le_of_ble_eq_true rfl, Nat.le_of_ble_eq_true rfl⟩ ⟨rfl, rfl⟩ dX6_addMark_144 rfl (fun σ8 h8 => ?_)
          have w8 := WXo_trans w0 ((fun z => (add_PD w0.1 (by omega) (by omega) z).1) h8)
          have pd := PD_trans pd (add_PD ivp (by omega) (by omega) h8).2 rfl
          refine go_goto (tgt := 150) dX6_addMark_147 (by decide) ?_
          exact go_vret dX6_addMark_150 rfl (by first | exact ⟨w8, PD_e pd el⟩ | exact ⟨w8, PD_e pd (by have e8 : (σ.1 8).toInt = 115 := by { rcases hq2 with q | q | q | q | q; exact absurd (Int32.toInt_inj.mp (q.trans v100.symm)) (by assumption); exact absurd (Int32.toInt_inj.mp (q.trans v97.symm)) (by assumption); exact absurd (Int32.toInt_inj.mp (q.trans v117.symm)) (by assumption); exact absurd (Int32.toInt_inj.mp (q.trans v104.symm)) (by assumption); exact q }; first | exact (mkL_2 (by omega)).trans ((congrArg opnL e8).trans (by decide)) | exact (mkL_3 (by omega)).trans ((congrArg clsL e8).trans (by decide)))⟩)
        by_cases z4_3 : (σ.1 8) = 117
        · refine go_lookup (off := 71) (tgt := 123) dX6_addMark_52 (by decide) (by rw [z4_3]; decide) (by decide) ?_
          refine go_aload_n (i := 0) (pc' := 124) dX6_addMark_123 rfl rfl rfl ?_
          refine go_iload_n (i := 3) (pc' := 125) dX6_addMark_124 rfl rfl rfl ?_
          refine gz_if_eq (tgt := 133) (pc' := 128) dX6_addMark_125 rfl (by decide) (fun c9 => ?_) (fun c9 => (by exfalso; omega))
          refine go_bipush (v := 93) (pc' := 135) dX6_addMark_133 rfl (by decide) ?_
          have e8 : (σ.1 8).toInt = 117 := (congrArg Int32.toInt (by assumption : σ.1 8 = 117)).trans v117
          have el : mkL a.toInt (σ.1 8).toInt (σ.1 9).toInt = [((93 : Int32)).toInt] := by
            first | exact (mkL_2 (by omega)).trans ((congrArg opnL e8).trans (by decide)) | exact (mkL_3 (by omega)).trans ((congrArg clsL e8).trans (by decide))
          have ell : (mkL a.toInt (σ.1 8).toInt (σ.1 9).toInt).length = 1 := by rw [el]; rfl
          refine go_cvv (pc' := 138) lk_X6_31 (e_X6_add _ _ _ _ (by omega) w0.1) rfl rfl (Nat.le_of_ble_eq_true rfl) (by decide) rfl rfl rfl ⟨Nat.le_of_ble_eq_true rfl, Nat.le_of_ble_eq_true rfl⟩ ⟨rfl, rfl⟩ dX6_addMark_135 rfl (fun σ10 h10 => ?_)
          have w10 := WXo_trans w0 ((fun z => (add_PD w0.1 (by omega) (by omega) z).1) h10)
          have pd := PD_trans pd (add_PD ivp (by omega) (by omega) h10).2 rfl
          refine go_goto (tgt := 150) dX6_addMark_138 (by decide) ?_
          exact go_vret dX6_addMark_150 rfl (by first | exact ⟨w10, PD_e pd el⟩ | exact ⟨w10, PD_e pd (by have e8 : (σ.1 8).toInt = 115 := by { rcases hq2 with q | q | q | q | q; exact absurd (Int32.toInt_inj.mp (q.trans v100.symm)) (by assumption); exact absurd (Int32.toInt_inj.mp (q.trans v97.symm)) (by assumption); exact absurd (Int32.toInt_inj.mp (q.trans v117.symm)) (by assumption); exact absurd (Int32.toInt_inj.mp (q.trans v104.symm)) (by assumption); exact q }; first | exact (mkL_2 (by omega)).trans ((congrArg opnL e8).trans (by decide)) | exact (mkL_3 (by omega)).trans ((congrArg clsL e8).trans (by decide)))⟩)
        refine go_lookup (off := 98) (tgt := 150) dX6_addMark_52 (by decide) (lkm_n z4_0 z4_1 z4_2 z4_3) (by decide) ?_
        exact go_vret dX6_addMark_150 rfl (by first | exact ⟨w0, PD_e pd el⟩ | exact ⟨w0, PD_e pd (by have e8 : (σ.1 8).toInt = 115 := by { rcases hq2 with q | q | q | q | q; exact absurd (Int32.toInt_inj.mp (q.trans v100.symm)) (by assumption); exact absurd (Int32.toInt_inj.mp (q.trans v97.symm)) (by assumption); exact absurd (Int32.toInt_inj.mp (q.trans v117.symm)) (by assumption); exact absurd (Int32.toInt_inj.mp (q.trans v104.symm)) (by assumption); exact q }; first | exact (mkL_2 (by omega)).trans ((congrArg opnL e8).trans (by decide)) | exact (mkL_3 (by omega)).trans ((congrArg clsL e8).trans (by decide)))⟩)
      refine go_iconst (v := 1) (pc' := 43) dX6_addMark_42 rfl (by decide) ?_
      refine go_goto (tgt := 47) dX6_addMark_43 (by decide) ?_
      refine go_istore_n (i := 3) (pc' := 48) dX6_addMark_47 rfl rfl (by decide) ?_
      refine go_aload_n (i := 2) (pc' := 49) dX6_addMark_48 rfl rfl rfl ?_
      refine gf_7_sort (pc' := 52) dX6_addMark_49 rfl fl_X6_43 ?_
      by_cases z11_0 : (σ.1 8) = 97
      · refine go_lookup (off := 62) (tgt := 114) dX6_addMark_52 (by decide) (by rw [z11_0]; decide) (by decide) ?_
        refine go_aload_n (i := 0) (pc' := 115) dX6_addMark_114 rfl rfl rfl ?_
        refine go_bipush (v := 47) (pc' := 117) dX6_addMark_115 rfl (by decide) ?_
        have e8 : (σ.1 8).toInt = 97 := (congrArg Int32.toInt (by assumption : σ.1 8 = 97)).trans v97
        have el : mkL a.toInt (σ.1 8).toInt (σ.1 9).toInt = [((47 : Int32)).toInt] := by
          first | exact (mkL_2 (by omega)).trans ((congrArg opnL e8).trans (by decide)) | exact (mkL_3 (by omega)).trans ((congrArg clsL e8).trans (by decide))
        have ell : (mkL a.toInt (σ.1 8).toInt (σ.1 9).toInt).length = 1 := by rw [el]; rfl
        refine go_cvv (pc' := 120) lk_X6_31 (e_X6_add _ _ _ _ (by omega) w0.1) rfl rfl (Nat.le_of_ble_eq_true rfl) (by decide) rfl rfl rfl ⟨Nat.le_of_ble_eq_true rfl, Nat.le_of_ble_eq_true rfl⟩ ⟨rfl, rfl⟩ dX6_addMark_117 rfl (fun σ12 h12 => ?_)
        have w12 := WXo_trans w0 ((fun z => (add_PD w0.1 (by omega) (by omega) z).1) h12)
        have pd := PD_trans pd (add_PD ivp (by omega) (by omega) h12).2 rfl
        refine go_goto (tgt := 150) dX6_addMark_120 (by decide) ?_
        exact go_vret dX6_addMark_150 rfl (by first | exact ⟨w12, PD_e pd el⟩ | exact ⟨w12, PD_e pd (by have e8 : (σ.1 8).toInt = 115 := by { rcases hq2 with q | q | q | q | q; exact absurd (Int32.toInt_inj.mp (q.trans v100.symm)) (by assumption); exact absurd (Int32.toInt_inj.mp (q.trans v97.symm)) (by assumption); exact absurd (Int32.toInt_inj.mp (q.trans v117.symm)) (by assumption); exact absurd (Int32.toInt_inj.mp (q.trans v104.symm)) (by assumption); exact q }; first | exact (mkL_2 (by omega)).trans ((congrArg opnL e8).trans (by decide)) | exact (mkL_3 (by omega)).trans ((congrArg clsL e8).trans (by decide)))⟩)
      by_cases z11_1 : (σ.1 8) = 100
      · refine go_lookup (off := 44) (tgt := 96) dX6_addMark_52 (by decide) (by rw [z11_1]; decide) (by decide) ?_
        refine go_aload_n (i := 0) (pc' := 97) dX6_addMark_96 rfl rfl rfl ?_
        refine go_iload_n (i := 3) (pc' := 98) dX6_addMark_97 rfl rfl rfl ?_
        refine gz_if_eq (tgt := 106) (pc' := 101) dX6_addMark_98 rfl (by decide) (fun c13 => (by exfalso; omega)) (fun c13 => ?_)
        refine go_bipush (v := 60) (pc' := 103) dX6_addMark_101 rfl (by decide) ?_
        refine go_goto (tgt := 108) dX6_addMark_103 (by decide) ?_
        have e8 : (σ.1 8).toInt = 100 := (congrArg Int32.toInt (by assumption : σ.1 8 = 100)).trans v100
        have el : mkL a.toInt (σ.1 8).toInt (σ.1 9).toInt = [((60 : Int32)).toInt] := by
          first | exact (mkL_2 (by omega)).trans ((congrArg opnL e8).trans (by decide)) | exact (mkL_3 (by omega)).trans ((congrArg clsL e8).trans (by decide))
        have ell : (mkL a.toInt (σ.1 8).toInt (σ.1 9).toInt).length = 1 := by rw [el]; rfl
        refine go_cvv (pc' := 111) lk_X6_31 (e_X6_add _ _ _ _ (by omega) w0.1) rfl rfl (Nat.le_of_ble_eq_true rfl) (by decide) rfl rfl rfl ⟨Nat.le_of_ble_eq_true rfl, Nat.le_of_ble_eq_true rfl⟩ ⟨rfl, rfl⟩ dX6_addMark_108 rfl (fun σ14 h14 => ?_)
        have w14 := WXo_trans w0 ((fun z => (add_PD w0.1 (by omega) (by omega) z).1) h14)
        have pd := PD_trans pd (add_PD ivp (by omega) (by omega) h14).2 rfl
        refine go_goto (tgt := 150) dX6_addMark_111 (by decide) ?_
        exact go_vret dX6_addMark_150 rfl (by first | exact ⟨w14, PD_e pd el⟩ | exact ⟨w14, PD_e pd (by have e8 : (σ.1 8).toInt = 115 := by { rcases hq2 with q | q | q | q | q; exact absurd (Int32.toInt_inj.mp (q.trans v100.symm)) (by assumption); exact absurd (Int32.toInt_inj.mp (q.trans v97.symm)) (by assumption); exact absurd (Int32.toInt_inj.mp (q.trans v117.symm)) (by assumption); exact absurd (Int32.toInt_inj.mp (q.trans v104.symm)) (by assumption); exact q }; first | exact (mkL_2 (by omega)).trans ((congrArg opnL e8).trans (by decide)) | exact (mkL_3 (by omega)).trans ((congrArg clsL e8).trans (by decide)))⟩)
      by_cases z11_2 : (σ.1 8) = 104
      · refine go_lookup (off := 89) (tgt := 141) dX6_addMark_52 (by decide) (by rw [z11_2]; decide) (by decide) ?_
        refine go_aload_n (i := 0) (pc' := 142) dX6_addMark_141 rfl rfl rfl ?_
        refine go_bipush (v := 39) (pc' := 144) dX6_addMark_142 rfl (by decide) ?_
        have e8 : (σ.1 8).toInt = 104 := (congrArg Int32.toInt (by assumption : σ.1 8 = 104)).trans v104
        have el : mkL a.toInt (σ.1 8).toInt (σ.1 9).toInt = [((39 : Int32)).toInt] := by
          first | exact (mkL_2 (by omega)).trans ((congrArg opnL e8).trans (by decide)) | exact (mkL_3 (by omega)).trans ((congrArg clsL e8).trans (by decide))
        have ell : (mkL a.toInt (σ.1 8).toInt (σ.1 9).toInt).length = 1 := by rw [el]; rfl
        refine go_cvv (pc' := 147) lk_X6_31 (e_X6_add _ _ _ _ (by omega) w0.1) rfl rfl (Nat.le_of_ble_eq_true rfl) (by decide) rfl rfl rfl ⟨Nat.le_of_ble_eq_true rfl, Nat.le_of_ble_eq_true rfl⟩ ⟨rfl, rfl⟩ dX6_addMark_144 rfl (fun σ15 h15 => ?_)
        have w15 := WXo_trans w0 ((fun z => (add_PD w0.1 (by omega) (by omega) z).1) h15)
        have pd := PD_trans pd (add_PD ivp (by omega) (by omega) h15).2 rfl
        refine go_goto (tgt := 150) dX6_addMark_147 (by decide) ?_
        exact go_vret dX6_addMark_150 rfl (by first | exact ⟨w15, PD_e pd el⟩ | exact ⟨w15, PD_e pd (by have e8 : (σ.1 8).toInt = 115 := by { rcases hq2 with q | q | q | q | q; exact absurd (Int32.toInt_inj.mp (q.trans v100.symm)) (by assumption); exact absurd (Int32.toInt_inj.mp (q.trans v97.symm)) (by assumption); exact absurd (Int32.toInt_inj.mp (q.trans v117.symm)) (by assumption); exact absurd (Int32.toInt_inj.mp (q.trans v104.symm)) (by assumption); exact q }; first | exact (mkL_2 (by omega)).trans ((congrArg opnL e8).trans (by decide)) | exact (mkL_3 (by omega)).trans ((congrArg clsL e8).trans (by decide)))⟩)
      by_cases z11_3 : (σ.1 8) = 117
      · refine go_lookup (off := 71) (tgt := 123) dX6_addMark_52 (by decide) (by rw [z11_3]; decide) (by decide) ?_
        refine go_aload_n (i := 0) (pc' := 124) dX6_addMark_123 rfl rfl rfl ?_
        refine go_iload_n (i := 3) (pc' := 125) dX6_addMark_124 rfl rfl rfl ?_
        refine gz_if_eq (tgt := 133) (pc' := 128) dX6_addMark_125 rfl (by decide) (fun c16 => (by exfalso; omega)) (fun c16 => ?_)
        refine go_bipush (v := 91) (pc' := 130) dX6_addMark_128 rfl (by decide) ?_
        refine go_goto (tgt := 135) dX6_addMark_130 (by decide) ?_
        have e8 : (σ.1 8).toInt = 117 := (congrArg Int32.toInt (by assumption : σ.1 8 = 117)).trans v117
        have el : mkL a.toInt (σ.1 8).toInt (σ.1 9).toInt = [((91 : Int32)).toInt] := by
          first | exact (mkL_2 (by omega)).trans ((congrArg opnL e8).trans (by decide)) | exact (mkL_3 (by omega)).trans ((congrArg clsL e8).trans (by decide))
        have ell : (mkL a.toInt (σ.1 8).toInt (σ.1 9).toInt).length = 1 := by rw [el]; rfl
        refine go_cvv (pc' := 138) lk_X6_31 (e_X6_add _ _ _ _ (by omega) w0.1) rfl rfl (Nat.le_of_ble_eq_true rfl) (by decide) rfl rfl rfl ⟨Nat.le_of_ble_eq_true rfl, Nat.le_of_ble_eq_true rfl⟩ ⟨rfl, rfl⟩ dX6_addMark_135 rfl (fun σ17 h17 => ?_)
        have w17 := WXo_trans w0 ((fun z => (add_PD w0.1 (by omega) (by omega) z).1) h17)
        have pd := PD_trans pd (add_PD ivp (by omega) (by omega) h17).2 rfl
        refine go_goto (tgt := 150) dX6_addMark_138 (by decide) ?_
        exact go_vret dX6_addMark_150 rfl (by first | exact ⟨w17, PD_e pd el⟩ | exact ⟨w17, PD_e pd (by have e8 : (σ.1 8).toInt = 115 := by { rcases hq2 with q | q | q | q | q; exact absurd (Int32.toInt_inj.mp (q.trans v100.symm)) (by assumption); exact absurd (Int32.toInt_inj.mp (q.trans v97.symm)) (by assumption); exact absurd (Int32.toInt_inj.mp (q.trans v117.symm)) (by assumption); exact absurd (Int32.toInt_inj.mp (q.trans v104.symm)) (by assumption); exact q }; first | exact (mkL_2 (by omega)).trans ((congrArg opnL e8).trans (by decide)) | exact (mkL_3 (by omega)).trans ((congrArg clsL e8).trans (by decide)))⟩)
      refine go_lookup (off := 98) (tgt := 150) dX6_addMark_52 (by decide) (lkm_n z11_0 z11_1 z11_2 z11_3) (by decide) ?_
      exact go_vret dX6_addMark_150 rfl (by first | exact ⟨w0, PD_e pd el⟩ | exact ⟨w0, PD_e pd (by have e8 : (σ.1 8).toInt = 115 := by { rcases hq2 with q | q | q | q | q; exact absurd (Int32.toInt_inj.mp (q.trans v100.symm)) (by assumption); exact absurd (Int32.toInt_inj.mp (q.trans v97.symm)) (by assumption); exact absurd (Int32.toInt_inj.mp (q.trans v117.symm)) (by assumption); exact absurd (Int32.toInt_inj.mp (q.trans v104.symm)) (by assumption); exact q }; first | exact (mkL_2 (by omega)).trans ((congrArg opnL e8).trans (by decide)) | exact (mkL_3 (by omega)).trans ((congrArg clsL e8).trans (by decide)))⟩)
    refine go_iload_n (i := 1) (pc' := 32) dX6_addMark_31 rfl rfl rfl ?_
    refine go_iconst (v := 3) (pc' := 33) dX6_addMark_32 rfl (by decide) ?_
    refine gz_icmp_eq (tgt := 37) (pc' := 36) dX6_addMark_33 rfl (by decide) (fun c18 => ?_) (fun c18 => ?_)
    · have ivp := w0.1
      have h23 : a.toInt = 2 ∨ a.toInt = 3 := by omega
      have hq2 := hq h23
      refine go_iload_n (i := 1) (pc' := 38) dX6_addMark_37 rfl rfl rfl ?_
      refine go_iconst (v := 2) (pc' := 39) dX6_addMark_38 rfl (by decide) ?_
      refine gz_icmp_ne (tgt := 46) (pc' := 42) dX6_addMark_39 rfl (by decide) (fun c19 => ?_) (fun c19 => ?_)
      · refine go_iconst (v := 0) (pc' := 47) dX6_addMark_46 rfl (by decide) ?_
        refine go_istore_n (i := 3) (pc' := 48) dX6_addMark_47 rfl rfl (by decide) ?_
        refine go_aload_n (i := 2) (pc' := 49) dX6_addMark_48 rfl rfl rfl ?_
        refine gf_7_sort (pc' := 52) dX6_addMark_49 rfl fl_X6_43 ?_
        by_cases z20_0 : (σ.1 8) = 97
        · refine go_lookup (off := 62) (tgt := 114) dX6_addMark_52 (by decide) (by rw [z20_0]; decide) (by decide) ?_
          refine go_aload_n (i := 0) (pc' := 115) dX6_addMark_114 rfl rfl rfl ?_
          refine go_bipush (v := 47) (pc' := 117) dX6_addMark_115 rfl (by decide) ?_
          have e8 : (σ.1 8).toInt = 97 := (congrArg Int32.toInt (by assumption : σ.1 8 = 97)).trans v97
          have el : mkL a.toInt (σ.1 8).toInt (σ.1 9).toInt = [((47 : Int32)).toInt] := by
            first | exact (mkL_2 (by omega)).trans ((congrArg opnL e8).trans (by decide)) | exact (mkL_3 (by omega)).trans ((congrArg clsL e8).trans (by decide))
          have ell : (mkL a.toInt (σ.1 8).toInt (σ.1 9).toInt).length = 1 := by rw [el]; rfl
          refine go_cvv (pc' := 120) lk_X6_31 (e_X6_add _ _ _ _ (by omega) w0.1) rfl rfl (Nat.le_of_ble_eq_true rfl) (by decide) rfl rfl rfl ⟨Nat.le_of_ble_eq_true rfl, Nat.le_of_ble_eq_true rfl⟩ ⟨rfl, rfl⟩ dX6_addMark_117 rfl (fun σ21 h21 => ?_)
          have w21 := WXo_trans w0 ((fun z => (add_PD w0.1 (by omega) (by omega) z).1) h21)
          have pd := PD_trans pd (add_PD ivp (by omega) (by omega) h21).2 rfl
          refine go_goto (tgt := 150) dX6_addMark_120 (by decide) ?_
          exact go_vret dX6_addMark_150 rfl (by first | exact ⟨w21, PD_e pd el⟩ | exact ⟨w21, PD_e pd (by have e8 : (σ.1 8).toInt = 115 := by { rcases hq2 with q | q | q | q | q; exact absurd (Int32.toInt_inj.mp (q.trans v100.symm)) (by assumption); exact absurd (Int32.toInt_inj.mp (q.trans v97.symm)) (by assumption); exact absurd (Int32.toInt_inj.mp (q.trans v117.symm)) (by assumption); exact absurd (Int32.toInt_inj.mp (q.trans v104.symm)) (by assumption); exact q }; first | exact (mkL_2 (by omega)).trans ((congrArg opnL e8).trans (by decide)) | exact (mkL_3 (by omega)).trans ((congrArg clsL e8).trans (by decide)))⟩)
        by_cases z20_1 : (σ.1 8) = 100
        · refine go_lookup (off := 44) (tgt := 96) dX6_addMark_52 (by decide) (by rw [z20_1]; decide) (by decide) ?_
          refine go_aload_n (i := 0) (pc' := 97) dX6_addMark_96 rfl rfl rfl ?_
          refine go_iload_n (i := 3) (pc' := 98) dX6_addMark_97 rfl rfl rfl ?_
          refine gz_if_eq (tgt := 106) (pc' := 101) dX6_addMark_98 rfl (by decide) (fun c22 => ?_) (fun c22 => ?_)
          · refine go_bipush (v := 62) (pc' := 108) dX6_addMark_106 rfl (by decide) ?_
            have e8 : (σ.1 8).toInt = 100 := (congrArg Int32.toInt (by assumption : σ.1 8 = 100)).trans v100
            have el : mkL a.toInt (σ.1 8).toInt (σ.1 9).toInt = [((62 : Int32)).toInt] := by
              first | exact (mkL_2 (by omega)).trans ((congrArg opnL e8).trans (by decide)) | exact (mkL_3 (by omega)).trans ((congrArg clsL e8).trans (by decide))
            have ell : (mkL a.toInt (σ.1 8).toInt (σ.1 9).toInt).length = 1 := by rw [el]; rfl
            refine go_cvv (pc' := 111) lk_X6_31 (e_X6_add _ _ _ _ (by omega) w0.1) rfl rfl (Nat.le_of_ble_eq_true rfl) (by decide) rfl rfl rfl ⟨Nat.le_of_ble_eq_true rfl, Nat.le_of_ble_eq_true rfl⟩ ⟨rfl, rfl⟩ dX6_addMark_108 rfl (fun σ23 h23 => ?_)
            have w23 := WXo_trans w0 ((fun z => (add_PD w0.1 (by omega) (by omega) z).1) h23)
            have pd := PD_trans pd (add_PD ivp (by omega) (by omega) h23).2 rfl
            refine go_goto (tgt := 150) dX6_addMark_111 (by decide) ?_
            exact go_vret dX6_addMark_150 rfl (by first | exact ⟨w23, PD_e pd el⟩ | exact ⟨w23, PD_e pd (by have e8 : (σ.1 8).toInt = 115 := by { rcases hq2 with q | q | q | q | q; exact absurd (Int32.toInt_inj.mp (q.trans v100.symm)) (by assumption); exact absurd (Int32.toInt_inj.mp (q.trans v97.symm)) (by assumption); exact absurd (Int32.toInt_inj.mp (q.trans v117.symm)) (by assumption); exact absurd (Int32.toInt_inj.mp (q.trans v104.symm)) (by assumption); exact q }; first | exact (mkL_2 (by omega)).trans ((congrArg opnL e8).trans (by decide)) | exact (mkL_3 (by omega)).trans ((congrArg clsL e8).trans (by decide)))⟩)
          refine go_bipush (v := 60) (pc' := 103) dX6_addMark_101 rfl (by decide) ?_
          refine go_goto (tgt := 108) dX6_addMark_103 (by decide) ?_
          have e8 : (σ.1 8).toInt = 100 := (congrArg Int32.toInt (by assumption : σ.1 8 = 100)).trans v100
          have el : mkL a.toInt (σ.1 8).toInt (σ.1 9).toInt = [((60 : Int32)).toInt] := by
            first | exact (mkL_2 (by omega)).trans ((congrArg opnL e8).trans (by decide)) | exact (mkL_3 (by omega)).trans ((congrArg clsL e8).trans (by decide))
          have ell : (mkL a.toInt (σ.1 8).toInt (σ.1 9).toInt).length = 1 := by rw [el]; rfl
          refine go_cvv (pc' := 111) lk_X6_31 (e_X6_add _ _ _ _ (by omega) w0.1) rfl rfl (Nat.le_of_ble_eq_true rfl) (by decide) rfl rfl rfl ⟨Nat.le_of_ble_eq_true rfl, Nat.le_of_ble_eq_true rfl⟩ ⟨rfl, rfl⟩ dX6_addMark_108 rfl (fun σ24 h24 => ?_)
          have w24 := WXo_trans w0 ((fun z => (add_PD w0.1 (by omega) (by omega) z).1) h24)
          have pd := PD_trans pd (add_PD ivp (by omega) (by omega) h24).2 rfl
          refine go_goto (tgt := 150) dX6_addMark_111 (by decide) ?_
          exact go_vret dX6_addMark_150 rfl (by first | exact ⟨w24, PD_e pd el⟩ | exact ⟨w24, PD_e pd (by have e8 : (σ.1 8).toInt = 115 := by { rcases hq2 with q | q | q | q | q; exact absurd (Int32.toInt_inj.mp (q.trans v100.symm)) (by assumption); exact absurd (Int32.toInt_inj.mp (q.trans v97.symm)) (by assumption); exact absurd (Int32.toInt_inj.mp (q.trans v117.symm)) (by assumption); exact absurd (Int32.toInt_inj.mp (q.trans v104.symm)) (by assumption); exact q }; first | exact (mkL_2 (by omega)).trans ((congrArg opnL e8).trans (by decide)) | exact (mkL_3 (by omega)).trans ((congrArg clsL e8).trans (by decide)))⟩)
        by_cases z20_2 : (σ.1 8) = 104
        · refine go_lookup (off := 89) (tgt := 141) dX6_addMark_52 (by decide) (by rw [z20_2]; decide) (by decide) ?_
          refine go_aload_n (i := 0) (pc' := 142) dX6_addMark_141 rfl rfl rfl ?_
          refine go_bipush (v := 39) (pc' := 144) dX6_addMark_142 rfl (by decide) ?_
          have e8 : (σ.1 8).toInt = 104 := (congrArg Int32.toInt (by assumption : σ.1 8 = 104)).trans v104
          have el : mkL a.toInt (σ.1 8).toInt (σ.1 9).toInt = [((39 : Int32)).toInt] := by
            first | exact (mkL_2 (by omega)).trans ((congrArg opnL e8).trans (by decide)) | exact (mkL_3 (by omega)).trans ((congrArg clsL e8).trans (by decide))
          have ell : (mkL a.toInt (σ.1 8).toInt (σ.1 9).toInt).length = 1 := by rw [el]; rfl
          refine go_cvv (pc' := 147) lk_X6_31 (e_X6_add _ _ _ _ (by omega) w0.1) rfl rfl (Nat.le_of_ble_eq_true rfl) (by decide) rfl rfl rfl ⟨Nat.le_of_ble_eq_true rfl, Nat.le_of_ble_eq_true rfl⟩ ⟨rfl, rfl⟩ dX6_addMark_144 rfl (fun σ25 h25 => ?_)
          have w25 := WXo_trans w0 ((fun z => (add_PD w0.1 (by omega) (by omega) z).1) h25)
          have pd := PD_trans pd (add_PD ivp (by omega) (by omega) h25).2 rfl
          refine go_goto (tgt := 150) dX6_addMark_147 (by decide) ?_
          exact go_vret dX6_addMark_150 rfl (by first | exact ⟨w25, PD_e pd el⟩ | exact ⟨w25, PD_e pd (by have e8 : (σ.1 8).toInt = 115 := by { rcases hq2 with q | q | q | q | q; exact absurd (Int32.toInt_inj.mp (q.trans v100.symm)) (by assumption); exact absurd (Int32.toInt_inj.mp (q.trans v97.symm)) (by assumption); exact absurd (Int32.toInt_inj.mp (q.trans v117.symm)) (by assumption); exact absurd (Int32.toInt_inj.mp (q.trans v104.symm)) (by assumption); exact q }; first | exact (mkL_2 (by omega)).trans ((congrArg opnL e8).trans (by decide)) | exact (mkL_3 (by omega)).trans ((congrArg clsL e8).trans (by decide)))⟩)
        by_cases z20_3 : (σ.1 8) = 117
        · refine go_lookup (off := 71) (tgt := 123) dX6_addMark_52 (by decide) (by rw [z20_3]; decide) (by decide) ?_
          refine go_aload_n (i := 0) (pc' := 124) dX6_addMark_123 rfl rfl rfl ?_
          refine go_iload_n (i := 3) (pc' := 125) dX6_addMark_124 rfl rfl rfl ?_
          refine gz_if_eq (tgt := 133) (pc' := 128) dX6_addMark_125 rfl (by decide) (fun c26 => ?_) (fun c26 => ?_)
          · refine go_bipush (v := 93) (pc' := 135) dX6_addMark_133 rfl (by decide) ?_
            have e8 : (σ.1 8).toInt = 117 := (congrArg Int32.toInt (by assumption : σ.1 8 = 117)).trans v117
            have el : mkL a.toInt (σ.1 8).toInt (σ.1 9).toInt = [((93 : Int32)).toInt] := by
              first | exact (mkL_2 (by omega)).trans ((congrArg opnL e8).trans (by decide)) | exact (mkL_3 (by omega)).trans ((congrArg clsL e8).trans (by decide))
            have ell : (mkL a.toInt (σ.1 8).toInt (σ.1 9).toInt).length = 1 := by rw [el]; rfl
            refine go_cvv (pc' := 138) lk_X6_31 (e_X6_add _ _ _ _ (by omega) w0.1) rfl rfl (Nat.le_of_ble_eq_true rfl) (by decide) rfl rfl rfl ⟨Nat.le_of_ble_eq_true rfl, Nat.le_of_ble_eq_true rfl⟩ ⟨rfl, rfl⟩ dX6_addMark_135 rfl (fun σ27 h27 => ?_)
            have w27 := WXo_trans w0 ((fun z => (add_PD w0.1 (by omega) (by omega) z).1) h27)
            have pd := PD_trans pd (add_PD ivp (by omega) (by omega) h27).2 rfl
            refine go_goto (tgt := 150) dX6_addMark_138 (by decide) ?_
            exact go_vret dX6_addMark_150 rfl (by first | exact ⟨w27, PD_e pd el⟩ | exact ⟨w27, PD_e pd (by have e8 : (σ.1 8).toInt = 115 := by { rcases hq2 with q | q | q | q | q; exact absurd (Int32.toInt_inj.mp (q.trans v100.symm)) (by assumption); exact absurd (Int32.toInt_inj.mp (q.trans v97.symm)) (by assumption); exact absurd (Int32.toInt_inj.mp (q.trans v117.symm)) (by assumption); exact absurd (Int32.toInt_inj.mp (q.trans v104.symm)) (by assumption); exact q }; first | exact (mkL_2 (by omega)).trans ((congrArg opnL e8).trans (by decide)) | exact (mkL_3 (by omega)).trans ((congrArg clsL e8).trans (by decide)))⟩)
          refine go_bipush (v := 91) (pc' := 130) dX6_addMark_128 rfl (by decide) ?_
          refine go_goto (tgt := 135) dX6_addMark_130 (by decide) ?_
          have e8 : (σ.1 8).toInt = 117 := (congrArg Int32.toInt (by assumption : σ.1 8 = 117)).trans v117
          have el : mkL a.toInt (σ.1 8).toInt (σ.1 9).toInt = [((91 : Int32)).toInt] := by
            first | exact (mkL_2 (by omega)).trans ((congrArg opnL e8).trans (by decide)) | exact (mkL_3 (by omega)).trans ((congrArg clsL e8).trans (by decide))
          have ell : (mkL a.toInt (σ.1 8).toInt (σ.1 9).toInt).length = 1 := by rw [el]; rfl
          refine go_cvv (pc' := 138) lk_X6_31 (e_X6_add _ _ _ _ (by omega) w0.1) rfl rfl (Nat.le_of_ble_eq_true rfl) (by decide) rfl rfl rfl ⟨Nat.le_of_ble_eq_true rfl, Nat.le_of_ble_eq_true rfl⟩ ⟨rfl, rfl⟩ dX6_addMark_135 rfl (fun σ28 h28 => ?_)
          have w28 := WXo_trans w0 ((fun z => (add_PD w0.1 (by omega) (by omega) z).1) h28)
          have pd := PD_trans pd (add_PD ivp (by omega) (by omega) h28).2 rfl
          refine go_goto (tgt := 150) dX6_addMark_138 (by decide) ?_
          exact go_vret dX6_addMark_150 rfl (by first | exact ⟨w28, PD_e pd el⟩ | exact ⟨w28, PD_e pd (by have e8 : (σ.1 8).toInt = 115 := by { rcases hq2 with q | q | q | q | q; exact absurd (Int32.toInt_inj.mp (q.trans v100.symm)) (by assumption); exact absurd (Int32.toInt_inj.mp (q.trans v97.symm)) (by assumption); exact absurd (Int32.toInt_inj.mp (q.trans v117.symm)) (by assumption); exact absurd (Int32.toInt_inj.mp (q.trans v104.symm)) (by assumption); exact q }; first | exact (mkL_2 (by omega)).trans ((congrArg opnL e8).trans (by decide)) | exact (mkL_3 (by omega)).trans ((congrArg clsL e8).trans (by decide)))⟩)
        refine go_lookup (off := 98) (tgt := 150) dX6_addMark_52 (by decide) (lkm_n z20_0 z20_1 z20_2 z20_3) (by decide) ?_
        exact go_vret dX6_addMark_150 rfl (by first | exact ⟨w0, PD_e pd el⟩ | exact ⟨w0, PD_e pd (by have e8 : (σ.1 8).toInt = 115 := by { rcases hq2 with q | q | q | q | q; exact absurd (Int32.toInt_inj.mp (q.trans v100.symm)) (by assumption); exact absurd (Int32.toInt_inj.mp (q.trans v97.symm)) (by assumption); exact absurd (Int32.toInt_inj.mp (q.trans v117.symm)) (by assumption); exact absurd (Int32.toInt_inj.mp (q.trans v104.symm)) (by assumption); exact q }; first | exact (mkL_2 (by omega)).trans ((congrArg opnL e8).trans (by decide)) | exact (mkL_3 (by omega)).trans ((congrArg clsL e8).trans (by decide)))⟩)
      refine go_iconst (v := 1) (pc' := 43) dX6_addMark_42 rfl (by decide) ?_
      refine go_goto (tgt := 47) dX6_addMark_43 (by decide) ?_
      refine go_istore_n (i := 3) (pc' := 48) dX6_addMark_47 rfl rfl (by decide) ?_
      refine go_aload_n (i := 2) (pc' := 49) dX6_addMark_48 rfl rfl rfl ?_
      refine gf_7_sort (pc' := 52) dX6_addMark_49 rfl fl_X6_43 ?_
      by_cases z29_0 : (σ.1 8) = 97
      · refine go_lookup (off := 62) (tgt := 114) dX6_addMark_52 (by decide) (by rw [z29_0]; decide) (by decide) ?_
        refine go_aload_n (i := 0) (pc' := 115) dX6_addMark_114 rfl rfl rfl ?_
        refine go_bipush (v := 47) (pc' := 117) dX6_addMark_115 rfl (by decide) ?_
        have e8 : (σ.1 8).toInt = 97 := (congrArg Int32.toInt (by assumption : σ.1 8 = 97)).trans v97
        have el : mkL a.toInt (σ.1 8).toInt (σ.1 9).toInt = [((47 : Int32)).toInt] := by
          first | exact (mkL_2 (by omega)).trans ((congrArg opnL e8).trans (by decide)) | exact (mkL_3 (by omega)).trans ((congrArg clsL e8).trans (by decide))
        have ell : (mkL a.toInt (σ.1 8).toInt (σ.1 9).toInt).length = 1 := by rw [el]; rfl
        refine go_cvv (pc' := 120) lk_X6_31 (e_X6_add _ _ _ _ (by omega) w0.1) rfl rfl (Nat.le_of_ble_eq_true rfl) (by decide) rfl rfl rfl ⟨Nat.le_of_ble_eq_true rfl, Nat.le_of_ble_eq_true rfl⟩ ⟨rfl, rfl⟩ dX6_addMark_117 rfl (fun σ30 h30 => ?_)
        have w30 := WXo_trans w0 ((fun z => (add_PD w0.1 (by omega) (by omega) z).1) h30)
        have pd := PD_trans pd (add_PD ivp (by omega) (by omega) h30).2 rfl
        refine go_goto (tgt := 150) dX6_addMark_120 (by decide) ?_
        exact go_vret dX6_addMark_150 rfl (by first | exact ⟨w30, PD_e pd el⟩ | exact ⟨w30, PD_e pd (by have e8 : (σ.1 8).toInt = 115 := by { rcases hq2 with q | q | q | q | q; exact absurd (Int32.toInt_inj.mp (q.trans v100.symm)) (by assumption); exact absurd (Int32.toInt_inj.mp (q.trans v97.symm)) (by assumption); exact absurd (Int32.toInt_inj.mp (q.trans v117.symm)) (by assumption); exact absurd (Int32.toInt_inj.mp (q.trans v104.symm)) (by assumption); exact q }; first | exact (mkL_2 (by omega)).trans ((congrArg opnL e8).trans (by decide)) | exact (mkL_3 (by omega)).trans ((congrArg clsL e8).trans (by decide)))⟩)
      by_cases z29_1 : (σ.1 8) = 100
      · refine go_lookup (off := 44) (tgt := 96) dX6_addMark_52 (by decide) (by rw [z29_1]; decide) (by decide) ?_
        refine go_aload_n (i := 0) (pc' := 97) dX6_addMark_96 rfl rfl rfl ?_
        refine go_iload_n (i := 3) (pc' := 98) dX6_addMark_97 rfl rfl rfl ?_
        refine gz_if_eq (tgt := 106) (pc' := 101) dX6_addMark_98 rfl (by decide) (fun c31 => ?_) (fun c31 => ?_)
        · refine go_bipush (v := 62) (pc' := 108) dX6_addMark_106 rfl (by decide) ?_
          have e8 : (σ.1 8).toInt = 100 := (congrArg Int32.toInt (by assumption : σ.1 8 = 100)).trans v100
          have el : mkL a.toInt (σ.1 8).toInt (σ.1 9).toInt = [((62 : Int32)).toInt] := by
            first | exact (mkL_2 (by omega)).trans ((congrArg opnL e8).trans (by decide)) | exact (mkL_3 (by omega)).trans ((congrArg clsL e8).trans (by decide))
          have ell : (mkL a.toInt (σ.1 8).toInt (σ.1 9).toInt).length = 1 := by rw [el]; rfl
          refine go_cvv (pc' := 111) lk_X6_31 (e_X6_add _ _ _ _ (by omega) w0.1) rfl rfl (Nat.le_of_ble_eq_true rfl) (by decide) rfl rfl rfl ⟨Nat.le_of_ble_eq_true rfl, Nat.le_of_ble_eq_true rfl⟩ ⟨rfl, rfl⟩ dX6_addMark_108 rfl (fun σ32 h32 => ?_)
          have w32 := WXo_trans w0 ((fun z => (add_PD w0.1 (by omega) (by omega) z).1) h32)
          have pd := PD_trans pd (add_PD ivp (by omega) (by omega) h32).2 rfl
          refine go_goto (tgt := 150) dX6_addMark_111 (by decide) ?_
          exact go_vret dX6_addMark_150 rfl (by first | exact ⟨w32, PD_e pd el⟩ | exact ⟨w32, PD_e pd (by have e8 : (σ.1 8).toInt = 115 := by { rcases hq2 with q | q | q | q | q; exact absurd (Int32.toInt_inj.mp (q.trans v100.symm)) (by assumption); exact absurd (Int32.toInt_inj.mp (q.trans v97.symm)) (by assumption); exact absurd (Int32.toInt_inj.mp (q.trans v117.symm)) (by assumption); exact absurd (Int32.toInt_inj.mp (q.trans v104.symm)) (by assumption); exact q }; first | exact (mkL_2 (by omega)).trans ((congrArg opnL e8).trans (by decide)) | exact (mkL_3 (by omega)).trans ((congrArg clsL e8).trans (by decide)))⟩)
        refine go_bipush (v := 60) (pc' := 103) dX6_addMark_101 rfl (by decide) ?_
        refine go_goto (tgt := 108) dX6_addMark_103 (by decide) ?_
        have e8 : (σ.1 8).toInt = 100 := (congrArg Int32.toInt (by assumption : σ.1 8 = 100)).trans v100
        have el : mkL a.toInt (σ.1 8).toInt (σ.1 9).toInt = [((60 : Int32)).toInt] := by
          first | exact (mkL_2 (by omega)).trans ((congrArg opnL e8).trans (by decide)) | exact (mkL_3 (by omega)).trans ((congrArg clsL e8).trans (by decide))
        have ell : (mkL a.toInt (σ.1 8).toInt (σ.1 9).toInt).length = 1 := by rw [el]; rfl
        refine go_cvv (pc' := 111) lk_X6_31 (e_X6_add _ _ _ _ (by omega) w0.1) rfl rfl (Nat.le_of_ble_eq_true rfl) (by decide) rfl rfl rfl ⟨Nat.le_of_ble_eq_true rfl, Nat.le_of_ble_eq_true rfl⟩ ⟨rfl, rfl⟩ dX6_addMark_108 rfl (fun σ33 h33 => ?_)
        have w33 := WXo_trans w0 ((fun z => (add_PD w0.1 (by omega) (by omega) z).1) h33)
        have pd := PD_trans pd (add_PD ivp (by omega) (by omega) h33).2 rfl
        refine go_goto (tgt := 150) dX6_addMark_111 (by decide) ?_
        exact go_vret dX6_addMark_150 rfl (by first | exact ⟨w33, PD_e pd el⟩ | exact ⟨w33, PD_e pd (by have e8 : (σ.1 8).toInt = 115 := by { rcases hq2 with q | q | q | q | q; exact absurd (Int32.toInt_inj.mp (q.trans v100.symm)) (by assumption); exact absurd (Int32.toInt_inj.mp (q.trans v97.symm)) (by assumption); exact absurd (Int32.toInt_inj.mp (q.trans v117.symm)) (by assumption); exact absurd (Int32.toInt_inj.mp (q.trans v104.symm)) (by assumption); exact q }; first | exact (mkL_2 (by omega)).trans ((congrArg opnL e8).trans (by decide)) | exact (mkL_3 (by omega)).trans ((congrArg clsL e8).trans (by decide)))⟩)
      by_cases z29_2 : (σ.1 8) = 104
      · refine go_lookup (off := 89) (tgt := 141) dX6_addMark_52 (by decide) (by rw [z29_2]; decide) (by decide) ?_
        refine go_aload_n (i := 0) (pc' := 142) dX6_addMark_141 rfl rfl rfl ?_
        refine go_bipush (v := 39) (pc' := 144) dX6_addMark_142 rfl (by decide) ?_
        have e8 : (σ.1 8).toInt = 104 := (congrArg Int32.toInt (by assumption : σ.1 8 = 104)).trans v104
        have el : mkL a.toInt (σ.1 8).toInt (σ.1 9).toInt = [((39 : Int32)).toInt] := by
          first | exact (mkL_2 (by omega)).trans ((congrArg opnL e8).trans (by decide)) | exact (mkL_3 (by omega)).trans ((congrArg clsL e8).trans (by decide))
        have ell : (mkL a.toInt (σ.1 8).toInt (σ.1 9).toInt).length = 1 := by rw [el]; rfl
        refine go_cvv (pc' := 147) lk_X6_31 (e_X6_add _ _ _ _ (by omega) w0.1) rfl rfl (Nat.le_of_ble_eq_true rfl) (by decide) rfl rfl rfl ⟨Nat.le_of_ble_eq_true rfl, Nat.le_of_ble_eq_true rfl⟩ ⟨rfl, rfl⟩ dX6_addMark_144 rfl (fun σ34 h34 => ?_)
        have w34 := WXo_trans w0 ((fun z => (add_PD w0.1 (by omega) (by omega) z).1) h34)
        have pd := PD_trans pd (add_PD ivp (by omega) (by omega) h34).2 rfl
        refine go_goto (tgt := 150) dX6_addMark_147 (by decide) ?_
        exact go_vret dX6_addMark_150 rfl (by first | exact ⟨w34, PD_e pd el⟩ | exact ⟨w34, PD_e pd (by have e8 : (σ.1 8).toInt = 115 := by { rcases hq2 with q | q | q | q | q; exact absurd (Int32.toInt_inj.mp (q.trans v100.symm)) (by assumption); exact absurd (Int32.toInt_inj.mp (q.trans v97.symm)) (by assumption); exact absurd (Int32.toInt_inj.mp (q.trans v117.symm)) (by assumption); exact absurd (Int32.toInt_inj.mp (q.trans v104.symm)) (by assumption); exact q }; first | exact (mkL_2 (by omega)).trans ((congrArg opnL e8).trans (by decide)) | exact (mkL_3 (by omega)).trans ((congrArg clsL e8).trans (by decide)))⟩)
      by_cases z29_3 : (σ.1 8) = 117
      · refine go_lookup (off := 71) (tgt := 123) dX6_addMark_52 (by decide) (by rw [z29_3]; decide) (by decide) ?_
        refine go_aload_n (i := 0) (pc' := 124) dX6_addMark_123 rfl rfl rfl ?_
        refine go_iload_n (i := 3) (pc' := 125) dX6_addMark_124 rfl rfl rfl ?_
        refine gz_if_eq (tgt := 133) (pc' := 128) dX6_addMark_125 rfl (by decide) (fun c35 => ?_) (fun c35 => ?_)
        · refine go_bipush (v := 93) (pc' := 135) dX6_addMark_133 rfl (by decide) ?_
          have e8 : (σ.1 8).toInt = 117 := (congrArg Int32.toInt (by assumption : σ.1 8 = 117)).trans v117
          have el : mkL a.toInt (σ.1 8).toInt (σ.1 9).toInt = [((93 : Int32)).toInt] := by
            first | exact (mkL_2 (by omega)).trans ((congrArg opnL e8).trans (by decide)) | exact (mkL_3 (by omega)).trans ((congrArg clsL e8).trans (by decide))
          have ell : (mkL a.toInt (σ.1 8).toInt (σ.1 9).toInt).length = 1 := by rw [el]; rfl
          refine go_cvv (pc' := 138) lk_X6_31 (e_X6_add _ _ _ _ (by omega) w0.1) rfl rfl (Nat.le_of_ble_eq_true rfl) (by decide) rfl rfl rfl ⟨Nat.le_of_ble_eq_true rfl, Nat.le_of_ble_eq_true rfl⟩ ⟨rfl, rfl⟩ dX6_addMark_135 rfl (fun σ36 h36 => ?_)
          have w36 := WXo_trans w0 ((fun z => (add_PD w0.1 (by omega) (by omega) z).1) h36)
          have pd := PD_trans pd (add_PD ivp (by omega) (by omega) h36).2 rfl
          refine go_goto (tgt := 150) dX6_addMark_138 (by decide) ?_
          exact go_vret dX6_addMark_150 rfl (by first | exact ⟨w36, PD_e pd el⟩ | exact ⟨w36, PD_e pd (by have e8 : (σ.1 8).toInt = 115 := by { rcases hq2 with q | q | q | q | q; exact absurd (Int32.toInt_inj.mp (q.trans v100.symm)) (by assumption); exact absurd (Int32.toInt_inj.mp (q.trans v97.symm)) (by assumption); exact absurd (Int32.toInt_inj.mp (q.trans v117.symm)) (by assumption); exact absurd (Int32.toInt_inj.mp (q.trans v104.symm)) (by assumption); exact q }; first | exact (mkL_2 (by omega)).trans ((congrArg opnL e8).trans (by decide)) | exact (mkL_3 (by omega)).trans ((congrArg clsL e8).trans (by decide)))⟩)
        refine go_bipush (v := 91) (pc' := 130) dX6_addMark_128 rfl (by decide) ?_
        refine go_goto (tgt := 135) dX6_addMark_130 (by decide) ?_
        have e8 : (σ.1 8).toInt = 117 := (congrArg Int32.toInt (by assumption : σ.1 8 = 117)).trans v117
        have el : mkL a.toInt (σ.1 8).toInt (σ.1 9).toInt = [((91 : Int32)).toInt] := by
          first | exact (mkL_2 (by omega)).trans ((congrArg opnL e8).trans (by decide)) | exact (mkL_3 (by omega)).trans ((congrArg clsL e8).trans (by decide))
        have ell : (mkL a.toInt (σ.1 8).toInt (σ.1 9).toInt).length = 1 := by rw [el]; rfl
        refine go_cvv (pc' := 138) lk_X6_31 (e_X6_add _ _ _ _ (by omega) w0.1) rfl rfl (Nat.le_of_ble_eq_true rfl) (by decide) rfl rfl rfl ⟨Nat.le_of_ble_eq_true rfl, Nat.le_of_ble_eq_true rfl⟩ ⟨rfl, rfl⟩ dX6_addMark_135 rfl (fun σ37 h37 => ?_)
        have w37 := WXo_trans w0 ((fun z => (add_PD w0.1 (by omega) (by omega) z).1) h37)
        have pd := PD_trans pd (add_PD ivp (by omega) (by omega) h37).2 rfl
        refine go_goto (tgt := 150) dX6_addMark_138 (by decide) ?_
        exact go_vret dX6_addMark_150 rfl (by first | exact ⟨w37, PD_e pd el⟩ | exact ⟨w37, PD_e pd (by have e8 : (σ.1 8).toInt = 115 := by { rcases hq2 with q | q | q | q | q; exact absurd (Int32.toInt_inj.mp (q.trans v100.symm)) (by assumption); exact absurd (Int32.toInt_inj.mp (q.trans v97.symm)) (by assumption); exact absurd (Int32.toInt_inj.mp (q.trans v117.symm)) (by assumption); exact absurd (Int32.toInt_inj.mp (q.trans v104.symm)) (by assumption); exact q }; first | exact (mkL_2 (by omega)).trans ((congrArg opnL e8).trans (by decide)) | exact (mkL_3 (by omega)).trans ((congrArg clsL e8).trans (by decide)))⟩)
      refine go_lookup (off := 98) (tgt := 150) dX6_addMark_52 (by decide) (lkm_n z29_0 z29_1 z29_2 z29_3) (by decide) ?_
      exact go_vret dX6_addMark_150 rfl (by first | exact ⟨w0, PD_e pd el⟩ | exact ⟨w0, PD_e pd (by have e8 : (σ.1 8).toInt = 115 := by { rcases hq2 with q | q | q | q | q; exact absurd (Int32.toInt_inj.mp (q.trans v100.symm)) (by assumption); exact absurd (Int32.toInt_inj.mp (q.trans v97.symm)) (by assumption); exact absurd (Int32.toInt_inj.mp (q.trans v117.symm)) (by assumption); exact absurd (Int32.toInt_inj.mp (q.trans v104.symm)) (by assumption); exact q }; first | exact (mkL_2 (by omega)).trans ((congrArg opnL e8).trans (by decide)) | exact (mkL_3 (by omega)).trans ((congrArg clsL e8).trans (by decide)))⟩)
    exact go_vret dX6_addMark_36 rfl (⟨w0, PD_e pd (by unfold mkL; rw [if_neg (by omega), if_neg (by omega), if_neg (by omega)])⟩)
  have em : mkL a.toInt (σ.1 8).toInt (σ.1 9).toInt = ntL (σ.1 9).toInt := if_pos (by omega)
  have lm : (mkL a.toInt (σ.1 8).toInt (σ.1 9).toInt).length = (digL (σ.1 9).toInt).length + 2 := by rw [em]; simp [ntL]
  have hn4 := hn (by omega)
  have ivp := w0.1
  have p14 := pd.2.2
  refine go_aload_n (i := 0) (pc' := 6) dX6_addMark_5 rfl rfl rfl ?_
  refine go_bipush (v := 40) (pc' := 8) dX6_addMark_6 rfl (by decide) ?_
  refine go_cvv (pc' := 11) lk_X6_31 (e_X6_add _ _ _ _ (by omega) w0.1) rfl rfl (Nat.le_of_ble_eq_true rfl) (by decide) rfl rfl rfl ⟨Nat.le_of_ble_eq_true rfl, Nat.le_of_ble_eq_true rfl⟩ ⟨rfl, rfl⟩ dX6_addMark_8 rfl (fun σ38 h38 => ?_)
  have w38 := WXo_trans w0 ((fun z => (add_PD w0.1 (by omega) (by omega) z).1) h38)
  have pd := PD_trans pd (add_PD ivp (by omega) (by omega) h38).2 rfl
  rw [n40] at pd
  have pl : ([] ++ [(40 : Int)]).length = 1 := rfl
  refine go_aload_n (i := 0) (pc' := 12) dX6_addMark_11 rfl rfl rfl ?_
  refine go_aload_n (i := 2) (pc' := 13) dX6_addMark_12 rfl rfl rfl ?_
  refine gf_7_number (pc' := 16) dX6_addMark_13 rfl fl_X6_46 ?_
  have e9 : σ38.1 9 = σ.1 9 := pd.1.2.2.1
  have p14 := pd.2.2
  refine go_cvv (pc' := 19) lk_X6_49 (e_X6_addNumber _ _ _ _ (by rw [e9]; exact hn4) (by rw [e9]; omega) w38.1) rfl rfl (Nat.le_of_ble_eq_true rfl) (by decide) rfl rfl rfl ⟨Nat.le_of_ble_eq_true rfl, Nat.le_of_ble_eq_true rfl⟩ ⟨rfl, rfl⟩ dX6_addMark_16 rfl (fun σ39 h39 => ?_)
  obtain ⟨u39, h39⟩ := h39
  have w39 := WXo_trans w38 u39
  have pd := PD_trans pd h39 rfl
  rw [e9] at pd
  have pl2 : ([] ++ [(40 : Int)] ++ digL (σ.1 9).toInt).length = (digL (σ.1 9).toInt).length + 1 := by simp
  refine go_aload_n (i := 0) (pc' := 20) dX6_addMark_19 rfl rfl rfl ?_
  have ivp := w39.1
  have p14 := pd.2.2
  refine go_bipush (v := 41) (pc' := 22) dX6_addMark_20 rfl (by decide) ?_
  refine go_cvv (pc' := 25) lk_X6_31 (e_X6_add _ _ _ _ (by omega) w39.1) rfl rfl (Nat.le_of_ble_eq_true rfl) (by decide) rfl rfl rfl ⟨Nat.le_of_ble_eq_true rfl, Nat.le_of_ble_eq_true rfl⟩ ⟨rfl, rfl⟩ dX6_addMark_22 rfl (fun σ40 h40 => ?_)
  have w40 := WXo_trans w39 ((fun z => (add_PD w39.1 (by omega) (by omega) z).1) h40)
  have pd := PD_trans pd (add_PD ivp (by omega) (by omega) h40).2 rfl
  rw [n41] at pd
  exact go_vret dX6_addMark_25 rfl (⟨w40, PD_e pd (by rw [em]; simp [ntL])⟩)
set_option maxHeartbeats 4000000 in
set_option maxRecDepth 100000 in
theorem e_X6_isHidden (l : Launch) (L : WL) (σ : ST) (d y : Int32) (ix : IV σ) : CtI l L yX6_isHidden cX6_isHidden 3 (some .boolean) rm_X6_isHidden [.ref (L.2.1 7), .int d, .int y] σ (fun r σ2 => σ2 = σ ∧ bq (hidP d.toInt y.toInt (σ.1 8).toInt (σ.1 9).toInt) r) := by
  refine ctI_go (own := RX6) (by decide) rfl (Nat.le_of_ble_eq_true rfl) (fun F hF => ?_)
  subst hF
  have n0 : (0 : Int32).toInt = 0 := by decide
  have n1 : (1 : Int32).toInt = 1 := by decide
  have n100 : (100 : Int32).toInt = 100 := by decide
  have n115 : (115 : Int32).toInt = 115 := by decide
  have w0 : WX σ σ := WX_rfl ix
  refine go_aload_n (i := 0) (pc' := 1) dX6_isHidden_0 rfl rfl rfl ?_
  refine gf_7_sort (pc' := 4) dX6_isHidden_1 rfl fl_X6_43 ?_
  refine go_bipush (v := 115) (pc' := 6) dX6_isHidden_4 rfl (by decide) ?_
  refine gz_icmp_ne (tgt := 17) (pc' := 9) dX6_isHidden_6 rfl (by decide) (fun c1 => ?_) (fun c1 => ?_)
  · refine go_aload_n (i := 0) (pc' := 18) dX6_isHidden_17 rfl rfl rfl ?_
    refine gf_7_sort (pc' := 21) dX6_isHidden_18 rfl fl_X6_43 ?_
    refine go_bipush (v := 100) (pc' := 23) dX6_isHidden_21 rfl (by decide) ?_
    refine gz_icmp_ne (tgt := 34) (pc' := 26) dX6_isHidden_23 rfl (by decide) (fun c2 => ?_) (fun c2 => ?_)
    · refine go_iconst (v := 0) (pc' := 35) dX6_isHidden_34 rfl (by decide) ?_
      exact go_zret dX6_isHidden_35 rfl rfl (⟨rfl, by first | exact bq_t (Or.inl ⟨by omega, by omega⟩) | exact bq_t (Or.inr ⟨by omega, by omega⟩) | exact bq_f (fun q => by omega)⟩)
    refine go_iload_n (i := 2) (pc' := 27) dX6_isHidden_26 rfl rfl rfl ?_
    refine gz_if_ne (tgt := 34) (pc' := 30) dX6_isHidden_27 rfl (by decide) (fun c3 => ?_) (fun c3 => ?_)
    · refine go_iconst (v := 0) (pc' := 35) dX6_isHidden_34 rfl (by decide) ?_
      exact go_zret dX6_isHidden_35 rfl rfl (⟨rfl, by first | exact bq_t (Or.inl ⟨by omega, by omega⟩) | exact bq_t (Or.inr ⟨by omega, by omega⟩) | exact bq_f (fun q => by omega)⟩)
    refine go_iconst (v := 1) (pc' := 31) dX6_isHidden_30 rfl (by decide) ?_
    refine go_goto (tgt := 35) dX6_isHidden_31 (by decide) ?_
    exact go_zret dX6_isHidden_35 rfl rfl (⟨rfl, by first | exact bq_t (Or.inl ⟨by omega, by omega⟩) | exact bq_t (Or.inr ⟨by omega, by omega⟩) | exact bq_f (fun q => by omega)⟩)
  refine go_aload_n (i := 0) (pc' := 10) dX6_isHidden_9 rfl rfl rfl ?_
  refine gf_7_number (pc' := 13) dX6_isHidden_10 rfl fl_X6_46 ?_
  refine go_iload_n (i := 1) (pc' := 14) dX6_isHidden_13 rfl rfl rfl ?_
  refine gz_icmp_gt (tgt := 30) (pc' := 17) dX6_isHidden_14 rfl (by decide) (fun c4 => ?_) (fun c4 => ?_)
  · refine go_iconst (v := 1) (pc' := 31) dX6_isHidden_30 rfl (by decide) ?_
    refine go_goto (tgt := 35) dX6_isHidden_31 (by decide) ?_
    exact go_zret dX6_isHidden_35 rfl rfl (⟨rfl, by first | exact bq_t (Or.inl ⟨by omega, by omega⟩) | exact bq_t (Or.inr ⟨by omega, by omega⟩) | exact bq_f (fun q => by omega)⟩)
  refine go_aload_n (i := 0) (pc' := 18) dX6_isHidden_17 rfl rfl rfl ?_
  refine gf_7_sort (pc' := 21) dX6_isHidden_18 rfl fl_X6_43 ?_
  refine go_bipush (v := 100) (pc' := 23) dX6_isHidden_21 rfl (by decide) ?_
  refine gz_icmp_ne (tgt := 34) (pc' := 26) dX6_isHidden_23 rfl (by decide) (fun c5 => ?_) (fun c5 => ?_)
  · refine go_iconst (v := 0) (pc' := 35) dX6_isHidden_34 rfl (by decide) ?_
    exact go_zret dX6_isHidden_35 rfl rfl (⟨rfl, by first | exact bq_t (Or.inl ⟨by omega, by omega⟩) | exact bq_t (Or.inr ⟨by omega, by omega⟩) | exact bq_f (fun q => by omega)⟩)
  refine go_iload_n (i := 2) (pc' := 27) dX6_isHidden_26 rfl rfl rfl ?_
  refine gz_if_ne (tgt := 34) (pc' := 30) dX6_isHidden_27 rfl (by decide) (fun c6 => ?_) (fun c6 => ?_)
  · refine go_iconst (v := 0) (pc' := 35) dX6_isHidden_34 rfl (by decide) ?_
    exact go_zret dX6_isHidden_35 rfl rfl (⟨rfl, by first | exact bq_t (Or.inl ⟨by omega, by omega⟩) | exact bq_t (Or.inr ⟨by omega, by omega⟩) | exact bq_f (fun q => by omega)⟩)
  refine go_iconst (v := 1) (pc' := 31) dX6_isHidden_30 rfl (by decide) ?_
  refine go_goto (tgt := 35) dX6_isHidden_31 (by decide) ?_
  exact go_zret dX6_isHidden_35 rfl rfl (⟨rfl, by first | exact bq_t (Or.inl ⟨by omega, by omega⟩) | exact bq_t (Or.inr ⟨by omega, by omega⟩) | exact bq_f (fun q => by omega)⟩)
