set_option maxHeartbeats 4000000 in
set_option maxRecDepth 100000 in
theorem e_X6_render (l : Launch) (L : WL) (σ : ST) (t n d y : Int32) (T : Nat → Int) (p : t.toNatClampNeg < 12) (hn : 0 ≤ n.toInt ∧ n.toInt ≤ 160) (hy : y.toInt = 0 ∨ y.toInt = 1) (eT : ∀ j : Nat, T j = (σ.2 (56 + t.toNatClampNeg) j &&& 255).toInt) (hv : VT T (n).toNatClampNeg) (ix : IV σ) : CtV l L yX6_render cX6_render 9 none rm_X6_render [.ref (L.2.1 8), .ref (L.2.1 7), .ref (L.2.1 (56 + (t).toNatClampNeg)), .int n, .int d, .int y] σ (fun σ2 => WXo σ σ2 ∧ outL (σ2.2 45) (σ2.1 14).toNatClampNeg = prF T (n).toNatClampNeg d.toInt y.toInt 200 0 0 (fun _ => 0) 0) := by
  refine ctV_go (own := RX6) (by decide) rfl (Nat.le_of_ble_eq_true rfl) (fun F hF => ?_)
  subst hF
  have n0 : (0 : Int32).toInt = 0 := by decide
  have n1 : (1 : Int32).toInt = 1 := by decide
  have n2 : (2 : Int32).toInt = 2 := by decide
  have n3 : (3 : Int32).toInt = 3 := by decide
  have n95 : (95 : Int32).toInt = 95 := by decide
  have n160 : (160 : Int32).toInt = 160 := by decide
  have n255 : (255 : Int32).toInt = 255 := by decide
  have w0 : WXo σ σ := WXo_rfl ix
  have cn := cnat (x := n) (by omega)
  have z0 : (0 : Int32).toNatClampNeg = 0 := by decide
  refine go_iconst (v := 0) (pc' := 1) dX6_render_0 rfl (by decide) ?_
  refine go_istore (pc' := 3) dX6_render_1 rfl (by decide) ?_
  refine go_aload_n (i := 0) (pc' := 4) dX6_render_3 rfl rfl rfl ?_
  refine go_iconst (v := 0) (pc' := 5) dX6_render_4 rfl (by decide) ?_
  refine pf_8_size (pc' := 8) dX6_render_5 rfl fl_X6_15 ?_
  refine go_gen (P := fun s => WXo σ s ∧ s.1 14 = (0 : Int32)) ⟨⟨ixs_14 w0.1 (by omega) (by omega), Ag_setI w0.2 (by decide)⟩, setI_same _ _ _⟩ (fun σ1 z1 => ?_)
  obtain ⟨w1, g1⟩ := z1
  have g14 := g1
  refine go_aload_n (i := 1) (pc' := 9) dX6_render_8 rfl rfl rfl ?_
  refine go_cvv (pc' := 12) lk_X6_19 (e_X3_begin _ _ _ w1.1) rfl rfl (Nat.le_of_ble_eq_true rfl) (by decide) rfl rfl rfl ⟨Nat.le_of_ble_eq_true rfl, Nat.le_of_ble_eq_true rfl⟩ ⟨rfl, rfl⟩ dX6_render_9 rfl (fun σ2 h2 => ?_)
  have w2 := WXo_trans w1 ((fun z => begin_WXo w1.1 z) h2)
  have hbg := h2
  refine go_iconst (v := 0) (pc' := 13) dX6_render_12 rfl (by decide) ?_
  refine go_istore (pc' := 15) dX6_render_13 rfl (by decide) ?_
  have loop15_3 : ∀ (dd3 : Nat) (σ3 : ST) (x6_3 : Int32) (x7_3 : Int32), WXo σ σ3 → (0 ≤ (x7_3).toInt ∧ (x7_3).toInt ≤ n.toInt) → (0 ≤ (x6_3).toInt ∧ (x6_3).toInt ≤ 4) → (INVR T (n).toNatClampNeg d.toInt y.toInt (x7_3).toNatClampNeg (x6_3).toNatClampNeg σ3) → (160 - (x7_3).toInt).toNat = dd3 → Go F L RX6 cX6_render 9 rm_X6_render none (RV F L (fun σ2 => WXo σ σ2 ∧ outL (σ2.2 45) (σ2.1 14).toNatClampNeg = prF T (n).toNatClampNeg d.toInt y.toInt 200 0 0 (fun _ => 0) 0)) σ3 15 [(0, .ref (L.2.1 8)), (1, .ref (L.2.1 7)), (2, .ref (L.2.1 (56 + (t).toNatClampNeg))), (3, .int n), (4, .int d), (5, .int y), (6, .int x6_3), (7, .int x7_3)] [] := by
    intro dd3
    induction dd3 using Nat.strongRecOn with
    | _ dd3 ih3 =>
      intro σ3 x6_3 x7_3 w3 h_3 hk_3 hI_3 hm_3
      refine go_iload (pc' := 17) dX6_render_15 rfl rfl ?_
      refine go_iload_n (i := 3) (pc' := 18) dX6_render_17 rfl rfl rfl ?_
      refine gz_icmp_ge (tgt := 143) (pc' := 21) dX6_render_18 rfl (by decide) (fun c4 => ?_) (fun c4 => ?_)
      · exact go_vret dX6_render_143 rfl (⟨w3, INVR_end hv hI_3 (by have c7l := cnat (x := x7_3) (by omega); omega)⟩)
      refine go_iload (pc' := 23) dX6_render_21 rfl rfl ?_
      refine go_aload_n (i := 2) (pc' := 24) dX6_render_23 rfl rfl rfl ?_
      refine go_alen (v := 160) (pc' := 25) dX6_render_24 rfl (by omega) (by omega) (by rw [rowl_56 p]; rfl) ?_
      refine gz_icmp_ge (tgt := 143) (pc' := 28) dX6_render_25 rfl (by decide) (fun c5 => (by exfalso; omega)) (fun c5 => ?_)
      have c7l := cnat (x := x7_3) (by omega)
      have c6l := cnat (x := x6_3) (by omega)
      have ivp := w3.1
      have erow : σ3.2 (56 + (t).toNatClampNeg) = σ.2 (56 + (t).toNatClampNeg) := w3.2.2 _ (row_so p)
      have sg : (σ3.2 (56 + (t).toNatClampNeg) (x7_3).toNatClampNeg &&& 255).toInt = T (x7_3).toNatClampNeg := by rw [eT, erow]
      refine go_aload_n (i := 1) (pc' := 29) dX6_render_28 rfl rfl rfl ?_
      refine go_aload_n (i := 2) (pc' := 30) dX6_render_29 rfl rfl rfl ?_
      refine go_iload (pc' := 32) dX6_render_30 rfl rfl ?_
      refine go_bald (pc' := 33) dX6_render_32 rfl (by omega) (by omega) (rowt_56 p) (by rw [rowl_56 p]; exact (vin_of (n := 160) (by omega) (by omega))) ?_
      refine go_rngA (ixr_56 w3.1 p) (vinlt (vin_of (n := 160) (by omega) (by omega))) (fun g6 => ?_)
      refine go_sipush (v := 255) (pc' := 36) dX6_render_33 rfl (by decide) ?_
      refine go_iand (pc' := 37) dX6_render_36 rfl ?_
      refine go_iload (pc' := 39) dX6_render_37 rfl rfl ?_
      refine go_cvi (pc' := 42) lk_X6_24 (e_X3_take _ _ _ _ _ w3.1) rfl rfl (Nat.le_of_ble_eq_true rfl) (by decide) rfl rfl rfl ⟨Nat.le_of_ble_eq_true rfl, Nat.le_of_ble_eq_true rfl⟩ ⟨rfl, rfl⟩ dX6_render_39 rfl (fun r7 σ7 h7 => ?_)
      have w7 := WXo_trans w3 ((fun z => take_WXo w3.1 z) h7)
      have tR := R_take ivp hI_3 hv (by omega) sg (by omega) h7
      have pd := PD_rfl σ7
      have tr1 := tR.1
      have tr2 := tR.2.1
      have e14 := congrArg Int32.toInt tR.2.2.2.1
      have t7 := ixi_7 (take_WXo ivp h7).1
      have ct7 := cnat (x := σ7.1 7) (by omega)
      obtain ⟨q2, tq1, -, -, tq4, tq5⟩ := tR.2.2.2.2.2.2.2
      refine go_istore (pc' := 44) dX6_render_42 rfl (by decide) ?_
      refine go_iload (pc' := 46) dX6_render_44 rfl rfl ?_
      refine gz_if_eq (tgt := 70) (pc' := 49) dX6_render_46 rfl (by decide) (fun c8 => ?_) (fun c8 => ?_)
      · refine go_iload (pc' := 72) dX6_render_70 rfl rfl ?_
        refine gz_if_ne (tgt := 86) (pc' := 75) dX6_render_72 rfl (by decide) (fun c9 => ?_) (fun c9 => ?_)
        · refine go_iload (pc' := 88) dX6_render_86 rfl rfl ?_
          refine go_iconst (v := 2) (pc' := 89) dX6_render_88 rfl (by decide) ?_
          refine gz_icmp_ne (tgt := 124) (pc' := 92) dX6_render_89 rfl (by decide) (fun c10 => ?_) (fun c10 => ?_)
          · have hne : ¬ ((r7).toInt = 2 ∧ hidP d.toInt y.toInt (σ7.1 8).toInt (σ7.1 9).toInt) := by
              first
              | exact (fun q => c10 q.2)
              | exact (fun q => by have := q.1; omega)
            have ev := evE (c := T (x7_3).toNatClampNeg) (d2 := (σ7.1 7).toNatClampNeg) (k := (x6_3).toNatClampNeg) (by omega) (by omega) hne
            refine go_iload (pc' := 126) dX6_render_124 rfl rfl ?_
            refine go_iconst (v := 1) (pc' := 127) dX6_render_126 rfl (by decide) ?_
            refine gz_icmp_ne (tgt := 137) (pc' := 130) dX6_render_127 rfl (by decide) (fun c11 => ?_) (fun c11 => ?_)
            · refine gz_iinc (c := 1) (pc' := 140) dX6_render_137 rfl rfl (by decide) (by decide) (by decide) (by omega) (fun v12 h12 e12 => ?_)
              refine go_goto (tgt := 15) dX6_render_140 (by decide) ?_
              exact go_lv (lv' := [(0, .ref (L.2.1 8)), (1, .ref (L.2.1 7)), (2, .ref (L.2.1 (56 + (t).toNatClampNeg))), (3, .int n), (4, .int d), (5, .int y), (6, .int x6_3), (7, .int v12)]) rfl (ih3 _ (by omega) σ7 x6_3 v12 w7 (by omega) (by omega) (by have c7n := cnat (x := v12) (by omega); have c6n := cnat (x := x6_3) (by omega); first | exact R_back tR pd ev.1 (ev.2.trans (by omega)) (by omega) | exact R_back tR pd (ev.1.trans (if_neg (by omega))) (ev.2.trans (by omega)) (by omega) | exact R_back tR pd (evB (by omega) (by omega)).1 (evB (c := T 0) (by omega) (by omega)).2 (by omega)) rfl)
            have ev := And.intro (ev.1.trans (if_pos (by omega))) ev.2
            rw [ev.1] at tq4
            refine go_aload_n (i := 0) (pc' := 131) dX6_render_130 rfl rfl rfl ?_
            refine go_iload (pc' := 133) dX6_render_131 rfl rfl ?_
            refine go_aload_n (i := 1) (pc' := 134) dX6_render_133 rfl rfl rfl ?_
            refine go_cvv (pc' := 137) lk_X6_39 (e_X6_addMark _ _ _ _ (by omega) (by omega) tR.2.2.2.2.2.1 tR.2.2.2.2.2.2.1 w7.1) rfl rfl (Nat.le_of_ble_eq_true rfl) (by decide) rfl rfl rfl ⟨Nat.le_of_ble_eq_true rfl, Nat.le_of_ble_eq_true rfl⟩ ⟨rfl, rfl⟩ dX6_render_134 rfl (fun σ13 h13 => ?_)
            obtain ⟨u13, h13⟩ := h13
            have w13 := WXo_trans w7 u13
            have pd := h13
            refine gz_iinc (c := 1) (pc' := 140) dX6_render_137 rfl rfl (by decide) (by decide) (by decide) (by omega) (fun v14 h14 e14 => ?_)
            refine go_goto (tgt := 15) dX6_render_140 (by decide) ?_
            exact go_lv (lv' := [(0, .ref (L.2.1 8)), (1, .ref (L.2.1 7)), (2, .ref (L.2.1 (56 + (t).toNatClampNeg))), (3, .int n), (4, .int d), (5, .int y), (6, .int x6_3), (7, .int v14)]) rfl (ih3 _ (by omega) σ13 x6_3 v14 w13 (by omega) (by omega) (by have c7n := cnat (x := v14) (by omega); have c6n := cnat (x := x6_3) (by omega); first | exact R_back tR pd ev.1 (ev.2.trans (by omega)) (by omega) | exact R_back tR pd (ev.1.trans (if_neg (by omega))) (ev.2.trans (by omega)) (by omega) | exact R_back tR pd (evB (by omega) (by omega)).1 (evB (c := T 0) (by omega) (by omega)).2 (by omega)) rfl)
          refine go_aload_n (i := 1) (pc' := 93) dX6_render_92 rfl rfl rfl ?_
          refine go_iload (pc' := 95) dX6_render_93 rfl rfl ?_
          refine go_iload (pc' := 97) dX6_render_95 rfl rfl ?_
          refine go_csi (pc' := 100) ls_X6_35 (e_X6_isHidden _ _ _ _ _ w7.1) rfl rfl (Nat.le_of_ble_eq_true rfl) ⟨Nat.le_of_ble_eq_true rfl, Nat.le_of_ble_eq_true rfl⟩ ⟨rfl, rfl⟩ dX6_render_97 rfl (fun r15 σ15 h15 => ?_)
          obtain ⟨e15, h15⟩ := h15
          have e15 := e15.symm
          subst e15
          refine go_eqB (tgt := 124) (pc' := 103) h15 dX6_render_100 rfl (by decide) (fun c16 => ?_) (fun c16 => ?_)
          · have hne : ¬ ((r7).toInt = 2 ∧ hidP d.toInt y.toInt (σ7.1 8).toInt (σ7.1 9).toInt) := by
              first
              | exact (fun q => c16 q.2)
              | exact (fun q => by have := q.1; omega)
            have ev := evE (c := T (x7_3).toNatClampNeg) (d2 := (σ7.1 7).toNatClampNeg) (k := (x6_3).toNatClampNeg) (by omega) (by omega) hne
            refine go_iload (pc' := 126) dX6_render_124 rfl rfl ?_
            refine go_iconst (v := 1) (pc' := 127) dX6_render_126 rfl (by decide) ?_
            refine gz_icmp_ne (tgt := 137) (pc' := 130) dX6_render_127 rfl (by decide) (fun c17 => ?_) (fun c17 => ?_)
            · refine gz_iinc (c := 1) (pc' := 140) dX6_render_137 rfl rfl (by decide) (by decide) (by decide) (by omega) (fun v18 h18 e18 => ?_)
              refine go_goto (tgt := 15) dX6_render_140 (by decide) ?_
              exact go_lv (lv' := [(0, .ref (L.2.1 8)), (1, .ref (L.2.1 7)), (2, .ref (L.2.1 (56 + (t).toNatClampNeg))), (3, .int n), (4, .int d), (5, .int y), (6, .int x6_3), (7, .int v18)]) rfl (ih3 _ (by omega) σ7 x6_3 v18 w7 (by omega) (by omega) (by have c7n := cnat (x := v18) (by omega); have c6n := cnat (x := x6_3) (by omega); first | exact R_back tR pd ev.1 (ev.2.trans (by omega)) (by omega) | exact R_back tR pd (ev.1.trans (if_neg (by omega))) (ev.2.trans (by omega)) (by omega) | exact R_back tR pd (evB (by omega) (by omega)).1 (evB (c := T 0) (by omega) (by omega)).2 (by omega)) rfl)
            have ev := And.intro (ev.1.trans (if_pos (by omega))) ev.2
            rw [ev.1] at tq4
            refine go_aload_n (i := 0) (pc' := 131) dX6_render_130 rfl rfl rfl ?_
            refine go_iload (pc' := 133) dX6_render_131 rfl rfl ?_
            refine go_aload_n (i := 1) (pc' := 134) dX6_render_133 rfl rfl rfl ?_
            refine go_cvv (pc' := 137) lk_X6_39 (e_X6_addMark _ _ _ _ (by omega) (by omega) tR.2.2.2.2.2.1 tR.2.2.2.2.2.2.1 w7.1) rfl rfl (Nat.le_of_ble_eq_true rfl) (by decide) rfl rfl rfl ⟨Nat.le_of_ble_eq_true rfl, Nat.le_of_ble_eq_true rfl⟩ ⟨rfl, rfl⟩ dX6_render_134 rfl (fun σ19 h19 => ?_)
            obtain ⟨u19, h19⟩ := h19
            have w19 := WXo_trans w7 u19
            have pd := h19
            refine gz_iinc (c := 1) (pc' := 140) dX6_render_137 rfl rfl (by decide) (by decide) (by decide) (by omega) (fun v20 h20 e20 => ?_)
            refine go_goto (tgt := 15) dX6_render_140 (by decide) ?_
            exact go_lv (lv' := [(0, .ref (L.2.1 8)), (1, .ref (L.2.1 7)), (2, .ref (L.2.1 (56 + (t).toNatClampNeg))), (3, .int n), (4, .int d), (5, .int y), (6, .int x6_3), (7, .int v20)]) rfl (ih3 _ (by omega) σ19 x6_3 v20 w19 (by omega) (by omega) (by have c7n := cnat (x := v20) (by omega); have c6n := cnat (x := x6_3) (by omega); first | exact R_back tR pd ev.1 (ev.2.trans (by omega)) (by omega) | exact R_back tR pd (ev.1.trans (if_neg (by omega))) (ev.2.trans (by omega)) (by omega) | exact R_back tR pd (evB (by omega) (by omega)).1 (evB (c := T 0) (by omega) (by omega)).2 (by omega)) rfl)
          have ivp2 := w7.1
          have hid : hidP d.toInt y.toInt (σ7.1 8).toInt (σ7.1 9).toInt := c16
          have e0 := evD0 (d2 := (σ7.1 7).toNatClampNeg) (r := (r7).toInt) (k := (x6_3).toNatClampNeg) (by omega) (by omega) hid
          rw [e0] at tq5
          have ev := evD (c := T (x7_3).toNatClampNeg) (d2 := (σ7.1 7).toNatClampNeg) (r := (r7).toInt) (k := (x6_3).toNatClampNeg) (by omega) (by omega) hid (by omega)
          refine go_aload_n (i := 1) (pc' := 104) dX6_render_103 rfl rfl rfl ?_
          refine gf_7_depth (pc' := 107) dX6_render_104 rfl fl_X6_28 ?_
          have g21 := ixi_7 w7.1
          refine go_topz (fun y22 h22 e22 => ?_)
          refine go_istore (pc' := 109) dX6_render_107 rfl (by decide) ?_
          refine go_iload (pc' := 111) dX6_render_109 rfl rfl ?_
          refine go_iconst (v := 1) (pc' := 112) dX6_render_111 rfl (by decide) ?_
          refine gz_icmp_ne (tgt := 137) (pc' := 115) dX6_render_112 rfl (by decide) (fun c23 => ?_) (fun c23 => ?_)
          · refine gz_iinc (c := 1) (pc' := 140) dX6_render_137 rfl rfl (by decide) (by decide) (by decide) (by omega) (fun v24 h24 e24 => ?_)
            refine go_goto (tgt := 15) dX6_render_140 (by decide) ?_
            exact go_lv (lv' := [(0, .ref (L.2.1 8)), (1, .ref (L.2.1 7)), (2, .ref (L.2.1 (56 + (t).toNatClampNeg))), (3, .int n), (4, .int d), (5, .int y), (6, .int y22), (7, .int v24)]) rfl (ih3 _ (by omega) σ7 y22 v24 w7 (by omega) (by omega) (by have c7n := cnat (x := v24) (by omega); have c6n := cnat (x := y22) (by omega); first | exact R_back tR pd ev.1 (ev.2.trans (by omega)) (by omega) | exact R_back tR pd (ev.1.trans (if_neg (by omega))) (ev.2.trans (by omega)) (by omega) | exact R_back tR pd (evB (by omega) (by omega)).1 (evB (c := T 0) (by omega) (by omega)).2 (by omega)) rfl)
          have ev := And.intro (ev.1.trans (if_pos (by omega))) ev.2
          rw [ev.1] at tq4
          have l1 : ([95] : List Int).length = 1 := rfl
          refine go_aload_n (i := 0) (pc' := 116) dX6_render_115 rfl rfl rfl ?_
          refine go_bipush (v := 95) (pc' := 118) dX6_render_116 rfl (by decide) ?_
          refine go_cvv (pc' := 121) lk_X6_31 (e_X6_add _ _ _ _ (by omega) w7.1) rfl rfl (Nat.le_of_ble_eq_true rfl) (by decide) rfl rfl rfl ⟨Nat.le_of_ble_eq_true rfl, Nat.le_of_ble_eq_true rfl⟩ ⟨rfl, rfl⟩ dX6_render_118 rfl (fun σ25 h25 => ?_)
          have w25 := WXo_trans w7 ((fun z => (add_PD w7.1 (by omega) (by omega) z).1) h25)
          have pd := (add_PD ivp2 (by omega) (by omega) h25).2
          rw [n95] at pd
          refine go_goto (tgt := 137) dX6_render_121 (by decide) ?_
          refine gz_iinc (c := 1) (pc' := 140) dX6_render_137 rfl rfl (by decide) (by decide) (by decide) (by omega) (fun v26 h26 e26 => ?_)
          refine go_goto (tgt := 15) dX6_render_140 (by decide) ?_
          exact go_lv (lv' := [(0, .ref (L.2.1 8)), (1, .ref (L.2.1 7)), (2, .ref (L.2.1 (56 + (t).toNatClampNeg))), (3, .int n), (4, .int d), (5, .int y), (6, .int y22), (7, .int v26)]) rfl (ih3 _ (by omega) σ25 y22 v26 w25 (by omega) (by omega) (by have c7n := cnat (x := v26) (by omega); have c6n := cnat (x := y22) (by omega); first | exact R_back tR pd ev.1 (ev.2.trans (by omega)) (by omega) | exact R_back tR pd (ev.1.trans (if_neg (by omega))) (ev.2.trans (by omega)) (by omega) | exact R_back tR pd (evB (by omega) (by omega)).1 (evB (c := T 0) (by omega) (by omega)).2 (by omega)) rfl)
        have ivp2 := w7.1
        have ev := evC (dy := d.toInt) (wy := y.toInt) (c := T (x7_3).toNatClampNeg) (so := (σ7.1 8).toInt) (nu := (σ7.1 9).toInt) (r := (r7).toInt) (k := (x6_3).toNatClampNeg) (d2 := (σ7.1 7).toNatClampNeg) (by omega) (by omega)
        rw [ev.1] at tq4
        have l1 : ([T (x7_3).toNatClampNeg] : List Int).length = 1 := rfl
        have pl := tR.2.2.2.2.1 (by omega)
        have pl : 32 ≤ T (x7_3).toNatClampNeg ∧ T (x7_3).toNatClampNeg ≤ 122 := by
          clear tq4 tq5
          omega
        have erow2 : σ7.2 (56 + (t).toNatClampNeg) = σ.2 (56 + (t).toNatClampNeg) := w7.2.2 _ (row_so p)
        refine go_aload_n (i := 0) (pc' := 76) dX6_render_75 rfl rfl rfl ?_
        refine go_aload_n (i := 2) (pc' := 77) dX6_render_76 rfl rfl rfl ?_
        refine go_iload (pc' := 79) dX6_render_77 rfl rfl ?_
        refine go_bald (pc' := 80) dX6_render_79 rfl (by omega) (by omega) (rowt_56 p) (by rw [rowl_56 p]; exact (vin_of (n := 160) (by omega) (by omega))) ?_
        refine go_rngA (ixr_56 w7.1 p) (vinlt (vin_of (n := 160) (by omega) (by omega))) (fun g27 => ?_)
        have eb : ((σ7.2 (56 + (t).toNatClampNeg) (x7_3).toNatClampNeg)).toInt = T (x7_3).toNatClampNeg := by
          have e2 : ((σ7.2 (56 + (t).toNatClampNeg) (x7_3).toNatClampNeg) &&& 255).toInt = T (x7_3).toNatClampNeg := by rw [eT, erow2]
          have e3 := and255_mod ((σ7.2 (56 + (t).toNatClampNeg) (x7_3).toNatClampNeg))
          omega
        refine go_cvv (pc' := 83) lk_X6_31 (e_X6_add _ _ _ _ (by omega) w7.1) rfl rfl (Nat.le_of_ble_eq_true rfl) (by decide) rfl rfl rfl ⟨Nat.le_of_ble_eq_true rfl, Nat.le_of_ble_eq_true rfl⟩ ⟨rfl, rfl⟩ dX6_render_80 rfl (fun σ28 h28 => ?_)
        have w28 := WXo_trans w7 ((fun z => (add_PD w7.1 (by omega) (by omega) z).1) h28)
        have pd := (add_PD ivp2 (by omega) (by omega) h28).2
        rw [eb] at pd
        refine go_goto (tgt := 137) dX6_render_83 (by decide) ?_
        refine gz_iinc (c := 1) (pc' := 140) dX6_render_137 rfl rfl (by decide) (by decide) (by decide) (by omega) (fun v29 h29 e29 => ?_)
        refine go_goto (tgt := 15) dX6_render_140 (by decide) ?_
        exact go_lv (lv' := [(0, .ref (L.2.1 8)), (1, .ref (L.2.1 7)), (2, .ref (L.2.1 (56 + (t).toNatClampNeg))), (3, .int n), (4, .int d), (5, .int y), (6, .int x6_3), (7, .int v29)]) rfl (ih3 _ (by omega) σ28 x6_3 v29 w28 (by omega) (by omega) (by have c7n := cnat (x := v29) (by omega); have c6n := cnat (x := x6_3) (by omega); first | exact R_back tR pd ev.1 (ev.2.trans (by omega)) (by omega) | exact R_back tR pd (ev.1.trans (if_neg (by omega))) (ev.2.trans (by omega)) (by omega) | exact R_back tR pd (evB (by omega) (by omega)).1 (evB (c := T 0) (by omega) (by omega)).2 (by omega)) rfl)
      refine go_iload (pc' := 51) dX6_render_49 rfl rfl ?_
      refine go_iconst (v := 3) (pc' := 52) dX6_render_51 rfl (by decide) ?_
      refine gz_icmp_ne (tgt := 137) (pc' := 55) dX6_render_52 rfl (by decide) (fun c30 => ?_) (fun c30 => ?_)
      · refine gz_iinc (c := 1) (pc' := 140) dX6_render_137 rfl rfl (by decide) (by decide) (by decide) (by omega) (fun v31 h31 e31 => ?_)
        refine go_goto (tgt := 15) dX6_render_140 (by decide) ?_
        exact go_lv (lv' := [(0, .ref (L.2.1 8)), (1, .ref (L.2.1 7)), (2, .ref (L.2.1 (56 + (t).toNatClampNeg))), (3, .int n), (4, .int d), (5, .int y), (6, .int x6_3), (7, .int v31)]) rfl (ih3 _ (by omega) σ7 x6_3 v31 w7 (by omega) (by omega) (by have c7n := cnat (x := v31) (by omega); have c6n := cnat (x := x6_3) (by omega); first | exact R_back tR pd ev.1 (ev.2.trans (by omega)) (by omega) | exact R_back tR pd (ev.1.trans (if_neg (by omega))) (ev.2.trans (by omega)) (by omega) | exact R_back tR pd (evB (by omega) (by omega)).1 (evB (c := T 0) (by omega) (by omega)).2 (by omega)) rfl)
      refine go_aload_n (i := 1) (pc' := 56) dX6_render_55 rfl rfl rfl ?_
      refine gf_7_depth (pc' := 59) dX6_render_56 rfl fl_X6_28 ?_
      have g32 := ixi_7 w7.1
      refine go_iload (pc' := 61) dX6_render_59 rfl rfl ?_
      refine gz_icmp_ge (tgt := 137) (pc' := 64) dX6_render_61 rfl (by decide) (fun c33 => ?_) (fun c33 => ?_)
      · refine gz_iinc (c := 1) (pc' := 140) dX6_render_137 rfl rfl (by decide) (by decide) (by decide) (by omega) (fun v34 h34 e34 => ?_)
        refine go_goto (tgt := 15) dX6_render_140 (by decide) ?_
        exact go_lv (lv' := [(0, .ref (L.2.1 8)), (1, .ref (L.2.1 7)), (2, .ref (L.2.1 (56 + (t).toNatClampNeg))), (3, .int n), (4, .int d), (5, .int y), (6, .int x6_3), (7, .int v34)]) rfl (ih3 _ (by omega) σ7 x6_3 v34 w7 (by omega) (by omega) (by have c7n := cnat (x := v34) (by omega); have c6n := cnat (x := x6_3) (by omega); first | exact R_back tR pd ev.1 (ev.2.trans (by omega)) (by omega) | exact R_back tR pd (ev.1.trans (if_neg (by omega))) (ev.2.trans (by omega)) (by omega) | exact R_back tR pd (evB (by omega) (by omega)).1 (evB (c := T 0) (by omega) (by omega)).2 (by omega)) rfl)
      have ev := evA (dy := d.toInt) (wy := y.toInt) (c := T (x7_3).toNatClampNeg) (so := (σ7.1 8).toInt) (nu := (σ7.1 9).toInt) (r := (r7).toInt) (k := (x6_3).toNatClampNeg) (d2 := (σ7.1 7).toNatClampNeg) (by omega) (by omega)
      refine go_iconst (v := 0) (pc' := 65) dX6_render_64 rfl (by decide) ?_
      refine go_istore (pc' := 67) dX6_render_65 rfl (by decide) ?_
      refine go_goto (tgt := 137) dX6_render_67 (by decide) ?_
      refine gz_iinc (c := 1) (pc' := 140) dX6_render_137 rfl rfl (by decide) (by decide) (by decide) (by omega) (fun v35 h35 e35 => ?_)
      refine go_goto (tgt := 15) dX6_render_140 (by decide) ?_
      exact go_lv (lv' := [(0, .ref (L.2.1 8)), (1, .ref (L.2.1 7)), (2, .ref (L.2.1 (56 + (t).toNatClampNeg))), (3, .int n), (4, .int d), (5, .int y), (6, .int (0 : Int32)), (7, .int v35)]) rfl (ih3 _ (by omega) σ7 (0 : Int32) v35 w7 (by omega) (by omega) (by have c7n := cnat (x := v35) (by omega); have c6n := cnat (x := (0 : Int32)) (by omega); first | exact R_back tR pd ev.1 (ev.2.trans (by omega)) (by omega) | exact R_back tR pd (ev.1.trans (if_neg (by omega))) (ev.2.trans (by omega)) (by omega) | exact R_back tR pd (evB (by omega) (by omega)).1 (evB (c := T 0) (by omega) (by omega)).2 (by omega)) rfl)
  exact go_lv (lv' := [(0, .ref (L.2.1 8)), (1, .ref (L.2.1 7)), (2, .ref (L.2.1 (56 + (t).toNatClampNeg))), (3, .int n), (4, .int d), (5, .int y), (6, .int (0 : Int32)), (7, .int (0 : Int32))]) rfl (loop15_3 _ σ2 (0 : Int32) (0 : Int32) w2 (by omega) (by omega) (by rw [z0]; exact INVR_0 (by omega) g14 hbg) rfl)
set_option maxHeartbeats 4000000 in
set_option maxRecDepth 100000 in
theorem e_X11_printText (l : Launch) (L : WL) (σ : ST) (a d y : Int32) (ha : 0 ≤ a.toInt ∧ a.toInt < 12) (hy : y.toInt = 0 ∨ y.toInt = 1) (ix : IV σ) (tv : TVX σ) : CtV l L yX11_printText cX11_printText 4 none rm_X11_printText [.ref (L.2.1 0), .int a, .int d, .int y] σ (fun σ2 => WXo σ σ2 ∧ outL (σ2.2 45) (σ2.1 14).toNatClampNeg = FUX σ a.toNatClampNeg d.toInt y.toInt) := by
  refine ctV_go (own := RX11) (by decide) rfl (Nat.le_of_ble_eq_true rfl) (fun F hF => ?_)
  subst hF
  have w0 : WXo σ σ := WXo_rfl ix
  have ca := cnat (x := a) (by omega)
  have g32 := ixa_32 ix (a).toNatClampNeg (by omega)
  refine go_aload_n (i := 0) (pc' := 1) dX11_printText_0 rfl rfl rfl ?_
  refine gf_0_printer (pc' := 4) dX11_printText_1 rfl fl_X11_61 ?_
  refine go_aload_n (i := 0) (pc' := 5) dX11_printText_4 rfl rfl rfl ?_
  refine gf_0_reader (pc' := 8) dX11_printText_5 rfl fl_X11_54 ?_
  refine go_aload_n (i := 0) (pc' := 9) dX11_printText_8 rfl rfl rfl ?_
  refine gf_0_letters (pc' := 12) dX11_printText_9 rfl fl_X11_19 ?_
  refine gf_2_texts (pc' := 15) dX11_printText_12 rfl fl_X11_267 ?_
  refine go_iload_n (i := 1) (pc' := 16) dX11_printText_15 rfl rfl rfl ?_
  have p1 : (a).toNatClampNeg < 12 := vinlt (vin_of (n := 12) (by omega) (by omega))
  refine go_aald (b := 56) (pc' := 17) dX11_printText_16 rfl (by decide) (by decide) ⟨_, rfl⟩ (vin_of (n := 12) (by omega) (by omega)) rfl ?_
  refine go_aload_n (i := 0) (pc' := 18) dX11_printText_17 rfl rfl rfl ?_
  refine gf_0_letters (pc' := 21) dX11_printText_18 rfl fl_X11_19 ?_
  refine gf_2_sizes (pc' := 24) dX11_printText_21 rfl fl_X11_155 ?_
  refine go_iload_n (i := 1) (pc' := 25) dX11_printText_24 rfl rfl rfl ?_
  refine go_iald (pc' := 26) dX11_printText_25 rfl (by decide) (by decide) rfl (vin_of (n := 12) (by omega) (by omega)) ?_
  refine go_rngA (ixa_32 w0.1) (vinlt (vin_of (n := 12) (by omega) (by omega))) (fun g2 => ?_)
  refine go_iload_n (i := 2) (pc' := 27) dX11_printText_26 rfl rfl rfl ?_
  refine go_iload_n (i := 3) (pc' := 28) dX11_printText_27 rfl rfl rfl ?_
  refine go_cvv (pc' := 31) lk_X11_330 (e_X6_render _ _ _ _ _ _ _ (txX σ (a).toNatClampNeg) p1 (by omega) hy (fun j => rfl) (tv _ (by omega)) w0.1) rfl rfl (Nat.le_of_ble_eq_true rfl) (by decide) rfl rfl rfl ⟨Nat.le_of_ble_eq_true rfl, Nat.le_of_ble_eq_true rfl⟩ ⟨rfl, rfl⟩ dX11_printText_28 rfl (fun σ3 h3 => ?_)
  obtain ⟨u3, h3⟩ := h3
  have w3 := WXo_trans w0 u3
  have fu := h3
  exact go_vret dX11_printText_31 rfl (⟨w3, fu⟩)
set_option maxHeartbeats 4000000 in
set_option maxRecDepth 100000 in
theorem f_X11_print (l : Launch) (L : WL) (σ : ST) (a d y : Int32) (ix : IV σ) (tv : TVX σ) : CtI l L yX11_print cX11_print 4 (some .int) rm_X11_print [.ref (L.2.1 0), .int a, .int d, .int y] σ (fun r σ2 => tX_print σ a d y r σ2) := by
  refine ctI_go (own := RX11) (by decide) rfl (Nat.le_of_ble_eq_true rfl) (fun F hF => ?_)
  subst hF
  have nm2 : (-2 : Int32).toInt = -2 := by decide
  have w0 : WX σ σ := WX_rfl ix
  have gl := ixi_3 ix
  refine go_aload_n (i := 0) (pc' := 1) dX11_print_0 rfl rfl rfl ?_
  refine go_iload_n (i := 1) (pc' := 2) dX11_print_1 rfl rfl rfl ?_
  refine go_iload_n (i := 2) (pc' := 3) dX11_print_2 rfl rfl rfl ?_
  refine go_iload_n (i := 3) (pc' := 4) dX11_print_3 rfl rfl rfl ?_
  refine go_cvi (pc' := 7) lk_X11_249 (c_X11_isPrinting _ _ _ _ _ _) rfl rfl (Nat.le_of_ble_eq_true rfl) (by decide) rfl rfl rfl ⟨Nat.le_of_ble_eq_true rfl, Nat.le_of_ble_eq_true rfl⟩ ⟨rfl, rfl⟩ dX11_print_4 rfl (fun r1 σ1 h1 => ?_)
  obtain ⟨e1, h1⟩ := h1
  have e1 := e1.symm
  subst e1
  refine go_neB (tgt := 13) (pc' := 10) h1 dX11_print_7 rfl (by decide) (fun c2 => ?_) (fun c2 => ?_)
  · refine go_aload_n (i := 0) (pc' := 14) dX11_print_13 rfl rfl rfl ?_
    refine go_iload_n (i := 1) (pc' := 15) dX11_print_14 rfl rfl rfl ?_
    refine go_iload_n (i := 2) (pc' := 16) dX11_print_15 rfl rfl rfl ?_
    refine go_iload_n (i := 3) (pc' := 17) dX11_print_16 rfl rfl rfl ?_
    refine go_cvv (pc' := 20) lk_X11_252 (e_X11_printText _ _ _ _ _ _ (by omega) (by omega) w0.1 (by first | exact tv | exact tv)) rfl rfl (Nat.le_of_ble_eq_true rfl) (by decide) rfl rfl rfl ⟨Nat.le_of_ble_eq_true rfl, Nat.le_of_ble_eq_true rfl⟩ ⟨rfl, rfl⟩ dX11_print_17 rfl (fun σ3 h3 => ?_)
    obtain ⟨u3, h3⟩ := h3
    have w3 := WX_trans w0 (WX_of_o u3)
    have fu := h3
    have fl := outL_len (σ3.2 45) (σ3.1 14).toNatClampNeg
    rw [fu] at fl
    have g14 := ixi_14 w3.1
    have c14 := cnat (x := σ3.1 14) (by omega)
    refine go_aload_n (i := 0) (pc' := 21) dX11_print_20 rfl rfl rfl ?_
    refine gf_0_printer (pc' := 24) dX11_print_21 rfl fl_X11_61 ?_
    refine gf_8_size (pc' := 27) dX11_print_24 rfl fl_X11_256 ?_
    have g4 := ixi_14 w3.1
    exact go_iret dX11_print_27 rfl (⟨w3, by first | exact Or.inl ⟨by omega, rfl⟩ | exact Or.inr ⟨by omega, by omega⟩⟩)
  refine go_bipush (v := (-2)) (pc' := 12) dX11_print_10 rfl (by decide) ?_
  exact go_iret dX11_print_12 rfl (⟨w0, Or.inl ⟨by omega, rfl⟩⟩)
set_option maxHeartbeats 4000000 in
set_option maxRecDepth 100000 in
theorem f_X11_printed (l : Launch) (L : WL) (σ : ST) (a d y i : Int32) (ix : IV σ) (tv : TVX σ) : CtI l L yX11_printed cX11_printed 5 (some .int) rm_X11_printed [.ref (L.2.1 0), .int a, .int d, .int y, .int i] σ (fun r σ2 => tX_printed σ a d y i r σ2) := by
  refine ctI_go (own := RX11) (by decide) rfl (Nat.le_of_ble_eq_true rfl) (fun F hF => ?_)
  subst hF
  have nm2 : (-2 : Int32).toInt = -2 := by decide
  have nm1 : (-1 : Int32).toInt = -1 := by decide
  have n255 : (255 : Int32).toInt = 255 := by decide
  have w0 : WX σ σ := WX_rfl ix
  have gl := ixi_3 ix
  refine go_aload_n (i := 0) (pc' := 1) dX11_printed_0 rfl rfl rfl ?_
  refine go_iload_n (i := 1) (pc' := 2) dX11_printed_1 rfl rfl rfl ?_
  refine go_iload_n (i := 2) (pc' := 3) dX11_printed_2 rfl rfl rfl ?_
  refine go_iload_n (i := 3) (pc' := 4) dX11_printed_3 rfl rfl rfl ?_
  refine go_cvi (pc' := 7) lk_X11_249 (c_X11_isPrinting _ _ _ _ _ _) rfl rfl (Nat.le_of_ble_eq_true rfl) (by decide) rfl rfl rfl ⟨Nat.le_of_ble_eq_true rfl, Nat.le_of_ble_eq_true rfl⟩ ⟨rfl, rfl⟩ dX11_printed_4 rfl (fun r1 σ1 h1 => ?_)
  obtain ⟨e1, h1⟩ := h1
  have e1 := e1.symm
  subst e1
  refine go_neB (tgt := 13) (pc' := 10) h1 dX11_printed_7 rfl (by decide) (fun c2 => ?_) (fun c2 => ?_)
  · refine go_aload_n (i := 0) (pc' := 14) dX11_printed_13 rfl rfl rfl ?_
    refine go_iload_n (i := 1) (pc' := 15) dX11_printed_14 rfl rfl rfl ?_
    refine go_iload_n (i := 2) (pc' := 16) dX11_printed_15 rfl rfl rfl ?_
    refine go_iload_n (i := 3) (pc' := 17) dX11_printed_16 rfl rfl rfl ?_
    refine go_cvv (pc' := 20) lk_X11_252 (e_X11_printText _ _ _ _ _ _ (by omega) (by omega) w0.1 (by first | exact tv | exact tv)) rfl rfl (Nat.le_of_ble_eq_true rfl) (by decide) rfl rfl rfl ⟨Nat.le_of_ble_eq_true rfl, Nat.le_of_ble_eq_true rfl⟩ ⟨rfl, rfl⟩ dX11_printed_17 rfl (fun σ3 h3 => ?_)
    obtain ⟨u3, h3⟩ := h3
    have w3 := WX_trans w0 (WX_of_o u3)
    have fu := h3
    have fl := outL_len (σ3.2 45) (σ3.1 14).toNatClampNeg
    rw [fu] at fl
    have g14 := ixi_14 w3.1
    have c14 := cnat (x := σ3.1 14) (by omega)
    refine go_iload (pc' := 22) dX11_printed_20 rfl rfl ?_
    refine gz_if_lt (tgt := 54) (pc' := 25) dX11_printed_22 rfl (by decide) (fun c4 => ?_) (fun c4 => ?_)
    · refine go_iconst (v := (-1)) (pc' := 55) dX11_printed_54 rfl (by decide) ?_
      exact go_iret dX11_printed_55 rfl (⟨w3, by first | exact Or.inl ⟨by omega, rfl⟩ | exact Or.inr ⟨by omega, Or.inr ⟨by omega, rfl⟩⟩ | exact Or.inr ⟨by omega, Or.inl ⟨by omega, by have ci := cnat (x := i) (by omega); exact prb fu (FUX_nn _ _ _ _) (by omega) (ixa_45 w3.1 _ (by omega))⟩⟩⟩)
    refine go_iload (pc' := 27) dX11_printed_25 rfl rfl ?_
    refine go_aload_n (i := 0) (pc' := 28) dX11_printed_27 rfl rfl rfl ?_
    refine gf_0_printer (pc' := 31) dX11_printed_28 rfl fl_X11_61 ?_
    refine gf_8_size (pc' := 34) dX11_printed_31 rfl fl_X11_256 ?_
    have g5 := ixi_14 w3.1
    refine gz_icmp_ge (tgt := 54) (pc' := 37) dX11_printed_34 rfl (by decide) (fun c6 => ?_) (fun c6 => ?_)
    · refine go_iconst (v := (-1)) (pc' := 55) dX11_printed_54 rfl (by decide) ?_
      exact go_iret dX11_printed_55 rfl (⟨w3, by first | exact Or.inl ⟨by omega, rfl⟩ | exact Or.inr ⟨by omega, Or.inr ⟨by omega, rfl⟩⟩ | exact Or.inr ⟨by omega, Or.inl ⟨by omega, by have ci := cnat (x := i) (by omega); exact prb fu (FUX_nn _ _ _ _) (by omega) (ixa_45 w3.1 _ (by omega))⟩⟩⟩)
    refine go_aload_n (i := 0) (pc' := 38) dX11_printed_37 rfl rfl rfl ?_
    refine gf_0_printer (pc' := 41) dX11_printed_38 rfl fl_X11_61 ?_
    refine gf_8_bytes (pc' := 44) dX11_printed_41 rfl fl_X11_257 ?_
    refine go_iload (pc' := 46) dX11_printed_44 rfl rfl ?_
    refine go_bald (pc' := 47) dX11_printed_46 rfl (by decide) (by decide) rfl (vin_of (n := 160) (by omega) (by omega)) ?_
    refine go_rngA (ixa_45 w3.1) (vinlt (vin_of (n := 160) (by omega) (by omega))) (fun g7 => ?_)
    refine go_sipush (v := 255) (pc' := 50) dX11_printed_47 rfl (by decide) ?_
    refine go_iand (pc' := 51) dX11_printed_50 rfl ?_
    refine go_goto (tgt := 55) dX11_printed_51 (by decide) ?_
    exact go_iret dX11_printed_55 rfl (⟨w3, by first | exact Or.inl ⟨by omega, rfl⟩ | exact Or.inr ⟨by omega, Or.inr ⟨by omega, rfl⟩⟩ | exact Or.inr ⟨by omega, Or.inl ⟨by omega, by have ci := cnat (x := i) (by omega); exact prb fu (FUX_nn _ _ _ _) (by omega) (ixa_45 w3.1 _ (by omega))⟩⟩⟩)
  refine go_bipush (v := (-2)) (pc' := 12) dX11_printed_10 rfl (by decide) ?_
  exact go_iret dX11_printed_12 rfl (⟨w0, by first | exact Or.inl ⟨by omega, rfl⟩ | exact Or.inr ⟨by omega, Or.inr ⟨by omega, rfl⟩⟩ | exact Or.inr ⟨by omega, Or.inl ⟨by omega, by have ci := cnat (x := i) (by omega); exact prb fu (FUX_nn _ _ _ _) (by omega) (ixa_45 w0.1 _ (by omega))⟩⟩⟩)
