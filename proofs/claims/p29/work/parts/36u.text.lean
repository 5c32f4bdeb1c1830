abbrev wrA (k : Nat) : Prop := k = 32 ∨ (56 ≤ k ∧ k < 68)
def WXw (σ σ2 : ST) : Prop := IV σ2 ∧ Ag noI wrA σ σ2
theorem WXw_rfl {σ : ST} (h : IV σ) : WXw σ σ := ⟨h, Ag_rfl σ⟩
theorem WXw_trans {σ σ2 σ3 : ST} (h : WXw σ σ2) (h2 : WXw σ2 σ3) : WXw σ σ3 := ⟨h2.1, Ag_trans h.2 h2.2⟩
theorem WXt_ofw {σ σ2 : ST} (h : WXw σ σ2) : WXt σ σ2 := ⟨h.1, ⟨fun i _ => h.2.1 i (fun q => q), fun k hk => h.2.2 k (fun q => hk (q.elim Or.inl (fun z => Or.inr (Or.inl z))))⟩⟩
theorem QW_row {n : Nat} (h : n < 12) : wrA (56 + n) := Or.inr (by omega)
theorem row_sx {q : Nat} (h : q < 12) : ¬ sxA (56 + q) := fun z => by
  have : 56 + q = 33 ∨ 56 + q = 34 ∨ 56 + q = 38 ∨ 56 + q = 39 ∨ (44 ≤ 56 + q ∧ 56 + q < 55) ∨ (68 ≤ 56 + q ∧ 56 + q < 80) := z
  omega
def tX_text (σ : ST) (a r : Int32) (σ2 : ST) : Prop := (¬ (0 ≤ a.toInt ∧ a.toInt < (σ.1 3).toInt) ∧ r = -2 ∧ σ2 = σ) ∨ ((0 ≤ a.toInt ∧ a.toInt < (σ.1 3).toInt) ∧ WXt σ σ2 ∧ σ2.1 6 = 0 ∧ FLT (tpX σ) (σ.1 6).toNatClampNeg (σ.1 3).toInt (σ2.1 0).toInt (σ2.1 1).toInt ∧ (((σ2.1 0).toInt = 0 ∧ r = σ.1 6 ∧ σ2.2 32 = upd (σ.2 32) (a).toNatClampNeg (σ.1 6) ∧ (∀ q : Nat, q < 12 → q ≠ (a).toNatClampNeg → σ2.2 (56 + q) = σ.2 (56 + q)) ∧ ∀ j : Nat, (j : Int) < (σ.1 6).toInt → σ2.2 (56 + (a).toNatClampNeg) j = (σ.2 43 j).toInt8.toInt32) ∨ ((σ2.1 0).toInt ≠ 0 ∧ r.toInt = -20 - (σ2.1 0).toInt ∧ σ2.2 32 = σ.2 32 ∧ ∀ q : Nat, q < 12 → σ2.2 (56 + q) = σ.2 (56 + q))))
theorem FLT_rng {T : Nat → Int} {n : Nat} {L kd pl : Int} (h : FLT T n L kd pl) : 0 ≤ kd ∧ kd ≤ 2 := by
  rcases h with ⟨-, b, -⟩ | ⟨-, ⟨b, -⟩ | ⟨b, -⟩⟩ <;> omega
set_option maxHeartbeats 4000000 in
set_option maxRecDepth 100000 in
theorem f_X2_write (l : Launch) (L : WL) (σ : ST) (a n : Int32) (ha : 0 ≤ a.toInt ∧ a.toInt < 12) (hn : 0 ≤ n.toInt ∧ n.toInt ≤ 160) (ix : IV σ) : CtV l L yX2_write cX2_write 5 none rm_X2_write [.ref (L.2.1 2), .int a, .ref (L.2.1 43), .int n] σ (fun σ2 => WXw σ σ2 ∧ σ2.2 32 = upd (σ.2 32) (a).toNatClampNeg n ∧ (∀ q : Nat, q < 12 → q ≠ (a).toNatClampNeg → σ2.2 (56 + q) = σ.2 (56 + q)) ∧ ∀ j : Nat, (j : Int) < n.toInt → σ2.2 (56 + (a).toNatClampNeg) j = (σ.2 43 j).toInt8.toInt32) := by
  refine ctV_go (own := RX2) (by decide) rfl (Nat.le_of_ble_eq_true rfl) (fun F hF => ?_)
  subst hF
  have n0 : (0 : Int32).toInt = 0 := by decide
  have n160 : (160 : Int32).toInt = 160 := by decide
  have w0 : WXw σ σ := WXw_rfl ix
  have ca := cnat (x := a) (by omega)
  refine go_aload_n (i := 0) (pc' := 1) dX2_write_0 rfl rfl rfl ?_
  refine gf_2_sizes (pc' := 4) dX2_write_1 rfl fl_X2_36 ?_
  refine go_iload_n (i := 1) (pc' := 5) dX2_write_4 rfl rfl rfl ?_
  refine go_iload_n (i := 3) (pc' := 6) dX2_write_5 rfl rfl rfl ?_
  refine go_sipush (v := 160) (pc' := 9) dX2_write_6 rfl (by decide) ?_
  refine gz_min (pc' := 12) dX2_write_9 rfl ml_X2_58 (Nat.le_of_ble_eq_true rfl) (Nat.le_of_ble_eq_true rfl) (fun v1 h1 e1 => ?_)
  have vn : v1 = n := Int32.toInt_inj.mp (by omega)
  refine go_iast (pc' := 13) dX2_write_12 rfl (by decide) (by decide) rfl (vin_of (n := 12) (by omega) (by omega)) ?_
  refine go_gen (P := fun s => WXw σ s ∧ s.2 32 = upd (σ.2 32) (a).toNatClampNeg v1 ∧ ∀ q : Nat, q ≠ 32 → s.2 q = σ.2 q) ⟨⟨ixt_32 w0.1 (by omega) (by omega), Ag_setA w0.2 (by decide)⟩, ⟨setA_same _ _ _ _, fun q hq => setA_ne _ _ _ _ hq⟩⟩ (fun σ2 z2 => ?_)
  obtain ⟨w2, g2⟩ := z2
  have gz := g2
  refine go_iconst (v := 0) (pc' := 14) dX2_write_13 rfl (by decide) ?_
  refine go_istore (pc' := 16) dX2_write_14 rfl (by decide) ?_
  have loop16_3 : ∀ (dd3 : Nat) (σ3 : ST) (x4_3 : Int32), WXw σ σ3 → (0 ≤ (x4_3).toInt ∧ (x4_3).toInt ≤ n.toInt) → (σ3.2 32 = upd (σ.2 32) (a).toNatClampNeg n) → (∀ q : Nat, q < 12 → q ≠ (a).toNatClampNeg → σ3.2 (56 + q) = σ.2 (56 + q)) → (∀ j : Nat, (j : Int) < (x4_3).toInt → σ3.2 (56 + (a).toNatClampNeg) j = (σ.2 43 j).toInt8.toInt32) → (160 - (x4_3).toInt).toNat = dd3 → Go F L RX2 cX2_write 5 rm_X2_write none (RV F L (fun σ2 => WXw σ σ2 ∧ σ2.2 32 = upd (σ.2 32) (a).toNatClampNeg n ∧ (∀ q : Nat, q < 12 → q ≠ (a).toNatClampNeg → σ2.2 (56 + q) = σ.2 (56 + q)) ∧ ∀ j : Nat, (j : Int) < n.toInt → σ2.2 (56 + (a).toNatClampNeg) j = (σ.2 43 j).toInt8.toInt32)) σ3 16 [(0, .ref (L.2.1 2)), (1, .int a), (2, .ref (L.2.1 43)), (3, .int n), (4, .int x4_3)] [] := by
    intro dd3
    induction dd3 using Nat.strongRecOn with
    | _ dd3 ih3 =>
      intro σ3 x4_3 w3 h_3 hz_3 ho_3 hr_3 hm_3
      refine go_iload (pc' := 18) dX2_write_16 rfl rfl ?_
      refine go_aload_n (i := 0) (pc' := 19) dX2_write_18 rfl rfl rfl ?_
      refine gf_2_sizes (pc' := 22) dX2_write_19 rfl fl_X2_36 ?_
      refine go_iload_n (i := 1) (pc' := 23) dX2_write_22 rfl rfl rfl ?_
      refine go_iald (pc' := 24) dX2_write_23 rfl (by decide) (by decide) rfl (vin_of (n := 12) (by omega) (by omega)) ?_
      refine go_rngA (ixa_32 w3.1) (vinlt (vin_of (n := 12) (by omega) (by omega))) (fun g4 => ?_)
      have e43l : σ3.2 43 = σ.2 43 := w3.2.2 43 (by decide)
      have zn : (σ3.2 32 (a).toNatClampNeg).toInt = n.toInt := by rw [hz_3, upd_eq]
      refine gz_icmp_ge (tgt := 46) (pc' := 27) dX2_write_24 rfl (by decide) (fun c5 => ?_) (fun c5 => ?_)
      · exact go_vret dX2_write_46 rfl (⟨w3, hz_3, ho_3, fun j hj => hr_3 j (by omega)⟩)
      refine go_aload_n (i := 0) (pc' := 28) dX2_write_27 rfl rfl rfl ?_
      refine gf_2_texts (pc' := 31) dX2_write_28 rfl fl_X2_41 ?_
      refine go_iload_n (i := 1) (pc' := 32) dX2_write_31 rfl rfl rfl ?_
      have p6 : (a).toNatClampNeg < 12 := vinlt (vin_of (n := 12) (by omega) (by omega))
      refine go_aald (b := 56) (pc' := 33) dX2_write_32 rfl (by decide) (by decide) ⟨_, rfl⟩ (vin_of (n := 12) (by omega) (by omega)) rfl ?_
      refine go_iload (pc' := 35) dX2_write_33 rfl rfl ?_
      refine go_aload_n (i := 2) (pc' := 36) dX2_write_35 rfl rfl rfl ?_
      refine go_iload (pc' := 38) dX2_write_36 rfl rfl ?_
      refine go_bald (pc' := 39) dX2_write_38 rfl (by decide) (by decide) rfl (vin_of (n := 160) (by omega) (by omega)) ?_
      refine go_rngA (ixa_43 w3.1) (vinlt (vin_of (n := 160) (by omega) (by omega))) (fun g7 => ?_)
      refine go_bast (pc' := 40) dX2_write_39 rfl (by omega) (by omega) (rowt_56 p6) (by rw [rowl_56 p6]; exact (vin_of (n := 160) (by omega) (by omega))) ?_
      refine go_gen (P := fun s => WXw σ s ∧ s.2 32 = σ3.2 32 ∧ (∀ q : Nat, q ≠ (56 + (a).toNatClampNeg) → s.2 q = σ3.2 q) ∧ s.2 (56 + (a).toNatClampNeg) = upd (σ3.2 (56 + (a).toNatClampNeg)) (x4_3).toNatClampNeg ((((σ3.2 43 (x4_3).toNatClampNeg))).toInt8.toInt32)) ⟨⟨ixu_56 w3.1 p6 (b8 _), Ag_setA w3.2 (QW_row p6)⟩, ⟨setA_ne _ _ _ _ (by omega), fun q hq => setA_ne _ _ _ _ hq, setA_same _ _ _ _⟩⟩ (fun σ8 z8 => ?_)
      obtain ⟨w8, g8⟩ := z8
      have gR := g8
      refine gz_iinc (c := 1) (pc' := 43) dX2_write_40 rfl rfl (by decide) (by decide) (by decide) (by omega) (fun v9 h9 e9 => ?_)
      refine go_goto (tgt := 16) dX2_write_43 (by decide) ?_
      exact go_lv (lv' := [(0, .ref (L.2.1 2)), (1, .int a), (2, .ref (L.2.1 43)), (3, .int n), (4, .int v9)]) rfl (ih3 _ (by omega) σ8 v9 w8 (by omega) (gR.1.trans hz_3) (fun q h1 h2 => (gR.2.1 _ (by omega)).trans (ho_3 q h1 h2)) (upd_step (P := fun j z => z = (σ.2 43 j).toInt8.toInt32) hr_3 gR.2.2 (by rw [e43l]) (by omega) (by omega)) rfl)
  exact go_lv (lv' := [(0, .ref (L.2.1 2)), (1, .int a), (2, .ref (L.2.1 43)), (3, .int n), (4, .int (0 : Int32))]) rfl (loop16_3 _ σ2 (0 : Int32) w2 (by omega) (by rw [gz.1, vn]) (fun q h1 h2 => gz.2 _ (by omega)) (fun j hj => by exfalso; omega) rfl)
set_option maxHeartbeats 4000000 in
set_option maxRecDepth 100000 in
theorem f_X11_text (l : Launch) (L : WL) (σ : ST) (a : Int32) (ix : IV σ) : CtI l L yX11_text cX11_text 3 (some .int) rm_X11_text [.ref (L.2.1 0), .int a] σ (fun r σ2 => tX_text σ a r σ2) := by
  refine ctI_go (own := RX11) (by decide) rfl (Nat.le_of_ble_eq_true rfl) (fun F hF => ?_)
  subst hF
  have nm20 : (-20 : Int32).toInt = -20 := by decide
  have nm2 : (-2 : Int32).toInt = -2 := by decide
  have n0 : (0 : Int32).toInt = 0 := by decide
  have w0 : WXt σ σ := WXt_rfl ix
  have u6 := ixi_6 ix
  have u3 := ixi_3 ix
  refine go_aload_n (i := 0) (pc' := 1) dX11_text_0 rfl rfl rfl ?_
  refine gf_0_letters (pc' := 4) dX11_text_1 rfl fl_X11_19 ?_
  refine go_iload_n (i := 1) (pc' := 5) dX11_text_4 rfl rfl rfl ?_
  refine go_cvi (pc' := 8) lk_X11_130 (c_X2_has _ _ _ _) rfl rfl (Nat.le_of_ble_eq_true rfl) (by decide) rfl rfl rfl ⟨Nat.le_of_ble_eq_true rfl, Nat.le_of_ble_eq_true rfl⟩ ⟨rfl, rfl⟩ dX11_text_5 rfl (fun r1 σ1 h1 => ?_)
  obtain ⟨e1, h1⟩ := h1
  have e1 := e1.symm
  subst e1
  refine go_neB (tgt := 14) (pc' := 11) h1 dX11_text_8 rfl (by decide) (fun c2 => ?_) (fun c2 => ?_)
  · refine go_aload_n (i := 0) (pc' := 15) dX11_text_14 rfl rfl rfl ?_
    refine gf_0_tape (pc' := 18) dX11_text_15 rfl fl_X11_47 ?_
    refine gf_6_size (pc' := 21) dX11_text_18 rfl fl_X11_234 ?_
    have g3 := ixi_6 w0.1
    refine go_topz (fun y4 h4 e4 => ?_)
    refine go_istore_n (i := 2) (pc' := 22) dX11_text_21 rfl rfl (by decide) ?_
    have y6 : y4 = σ.1 6 := by assumption
    refine go_aload_n (i := 0) (pc' := 23) dX11_text_22 rfl rfl rfl ?_
    refine go_cvv (pc' := 26) lk_X11_238 (f_X11_examineTape _ _ _ w0.1) rfl rfl (Nat.le_of_ble_eq_true rfl) (by decide) rfl rfl rfl ⟨Nat.le_of_ble_eq_true rfl, Nat.le_of_ble_eq_true rfl⟩ ⟨rfl, rfl⟩ dX11_text_23 rfl (fun σ5 h5 => ?_)
    obtain ⟨u5, h5⟩ := h5
    have w5 := WXt_trans w0 ((fun z => WXt_ofe z.1) u5)
    have fl := h5
    have fr := FLT_rng fl
    have e6 := u5.2
    have e32 : σ5.2 32 = σ.2 32 := u5.1.2.2 32 (by decide)
    have e43 : σ5.2 43 = σ.2 43 := u5.1.2.2 43 (by decide)
    have eR : ∀ q : Nat, q < 12 → σ5.2 (56 + q) = σ.2 (56 + q) := fun q hq => u5.1.2.2 _ (row_sx hq)
    refine go_aload_n (i := 0) (pc' := 27) dX11_text_26 rfl rfl rfl ?_
    refine gf_0_faultKind (pc' := 30) dX11_text_27 rfl fl_X11_89 ?_
    refine gz_if_ne (tgt := 49) (pc' := 33) dX11_text_30 rfl (by decide) (fun c6 => ?_) (fun c6 => ?_)
    · refine go_aload_n (i := 0) (pc' := 50) dX11_text_49 rfl rfl rfl ?_
      refine gf_0_tape (pc' := 53) dX11_text_50 rfl fl_X11_47 ?_
      refine go_iconst (v := 0) (pc' := 54) dX11_text_53 rfl (by decide) ?_
      refine pf_6_size (pc' := 57) dX11_text_54 rfl fl_X11_234 ?_
      refine go_gen (P := fun s => WXt σ s ∧ s.1 6 = (0 : Int32) ∧ s.1 0 = σ5.1 0 ∧ s.1 1 = σ5.1 1 ∧ s.2 = σ5.2) ⟨⟨ixs_6 w5.1 (by omega) (by omega), Ag_setI w5.2 (by decide)⟩, ⟨setI_same _ _ _, rfl, rfl, rfl⟩⟩ (fun σ7 z7 => ?_)
      obtain ⟨w7, g7⟩ := z7
      have gs := g7
      have g0 := congrArg Int32.toInt gs.2.1
      refine go_aload_n (i := 0) (pc' := 58) dX11_text_57 rfl rfl rfl ?_
      refine gf_0_faultKind (pc' := 61) dX11_text_58 rfl fl_X11_89 ?_
      refine gz_if_ne (tgt := 68) (pc' := 64) dX11_text_61 rfl (by decide) (fun c8 => ?_) (fun c8 => ?_)
      · refine go_bipush (v := (-20)) (pc' := 70) dX11_text_68 rfl (by decide) ?_
        refine go_aload_n (i := 0) (pc' := 71) dX11_text_70 rfl rfl rfl ?_
        refine gf_0_faultKind (pc' := 74) dX11_text_71 rfl fl_X11_89 ?_
        refine gz_isub (pc' := 75) dX11_text_74 rfl (by omega) (fun v9 h9 e9 => ?_)
        exact go_iret dX11_text_75 rfl (by first | (exfalso; omega) | exact Or.inr ⟨by omega, w7, gs.1, by rw [gs.2.1, gs.2.2.1, w0, w1]; exact fl, Or.inl ⟨by omega, y6, by rw [gs.2.2.2, wr.1, e32, y6], fun q h1 h2 => by rw [gs.2.2.2, wr.2.1 q h1 h2, eR q h1], fun j hj => by rw [gs.2.2.2, wr.2.2 j (by rw [y6]; exact hj), e43]⟩⟩ | exact Or.inr ⟨by omega, w7, gs.1, by rw [gs.2.1, gs.2.2.1]; exact fl, Or.inr ⟨by omega, by omega, by rw [gs.2.2.2, e32], fun q hq => by rw [gs.2.2.2, eR q hq]⟩⟩)
      refine go_iload_n (i := 2) (pc' := 65) dX11_text_64 rfl rfl rfl ?_
      refine go_goto (tgt := 75) dX11_text_65 (by decide) ?_
      exact go_iret dX11_text_75 rfl (by first | (exfalso; omega) | exact Or.inr ⟨by omega, w7, gs.1, by rw [gs.2.1, gs.2.2.1, w0, w1]; exact fl, Or.inl ⟨by omega, y6, by rw [gs.2.2.2, wr.1, e32, y6], fun q h1 h2 => by rw [gs.2.2.2, wr.2.1 q h1 h2, eR q h1], fun j hj => by rw [gs.2.2.2, wr.2.2 j (by rw [y6]; exact hj), e43]⟩⟩ | exact Or.inr ⟨by omega, w7, gs.1, by rw [gs.2.1, gs.2.2.1]; exact fl, Or.inr ⟨by omega, by omega, by rw [gs.2.2.2, e32], fun q hq => by rw [gs.2.2.2, eR q hq]⟩⟩)
    refine go_aload_n (i := 0) (pc' := 34) dX11_text_33 rfl rfl rfl ?_
    refine gf_0_letters (pc' := 37) dX11_text_34 rfl fl_X11_19 ?_
    refine go_iload_n (i := 1) (pc' := 38) dX11_text_37 rfl rfl rfl ?_
    refine go_aload_n (i := 0) (pc' := 39) dX11_text_38 rfl rfl rfl ?_
    refine gf_0_tape (pc' := 42) dX11_text_39 rfl fl_X11_47 ?_
    refine gf_6_bytes (pc' := 45) dX11_text_42 rfl fl_X11_241 ?_
    refine go_iload_n (i := 2) (pc' := 46) dX11_text_45 rfl rfl rfl ?_
    refine go_cvv (pc' := 49) lk_X11_245 (f_X2_write _ _ _ _ _ (by omega) (by omega) w5.1) rfl rfl (Nat.le_of_ble_eq_true rfl) (by decide) rfl rfl rfl ⟨Nat.le_of_ble_eq_true rfl, Nat.le_of_ble_eq_true rfl⟩ ⟨rfl, rfl⟩ dX11_text_46 rfl (fun σ10 h10 => ?_)
    obtain ⟨u10, h10⟩ := h10
    have w10 := WXt_trans w5 (WXt_ofw u10)
    have wr := h10
    have w0 := u10.2.1 0 (by decide)
    have w1 := u10.2.1 1 (by decide)
    have w0i := congrArg Int32.toInt w0
    refine go_aload_n (i := 0) (pc' := 50) dX11_text_49 rfl rfl rfl ?_
    refine gf_0_tape (pc' := 53) dX11_text_50 rfl fl_X11_47 ?_
    refine go_iconst (v := 0) (pc' := 54) dX11_text_53 rfl (by decide) ?_
    refine pf_6_size (pc' := 57) dX11_text_54 rfl fl_X11_234 ?_
    refine go_gen (P := fun s => WXt σ s ∧ s.1 6 = (0 : Int32) ∧ s.1 0 = σ10.1 0 ∧ s.1 1 = σ10.1 1 ∧ s.2 = σ10.2) ⟨⟨ixs_6 w10.1 (by omega) (by omega), Ag_setI w10.2 (by decide)⟩, ⟨setI_same _ _ _, rfl, rfl, rfl⟩⟩ (fun σ11 z11 => ?_)
    obtain ⟨w11, g11⟩ := z11
    have gs := g11
    have g0 := congrArg Int32.toInt gs.2.1
    refine go_aload_n (i := 0) (pc' := 58) dX11_text_57 rfl rfl rfl ?_
    refine gf_0_faultKind (pc' := 61) dX11_text_58 rfl fl_X11_89 ?_
    refine gz_if_ne (tgt := 68) (pc' := 64) dX11_text_61 rfl (by decide) (fun c12 => ?_) (fun c12 => ?_)
    · refine go_bipush (v := (-20)) (pc' := 70) dX11_text_68 rfl (by decide) ?_
      refine go_aload_n (i := 0) (pc' := 71) dX11_text_70 rfl rfl rfl ?_
      refine gf_0_faultKind (pc' := 74) dX11_text_71 rfl fl_X11_89 ?_
      refine gz_isub (pc' := 75) dX11_text_74 rfl (by omega) (fun v13 h13 e13 => ?_)
      exact go_iret dX11_text_75 rfl (by first | (exfalso; omega) | exact Or.inr ⟨by omega, w11, gs.1, by rw [gs.2.1, gs.2.2.1, w0, w1]; exact fl, Or.inl ⟨by omega, y6, by rw [gs.2.2.2, wr.1, e32, y6], fun q h1 h2 => by rw [gs.2.2.2, wr.2.1 q h1 h2, eR q h1], fun j hj => by rw [gs.2.2.2, wr.2.2 j (by rw [y6]; exact hj), e43]⟩⟩ | exact Or.inr ⟨by omega, w11, gs.1, by rw [gs.2.1, gs.2.2.1]; exact fl, Or.inr ⟨by omega, by omega, by rw [gs.2.2.2, e32], fun q hq => by rw [gs.2.2.2, eR q hq]⟩⟩)
    refine go_iload_n (i := 2) (pc' := 65) dX11_text_64 rfl rfl rfl ?_
    refine go_goto (tgt := 75) dX11_text_65 (by decide) ?_
    exact go_iret dX11_text_75 rfl (by first | (exfalso; omega) | exact Or.inr ⟨by omega, w11, gs.1, by rw [gs.2.1, gs.2.2.1, w0, w1]; exact fl, Or.inl ⟨by omega, y6, by rw [gs.2.2.2, wr.1, e32, y6], fun q h1 h2 => by rw [gs.2.2.2, wr.2.1 q h1 h2, eR q h1], fun j hj => by rw [gs.2.2.2, wr.2.2 j (by rw [y6]; exact hj), e43]⟩⟩ | exact Or.inr ⟨by omega, w11, gs.1, by rw [gs.2.1, gs.2.2.1]; exact fl, Or.inr ⟨by omega, by omega, by rw [gs.2.2.2, e32], fun q hq => by rw [gs.2.2.2, eR q hq]⟩⟩)
  refine go_bipush (v := (-2)) (pc' := 13) dX11_text_11 rfl (by decide) ?_
  exact go_iret dX11_text_13 rfl (Or.inl ⟨by omega, rfl, rfl⟩)
