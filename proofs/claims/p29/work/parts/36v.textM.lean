theorem nval_step {t : Nat → Int} {p a b : Nat} (h : b = a + 1) : nval t p b = nval t p a * 10 + t (p + a) - 48 := by
  subst h
  rfl
def tM_feed (σ : ST) (n : Int32) (b : Int64) (r : Int32) (σ2 : ST) : Prop := (¬ (1 ≤ n.toInt ∧ n.toInt ≤ 8) ∧ r = -2 ∧ σ2 = σ) ∨ ((1 ≤ n.toInt ∧ n.toInt ≤ 8) ∧ 160 < (σ.1 23).toInt + n.toInt ∧ r = -4 ∧ σ2 = σ) ∨ ((1 ≤ n.toInt ∧ n.toInt ≤ 8) ∧ (σ.1 23).toInt + n.toInt ≤ 160 ∧ WMf σ σ2 ∧ (σ2.1 23).toInt = (σ.1 23).toInt + n.toInt ∧ r = σ2.1 23 ∧ (∀ j : Nat, (j : Int) < (σ.1 23).toInt → σ2.2 119 j = σ.2 119 j) ∧ ∀ j : Nat, (j : Int) < n.toInt → σ2.2 119 ((σ.1 23).toNatClampNeg + j) = fbM b j)
def tM_tray (σ : ST) (t n r : Int32) (σ2 : ST) : Prop := (¬ ((0 ≤ t.toInt ∧ t.toInt < 4) ∧ n.toInt ≤ 60) ∧ r = -2 ∧ σ2 = σ) ∨ (((0 ≤ t.toInt ∧ t.toInt < 4) ∧ n.toInt ≤ 60) ∧ n.toInt < -1 ∧ r = -14 ∧ σ2 = σ) ∨ (((0 ≤ t.toInt ∧ t.toInt < 4) ∧ n.toInt ≤ 60) ∧ -1 ≤ n.toInt ∧ r = 1 ∧ WMy σ σ2 ∧ σ2.2 134 = upd (σ.2 134) (t).toNatClampNeg n ∧ (∀ q : Nat, q < (60 * (t).toNatClampNeg) ∨ (60 * (t).toNatClampNeg) + 60 ≤ q → σ2.2 135 q = σ.2 135 q) ∧ ∀ j : Nat, j < 60 → σ2.2 135 ((60 * (t).toNatClampNeg) + j) = 0)
def tM_lay (σ : ST) (t f n r : Int32) (σ2 : ST) : Prop := (¬ ((0 ≤ t.toInt ∧ t.toInt < 4) ∧ 0 ≤ n.toInt) ∧ r = -2 ∧ σ2 = σ) ∨ (((0 ≤ t.toInt ∧ t.toInt < 4) ∧ 0 ≤ n.toInt) ∧ (σ.2 134 (t).toNatClampNeg).toInt < 0 ∧ r = -11 ∧ σ2 = σ) ∨ (((0 ≤ t.toInt ∧ t.toInt < 4) ∧ 0 ≤ n.toInt) ∧ 0 ≤ (σ.2 134 (t).toNatClampNeg).toInt ∧ WMf σ σ2 ∧ (r.toInt, (σ2.1 23).toInt) = layR (σ.2 134 (t).toNatClampNeg).toInt f.toInt n.toInt 100 0 (σ.1 23).toInt ∧ (∀ j : Nat, (j : Int) < (σ.1 23).toInt → σ2.2 119 j = σ.2 119 j) ∧ (σ.1 23).toInt ≤ (σ2.1 23).toInt ∧ ∀ j : Nat, (j : Int) < (σ2.1 23).toInt - (σ.1 23).toInt → (0 ≤ f.toInt ∧ f.toInt + j < 60) ∧ σ2.2 119 ((σ.1 23).toNatClampNeg + j) = σ.2 135 ((60 * (t).toNatClampNeg) + ((f).toNatClampNeg + j)))
/-- kind and place of a tape's fault as far as the first m places are looked at -/
def FLS (T : Nat → Int) (n : Nat) (L : Int) (m : Nat) (kd pl : Int) : Prop := (0 ≤ tk T n 200 0 0 (fun _ => 0) ∧ kd = 1 ∧ pl = tk T n 200 0 0 (fun _ => 0)) ∨ (tk T n 200 0 0 (fun _ => 0) = -1 ∧ FSX T n L m kd pl)
theorem FLS_end {T : Nat → Int} {n m : Nat} {L kd pl : Int} (h : FLS T n L m kd pl) (hm : m ≤ n) (e : kd ≠ 0 ∨ n ≤ m + 1) : FLT T n L kd pl := by
  rcases h with h | ⟨a, h⟩
  · exact Or.inl h
  · refine Or.inr ⟨a, ?_⟩
    by_cases z : kd = 0
    · exact FSX_up h hm (fun k h1 h2 q => by have := q.1; omega)
    · exact FSX_two h hm z
theorem FLS_0 {T : Nat → Int} {n m : Nat} {L kd pl : Int} (h : FLS T n L m kd pl) (z : kd = 0) : tk T n 200 0 0 (fun _ => 0) = -1 := by
  rcases h with ⟨-, h, -⟩ | ⟨a, -⟩
  · omega
  · exact a
theorem FLS_no {T : Nat → Int} {n m m2 : Nat} {L kd pl : Int} (h : FLS T n L m kd pl) (e : m2 = m + 1) (hn : ¬ cnd2 T n L m) : FLS T n L m2 kd pl := by
  rcases h with h | ⟨a, h⟩
  · exact Or.inl h
  · exact Or.inr ⟨a, FSX_up h (by omega) (fun k h1 h2 => by rw [show k = m by omega]; exact hn)⟩
theorem FLS_new {T : Nat → Int} {n m m2 : Nat} {L kd pl kd2 pl2 : Int} (h : FLS T n L m kd pl) (e : m2 = m + 1) (hk : kd = 0) (hc : cnd2 T n L m) (h2 : kd2 = 2) (h3 : pl2 = (m : Int)) : FLS T n L m2 kd2 pl2 := by
  rcases h with ⟨-, z, -⟩ | ⟨a, h⟩
  · omega
  · exact Or.inr ⟨a, FSX_new h (by omega) hk hc h2 h3⟩
theorem FLT_0 {T : Nat → Int} {n : Nat} {L kd pl : Int} (h : FLT T n L kd pl) (z : kd = 0) : tk T n 200 0 0 (fun _ => 0) = -1 := by
  rcases h with ⟨-, h, -⟩ | ⟨a, -⟩
  · omega
  · exact a
def tM_text (σ : ST) (a r : Int32) (σ2 : ST) : Prop := (¬ (0 ≤ a.toInt ∧ a.toInt < (σ.1 20).toInt) ∧ r = -2 ∧ σ2 = σ) ∨ ((0 ≤ a.toInt ∧ a.toInt < (σ.1 20).toInt) ∧ WMt σ σ2 ∧ TV σ2 ∧ σ2.1 23 = 0 ∧ FLT (tpT σ) (σ.1 23).toNatClampNeg (σ.1 20).toInt (σ2.1 26).toInt (σ2.1 27).toInt ∧ (((σ2.1 26).toInt = 0 ∧ r = σ.1 23 ∧ σ2.2 109 = upd (σ.2 109) (a).toNatClampNeg (σ.1 23) ∧ (∀ j : Nat, (j : Int) < (σ.1 23).toInt → σ2.2 110 (160 * (a).toNatClampNeg + j) = σ.2 119 j) ∧ ∀ q : Nat, q < 160 * (a).toNatClampNeg ∨ 160 * (a).toNatClampNeg + 160 ≤ q → σ2.2 110 q = σ.2 110 q) ∨ ((σ2.1 26).toInt ≠ 0 ∧ r.toInt = -20 - (σ2.1 26).toInt ∧ σ2.2 109 = σ.2 109 ∧ σ2.2 110 = σ.2 110)))
set_option maxHeartbeats 4000000 in
set_option maxRecDepth 100000 in
theorem f_numberAt_119 (l : Launch) (L : WL) (σ : ST) (f : Int32) (j : Nat) (T : Nat → Int) (hT : ∀ i : Nat, (σ.2 119 i).toInt = T i) (hf : 0 ≤ f.toInt ∧ f.toInt ≤ 160) (hj : j ≤ 4) (hjn : f.toNatClampNeg + j < 160) (hd : ∀ i : Nat, i < j → digP (T (f.toNatClampNeg + i))) (hn : ¬ digP (T (f.toNatClampNeg + j))) (ix : IV σ) : CtI l L yX12_numberAt cX12_numberAt 4 (some .int) rm_X12_numberAt [.ref (L.2.1 119), .int f] σ (fun r σ2 => σ2 = σ ∧ r.toInt = nval T (f).toNatClampNeg j) := by
  refine ctI_go (own := RX12) (by decide) rfl (Nat.le_of_ble_eq_true rfl) (fun F hF => ?_)
  subst hF
  have n0 : (0 : Int32).toInt = 0 := by decide
  have n10 : (10 : Int32).toInt = 10 := by decide
  have n48 : (48 : Int32).toInt = 48 := by decide
  have n160 : (160 : Int32).toInt = 160 := by decide
  have w0 : WM σ σ := WM_rfl ix
  have cf := cnat (x := f) (by omega)
  refine go_iconst (v := 0) (pc' := 1) dX12_numberAt_0 rfl (by decide) ?_
  refine go_istore_n (i := 2) (pc' := 2) dX12_numberAt_1 rfl rfl (by decide) ?_
  refine go_iload_n (i := 1) (pc' := 3) dX12_numberAt_2 rfl rfl rfl ?_
  refine go_istore_n (i := 3) (pc' := 4) dX12_numberAt_3 rfl rfl (by decide) ?_
  have loop4_1 : ∀ (dd1 : Nat) (x2_1 : Int32) (x3_1 : Int32), (f.toInt ≤ (x3_1).toInt ∧ (x3_1).toInt ≤ f.toInt + j) → ((x2_1).toInt = nval T (f).toNatClampNeg ((x3_1).toNatClampNeg - (f).toNatClampNeg)) → (163 - (x3_1).toInt).toNat = dd1 → Go F L RX12 cX12_numberAt 4 rm_X12_numberAt (some .int) (RI F L (fun r σ2 => σ2 = σ ∧ r.toInt = nval T (f).toNatClampNeg j)) σ 4 [(0, .ref (L.2.1 119)), (1, .int f), (2, .int x2_1), (3, .int x3_1)] [] := by
    intro dd1
    induction dd1 using Nat.strongRecOn with
    | _ dd1 ih1 =>
      intro x2_1 x3_1 h_1 hv_1 hm_1
      have c3 := cnat (x := x3_1) (by omega)
      have rg := nval_rng (t := T) (p := (f).toNatClampNeg) (j := (x3_1).toNatClampNeg - (f).toNatClampNeg) (fun i hi => hd i (by omega)) (by omega)
      have et : T ((f).toNatClampNeg + ((x3_1).toNatClampNeg - (f).toNatClampNeg)) = (σ.2 119 (x3_1).toNatClampNeg).toInt := by rw [hT, show (f).toNatClampNeg + ((x3_1).toNatClampNeg - (f).toNatClampNeg) = (x3_1).toNatClampNeg from by omega]
      refine go_iload_n (i := 3) (pc' := 5) dX12_numberAt_4 rfl rfl rfl ?_
      refine go_aload_n (i := 0) (pc' := 6) dX12_numberAt_5 rfl rfl rfl ?_
      refine go_alen (v := 160) (pc' := 7) dX12_numberAt_6 rfl (by decide) (by decide) rfl ?_
      refine gz_icmp_ge (tgt := 37) (pc' := 10) dX12_numberAt_7 rfl (by decide) (fun c2 => (by exfalso; omega)) (fun c2 => ?_)
      refine go_aload_n (i := 0) (pc' := 11) dX12_numberAt_10 rfl rfl rfl ?_
      refine go_iload_n (i := 3) (pc' := 12) dX12_numberAt_11 rfl rfl rfl ?_
      refine go_iald (pc' := 13) dX12_numberAt_12 rfl (by decide) (by decide) rfl (vin_of (n := 160) (by omega) (by omega)) ?_
      have g3 := ixa_119 ix (x3_1).toNatClampNeg (vinlt (vin_of (n := 160) (by omega) (by omega)))
      refine go_csi (pc' := 16) ls_X12_221 (c_X12_isDigit _ _ _ _) rfl rfl (Nat.le_of_ble_eq_true rfl) ⟨Nat.le_of_ble_eq_true rfl, Nat.le_of_ble_eq_true rfl⟩ ⟨rfl, rfl⟩ dX12_numberAt_13 rfl (fun r4 σ4 h4 => ?_)
      obtain ⟨e4, h4⟩ := h4
      have e4 := e4.symm
      subst e4
      refine go_eqB (tgt := 37) (pc' := 19) h4 dX12_numberAt_16 rfl (by decide) (fun c5 => ?_) (fun c5 => ?_)
      · have eg : (x3_1).toNatClampNeg - (f).toNatClampNeg = j := by
          rcases Nat.lt_or_ge ((x3_1).toNatClampNeg - (f).toNatClampNeg) j with z | z
          · exfalso
            have d := hd _ z
            rw [et] at d
            exact absurd d c5
          · omega
        refine go_iload_n (i := 2) (pc' := 38) dX12_numberAt_37 rfl rfl rfl ?_
        exact go_iret dX12_numberAt_38 rfl (⟨rfl, by rw [← eg]; exact hv_1⟩)
      have dg : digP (σ.2 119 (x3_1).toNatClampNeg).toInt := c5
      have lt : (x3_1).toNatClampNeg - (f).toNatClampNeg < j := by
        rcases Nat.lt_or_ge ((x3_1).toNatClampNeg - (f).toNatClampNeg) j with z | z
        · exact z
        · exfalso
          refine hn ?_
          rw [show j = (x3_1).toNatClampNeg - (f).toNatClampNeg from by omega, et]
          exact dg
      refine go_bipush (v := 10) (pc' := 21) dX12_numberAt_19 rfl (by decide) ?_
      refine go_iload_n (i := 2) (pc' := 22) dX12_numberAt_21 rfl rfl rfl ?_
      refine gz_imulc (n := 10) (pc' := 23) dX12_numberAt_22 rfl (by decide) (by omega) (fun v6 h6 e6 => ?_)
      refine go_aload_n (i := 0) (pc' := 24) dX12_numberAt_23 rfl rfl rfl ?_
      refine go_iload_n (i := 3) (pc' := 25) dX12_numberAt_24 rfl rfl rfl ?_
      refine go_iald (pc' := 26) dX12_numberAt_25 rfl (by decide) (by decide) rfl (vin_of (n := 160) (by omega) (by omega)) ?_
      have g7 := ixa_119 ix (x3_1).toNatClampNeg (vinlt (vin_of (n := 160) (by omega) (by omega)))
      refine gz_iadd (pc' := 27) dX12_numberAt_26 rfl (by omega) (fun v8 h8 e8 => ?_)
      refine go_bipush (v := 48) (pc' := 29) dX12_numberAt_27 rfl (by decide) ?_
      refine gz_isub (pc' := 30) dX12_numberAt_29 rfl (by omega) (fun v9 h9 e9 => ?_)
      refine go_istore_n (i := 2) (pc' := 31) dX12_numberAt_30 rfl rfl (by decide) ?_
      refine gz_iinc (c := 1) (pc' := 34) dX12_numberAt_31 rfl rfl (by decide) (by decide) (by decide) (by omega) (fun v10 h10 e10 => ?_)
      refine go_goto (tgt := 4) dX12_numberAt_34 (by decide) ?_
      exact go_lv (lv' := [(0, .ref (L.2.1 119)), (1, .int f), (2, .int v9), (3, .int v10)]) rfl (ih1 _ (by omega)  v9 v10 (by omega) (by rw [nval_step (show (v10).toNatClampNeg - (f).toNatClampNeg = ((x3_1).toNatClampNeg - (f).toNatClampNeg) + 1 by have cq := cnat (x := v10) (by omega); omega)]; omega) rfl)
  exact go_lv (lv' := [(0, .ref (L.2.1 119)), (1, .int f), (2, .int (0 : Int32)), (3, .int f)]) rfl (loop4_1 _  (0 : Int32) f (by omega) (by rw [Nat.sub_self]; exact n0) rfl)
set_option maxHeartbeats 4000000 in
set_option maxRecDepth 100000 in
theorem f_X12_feed (l : Launch) (L : WL) (σ : ST) (n : Int32) (b : Int64) (ix : IV σ) : CtI l L yX12_feed cX12_feed 5 (some .int) rm_X12_feed [.ref (L.2.1 13), .int n, .long b] σ (fun r σ2 => tM_feed σ n b r σ2) := by
  refine ctI_go (own := RX12) (by decide) rfl (Nat.le_of_ble_eq_true rfl) (fun F hF => ?_)
  subst hF
  have nm4 : (-4 : Int32).toInt = -4 := by decide
  have nm2 : (-2 : Int32).toInt = -2 := by decide
  have n0 : (0 : Int32).toInt = 0 := by decide
  have n1 : (1 : Int32).toInt = 1 := by decide
  have n8 : (8 : Int32).toInt = 8 := by decide
  have n160 : (160 : Int32).toInt = 160 := by decide
  have n255 : (255 : Int32).toInt = 255 := by decide
  have w0 : WMf σ σ := WMf_rfl ix
  have u23 := ixi_23 ix
  have c230 := cnat (x := σ.1 23) (by omega)
  refine go_iload_n (i := 1) (pc' := 1) dX12_feed_0 rfl rfl rfl ?_
  refine go_iconst (v := 1) (pc' := 2) dX12_feed_1 rfl (by decide) ?_
  refine go_isub (pc' := 3) dX12_feed_2 rfl ?_
  refine go_bipush (v := 8) (pc' := 5) dX12_feed_3 rfl (by decide) ?_
  refine go_csi (pc' := 8) ls_X12_135 (c_X12_isIn _ _ _ _ _) rfl rfl (Nat.le_of_ble_eq_true rfl) ⟨Nat.le_of_ble_eq_true rfl, Nat.le_of_ble_eq_true rfl⟩ ⟨rfl, rfl⟩ dX12_feed_5 rfl (fun r1 σ1 h1 => ?_)
  obtain ⟨e1, h1⟩ := h1
  have e1 := e1.symm
  subst e1
  have h1 := bq_c (sub1c _ _) h1
  refine go_neB (tgt := 14) (pc' := 11) h1 dX12_feed_8 rfl (by decide) (fun c2 => ?_) (fun c2 => ?_)
  · refine go_aload_n (i := 0) (pc' := 15) dX12_feed_14 rfl rfl rfl ?_
    refine gf_13_size (pc' := 18) dX12_feed_15 rfl fl_X12_215 ?_
    have g3 := ixi_23 w0.1
    refine go_iload_n (i := 1) (pc' := 19) dX12_feed_18 rfl rfl rfl ?_
    refine gz_iadd (pc' := 20) dX12_feed_19 rfl (by omega) (fun v4 h4 e4 => ?_)
    refine go_sipush (v := 160) (pc' := 23) dX12_feed_20 rfl (by decide) ?_
    refine gz_icmp_le (tgt := 29) (pc' := 26) dX12_feed_23 rfl (by decide) (fun c5 => ?_) (fun c5 => ?_)
    · refine go_iconst (v := 0) (pc' := 30) dX12_feed_29 rfl (by decide) ?_
      refine go_istore (pc' := 32) dX12_feed_30 rfl (by decide) ?_
      have loop32_6 : ∀ (dd6 : Nat) (σ6 : ST) (x4_6 : Int32), WMf σ σ6 → (0 ≤ (x4_6).toInt ∧ (x4_6).toInt ≤ n.toInt) → ((σ6.1 23).toInt = (σ.1 23).toInt + (x4_6).toInt) → (∀ j : Nat, (j : Int) < (σ.1 23).toInt → σ6.2 119 j = σ.2 119 j) → (∀ j : Nat, (j : Int) < (x4_6).toInt → σ6.2 119 ((σ.1 23).toNatClampNeg + j) = fbM b j) → (8 - (x4_6).toInt).toNat = dd6 → Go F L RX12 cX12_feed 5 rm_X12_feed (some .int) (RI F L (fun r σ2 => tM_feed σ n b r σ2)) σ6 32 [(0, .ref (L.2.1 13)), (1, .int n), (2, .long b), (4, .int x4_6)] [] := by
        intro dd6
        induction dd6 using Nat.strongRecOn with
        | _ dd6 ih6 =>
          intro σ6 x4_6 w6 h_6 hs_6 hk_6 hb_6 hm_6
          refine go_iload (pc' := 34) dX12_feed_32 rfl rfl ?_
          refine go_iload_n (i := 1) (pc' := 35) dX12_feed_34 rfl rfl rfl ?_
          refine gz_icmp_ge (tgt := 75) (pc' := 38) dX12_feed_35 rfl (by decide) (fun c7 => ?_) (fun c7 => ?_)
          · refine go_aload_n (i := 0) (pc' := 76) dX12_feed_75 rfl rfl rfl ?_
            refine gf_13_size (pc' := 79) dX12_feed_76 rfl fl_X12_215 ?_
            have g8 := ixi_23 w6.1
            exact go_iret dX12_feed_79 rfl (Or.inr (Or.inr ⟨by omega, by omega, w6, by omega, rfl, hk_6, fun j hj => hb_6 j (by omega)⟩))
          have c4 := cnat (x := x4_6) (by omega)
          have cp := cnat (x := σ6.1 23) (by omega)
          refine go_aload_n (i := 0) (pc' := 39) dX12_feed_38 rfl rfl rfl ?_
          refine gf_13_tape (pc' := 42) dX12_feed_39 rfl fl_X12_80 ?_
          refine go_aload_n (i := 0) (pc' := 43) dX12_feed_42 rfl rfl rfl ?_
          refine gf_13_size (pc' := 46) dX12_feed_43 rfl fl_X12_215 ?_
          have g9 := ixi_23 w6.1
          refine go_lload_n (i := 2) (pc' := 47) dX12_feed_46 rfl rfl rfl ?_
          refine go_bipush (v := 8) (pc' := 49) dX12_feed_47 rfl (by decide) ?_
          refine go_iload (pc' := 51) dX12_feed_49 rfl rfl ?_
          refine go_imul (pc' := 52) dX12_feed_51 rfl ?_
          refine go_lshr (pc' := 53) dX12_feed_52 rfl ?_
          refine go_l2i (pc' := 54) dX12_feed_53 rfl ?_
          refine go_sipush (v := 255) (pc' := 57) dX12_feed_54 rfl (by decide) ?_
          refine go_iand (pc' := 58) dX12_feed_57 rfl ?_
          refine go_iast (pc' := 59) dX12_feed_58 rfl (by decide) (by decide) rfl (vin_of (n := 160) (by omega) (by omega)) ?_
          refine go_gen (P := fun s => WMf σ s ∧ s.1 23 = σ6.1 23 ∧ s.2 119 = upd (σ6.2 119) ((σ6.1 23)).toNatClampNeg (((b >>> (((8 : Int32) * x4_6).toInt64 &&& 63))).toInt32 &&& (255 : Int32))) ⟨⟨ixt_119 w6.1 (and255 _).1 (and255 _).2, Ag_setA w6.2 (by decide)⟩, ⟨rfl, setA_same _ _ _ _⟩⟩ (fun σ10 z10 => ?_)
          obtain ⟨w10, g10⟩ := z10
          have a119 := g10.2
          have q10 := congrArg Int32.toInt g10.1
          refine go_aload_n (i := 0) (pc' := 60) dX12_feed_59 rfl rfl rfl ?_
          refine go_dup (pc' := 61) dX12_feed_60 rfl rfl ?_
          refine gf_13_size (pc' := 64) dX12_feed_61 rfl fl_X12_215 ?_
          have g11 := ixi_23 w10.1
          refine go_iconst (v := 1) (pc' := 65) dX12_feed_64 rfl (by decide) ?_
          refine gz_iadd (pc' := 66) dX12_feed_65 rfl (by omega) (fun v12 h12 e12 => ?_)
          refine pf_13_size (pc' := 69) dX12_feed_66 rfl fl_X12_215 ?_
          refine go_gen (P := fun s => WMf σ s ∧ s.1 23 = v12 ∧ s.2 119 = σ10.2 119) ⟨⟨ixs_23 w10.1 (by omega) (by omega), Ag_setI w10.2 (by decide)⟩, ⟨setI_same _ _ _, rfl⟩⟩ (fun σ13 z13 => ?_)
          obtain ⟨w13, g13⟩ := z13
          have e119 := g13.2.trans a119
          have q13 := congrArg Int32.toInt g13.1
          refine gz_iinc (c := 1) (pc' := 72) dX12_feed_69 rfl rfl (by decide) (by decide) (by decide) (by omega) (fun v14 h14 e14 => ?_)
          refine go_goto (tgt := 32) dX12_feed_72 (by decide) ?_
          exact go_lv (lv' := [(0, .ref (L.2.1 13)), (1, .int n), (2, .long b), (4, .int v14)]) rfl (ih6 _ (by omega) σ13 v14 w13 (by omega) (by omega) (fun j hj => by rw [e119, upd_ne (by omega)]; exact hk_6 j hj) (cp_step hb_6 (by rw [show (σ.1 23).toNatClampNeg + (x4_6).toNatClampNeg = (σ6.1 23).toNatClampNeg from by omega]; exact e119) (by unfold fbM; rw [of_nat (by omega)]) (by omega) (by omega)) rfl)
      exact go_lv (lv' := [(0, .ref (L.2.1 13)), (1, .int n), (2, .long b), (4, .int (0 : Int32))]) rfl (loop32_6 _ σ (0 : Int32) w0 (by omega) (by omega) (fun j hj => rfl) (fun j hj => by exfalso; omega) rfl)
    refine go_bipush (v := (-4)) (pc' := 28) dX12_feed_26 rfl (by decide) ?_
    exact go_iret dX12_feed_28 rfl (Or.inr (Or.inl ⟨by omega, by omega, rfl, rfl⟩))
  refine go_bipush (v := (-2)) (pc' := 13) dX12_feed_11 rfl (by decide) ?_
  exact go_iret dX12_feed_13 rfl (Or.inl ⟨by omega, rfl, rfl⟩)
set_option maxHeartbeats 4000000 in
set_option maxRecDepth 100000 in
theorem f_X12_tray (l : Launch) (L : WL) (σ : ST) (t n : Int32) (ix : IV σ) : CtI l L yX12_tray cX12_tray 4 (some .int) rm_X12_tray [.ref (L.2.1 13), .int t, .int n] σ (fun r σ2 => tM_tray σ t n r σ2) := by
  refine ctI_go (own := RX12) (by decide) rfl (Nat.le_of_ble_eq_true rfl) (fun F hF => ?_)
  subst hF
  have nm14 : (-14 : Int32).toInt = -14 := by decide
  have nm2 : (-2 : Int32).toInt = -2 := by decide
  have nm1 : (-1 : Int32).toInt = -1 := by decide
  have n0 : (0 : Int32).toInt = 0 := by decide
  have n1 : (1 : Int32).toInt = 1 := by decide
  have n4 : (4 : Int32).toInt = 4 := by decide
  have n60 : (60 : Int32).toInt = 60 := by decide
  have w0 : WMy σ σ := WMy_rfl ix
  refine go_iload_n (i := 1) (pc' := 1) dX12_tray_0 rfl rfl rfl ?_
  refine go_iconst (v := 4) (pc' := 2) dX12_tray_1 rfl (by decide) ?_
  refine go_csi (pc' := 5) ls_X12_135 (c_X12_isIn _ _ _ _ _) rfl rfl (Nat.le_of_ble_eq_true rfl) ⟨Nat.le_of_ble_eq_true rfl, Nat.le_of_ble_eq_true rfl⟩ ⟨rfl, rfl⟩ dX12_tray_2 rfl (fun r1 σ1 h1 => ?_)
  obtain ⟨e1, h1⟩ := h1
  have e1 := e1.symm
  subst e1
  refine go_eqB (tgt := 14) (pc' := 8) h1 dX12_tray_5 rfl (by decide) (fun c2 => ?_) (fun c2 => ?_)
  · refine go_bipush (v := (-2)) (pc' := 16) dX12_tray_14 rfl (by decide) ?_
    exact go_iret dX12_tray_16 rfl (Or.inl ⟨by omega, rfl, rfl⟩)
  refine go_iload_n (i := 2) (pc' := 9) dX12_tray_8 rfl rfl rfl ?_
  refine go_bipush (v := 60) (pc' := 11) dX12_tray_9 rfl (by decide) ?_
  refine gz_icmp_le (tgt := 17) (pc' := 14) dX12_tray_11 rfl (by decide) (fun c3 => ?_) (fun c3 => ?_)
  · refine go_iload_n (i := 2) (pc' := 18) dX12_tray_17 rfl rfl rfl ?_
    refine go_iconst (v := (-1)) (pc' := 19) dX12_tray_18 rfl (by decide) ?_
    refine gz_icmp_ge (tgt := 25) (pc' := 22) dX12_tray_19 rfl (by decide) (fun c4 => ?_) (fun c4 => ?_)
    · refine go_aload_n (i := 0) (pc' := 26) dX12_tray_25 rfl rfl rfl ?_
      refine gf_13_traySize (pc' := 29) dX12_tray_26 rfl fl_X12_129 ?_
      refine go_iload_n (i := 1) (pc' := 30) dX12_tray_29 rfl rfl rfl ?_
      refine go_iload_n (i := 2) (pc' := 31) dX12_tray_30 rfl rfl rfl ?_
      refine go_iast (pc' := 32) dX12_tray_31 rfl (by decide) (by decide) rfl (vin_of (n := 4) (by omega) (by omega)) ?_
      refine go_gen (P := fun s => WMy σ s ∧ s.2 134 = upd (σ.2 134) (t).toNatClampNeg n ∧ s.2 135 = σ.2 135) ⟨⟨ixt_134 w0.1 (by omega) (by omega), Ag_setA w0.2 (by decide)⟩, ⟨setA_same _ _ _ _, setA_ne (a := 135) _ 134 _ _ (by decide)⟩⟩ (fun σ5 z5 => ?_)
      obtain ⟨w5, g5⟩ := z5
      have hz := g5
      refine go_iconst (v := 0) (pc' := 33) dX12_tray_32 rfl (by decide) ?_
      refine go_istore_n (i := 3) (pc' := 34) dX12_tray_33 rfl rfl (by decide) ?_
      have loop34_6 : ∀ (dd6 : Nat) (σ6 : ST) (x3_6 : Int32), WMy σ σ6 → (0 ≤ (x3_6).toInt ∧ (x3_6).toInt ≤ 60) → (σ6.2 134 = upd (σ.2 134) (t).toNatClampNeg n) → (∀ q : Nat, q < (60 * (t).toNatClampNeg) ∨ (60 * (t).toNatClampNeg) + 60 ≤ q → σ6.2 135 q = σ.2 135 q) → (∀ j : Nat, (j : Int) < (x3_6).toInt → σ6.2 135 ((60 * (t).toNatClampNeg) + j) = (fun _ => (0 : Int32)) j) → (60 - (x3_6).toInt).toNat = dd6 → Go F L RX12 cX12_tray 4 rm_X12_tray (some .int) (RI F L (fun r σ2 => tM_tray σ t n r σ2)) σ6 34 [(0, .ref (L.2.1 13)), (1, .int t), (2, .int n), (3, .int x3_6)] [] := by
        intro dd6
        induction dd6 using Nat.strongRecOn with
        | _ dd6 ih6 =>
          intro σ6 x3_6 w6 h_6 hz_6 ho_6 hr_6 hm_6
          refine go_iload_n (i := 3) (pc' := 35) dX12_tray_34 rfl rfl rfl ?_
          refine go_bipush (v := 60) (pc' := 37) dX12_tray_35 rfl (by decide) ?_
          refine gz_icmp_ge (tgt := 58) (pc' := 40) dX12_tray_37 rfl (by decide) (fun c7 => ?_) (fun c7 => ?_)
          · refine go_iconst (v := 1) (pc' := 59) dX12_tray_58 rfl (by decide) ?_
            exact go_iret dX12_tray_59 rfl (Or.inr (Or.inr ⟨by omega, by omega, rfl, w6, hz_6, ho_6, fun j hj => hr_6 j (by omega)⟩))
          refine go_aload_n (i := 0) (pc' := 41) dX12_tray_40 rfl rfl rfl ?_
          refine gf_13_trays (pc' := 44) dX12_tray_41 rfl fl_X12_132 ?_
          refine go_bipush (v := 60) (pc' := 46) dX12_tray_44 rfl (by decide) ?_
          refine go_iload_n (i := 1) (pc' := 47) dX12_tray_46 rfl rfl rfl ?_
          refine gz_imulc (n := 60) (pc' := 48) dX12_tray_47 rfl (by decide) (by omega) (fun v8 h8 e8 => ?_)
          refine go_iload_n (i := 3) (pc' := 49) dX12_tray_48 rfl rfl rfl ?_
          refine gz_iadd (pc' := 50) dX12_tray_49 rfl (by omega) (fun v9 h9 e9 => ?_)
          refine go_iconst (v := 0) (pc' := 51) dX12_tray_50 rfl (by decide) ?_
          have ct := cnat (x := t) (by omega)
          have c3 := cnat (x := x3_6) (by omega)
          have ez : (v9).toNatClampNeg = (60 * (t).toNatClampNeg) + (x3_6).toNatClampNeg := by have cz := cnat (x := v9) (by omega); omega
          refine go_iast (pc' := 52) dX12_tray_51 rfl (by decide) (by decide) rfl (vin_of (n := 240) (by omega) (by omega)) ?_
          refine go_gen (P := fun s => WMy σ s ∧ s.2 134 = σ6.2 134 ∧ s.2 135 = upd (σ6.2 135) (v9).toNatClampNeg (0 : Int32)) ⟨⟨ixt_135 w6.1 (by omega) (by omega), Ag_setA w6.2 (by decide)⟩, ⟨setA_ne (a := 134) _ 135 _ _ (by decide), setA_same _ _ _ _⟩⟩ (fun σ10 z10 => ?_)
          obtain ⟨w10, g10⟩ := z10
          have gR := g10
          refine gz_iinc (c := 1) (pc' := 55) dX12_tray_52 rfl rfl (by decide) (by decide) (by decide) (by omega) (fun v11 h11 e11 => ?_)
          refine go_goto (tgt := 34) dX12_tray_55 (by decide) ?_
          exact go_lv (lv' := [(0, .ref (L.2.1 13)), (1, .int t), (2, .int n), (3, .int v11)]) rfl (ih6 _ (by omega) σ10 v11 w10 (by omega) (gR.1.trans hz_6) (fun q hq => by rw [gR.2, upd_ne (by omega)]; exact ho_6 q hq) (cp_step hr_6 (by rw [← ez]; exact gR.2) rfl (by omega) (by omega)) rfl)
      exact go_lv (lv' := [(0, .ref (L.2.1 13)), (1, .int t), (2, .int n), (3, .int (0 : Int32))]) rfl (loop34_6 _ σ5 (0 : Int32) w5 (by omega) hz.1 (fun q _ => by rw [hz.2]) (fun j hj => by exfalso; omega) rfl)
    refine go_bipush (v := (-14)) (pc' := 24) dX12_tray_22 rfl (by decide) ?_
    exact go_iret dX12_tray_24 rfl (Or.inr (Or.inl ⟨by omega, by omega, rfl, rfl⟩))
  refine go_bipush (v := (-2)) (pc' := 16) dX12_tray_14 rfl (by decide) ?_
  exact go_iret dX12_tray_16 rfl (Or.inl ⟨by omega, rfl, rfl⟩)
set_option maxHeartbeats 4000000 in
set_option maxRecDepth 100000 in
theorem f_X12_lay (l : Launch) (L : WL) (σ : ST) (t f n : Int32) (ix : IV σ) : CtI l L yX12_lay cX12_lay 7 (some .int) rm_X12_lay [.ref (L.2.1 13), .int t, .int f, .int n] σ (fun r σ2 => tM_lay σ t f n r σ2) := by
  refine ctI_go (own := RX12) (by decide) rfl (Nat.le_of_ble_eq_true rfl) (fun F hF => ?_)
  subst hF
  have nm12 : (-12 : Int32).toInt = -12 := by decide
  have nm11 : (-11 : Int32).toInt = -11 := by decide
  have nm4 : (-4 : Int32).toInt = -4 := by decide
  have nm2 : (-2 : Int32).toInt = -2 := by decide
  have n0 : (0 : Int32).toInt = 0 := by decide
  have n1 : (1 : Int32).toInt = 1 := by decide
  have n4 : (4 : Int32).toInt = 4 := by decide
  have n60 : (60 : Int32).toInt = 60 := by decide
  have n160 : (160 : Int32).toInt = 160 := by decide
  have w0 : WMf σ σ := WMf_rfl ix
  have lf := Int32.le_toInt f
  have rf := Int32.toInt_lt f
  have u23 := ixi_23 ix
  have c230 := cnat (x := σ.1 23) (by omega)
  have z64 : (0 : Int64).toInt = 0 := by decide
  refine go_iload_n (i := 1) (pc' := 1) dX12_lay_0 rfl rfl rfl ?_
  refine go_iconst (v := 4) (pc' := 2) dX12_lay_1 rfl (by decide) ?_
  refine go_csi (pc' := 5) ls_X12_135 (c_X12_isIn _ _ _ _ _) rfl rfl (Nat.le_of_ble_eq_true rfl) ⟨Nat.le_of_ble_eq_true rfl, Nat.le_of_ble_eq_true rfl⟩ ⟨rfl, rfl⟩ dX12_lay_2 rfl (fun r1 σ1 h1 => ?_)
  obtain ⟨e1, h1⟩ := h1
  have e1 := e1.symm
  subst e1
  refine go_eqB (tgt := 12) (pc' := 8) h1 dX12_lay_5 rfl (by decide) (fun c2 => ?_) (fun c2 => ?_)
  · refine go_bipush (v := (-2)) (pc' := 14) dX12_lay_12 rfl (by decide) ?_
    exact go_iret dX12_lay_14 rfl (Or.inl ⟨by omega, rfl, rfl⟩)
  refine go_iload_n (i := 3) (pc' := 9) dX12_lay_8 rfl rfl rfl ?_
  refine gz_if_ge (tgt := 15) (pc' := 12) dX12_lay_9 rfl (by decide) (fun c3 => ?_) (fun c3 => ?_)
  · refine go_aload_n (i := 0) (pc' := 16) dX12_lay_15 rfl rfl rfl ?_
    refine gf_13_traySize (pc' := 19) dX12_lay_16 rfl fl_X12_129 ?_
    refine go_iload_n (i := 1) (pc' := 20) dX12_lay_19 rfl rfl rfl ?_
    refine go_iald (pc' := 21) dX12_lay_20 rfl (by decide) (by decide) rfl (vin_of (n := 4) (by omega) (by omega)) ?_
    refine go_rngA (ixa_134 w0.1) (vinlt (vin_of (n := 4) (by omega) (by omega))) (fun g4 => ?_)
    refine gz_if_ge (tgt := 27) (pc' := 24) dX12_lay_21 rfl (by decide) (fun c5 => ?_) (fun c5 => ?_)
    · refine go_iconst (v := 0) (pc' := 28) dX12_lay_27 rfl (by decide) ?_
      refine go_istore (pc' := 30) dX12_lay_28 rfl (by decide) ?_
      have loop30_6 : ∀ (dd6 : Nat) (σ6 : ST) (x4_6 : Int32), WMf σ σ6 → (0 ≤ (x4_6).toInt ∧ (x4_6).toInt ≤ 60) → ((x4_6).toInt = 0 ∨ (0 ≤ f.toInt ∧ f.toInt + (x4_6).toInt ≤ 60)) → ((σ6.1 23).toInt = (σ.1 23).toInt + (x4_6).toInt) → (layR (σ.2 134 (t).toNatClampNeg).toInt f.toInt n.toInt 100 0 (σ.1 23).toInt = layR (σ.2 134 (t).toNatClampNeg).toInt f.toInt n.toInt (100 - (x4_6).toInt.toNat) (x4_6).toInt (σ6.1 23).toInt) → (∀ j : Nat, (j : Int) < (σ.1 23).toInt → σ6.2 119 j = σ.2 119 j) → (∀ j : Nat, (j : Int) < (x4_6).toInt → (0 ≤ f.toInt ∧ f.toInt + j < 60) ∧ σ6.2 119 ((σ.1 23).toNatClampNeg + j) = σ.2 135 ((60 * (t).toNatClampNeg) + ((f).toNatClampNeg + j))) → (61 - (x4_6).toInt).toNat = dd6 → Go F L RX12 cX12_lay 7 rm_X12_lay (some .int) (RI F L (fun r σ2 => tM_lay σ t f n r σ2)) σ6 30 [(0, .ref (L.2.1 13)), (1, .int t), (2, .int f), (3, .int n), (4, .int x4_6)] [] := by
        intro dd6
        induction dd6 using Nat.strongRecOn with
        | _ dd6 ih6 =>
          intro σ6 x4_6 w6 h_6 hf_6 hs_6 hl_6 hk_6 hb_6 hm_6
          refine go_iload (pc' := 32) dX12_lay_30 rfl rfl ?_
          refine go_iload_n (i := 3) (pc' := 33) dX12_lay_32 rfl rfl rfl ?_
          refine gz_icmp_ge (tgt := 118) (pc' := 36) dX12_lay_33 rfl (by decide) (fun c7 => ?_) (fun c7 => ?_)
          · refine go_aload_n (i := 0) (pc' := 119) dX12_lay_118 rfl rfl rfl ?_
            refine gf_13_size (pc' := 122) dX12_lay_119 rfl fl_X12_215 ?_
            have g8 := ixi_23 w6.1
            exact go_iret dX12_lay_122 rfl (Or.inr (Or.inr ⟨by omega, by omega, w6, (hl_6.trans (layR_end (by omega) (by omega))).symm, hk_6, by omega, fun j hj => hb_6 j (by omega)⟩))
          have tz : σ6.2 134 = σ.2 134 := w6.2.2 134 (by decide)
          have c4 := cnat (x := x4_6) (by omega)
          have cp := cnat (x := σ6.1 23) (by omega)
          have la := lg_add f x4_6
          have tzi : (σ6.2 134 (t).toNatClampNeg).toInt = (σ.2 134 (t).toNatClampNeg).toInt := by rw [tz]
          refine go_iload_n (i := 2) (pc' := 37) dX12_lay_36 rfl rfl rfl ?_
          refine go_i2l (pc' := 38) dX12_lay_37 rfl ?_
          refine go_iload (pc' := 40) dX12_lay_38 rfl rfl ?_
          refine go_i2l (pc' := 41) dX12_lay_40 rfl ?_
          refine go_ladd (pc' := 42) dX12_lay_41 rfl ?_
          refine go_lstore (pc' := 44) dX12_lay_42 rfl (by decide) ?_
          refine go_lload (pc' := 46) dX12_lay_44 rfl rfl ?_
          refine go_lconst (v := 0) (pc' := 47) dX12_lay_46 rfl (by decide) ?_
          refine go_lcmp (pc' := 48) dX12_lay_47 rfl ?_
          have q48 := lg_c ((f).toInt64 + (x4_6).toInt64) (0 : Int64)
          refine gz_if_lt (tgt := 64) (pc' := 51) dX12_lay_48 rfl (by decide) (fun c9 => ?_) (fun c9 => ?_)
          · refine go_bipush (v := (-12)) (pc' := 66) dX12_lay_64 rfl (by decide) ?_
            exact go_iret dX12_lay_66 rfl (Or.inr (Or.inr ⟨by omega, by omega, w6, by rw [nm12]; exact (hl_6.trans (layR_out (by omega) (by omega) (by omega))).symm, hk_6, by omega, fun j hj => hb_6 j (by omega)⟩))
          refine go_lload (pc' := 53) dX12_lay_51 rfl rfl ?_
          refine go_aload_n (i := 0) (pc' := 54) dX12_lay_53 rfl rfl rfl ?_
          refine gf_13_traySize (pc' := 57) dX12_lay_54 rfl fl_X12_129 ?_
          refine go_iload_n (i := 1) (pc' := 58) dX12_lay_57 rfl rfl rfl ?_
          refine go_iald (pc' := 59) dX12_lay_58 rfl (by decide) (by decide) rfl (vin_of (n := 4) (by omega) (by omega)) ?_
          refine go_rngA (ixa_134 w6.1) (vinlt (vin_of (n := 4) (by omega) (by omega))) (fun g10 => ?_)
          refine go_i2l (pc' := 60) dX12_lay_59 rfl ?_
          refine go_lcmp (pc' := 61) dX12_lay_60 rfl ?_
          have t61 : (((σ6.2 134 (t).toNatClampNeg)).toInt64).toInt = (σ6.2 134 (t).toNatClampNeg).toInt := Int32.toInt_toInt64 _
          have q61 := lg_c ((f).toInt64 + (x4_6).toInt64) ((σ6.2 134 (t).toNatClampNeg)).toInt64
          refine gz_if_lt (tgt := 67) (pc' := 64) dX12_lay_61 rfl (by decide) (fun c11 => ?_) (fun c11 => ?_)
          · refine go_aload_n (i := 0) (pc' := 68) dX12_lay_67 rfl rfl rfl ?_
            refine gf_13_size (pc' := 71) dX12_lay_68 rfl fl_X12_215 ?_
            have g12 := ixi_23 w6.1
            refine go_sipush (v := 160) (pc' := 74) dX12_lay_71 rfl (by decide) ?_
            refine gz_icmp_ne (tgt := 80) (pc' := 77) dX12_lay_74 rfl (by decide) (fun c13 => ?_) (fun c13 => ?_)
            · refine go_aload_n (i := 0) (pc' := 81) dX12_lay_80 rfl rfl rfl ?_
              refine gf_13_tape (pc' := 84) dX12_lay_81 rfl fl_X12_80 ?_
              refine go_aload_n (i := 0) (pc' := 85) dX12_lay_84 rfl rfl rfl ?_
              refine gf_13_size (pc' := 88) dX12_lay_85 rfl fl_X12_215 ?_
              have g14 := ixi_23 w6.1
              refine go_aload_n (i := 0) (pc' := 89) dX12_lay_88 rfl rfl rfl ?_
              refine gf_13_trays (pc' := 92) dX12_lay_89 rfl fl_X12_132 ?_
              refine go_bipush (v := 60) (pc' := 94) dX12_lay_92 rfl (by decide) ?_
              refine go_iload_n (i := 1) (pc' := 95) dX12_lay_94 rfl rfl rfl ?_
              refine gz_imulc (n := 60) (pc' := 96) dX12_lay_95 rfl (by decide) (by omega) (fun v15 h15 e15 => ?_)
              refine go_lload (pc' := 98) dX12_lay_96 rfl rfl ?_
              refine go_l2i (pc' := 99) dX12_lay_98 rfl ?_
              have l32 := lg_32 (x := ((f).toInt64 + (x4_6).toInt64)) (by omega) (by omega)
              refine gz_iadd (pc' := 100) dX12_lay_99 rfl (by omega) (fun v16 h16 e16 => ?_)
              have ct := cnat (x := t) (by omega)
              have cf := cnat (x := f) (by omega)
              have ez : (v16).toNatClampNeg = (60 * (t).toNatClampNeg) + ((f).toNatClampNeg + (x4_6).toNatClampNeg) := by have cz := cnat (x := v16) (by omega); omega
              have e135 : σ6.2 135 = σ.2 135 := w6.2.2 135 (by decide)
              refine go_iald (pc' := 101) dX12_lay_100 rfl (by decide) (by decide) rfl (vin_of (n := 240) (by omega) (by omega)) ?_
              refine go_rngA (ixa_135 w6.1) (vinlt (vin_of (n := 240) (by omega) (by omega))) (fun g17 => ?_)
              refine go_iast (pc' := 102) dX12_lay_101 rfl (by decide) (by decide) rfl (vin_of (n := 160) (by omega) (by omega)) ?_
              refine go_gen (P := fun s => WMf σ s ∧ s.1 23 = σ6.1 23 ∧ s.2 119 = upd (σ6.2 119) ((σ6.1 23)).toNatClampNeg (σ6.2 135 (v16).toNatClampNeg)) ⟨⟨ixt_119 w6.1 (by omega) (by omega), Ag_setA w6.2 (by decide)⟩, ⟨rfl, setA_same _ _ _ _⟩⟩ (fun σ18 z18 => ?_)
              obtain ⟨w18, g18⟩ := z18
              have a119 := g18.2
              have q18 := congrArg Int32.toInt g18.1
              refine go_aload_n (i := 0) (pc' := 103) dX12_lay_102 rfl rfl rfl ?_
              refine go_dup (pc' := 104) dX12_lay_103 rfl rfl ?_
              refine gf_13_size (pc' := 107) dX12_lay_104 rfl fl_X12_215 ?_
              have g19 := ixi_23 w18.1
              refine go_iconst (v := 1) (pc' := 108) dX12_lay_107 rfl (by decide) ?_
              refine gz_iadd (pc' := 109) dX12_lay_108 rfl (by omega) (fun v20 h20 e20 => ?_)
              refine pf_13_size (pc' := 112) dX12_lay_109 rfl fl_X12_215 ?_
              refine go_gen (P := fun s => WMf σ s ∧ s.1 23 = v20 ∧ s.2 119 = σ18.2 119) ⟨⟨ixs_23 w18.1 (by omega) (by omega), Ag_setI w18.2 (by decide)⟩, ⟨setI_same _ _ _, rfl⟩⟩ (fun σ21 z21 => ?_)
              obtain ⟨w21, g21⟩ := z21
              have e119 := g21.2.trans a119
              have q21 := congrArg Int32.toInt g21.1
              refine gz_iinc (c := 1) (pc' := 115) dX12_lay_112 rfl rfl (by decide) (by decide) (by decide) (by omega) (fun v22 h22 e22 => ?_)
              refine go_goto (tgt := 30) dX12_lay_115 (by decide) ?_
              exact go_lv (lv' := [(0, .ref (L.2.1 13)), (1, .int t), (2, .int f), (3, .int n), (4, .int v22)]) rfl (ih6 _ (by omega) σ21 v22 w21 (by omega) (by omega) (by omega) (hl_6.trans (layR_step (by omega) (by omega) (by omega) (by omega) (by omega) (by omega))) (fun j hj => by rw [e119, upd_ne (by omega)]; exact hk_6 j hj) (all_step (P := fun j => (0 ≤ f.toInt ∧ f.toInt + j < 60) ∧ σ21.2 119 ((σ.1 23).toNatClampNeg + j) = σ.2 135 ((60 * (t).toNatClampNeg) + ((f).toNatClampNeg + j))) (fun j hj => ⟨(hb_6 j hj).1, by rw [e119, upd_ne (by omega)]; exact (hb_6 j hj).2⟩) (by omega) (by omega) ⟨by omega, by rw [e119, show (σ.1 23).toNatClampNeg + (x4_6).toNatClampNeg = (σ6.1 23).toNatClampNeg from by omega, upd_eq, e135, ez]⟩) rfl)
            refine go_bipush (v := (-4)) (pc' := 79) dX12_lay_77 rfl (by decide) ?_
            exact go_iret dX12_lay_79 rfl (Or.inr (Or.inr ⟨by omega, by omega, w6, by rw [nm4]; exact (hl_6.trans (layR_full (by omega) (by omega) (by omega) (by omega))).symm, hk_6, by omega, fun j hj => hb_6 j (by omega)⟩))
          refine go_bipush (v := (-12)) (pc' := 66) dX12_lay_64 rfl (by decide) ?_
          exact go_iret dX12_lay_66 rfl (Or.inr (Or.inr ⟨by omega, by omega, w6, by rw [nm12]; exact (hl_6.trans (layR_out (by omega) (by omega) (by omega))).symm, hk_6, by omega, fun j hj => hb_6 j (by omega)⟩))
      exact go_lv (lv' := [(0, .ref (L.2.1 13)), (1, .int t), (2, .int f), (3, .int n), (4, .int (0 : Int32))]) rfl (loop30_6 _ σ (0 : Int32) w0 (by omega) (by omega) (by omega) (by rw [n0]; rfl) (fun j hj => rfl) (fun j hj => by exfalso; omega) rfl)
    refine go_bipush (v := (-11)) (pc' := 26) dX12_lay_24 rfl (by decide) ?_
    exact go_iret dX12_lay_26 rfl (Or.inr (Or.inl ⟨by omega, by omega, rfl, rfl⟩))
  refine go_bipush (v := (-2)) (pc' := 14) dX12_lay_12 rfl (by decide) ?_
  exact go_iret dX12_lay_14 rfl (Or.inl ⟨by omega, rfl, rfl⟩)
set_option maxHeartbeats 4000000 in
set_option maxRecDepth 100000 in
theorem f_X12_text (l : Launch) (L : WL) (σ : ST) (a : Int32) (ix : IV σ) (tv : TV σ) : CtI l L yX12_text cX12_text 4 (some .int) rm_X12_text [.ref (L.2.1 13), .int a] σ (fun r σ2 => tM_text σ a r σ2) := by
  refine ctI_go (own := RX12) (by decide) rfl (Nat.le_of_ble_eq_true rfl) (fun F hF => ?_)
  subst hF
  have nm20 : (-20 : Int32).toInt = -20 := by decide
  have nm2 : (-2 : Int32).toInt = -2 := by decide
  have n0 : (0 : Int32).toInt = 0 := by decide
  have n1 : (1 : Int32).toInt = 1 := by decide
  have n2 : (2 : Int32).toInt = 2 := by decide
  have n110 : (110 : Int32).toInt = 110 := by decide
  have n123 : (123 : Int32).toInt = 123 := by decide
  have n160 : (160 : Int32).toInt = 160 := by decide
  have w0 : WMt σ σ := WMt_rfl ix
  have u19 := ixi_19 ix
  have u20 := ixi_20 ix
  have u21 := ixi_21 ix
  have u22 := ixi_22 ix
  have u23 := ixi_23 ix
  have c230 := cnat (x := σ.1 23) (by omega)
  have kk := KP_rfl σ
  have z0 : (0 : Int32).toNatClampNeg = 0 := by decide
  refine go_aload_n (i := 0) (pc' := 1) dX12_text_0 rfl rfl rfl ?_
  refine go_iload_n (i := 1) (pc' := 2) dX12_text_1 rfl rfl rfl ?_
  refine go_cvi (pc' := 5) lk_X12_152 (c_X12_isLetter _ _ _ _) rfl rfl (Nat.le_of_ble_eq_true rfl) (by decide) rfl rfl rfl ⟨Nat.le_of_ble_eq_true rfl, Nat.le_of_ble_eq_true rfl⟩ ⟨rfl, rfl⟩ dX12_text_2 rfl (fun r1 σ1 h1 => ?_)
  obtain ⟨e1, h1⟩ := h1
  have e1 := e1.symm
  subst e1
  refine go_neB (tgt := 11) (pc' := 8) h1 dX12_text_5 rfl (by decide) (fun c2 => ?_) (fun c2 => ?_)
  · refine go_aload_n (i := 0) (pc' := 12) dX12_text_11 rfl rfl rfl ?_
    refine go_iconst (v := 0) (pc' := 13) dX12_text_12 rfl (by decide) ?_
    refine pf_13_faultKind (pc' := 16) dX12_text_13 rfl fl_X12_236 ?_
    refine go_gen (P := fun s => WMt σ s ∧ KP σ s ∧ s.1 26 = (0 : Int32)) ⟨⟨ixs_n w0.1 (by decide), Ag_setI w0.2 (by decide)⟩, ⟨⟨rfl, rfl, rfl, rfl⟩, setI_same _ _ _⟩⟩ (fun σ3 z3 => ?_)
    obtain ⟨w3, g3⟩ := z3
    have kk := KP_trans kk g3.1
    have f26 := congrArg Int32.toInt g3.2
    refine go_aload_n (i := 0) (pc' := 17) dX12_text_16 rfl rfl rfl ?_
    refine go_aload_n (i := 0) (pc' := 18) dX12_text_17 rfl rfl rfl ?_
    refine go_cvi (pc' := 21) lk_X12_239 (c_X12_wrongAt _ _ _ w3.1) rfl rfl (Nat.le_of_ble_eq_true rfl) (by decide) rfl rfl rfl ⟨Nat.le_of_ble_eq_true rfl, Nat.le_of_ble_eq_true rfl⟩ ⟨rfl, rfl⟩ dX12_text_18 rfl (fun r4 σ4 h4 => ?_)
    obtain ⟨u4, h4⟩ := h4
    have w4 := WMt_trans w3 (WMt_of u4)
    have kz := h4
    rw [(KP_q kk).1, (KP_q kk).2] at kz
    have ff := congrArg Int32.toInt (u4.2.1 26 (by decide))
    have kk := KP_trans kk (KP_of u4)
    refine pf_13_faultAt (pc' := 24) dX12_text_21 rfl fl_X12_92 ?_
    refine go_gen (P := fun s => WMt σ s ∧ KP σ4 s ∧ s.1 26 = σ4.1 26 ∧ s.1 27 = r4) ⟨⟨ixs_n w4.1 (by decide), Ag_setI w4.2 (by decide)⟩, ⟨⟨rfl, rfl, rfl, rfl⟩, rfl, setI_same _ _ _⟩⟩ (fun σ5 z5 => ?_)
    obtain ⟨w5, g5⟩ := z5
    have kk := KP_trans kk g5.1
    have f26b := congrArg Int32.toInt g5.2.1
    have f27 := congrArg Int32.toInt g5.2.2
    refine go_aload_n (i := 0) (pc' := 25) dX12_text_24 rfl rfl rfl ?_
    refine gf_13_faultAt (pc' := 28) dX12_text_25 rfl fl_X12_92 ?_
    refine gz_if_lt (tgt := 36) (pc' := 31) dX12_text_28 rfl (by decide) (fun c6 => ?_) (fun c6 => ?_)
    · refine go_iconst (v := 0) (pc' := 37) dX12_text_36 rfl (by decide) ?_
      refine go_istore_n (i := 2) (pc' := 38) dX12_text_37 rfl rfl (by decide) ?_
      have loop38_7 : ∀ (dd7 : Nat) (σ7 : ST) (x2_7 : Int32), WMt σ σ7 → (0 ≤ (x2_7).toInt ∧ (x2_7).toInt ≤ (σ.1 23).toInt) → (KP σ σ7) → (FLS (tpT σ) (σ.1 23).toNatClampNeg (σ.1 20).toInt (x2_7).toNatClampNeg (σ7.1 26).toInt (σ7.1 27).toInt) → (160 - (x2_7).toInt).toNat = dd7 → Go F L RX12 cX12_text 4 rm_X12_text (some .int) (RI F L (fun r σ2 => tM_text σ a r σ2)) σ7 38 [(0, .ref (L.2.1 13)), (1, .int a), (2, .int x2_7)] [] := by
        intro dd7
        induction dd7 using Nat.strongRecOn with
        | _ dd7 ih7 =>
          intro σ7 x2_7 w7 h_7 hk_7 hf_7 hm_7
          refine go_iload_n (i := 2) (pc' := 39) dX12_text_38 rfl rfl rfl ?_
          refine go_iconst (v := 1) (pc' := 40) dX12_text_39 rfl (by decide) ?_
          refine gz_iadd (pc' := 41) dX12_text_40 rfl (by omega) (fun v8 h8 e8 => ?_)
          have kk := hk_7
          have c2 := cnat (x := x2_7) (by omega)
          have s23 := congrArg Int32.toInt kk.1
          refine go_aload_n (i := 0) (pc' := 42) dX12_text_41 rfl rfl rfl ?_
          refine gf_13_size (pc' := 45) dX12_text_42 rfl fl_X12_215 ?_
          have g9 := ixi_23 w7.1
          refine gz_icmp_ge (tgt := 115) (pc' := 48) dX12_text_45 rfl (by decide) (fun c10 => ?_) (fun c10 => ?_)
          · have kk := hk_7
            have c2 := cnat (x := x2_7) (by omega)
            have s23 := congrArg Int32.toInt kk.1
            have fl : FLT (tpT σ) (σ.1 23).toNatClampNeg (σ.1 20).toInt (σ7.1 26).toInt (σ7.1 27).toInt := FLS_end hf_7 (by omega) (by omega)
            have fr := FLT_rng fl
            refine go_aload_n (i := 0) (pc' := 116) dX12_text_115 rfl rfl rfl ?_
            refine gf_13_size (pc' := 119) dX12_text_116 rfl fl_X12_215 ?_
            have g11 := ixi_23 w7.1
            refine go_topz (fun y12 h12 e12 => ?_)
            refine go_istore_n (i := 2) (pc' := 120) dX12_text_119 rfl rfl (by decide) ?_
            have yn : y12 = σ.1 23 := Eq.trans (by assumption) kk.1
            have yi := congrArg Int32.toInt yn
            refine go_aload_n (i := 0) (pc' := 121) dX12_text_120 rfl rfl rfl ?_
            refine go_iconst (v := 0) (pc' := 122) dX12_text_121 rfl (by decide) ?_
            refine pf_13_size (pc' := 125) dX12_text_122 rfl fl_X12_215 ?_
            refine go_gen (P := fun s => WMt σ s ∧ s.1 23 = (0 : Int32) ∧ s.1 26 = σ7.1 26 ∧ s.1 27 = σ7.1 27 ∧ s.2 119 = σ7.2 119 ∧ s.2 109 = σ7.2 109 ∧ s.2 110 = σ7.2 110) ⟨⟨ixs_23 w7.1 (by omega) (by omega), Ag_setI w7.2 (by decide)⟩, ⟨setI_same _ _ _, rfl, rfl, rfl, rfl, rfl⟩⟩ (fun σ13 z13 => ?_)
            obtain ⟨w13, g13⟩ := z13
            have gz := g13
            have f26 := congrArg Int32.toInt gz.2.1
            refine go_aload_n (i := 0) (pc' := 126) dX12_text_125 rfl rfl rfl ?_
            refine gf_13_faultKind (pc' := 129) dX12_text_126 rfl fl_X12_236 ?_
            refine gz_if_le (tgt := 140) (pc' := 132) dX12_text_129 rfl (by decide) (fun c14 => ?_) (fun c14 => ?_)
            · refine go_aload_n (i := 0) (pc' := 141) dX12_text_140 rfl rfl rfl ?_
              refine gf_13_length (pc' := 144) dX12_text_141 rfl fl_X12_50 ?_
              refine go_iload_n (i := 1) (pc' := 145) dX12_text_144 rfl rfl rfl ?_
              refine go_iload_n (i := 2) (pc' := 146) dX12_text_145 rfl rfl rfl ?_
              refine go_iast (pc' := 147) dX12_text_146 rfl (by decide) (by decide) rfl (vin_of (n := 12) (by omega) (by omega)) ?_
              refine go_gen (P := fun s => WMt σ s ∧ s.1 23 = σ13.1 23 ∧ s.1 26 = σ13.1 26 ∧ s.1 27 = σ13.1 27 ∧ s.2 119 = σ13.2 119 ∧ s.2 109 = upd (σ13.2 109) (a).toNatClampNeg y12 ∧ s.2 110 = σ13.2 110) ⟨⟨ixt_109 w13.1 (by omega) (by omega), Ag_setA w13.2 (by decide)⟩, ⟨rfl, rfl, rfl, setA_ne (a := 119) _ 109 _ _ (by decide), setA_same _ _ _ _, setA_ne (a := 110) _ 109 _ _ (by decide)⟩⟩ (fun σ15 z15 => ?_)
              obtain ⟨w15, g15⟩ := z15
              have gl := g15
              refine go_iconst (v := 0) (pc' := 148) dX12_text_147 rfl (by decide) ?_
              refine go_istore_n (i := 3) (pc' := 149) dX12_text_148 rfl rfl (by decide) ?_
              have loop149_16 : ∀ (dd16 : Nat) (σ16 : ST) (x3_16 : Int32), WMt σ σ16 → (0 ≤ (x3_16).toInt ∧ (x3_16).toInt ≤ (y12).toInt) → (σ16.1 23 = 0) → (σ16.1 26 = σ7.1 26 ∧ σ16.1 27 = σ7.1 27) → (σ16.2 119 = σ.2 119) → (σ16.2 109 = upd (σ.2 109) (a).toNatClampNeg (σ.1 23)) → (∀ j : Nat, (j : Int) < (x3_16).toInt → σ16.2 110 (160 * (a).toNatClampNeg + j) = σ.2 119 j) → (∀ q : Nat, q < 160 * (a).toNatClampNeg ∨ 160 * (a).toNatClampNeg + 160 ≤ q → σ16.2 110 q = σ.2 110 q) → (160 - (x3_16).toInt).toNat = dd16 → Go F L RX12 cX12_text 4 rm_X12_text (some .int) (RI F L (fun r σ2 => tM_text σ a r σ2)) σ16 149 [(0, .ref (L.2.1 13)), (1, .int a), (2, .int y12), (3, .int x3_16)] [] := by
                intro dd16
                induction dd16 using Nat.strongRecOn with
                | _ dd16 ih16 =>
                  intro σ16 x3_16 w16 h_16 hz_16 hp_16 ht_16 hl_16 hc_16 ho_16 hm_16
                  refine go_iload_n (i := 3) (pc' := 150) dX12_text_149 rfl rfl rfl ?_
                  refine go_iload_n (i := 2) (pc' := 151) dX12_text_150 rfl rfl rfl ?_
                  refine gz_icmp_ge (tgt := 178) (pc' := 154) dX12_text_151 rfl (by decide) (fun c17 => ?_) (fun c17 => ?_)
                  · refine go_iload_n (i := 2) (pc' := 179) dX12_text_178 rfl rfl rfl ?_
                    exact go_iret dX12_text_179 rfl (Or.inr ⟨by omega, w16, TV_new tv (by omega) (by omega) (FLT_0 fl (by omega)) hl_16 (fun j hj => hc_16 j (by omega)) ho_16 (fun l hl => ixa_109 ix l hl), hz_16, by rw [hp_16.1, hp_16.2]; exact fl, Or.inl ⟨by rw [hp_16.1]; omega, yn, hl_16, fun j hj => hc_16 j (by omega), ho_16⟩⟩)
                  refine go_aload_n (i := 0) (pc' := 155) dX12_text_154 rfl rfl rfl ?_
                  refine gf_13_texts (pc' := 158) dX12_text_155 rfl fl_X12_53 ?_
                  refine go_sipush (v := 160) (pc' := 161) dX12_text_158 rfl (by decide) ?_
                  refine go_iload_n (i := 1) (pc' := 162) dX12_text_161 rfl rfl rfl ?_
                  refine gz_imulc (n := 160) (pc' := 163) dX12_text_162 rfl (by decide) (by omega) (fun v18 h18 e18 => ?_)
                  refine go_iload_n (i := 3) (pc' := 164) dX12_text_163 rfl rfl rfl ?_
                  refine gz_iadd (pc' := 165) dX12_text_164 rfl (by omega) (fun v19 h19 e19 => ?_)
                  have ck3 := cnat (x := x3_16) (by omega)
                  have ca := cnat (x := a) (by omega)
                  have ez : (v19).toNatClampNeg = 160 * (a).toNatClampNeg + (x3_16).toNatClampNeg := by have cz := cnat (x := v19) (by omega); omega
                  refine go_aload_n (i := 0) (pc' := 166) dX12_text_165 rfl rfl rfl ?_
                  refine gf_13_tape (pc' := 169) dX12_text_166 rfl fl_X12_80 ?_
                  refine go_iload_n (i := 3) (pc' := 170) dX12_text_169 rfl rfl rfl ?_
                  refine go_iald (pc' := 171) dX12_text_170 rfl (by decide) (by decide) rfl (vin_of (n := 160) (by omega) (by omega)) ?_
                  refine go_rngA (ixa_119 w16.1) (vinlt (vin_of (n := 160) (by omega) (by omega))) (fun g20 => ?_)
                  refine go_iast (pc' := 172) dX12_text_171 rfl (by decide) (by decide) rfl (vin_of (n := 1920) (by omega) (by omega)) ?_
                  refine go_gen (P := fun s => WMt σ s ∧ s.1 23 = σ16.1 23 ∧ s.1 26 = σ16.1 26 ∧ s.1 27 = σ16.1 27 ∧ s.2 119 = σ16.2 119 ∧ s.2 109 = σ16.2 109 ∧ s.2 110 = upd (σ16.2 110) (v19).toNatClampNeg (σ16.2 119 (x3_16).toNatClampNeg)) ⟨⟨ixt_110 w16.1 (by omega) (by omega), Ag_setA w16.2 (by decide)⟩, ⟨rfl, rfl, rfl, setA_ne (a := 119) _ 110 _ _ (by decide), setA_ne (a := 109) _ 110 _ _ (by decide), setA_same _ _ _ _⟩⟩ (fun σ21 z21 => ?_)
                  obtain ⟨w21, g21⟩ := z21
                  have gc := g21
                  refine gz_iinc (c := 1) (pc' := 175) dX12_text_172 rfl rfl (by decide) (by decide) (by decide) (by omega) (fun v22 h22 e22 => ?_)
                  refine go_goto (tgt := 149) dX12_text_175 (by decide) ?_
                  exact go_lv (lv' := [(0, .ref (L.2.1 13)), (1, .int a), (2, .int y12), (3, .int v22)]) rfl (ih16 _ (by omega) σ21 v22 w21 (by omega) (gc.1.trans hz_16) ⟨gc.2.1.trans hp_16.1, gc.2.2.1.trans hp_16.2⟩ (gc.2.2.2.1.trans ht_16) (gc.2.2.2.2.1.trans hl_16) (cp_step hc_16 (by rw [← ez]; exact gc.2.2.2.2.2) (by rw [ht_16]) (by omega) (by omega)) (ot_step ho_16 gc.2.2.2.2.2 (by omega) (by omega)) rfl)
              exact go_lv (lv' := [(0, .ref (L.2.1 13)), (1, .int a), (2, .int y12), (3, .int (0 : Int32))]) rfl (loop149_16 _ σ15 (0 : Int32) w15 (by omega) (gl.1.trans gz.1) ⟨gl.2.1.trans gz.2.1, gl.2.2.1.trans gz.2.2.1⟩ (gl.2.2.2.1.trans (gz.2.2.2.1.trans kk.2.1)) (by rw [gl.2.2.2.2.1, gz.2.2.2.2.1, kk.2.2.1, yn]) (fun j hj => by exfalso; omega) (fun q _ => by rw [gl.2.2.2.2.2, gz.2.2.2.2.2, kk.2.2.2]) rfl)
            refine go_bipush (v := (-20)) (pc' := 134) dX12_text_132 rfl (by decide) ?_
            refine go_aload_n (i := 0) (pc' := 135) dX12_text_134 rfl rfl rfl ?_
            refine gf_13_faultKind (pc' := 138) dX12_text_135 rfl fl_X12_236 ?_
            refine gz_isub (pc' := 139) dX12_text_138 rfl (by omega) (fun v23 h23 e23 => ?_)
            exact go_iret dX12_text_139 rfl (Or.inr ⟨by omega, w13, TV_e (gz.2.2.2.2.1.trans kk.2.2.1) (gz.2.2.2.2.2.trans kk.2.2.2) tv, gz.1, by rw [gz.2.1, gz.2.2.1]; exact fl, Or.inr ⟨by omega, by omega, gz.2.2.2.2.1.trans kk.2.2.1, gz.2.2.2.2.2.trans kk.2.2.2⟩⟩)
          refine go_aload_n (i := 0) (pc' := 49) dX12_text_48 rfl rfl rfl ?_
          refine gf_13_faultKind (pc' := 52) dX12_text_49 rfl fl_X12_236 ?_
          refine gz_if_ne (tgt := 115) (pc' := 55) dX12_text_52 rfl (by decide) (fun c24 => ?_) (fun c24 => ?_)
          · have kk := hk_7
            have c2 := cnat (x := x2_7) (by omega)
            have s23 := congrArg Int32.toInt kk.1
            have fl : FLT (tpT σ) (σ.1 23).toNatClampNeg (σ.1 20).toInt (σ7.1 26).toInt (σ7.1 27).toInt := FLS_end hf_7 (by omega) (by omega)
            have fr := FLT_rng fl
            refine go_aload_n (i := 0) (pc' := 116) dX12_text_115 rfl rfl rfl ?_
            refine gf_13_size (pc' := 119) dX12_text_116 rfl fl_X12_215 ?_
            have g25 := ixi_23 w7.1
            refine go_topz (fun y26 h26 e26 => ?_)
            refine go_istore_n (i := 2) (pc' := 120) dX12_text_119 rfl rfl (by decide) ?_
            have yn : y26 = σ.1 23 := Eq.trans (by assumption) kk.1
            have yi := congrArg Int32.toInt yn
            refine go_aload_n (i := 0) (pc' := 121) dX12_text_120 rfl rfl rfl ?_
            refine go_iconst (v := 0) (pc' := 122) dX12_text_121 rfl (by decide) ?_
            refine pf_13_size (pc' := 125) dX12_text_122 rfl fl_X12_215 ?_
            refine go_gen (P := fun s => WMt σ s ∧ s.1 23 = (0 : Int32) ∧ s.1 26 = σ7.1 26 ∧ s.1 27 = σ7.1 27 ∧ s.2 119 = σ7.2 119 ∧ s.2 109 = σ7.2 109 ∧ s.2 110 = σ7.2 110) ⟨⟨ixs_23 w7.1 (by omega) (by omega), Ag_setI w7.2 (by decide)⟩, ⟨setI_same _ _ _, rfl, rfl, rfl, rfl, rfl⟩⟩ (fun σ27 z27 => ?_)
            obtain ⟨w27, g27⟩ := z27
            have gz := g27
            have f26 := congrArg Int32.toInt gz.2.1
            refine go_aload_n (i := 0) (pc' := 126) dX12_text_125 rfl rfl rfl ?_
            refine gf_13_faultKind (pc' := 129) dX12_text_126 rfl fl_X12_236 ?_
            refine gz_if_le (tgt := 140) (pc' := 132) dX12_text_129 rfl (by decide) (fun c28 => ?_) (fun c28 => ?_)
            · refine go_aload_n (i := 0) (pc' := 141) dX12_text_140 rfl rfl rfl ?_
              refine gf_13_length (pc' := 144) dX12_text_141 rfl fl_X12_50 ?_
              refine go_iload_n (i := 1) (pc' := 145) dX12_text_144 rfl rfl rfl ?_
              refine go_iload_n (i := 2) (pc' := 146) dX12_text_145 rfl rfl rfl ?_
              refine go_iast (pc' := 147) dX12_text_146 rfl (by decide) (by decide) rfl (vin_of (n := 12) (by omega) (by omega)) ?_
              refine go_gen (P := fun s => WMt σ s ∧ s.1 23 = σ27.1 23 ∧ s.1 26 = σ27.1 26 ∧ s.1 27 = σ27.1 27 ∧ s.2 119 = σ27.2 119 ∧ s.2 109 = upd (σ27.2 109) (a).toNatClampNeg y26 ∧ s.2 110 = σ27.2 110) ⟨⟨ixt_109 w27.1 (by omega) (by omega), Ag_setA w27.2 (by decide)⟩, ⟨rfl, rfl, rfl, setA_ne (a := 119) _ 109 _ _ (by decide), setA_same _ _ _ _, setA_ne (a := 110) _ 109 _ _ (by decide)⟩⟩ (fun σ29 z29 => ?_)
              obtain ⟨w29, g29⟩ := z29
              have gl := g29
              refine go_iconst (v := 0) (pc' := 148) dX12_text_147 rfl (by decide) ?_
              refine go_istore_n (i := 3) (pc' := 149) dX12_text_148 rfl rfl (by decide) ?_
              have loop149_30 : ∀ (dd30 : Nat) (σ30 : ST) (x3_30 : Int32), WMt σ σ30 → (0 ≤ (x3_30).toInt ∧ (x3_30).toInt ≤ (y26).toInt) → (σ30.1 23 = 0) → (σ30.1 26 = σ7.1 26 ∧ σ30.1 27 = σ7.1 27) → (σ30.2 119 = σ.2 119) → (σ30.2 109 = upd (σ.2 109) (a).toNatClampNeg (σ.1 23)) → (∀ j : Nat, (j : Int) < (x3_30).toInt → σ30.2 110 (160 * (a).toNatClampNeg + j) = σ.2 119 j) → (∀ q : Nat, q < 160 * (a).toNatClampNeg ∨ 160 * (a).toNatClampNeg + 160 ≤ q → σ30.2 110 q = σ.2 110 q) → (160 - (x3_30).toInt).toNat = dd30 → Go F L RX12 cX12_text 4 rm_X12_text (some .int) (RI F L (fun r σ2 => tM_text σ a r σ2)) σ30 149 [(0, .ref (L.2.1 13)), (1, .int a), (2, .int y26), (3, .int x3_30)] [] := by
                intro dd30
                induction dd30 using Nat.strongRecOn with
                | _ dd30 ih30 =>
                  intro σ30 x3_30 w30 h_30 hz_30 hp_30 ht_30 hl_30 hc_30 ho_30 hm_30
                  refine go_iload_n (i := 3) (pc' := 150) dX12_text_149 rfl rfl rfl ?_
                  refine go_iload_n (i := 2) (pc' := 151) dX12_text_150 rfl rfl rfl ?_
                  refine gz_icmp_ge (tgt := 178) (pc' := 154) dX12_text_151 rfl (by decide) (fun c31 => ?_) (fun c31 => ?_)
                  · refine go_iload_n (i := 2) (pc' := 179) dX12_text_178 rfl rfl rfl ?_
                    exact go_iret dX12_text_179 rfl (Or.inr ⟨by omega, w30, TV_new tv (by omega) (by omega) (FLT_0 fl (by omega)) hl_30 (fun j hj => hc_30 j (by omega)) ho_30 (fun l hl => ixa_109 ix l hl), hz_30, by rw [hp_30.1, hp_30.2]; exact fl, Or.inl ⟨by rw [hp_30.1]; omega, yn, hl_30, fun j hj => hc_30 j (by omega), ho_30⟩⟩)
                  refine go_aload_n (i := 0) (pc' := 155) dX12_text_154 rfl rfl rfl ?_
                  refine gf_13_texts (pc' := 158) dX12_text_155 rfl fl_X12_53 ?_
                  refine go_sipush (v := 160) (pc' := 161) dX12_text_158 rfl (by decide) ?_
                  refine go_iload_n (i := 1) (pc' := 162) dX12_text_161 rfl rfl rfl ?_
                  refine gz_imulc (n := 160) (pc' := 163) dX12_text_162 rfl (by decide) (by omega) (fun v32 h32 e32 => ?_)
                  refine go_iload_n (i := 3) (pc' := 164) dX12_text_163 rfl rfl rfl ?_
                  refine gz_iadd (pc' := 165) dX12_text_164 rfl (by omega) (fun v33 h33 e33 => ?_)
                  have ck3 := cnat (x := x3_30) (by omega)
                  have ca := cnat (x := a) (by omega)
                  have ez : (v33).toNatClampNeg = 160 * (a).toNatClampNeg + (x3_30).toNatClampNeg := by have cz := cnat (x := v33) (by omega); omega
                  refine go_aload_n (i := 0) (pc' := 166) dX12_text_165 rfl rfl rfl ?_
                  refine gf_13_tape (pc' := 169) dX12_text_166 rfl fl_X12_80 ?_
                  refine go_iload_n (i := 3) (pc' := 170) dX12_text_169 rfl rfl rfl ?_
                  refine go_iald (pc' := 171) dX12_text_170 rfl (by decide) (by decide) rfl (vin_of (n := 160) (by omega) (by omega)) ?_
                  refine go_rngA (ixa_119 w30.1) (vinlt (vin_of (n := 160) (by omega) (by omega))) (fun g34 => ?_)
                  refine go_iast (pc' := 172) dX12_text_171 rfl (by decide) (by decide) rfl (vin_of (n := 1920) (by omega) (by omega)) ?_
                  refine go_gen (P := fun s => WMt σ s ∧ s.1 23 = σ30.1 23 ∧ s.1 26 = σ30.1 26 ∧ s.1 27 = σ30.1 27 ∧ s.2 119 = σ30.2 119 ∧ s.2 109 = σ30.2 109 ∧ s.2 110 = upd (σ30.2 110) (v33).toNatClampNeg (σ30.2 119 (x3_30).toNatClampNeg)) ⟨⟨ixt_110 w30.1 (by omega) (by omega), Ag_setA w30.2 (by decide)⟩, ⟨rfl, rfl, rfl, setA_ne (a := 119) _ 110 _ _ (by decide), setA_ne (a := 109) _ 110 _ _ (by decide), setA_same _ _ _ _⟩⟩ (fun σ35 z35 => ?_)
                  obtain ⟨w35, g35⟩ := z35
                  have gc := g35
                  refine gz_iinc (c := 1) (pc' := 175) dX12_text_172 rfl rfl (by decide) (by decide) (by decide) (by omega) (fun v36 h36 e36 => ?_)
                  refine go_goto (tgt := 149) dX12_text_175 (by decide) ?_
                  exact go_lv (lv' := [(0, .ref (L.2.1 13)), (1, .int a), (2, .int y26), (3, .int v36)]) rfl (ih30 _ (by omega) σ35 v36 w35 (by omega) (gc.1.trans hz_30) ⟨gc.2.1.trans hp_30.1, gc.2.2.1.trans hp_30.2⟩ (gc.2.2.2.1.trans ht_30) (gc.2.2.2.2.1.trans hl_30) (cp_step hc_30 (by rw [← ez]; exact gc.2.2.2.2.2) (by rw [ht_30]) (by omega) (by omega)) (ot_step ho_30 gc.2.2.2.2.2 (by omega) (by omega)) rfl)
              exact go_lv (lv' := [(0, .ref (L.2.1 13)), (1, .int a), (2, .int y26), (3, .int (0 : Int32))]) rfl (loop149_30 _ σ29 (0 : Int32) w29 (by omega) (gl.1.trans gz.1) ⟨gl.2.1.trans gz.2.1, gl.2.2.1.trans gz.2.2.1⟩ (gl.2.2.2.1.trans (gz.2.2.2.1.trans kk.2.1)) (by rw [gl.2.2.2.2.1, gz.2.2.2.2.1, kk.2.2.1, yn]) (fun j hj => by exfalso; omega) (fun q _ => by rw [gl.2.2.2.2.2, gz.2.2.2.2.2, kk.2.2.2]) rfl)
            refine go_bipush (v := (-20)) (pc' := 134) dX12_text_132 rfl (by decide) ?_
            refine go_aload_n (i := 0) (pc' := 135) dX12_text_134 rfl rfl rfl ?_
            refine gf_13_faultKind (pc' := 138) dX12_text_135 rfl fl_X12_236 ?_
            refine gz_isub (pc' := 139) dX12_text_138 rfl (by omega) (fun v37 h37 e37 => ?_)
            exact go_iret dX12_text_139 rfl (Or.inr ⟨by omega, w27, TV_e (gz.2.2.2.2.1.trans kk.2.2.1) (gz.2.2.2.2.2.trans kk.2.2.2) tv, gz.1, by rw [gz.2.1, gz.2.2.1]; exact fl, Or.inr ⟨by omega, by omega, gz.2.2.2.2.1.trans kk.2.2.1, gz.2.2.2.2.2.trans kk.2.2.2⟩⟩)
          have tv0 := FLS_0 hf_7 (by omega)
          refine go_aload_n (i := 0) (pc' := 56) dX12_text_55 rfl rfl rfl ?_
          refine gf_13_tape (pc' := 59) dX12_text_56 rfl fl_X12_80 ?_
          refine go_iload_n (i := 2) (pc' := 60) dX12_text_59 rfl rfl rfl ?_
          refine go_iald (pc' := 61) dX12_text_60 rfl (by decide) (by decide) rfl (vin_of (n := 160) (by omega) (by omega)) ?_
          refine go_rngA (ixa_119 w7.1) (vinlt (vin_of (n := 160) (by omega) (by omega))) (fun g38 => ?_)
          refine go_bipush (v := 123) (pc' := 63) dX12_text_61 rfl (by decide) ?_
          have e63 : (σ7.2 119 (x2_7).toNatClampNeg).toInt = (tpT σ) (x2_7).toNatClampNeg := by rw [kk.2.1]; rfl
          refine gz_icmp_ne (tgt := 109) (pc' := 66) dX12_text_63 rfl (by decide) (fun c39 => ?_) (fun c39 => ?_)
          · refine gz_iinc (c := 1) (pc' := 112) dX12_text_109 rfl rfl (by decide) (by decide) (by decide) (by omega) (fun v40 h40 e40 => ?_)
            refine go_goto (tgt := 38) dX12_text_112 (by decide) ?_
            exact go_lv (lv' := [(0, .ref (L.2.1 13)), (1, .int a), (2, .int v40)]) rfl (ih7 _ (by omega) σ7 v40 w7 (by omega) kk (by first | exact FLS_no hf_7 (by have cq := cnat (x := v40) (by omega); omega) (fun q => by have q1 := q.2.1; have q2 := q.2.2.1; have q3 := q.2.2.2; omega) | exact FLS_new hf_7 (by have cq := cnat (x := v40) (by omega); omega) (by omega) ⟨by omega, by omega, by omega, by omega⟩ (by omega) (by omega)) rfl)
          refine go_aload_n (i := 0) (pc' := 67) dX12_text_66 rfl rfl rfl ?_
          refine gf_13_tape (pc' := 70) dX12_text_67 rfl fl_X12_80 ?_
          refine go_iload_n (i := 2) (pc' := 71) dX12_text_70 rfl rfl rfl ?_
          refine go_iconst (v := 1) (pc' := 72) dX12_text_71 rfl (by decide) ?_
          refine gz_iadd (pc' := 73) dX12_text_72 rfl (by omega) (fun v41 h41 e41 => ?_)
          refine go_iald (pc' := 74) dX12_text_73 rfl (by decide) (by decide) rfl (vin_of (n := 160) (by omega) (by omega)) ?_
          refine go_rngA (ixa_119 w7.1) (vinlt (vin_of (n := 160) (by omega) (by omega))) (fun g42 => ?_)
          have c72 := cnat (x := v41) (by omega)
          have e76 : (σ7.2 119 (v41).toNatClampNeg).toInt = (tpT σ) ((x2_7).toNatClampNeg + 1) := by rw [kk.2.1, show (v41).toNatClampNeg = (x2_7).toNatClampNeg + 1 from by omega]; rfl
          refine go_bipush (v := 110) (pc' := 76) dX12_text_74 rfl (by decide) ?_
          refine gz_icmp_ne (tgt := 109) (pc' := 79) dX12_text_76 rfl (by decide) (fun c43 => ?_) (fun c43 => ?_)
          · refine gz_iinc (c := 1) (pc' := 112) dX12_text_109 rfl rfl (by decide) (by decide) (by decide) (by omega) (fun v44 h44 e44 => ?_)
            refine go_goto (tgt := 38) dX12_text_112 (by decide) ?_
            exact go_lv (lv' := [(0, .ref (L.2.1 13)), (1, .int a), (2, .int v44)]) rfl (ih7 _ (by omega) σ7 v44 w7 (by omega) kk (by first | exact FLS_no hf_7 (by have cq := cnat (x := v44) (by omega); omega) (fun q => by have q1 := q.2.1; have q2 := q.2.2.1; have q3 := q.2.2.2; omega) | exact FLS_new hf_7 (by have cq := cnat (x := v44) (by omega); omega) (by omega) ⟨by omega, by omega, by omega, by omega⟩ (by omega) (by omega)) rfl)
          refine go_aload_n (i := 0) (pc' := 80) dX12_text_79 rfl rfl rfl ?_
          refine gf_13_tape (pc' := 83) dX12_text_80 rfl fl_X12_80 ?_
          refine go_iload_n (i := 2) (pc' := 84) dX12_text_83 rfl rfl rfl ?_
          refine go_iconst (v := 2) (pc' := 85) dX12_text_84 rfl (by decide) ?_
          refine gz_iadd (pc' := 86) dX12_text_85 rfl (by omega) (fun v45 h45 e45 => ?_)
          have tn := tk_note (t := (tpT σ)) (n := (σ.1 23).toNatClampNeg) (k := (x2_7).toNatClampNeg) (by omega) (by omega) (by omega) (x2_7).toNatClampNeg 0 0 200 _ (by omega) tv0
          have cz : (v45).toNatClampNeg = (x2_7).toNatClampNeg + 2 := by have cz := cnat (x := v45) (by omega); omega
          refine go_csi (pc' := 89) ls_X12_243 (f_numberAt_119 _ _ _ _ (dcnt (tpT σ) (σ.1 23).toNatClampNeg 4 ((x2_7).toNatClampNeg + 2)) (tpT σ) (fun i => by rw [kk.2.1]; rfl) (by omega) (dcnt_le _ _ _ _) (by rw [cz]; omega) (fun i hi => by rw [cz]; exact (dcnt_dig hi).2) (by rw [cz, tn.2.2]; decide) w7.1) rfl rfl (Nat.le_of_ble_eq_true rfl) ⟨Nat.le_of_ble_eq_true rfl, Nat.le_of_ble_eq_true rfl⟩ ⟨rfl, rfl⟩ dX12_text_86 rfl (fun r46 σ46 h46 => ?_)
          obtain ⟨e46, h46⟩ := h46
          have e46 := e46.symm
          subst e46
          have nv := h46
          rw [cz] at nv
          refine go_aload_n (i := 0) (pc' := 90) dX12_text_89 rfl rfl rfl ?_
          refine gf_13_letters (pc' := 93) dX12_text_90 rfl fl_X12_142 ?_
          have g47 := ixi_20 w7.1
          have l20 := congrArg Int32.toInt (w7.2.1 20 (by decide))
          refine gz_icmp_ge (tgt := 99) (pc' := 96) dX12_text_93 rfl (by decide) (fun c48 => ?_) (fun c48 => ?_)
          · refine go_aload_n (i := 0) (pc' := 100) dX12_text_99 rfl rfl rfl ?_
            refine go_iconst (v := 2) (pc' := 101) dX12_text_100 rfl (by decide) ?_
            refine pf_13_faultKind (pc' := 104) dX12_text_101 rfl fl_X12_236 ?_
            refine go_gen (P := fun s => WMt σ s ∧ KP σ7 s ∧ s.1 26 = (2 : Int32)) ⟨⟨ixs_n w7.1 (by decide), Ag_setI w7.2 (by decide)⟩, ⟨⟨rfl, rfl, rfl, rfl⟩, setI_same _ _ _⟩⟩ (fun σ49 z49 => ?_)
            obtain ⟨w49, g49⟩ := z49
            have kk := KP_trans kk g49.1
            have f26 := congrArg Int32.toInt g49.2
            refine go_aload_n (i := 0) (pc' := 105) dX12_text_104 rfl rfl rfl ?_
            refine go_iload_n (i := 2) (pc' := 106) dX12_text_105 rfl rfl rfl ?_
            refine pf_13_faultAt (pc' := 109) dX12_text_106 rfl fl_X12_92 ?_
            refine go_gen (P := fun s => WMt σ s ∧ KP σ49 s ∧ s.1 26 = σ49.1 26 ∧ s.1 27 = x2_7) ⟨⟨ixs_n w49.1 (by decide), Ag_setI w49.2 (by decide)⟩, ⟨⟨rfl, rfl, rfl, rfl⟩, rfl, setI_same _ _ _⟩⟩ (fun σ50 z50 => ?_)
            obtain ⟨w50, g50⟩ := z50
            have kk := KP_trans kk g50.1
            have f26b := congrArg Int32.toInt g50.2.1
            have f27 := congrArg Int32.toInt g50.2.2
            refine gz_iinc (c := 1) (pc' := 112) dX12_text_109 rfl rfl (by decide) (by decide) (by decide) (by omega) (fun v51 h51 e51 => ?_)
            refine go_goto (tgt := 38) dX12_text_112 (by decide) ?_
            exact go_lv (lv' := [(0, .ref (L.2.1 13)), (1, .int a), (2, .int v51)]) rfl (ih7 _ (by omega) σ50 v51 w50 (by omega) kk (by first | exact FLS_no hf_7 (by have cq := cnat (x := v51) (by omega); omega) (fun q => by have q1 := q.2.1; have q2 := q.2.2.1; have q3 := q.2.2.2; omega) | exact FLS_new hf_7 (by have cq := cnat (x := v51) (by omega); omega) (by omega) ⟨by omega, by omega, by omega, by omega⟩ (by omega) (by omega)) rfl)
          refine go_goto (tgt := 109) dX12_text_96 (by decide) ?_
          refine gz_iinc (c := 1) (pc' := 112) dX12_text_109 rfl rfl (by decide) (by decide) (by decide) (by omega) (fun v52 h52 e52 => ?_)
          refine go_goto (tgt := 38) dX12_text_112 (by decide) ?_
          exact go_lv (lv' := [(0, .ref (L.2.1 13)), (1, .int a), (2, .int v52)]) rfl (ih7 _ (by omega) σ7 v52 w7 (by omega) kk (by first | exact FLS_no hf_7 (by have cq := cnat (x := v52) (by omega); omega) (fun q => by have q1 := q.2.1; have q2 := q.2.2.1; have q3 := q.2.2.2; omega) | exact FLS_new hf_7 (by have cq := cnat (x := v52) (by omega); omega) (by omega) ⟨by omega, by omega, by omega, by omega⟩ (by omega) (by omega)) rfl)
      exact go_lv (lv' := [(0, .ref (L.2.1 13)), (1, .int a), (2, .int (0 : Int32))]) rfl (loop38_7 _ σ5 (0 : Int32) w5 (by omega) kk (by first | exact Or.inl ⟨by omega, by omega, by omega⟩ | exact Or.inr ⟨tk_neg (by omega), Or.inl ⟨by omega, by have := tk_neg (show tk (tpT σ) (σ.1 23).toNatClampNeg 200 0 0 (fun _ => 0) < 0 by omega); omega, fun k hk => by exfalso; omega⟩⟩) rfl)
    refine go_aload_n (i := 0) (pc' := 32) dX12_text_31 rfl rfl rfl ?_
    refine go_iconst (v := 1) (pc' := 33) dX12_text_32 rfl (by decide) ?_
    refine pf_13_faultKind (pc' := 36) dX12_text_33 rfl fl_X12_236 ?_
    refine go_gen (P := fun s => WMt σ s ∧ KP σ5 s ∧ s.1 26 = (1 : Int32) ∧ s.1 27 = σ5.1 27) ⟨⟨ixs_n w5.1 (by decide), Ag_setI w5.2 (by decide)⟩, ⟨⟨rfl, rfl, rfl, rfl⟩, setI_same _ _ _, rfl⟩⟩ (fun σ53 z53 => ?_)
    obtain ⟨w53, g53⟩ := z53
    have kk := KP_trans kk g53.1
    have f26 := congrArg Int32.toInt g53.2.1
    have f27b := congrArg Int32.toInt g53.2.2
    refine go_iconst (v := 0) (pc' := 37) dX12_text_36 rfl (by decide) ?_
    refine go_istore_n (i := 2) (pc' := 38) dX12_text_37 rfl rfl (by decide) ?_
    have loop38_54 : ∀ (dd54 : Nat) (σ54 : ST) (x2_54 : Int32), WMt σ σ54 → (0 ≤ (x2_54).toInt ∧ (x2_54).toInt ≤ (σ.1 23).toInt) → (KP σ σ54) → (FLS (tpT σ) (σ.1 23).toNatClampNeg (σ.1 20).toInt (x2_54).toNatClampNeg (σ54.1 26).toInt (σ54.1 27).toInt) → (160 - (x2_54).toInt).toNat = dd54 → Go F L RX12 cX12_text 4 rm_X12_text (some .int) (RI F L (fun r σ2 => tM_text σ a r σ2)) σ54 38 [(0, .ref (L.2.1 13)), (1, .int a), (2, .int x2_54)] [] := by
      intro dd54
      induction dd54 using Nat.strongRecOn with
      | _ dd54 ih54 =>
        intro σ54 x2_54 w54 h_54 hk_54 hf_54 hm_54
        refine go_iload_n (i := 2) (pc' := 39) dX12_text_38 rfl rfl rfl ?_
        refine go_iconst (v := 1) (pc' := 40) dX12_text_39 rfl (by decide) ?_
        refine gz_iadd (pc' := 41) dX12_text_40 rfl (by omega) (fun v55 h55 e55 => ?_)
        have kk := hk_54
        have c2 := cnat (x := x2_54) (by omega)
        have s23 := congrArg Int32.toInt kk.1
        refine go_aload_n (i := 0) (pc' := 42) dX12_text_41 rfl rfl rfl ?_
        refine gf_13_size (pc' := 45) dX12_text_42 rfl fl_X12_215 ?_
        have g56 := ixi_23 w54.1
        refine gz_icmp_ge (tgt := 115) (pc' := 48) dX12_text_45 rfl (by decide) (fun c57 => ?_) (fun c57 => ?_)
        · have kk := hk_54
          have c2 := cnat (x := x2_54) (by omega)
          have s23 := congrArg Int32.toInt kk.1
          have fl : FLT (tpT σ) (σ.1 23).toNatClampNeg (σ.1 20).toInt (σ54.1 26).toInt (σ54.1 27).toInt := FLS_end hf_54 (by omega) (by omega)
          have fr := FLT_rng fl
          refine go_aload_n (i := 0) (pc' := 116) dX12_text_115 rfl rfl rfl ?_
          refine gf_13_size (pc' := 119) dX12_text_116 rfl fl_X12_215 ?_
          have g58 := ixi_23 w54.1
          refine go_topz (fun y59 h59 e59 => ?_)
          refine go_istore_n (i := 2) (pc' := 120) dX12_text_119 rfl rfl (by decide) ?_
          have yn : y59 = σ.1 23 := Eq.trans (by assumption) kk.1
          have yi := congrArg Int32.toInt yn
          refine go_aload_n (i := 0) (pc' := 121) dX12_text_120 rfl rfl rfl ?_
          refine go_iconst (v := 0) (pc' := 122) dX12_text_121 rfl (by decide) ?_
          refine pf_13_size (pc' := 125) dX12_text_122 rfl fl_X12_215 ?_
          refine go_gen (P := fun s => WMt σ s ∧ s.1 23 = (0 : Int32) ∧ s.1 26 = σ54.1 26 ∧ s.1 27 = σ54.1 27 ∧ s.2 119 = σ54.2 119 ∧ s.2 109 = σ54.2 109 ∧ s.2 110 = σ54.2 110) ⟨⟨ixs_23 w54.1 (by omega) (by omega), Ag_setI w54.2 (by decide)⟩, ⟨setI_same _ _ _, rfl, rfl, rfl, rfl, rfl⟩⟩ (fun σ60 z60 => ?_)
          obtain ⟨w60, g60⟩ := z60
          have gz := g60
          have f26 := congrArg Int32.toInt gz.2.1
          refine go_aload_n (i := 0) (pc' := 126) dX12_text_125 rfl rfl rfl ?_
          refine gf_13_faultKind (pc' := 129) dX12_text_126 rfl fl_X12_236 ?_
          refine gz_if_le (tgt := 140) (pc' := 132) dX12_text_129 rfl (by decide) (fun c61 => ?_) (fun c61 => ?_)
          · refine go_aload_n (i := 0) (pc' := 141) dX12_text_140 rfl rfl rfl ?_
            refine gf_13_length (pc' := 144) dX12_text_141 rfl fl_X12_50 ?_
            refine go_iload_n (i := 1) (pc' := 145) dX12_text_144 rfl rfl rfl ?_
            refine go_iload_n (i := 2) (pc' := 146) dX12_text_145 rfl rfl rfl ?_
            refine go_iast (pc' := 147) dX12_text_146 rfl (by decide) (by decide) rfl (vin_of (n := 12) (by omega) (by omega)) ?_
            refine go_gen (P := fun s => WMt σ s ∧ s.1 23 = σ60.1 23 ∧ s.1 26 = σ60.1 26 ∧ s.1 27 = σ60.1 27 ∧ s.2 119 = σ60.2 119 ∧ s.2 109 = upd (σ60.2 109) (a).toNatClampNeg y59 ∧ s.2 110 = σ60.2 110) ⟨⟨ixt_109 w60.1 (by omega) (by omega), Ag_setA w60.2 (by decide)⟩, ⟨rfl, rfl, rfl, setA_ne (a := 119) _ 109 _ _ (by decide), setA_same _ _ _ _, setA_ne (a := 110) _ 109 _ _ (by decide)⟩⟩ (fun σ62 z62 => ?_)
            obtain ⟨w62, g62⟩ := z62
            have gl := g62
            refine go_iconst (v := 0) (pc' := 148) dX12_text_147 rfl (by decide) ?_
            refine go_istore_n (i := 3) (pc' := 149) dX12_text_148 rfl rfl (by decide) ?_
            have loop149_63 : ∀ (dd63 : Nat) (σ63 : ST) (x3_63 : Int32), WMt σ σ63 → (0 ≤ (x3_63).toInt ∧ (x3_63).toInt ≤ (y59).toInt) → (σ63.1 23 = 0) → (σ63.1 26 = σ54.1 26 ∧ σ63.1 27 = σ54.1 27) → (σ63.2 119 = σ.2 119) → (σ63.2 109 = upd (σ.2 109) (a).toNatClampNeg (σ.1 23)) → (∀ j : Nat, (j : Int) < (x3_63).toInt → σ63.2 110 (160 * (a).toNatClampNeg + j) = σ.2 119 j) → (∀ q : Nat, q < 160 * (a).toNatClampNeg ∨ 160 * (a).toNatClampNeg + 160 ≤ q → σ63.2 110 q = σ.2 110 q) → (160 - (x3_63).toInt).toNat = dd63 → Go F L RX12 cX12_text 4 rm_X12_text (some .int) (RI F L (fun r σ2 => tM_text σ a r σ2)) σ63 149 [(0, .ref (L.2.1 13)), (1, .int a), (2, .int y59), (3, .int x3_63)] [] := by
              intro dd63
              induction dd63 using Nat.strongRecOn with
              | _ dd63 ih63 =>
                intro σ63 x3_63 w63 h_63 hz_63 hp_63 ht_63 hl_63 hc_63 ho_63 hm_63
                refine go_iload_n (i := 3) (pc' := 150) dX12_text_149 rfl rfl rfl ?_
                refine go_iload_n (i := 2) (pc' := 151) dX12_text_150 rfl rfl rfl ?_
                refine gz_icmp_ge (tgt := 178) (pc' := 154) dX12_text_151 rfl (by decide) (fun c64 => ?_) (fun c64 => ?_)
                · refine go_iload_n (i := 2) (pc' := 179) dX12_text_178 rfl rfl rfl ?_
                  exact go_iret dX12_text_179 rfl (Or.inr ⟨by omega, w63, TV_new tv (by omega) (by omega) (FLT_0 fl (by omega)) hl_63 (fun j hj => hc_63 j (by omega)) ho_63 (fun l hl => ixa_109 ix l hl), hz_63, by rw [hp_63.1, hp_63.2]; exact fl, Or.inl ⟨by rw [hp_63.1]; omega, yn, hl_63, fun j hj => hc_63 j (by omega), ho_63⟩⟩)
                refine go_aload_n (i := 0) (pc' := 155) dX12_text_154 rfl rfl rfl ?_
                refine gf_13_texts (pc' := 158) dX12_text_155 rfl fl_X12_53 ?_
                refine go_sipush (v := 160) (pc' := 161) dX12_text_158 rfl (by decide) ?_
                refine go_iload_n (i := 1) (pc' := 162) dX12_text_161 rfl rfl rfl ?_
                refine gz_imulc (n := 160) (pc' := 163) dX12_text_162 rfl (by decide) (by omega) (fun v65 h65 e65 => ?_)
                refine go_iload_n (i := 3) (pc' := 164) dX12_text_163 rfl rfl rfl ?_
                refine gz_iadd (pc' := 165) dX12_text_164 rfl (by omega) (fun v66 h66 e66 => ?_)
                have ck3 := cnat (x := x3_63) (by omega)
                have ca := cnat (x := a) (by omega)
                have ez : (v66).toNatClampNeg = 160 * (a).toNatClampNeg + (x3_63).toNatClampNeg := by have cz := cnat (x := v66) (by omega); omega
                refine go_aload_n (i := 0) (pc' := 166) dX12_text_165 rfl rfl rfl ?_
                refine gf_13_tape (pc' := 169) dX12_text_166 rfl fl_X12_80 ?_
                refine go_iload_n (i := 3) (pc' := 170) dX12_text_169 rfl rfl rfl ?_
                refine go_iald (pc' := 171) dX12_text_170 rfl (by decide) (by decide) rfl (vin_of (n := 160) (by omega) (by omega)) ?_
                refine go_rngA (ixa_119 w63.1) (vinlt (vin_of (n := 160) (by omega) (by omega))) (fun g67 => ?_)
                refine go_iast (pc' := 172) dX12_text_171 rfl (by decide) (by decide) rfl (vin_of (n := 1920) (by omega) (by omega)) ?_
                refine go_gen (P := fun s => WMt σ s ∧ s.1 23 = σ63.1 23 ∧ s.1 26 = σ63.1 26 ∧ s.1 27 = σ63.1 27 ∧ s.2 119 = σ63.2 119 ∧ s.2 109 = σ63.2 109 ∧ s.2 110 = upd (σ63.2 110) (v66).toNatClampNeg (σ63.2 119 (x3_63).toNatClampNeg)) ⟨⟨ixt_110 w63.1 (by omega) (by omega), Ag_setA w63.2 (by decide)⟩, ⟨rfl, rfl, rfl, setA_ne (a := 119) _ 110 _ _ (by decide), setA_ne (a := 109) _ 110 _ _ (by decide), setA_same _ _ _ _⟩⟩ (fun σ68 z68 => ?_)
                obtain ⟨w68, g68⟩ := z68
                have gc := g68
                refine gz_iinc (c := 1) (pc' := 175) dX12_text_172 rfl rfl (by decide) (by decide) (by decide) (by omega) (fun v69 h69 e69 => ?_)
                refine go_goto (tgt := 149) dX12_text_175 (by decide) ?_
                exact go_lv (lv' := [(0, .ref (L.2.1 13)), (1, .int a), (2, .int y59), (3, .int v69)]) rfl (ih63 _ (by omega) σ68 v69 w68 (by omega) (gc.1.trans hz_63) ⟨gc.2.1.trans hp_63.1, gc.2.2.1.trans hp_63.2⟩ (gc.2.2.2.1.trans ht_63) (gc.2.2.2.2.1.trans hl_63) (cp_step hc_63 (by rw [← ez]; exact gc.2.2.2.2.2) (by rw [ht_63]) (by omega) (by omega)) (ot_step ho_63 gc.2.2.2.2.2 (by omega) (by omega)) rfl)
            exact go_lv (lv' := [(0, .ref (L.2.1 13)), (1, .int a), (2, .int y59), (3, .int (0 : Int32))]) rfl (loop149_63 _ σ62 (0 : Int32) w62 (by omega) (gl.1.trans gz.1) ⟨gl.2.1.trans gz.2.1, gl.2.2.1.trans gz.2.2.1⟩ (gl.2.2.2.1.trans (gz.2.2.2.1.trans kk.2.1)) (by rw [gl.2.2.2.2.1, gz.2.2.2.2.1, kk.2.2.1, yn]) (fun j hj => by exfalso; omega) (fun q _ => by rw [gl.2.2.2.2.2, gz.2.2.2.2.2, kk.2.2.2]) rfl)
          refine go_bipush (v := (-20)) (pc' := 134) dX12_text_132 rfl (by decide) ?_
          refine go_aload_n (i := 0) (pc' := 135) dX12_text_134 rfl rfl rfl ?_
          refine gf_13_faultKind (pc' := 138) dX12_text_135 rfl fl_X12_236 ?_
          refine gz_isub (pc' := 139) dX12_text_138 rfl (by omega) (fun v70 h70 e70 => ?_)
          exact go_iret dX12_text_139 rfl (Or.inr ⟨by omega, w60, TV_e (gz.2.2.2.2.1.trans kk.2.2.1) (gz.2.2.2.2.2.trans kk.2.2.2) tv, gz.1, by rw [gz.2.1, gz.2.2.1]; exact fl, Or.inr ⟨by omega, by omega, gz.2.2.2.2.1.trans kk.2.2.1, gz.2.2.2.2.2.trans kk.2.2.2⟩⟩)
        refine go_aload_n (i := 0) (pc' := 49) dX12_text_48 rfl rfl rfl ?_
        refine gf_13_faultKind (pc' := 52) dX12_text_49 rfl fl_X12_236 ?_
        refine gz_if_ne (tgt := 115) (pc' := 55) dX12_text_52 rfl (by decide) (fun c71 => ?_) (fun c71 => ?_)
        · have kk := hk_54
          have c2 := cnat (x := x2_54) (by omega)
          have s23 := congrArg Int32.toInt kk.1
          have fl : FLT (tpT σ) (σ.1 23).toNatClampNeg (σ.1 20).toInt (σ54.1 26).toInt (σ54.1 27).toInt := FLS_end hf_54 (by omega) (by omega)
          have fr := FLT_rng fl
          refine go_aload_n (i := 0) (pc' := 116) dX12_text_115 rfl rfl rfl ?_
          refine gf_13_size (pc' := 119) dX12_text_116 rfl fl_X12_215 ?_
          have g72 := ixi_23 w54.1
          refine go_topz (fun y73 h73 e73 => ?_)
          refine go_istore_n (i := 2) (pc' := 120) dX12_text_119 rfl rfl (by decide) ?_
          have yn : y73 = σ.1 23 := Eq.trans (by assumption) kk.1
          have yi := congrArg Int32.toInt yn
          refine go_aload_n (i := 0) (pc' := 121) dX12_text_120 rfl rfl rfl ?_
          refine go_iconst (v := 0) (pc' := 122) dX12_text_121 rfl (by decide) ?_
          refine pf_13_size (pc' := 125) dX12_text_122 rfl fl_X12_215 ?_
          refine go_gen (P := fun s => WMt σ s ∧ s.1 23 = (0 : Int32) ∧ s.1 26 = σ54.1 26 ∧ s.1 27 = σ54.1 27 ∧ s.2 119 = σ54.2 119 ∧ s.2 109 = σ54.2 109 ∧ s.2 110 = σ54.2 110) ⟨⟨ixs_23 w54.1 (by omega) (by omega), Ag_setI w54.2 (by decide)⟩, ⟨setI_same _ _ _, rfl, rfl, rfl, rfl, rfl⟩⟩ (fun σ74 z74 => ?_)
          obtain ⟨w74, g74⟩ := z74
          have gz := g74
          have f26 := congrArg Int32.toInt gz.2.1
          refine go_aload_n (i := 0) (pc' := 126) dX12_text_125 rfl rfl rfl ?_
          refine gf_13_faultKind (pc' := 129) dX12_text_126 rfl fl_X12_236 ?_
          refine gz_if_le (tgt := 140) (pc' := 132) dX12_text_129 rfl (by decide) (fun c75 => ?_) (fun c75 => ?_)
          · refine go_aload_n (i := 0) (pc' := 141) dX12_text_140 rfl rfl rfl ?_
            refine gf_13_length (pc' := 144) dX12_text_141 rfl fl_X12_50 ?_
            refine go_iload_n (i := 1) (pc' := 145) dX12_text_144 rfl rfl rfl ?_
            refine go_iload_n (i := 2) (pc' := 146) dX12_text_145 rfl rfl rfl ?_
            refine go_iast (pc' := 147) dX12_text_146 rfl (by decide) (by decide) rfl (vin_of (n := 12) (by omega) (by omega)) ?_
            refine go_gen (P := fun s => WMt σ s ∧ s.1 23 = σ74.1 23 ∧ s.1 26 = σ74.1 26 ∧ s.1 27 = σ74.1 27 ∧ s.2 119 = σ74.2 119 ∧ s.2 109 = upd (σ74.2 109) (a).toNatClampNeg y73 ∧ s.2 110 = σ74.2 110) ⟨⟨ixt_109 w74.1 (by omega) (by omega), Ag_setA w74.2 (by decide)⟩, ⟨rfl, rfl, rfl, setA_ne (a := 119) _ 109 _ _ (by decide), setA_same _ _ _ _, setA_ne (a := 110) _ 109 _ _ (by decide)⟩⟩ (fun σ76 z76 => ?_)
            obtain ⟨w76, g76⟩ := z76
            have gl := g76
            refine go_iconst (v := 0) (pc' := 148) dX12_text_147 rfl (by decide) ?_
            refine go_istore_n (i := 3) (pc' := 149) dX12_text_148 rfl rfl (by decide) ?_
            have loop149_77 : ∀ (dd77 : Nat) (σ77 : ST) (x3_77 : Int32), WMt σ σ77 → (0 ≤ (x3_77).toInt ∧ (x3_77).toInt ≤ (y73).toInt) → (σ77.1 23 = 0) → (σ77.1 26 = σ54.1 26 ∧ σ77.1 27 = σ54.1 27) → (σ77.2 119 = σ.2 119) → (σ77.2 109 = upd (σ.2 109) (a).toNatClampNeg (σ.1 23)) → (∀ j : Nat, (j : Int) < (x3_77).toInt → σ77.2 110 (160 * (a).toNatClampNeg + j) = σ.2 119 j) → (∀ q : Nat, q < 160 * (a).toNatClampNeg ∨ 160 * (a).toNatClampNeg + 160 ≤ q → σ77.2 110 q = σ.2 110 q) → (160 - (x3_77).toInt).toNat = dd77 → Go F L RX12 cX12_text 4 rm_X12_text (some .int) (RI F L (fun r σ2 => tM_text σ a r σ2)) σ77 149 [(0, .ref (L.2.1 13)), (1, .int a), (2, .int y73), (3, .int x3_77)] [] := by
              intro dd77
              induction dd77 using Nat.strongRecOn with
              | _ dd77 ih77 =>
                intro σ77 x3_77 w77 h_77 hz_77 hp_77 ht_77 hl_77 hc_77 ho_77 hm_77
                refine go_iload_n (i := 3) (pc' := 150) dX12_text_149 rfl rfl rfl ?_
                refine go_iload_n (i := 2) (pc' := 151) dX12_text_150 rfl rfl rfl ?_
                refine gz_icmp_ge (tgt := 178) (pc' := 154) dX12_text_151 rfl (by decide) (fun c78 => ?_) (fun c78 => ?_)
                · refine go_iload_n (i := 2) (pc' := 179) dX12_text_178 rfl rfl rfl ?_
                  exact go_iret dX12_text_179 rfl (Or.inr ⟨by omega, w77, TV_new tv (by omega) (by omega) (FLT_0 fl (by omega)) hl_77 (fun j hj => hc_77 j (by omega)) ho_77 (fun l hl => ixa_109 ix l hl), hz_77, by rw [hp_77.1, hp_77.2]; exact fl, Or.inl ⟨by rw [hp_77.1]; omega, yn, hl_77, fun j hj => hc_77 j (by omega), ho_77⟩⟩)
                refine go_aload_n (i := 0) (pc' := 155) dX12_text_154 rfl rfl rfl ?_
                refine gf_13_texts (pc' := 158) dX12_text_155 rfl fl_X12_53 ?_
                refine go_sipush (v := 160) (pc' := 161) dX12_text_158 rfl (by decide) ?_
                refine go_iload_n (i := 1) (pc' := 162) dX12_text_161 rfl rfl rfl ?_
                refine gz_imulc (n := 160) (pc' := 163) dX12_text_162 rfl (by decide) (by omega) (fun v79 h79 e79 => ?_)
                refine go_iload_n (i := 3) (pc' := 164) dX12_text_163 rfl rfl rfl ?_
                refine gz_iadd (pc' := 165) dX12_text_164 rfl (by omega) (fun v80 h80 e80 => ?_)
                have ck3 := cnat (x := x3_77) (by omega)
                have ca := cnat (x := a) (by omega)
                have ez : (v80).toNatClampNeg = 160 * (a).toNatClampNeg + (x3_77).toNatClampNeg := by have cz := cnat (x := v80) (by omega); omega
                refine go_aload_n (i := 0) (pc' := 166) dX12_text_165 rfl rfl rfl ?_
                refine gf_13_tape (pc' := 169) dX12_text_166 rfl fl_X12_80 ?_
                refine go_iload_n (i := 3) (pc' := 170) dX12_text_169 rfl rfl rfl ?_
                refine go_iald (pc' := 171) dX12_text_170 rfl (by decide) (by decide) rfl (vin_of (n := 160) (by omega) (by omega)) ?_
                refine go_rngA (ixa_119 w77.1) (vinlt (vin_of (n := 160) (by omega) (by omega))) (fun g81 => ?_)
                refine go_iast (pc' := 172) dX12_text_171 rfl (by decide) (by decide) rfl (vin_of (n := 1920) (by omega) (by omega)) ?_
                refine go_gen (P := fun s => WMt σ s ∧ s.1 23 = σ77.1 23 ∧ s.1 26 = σ77.1 26 ∧ s.1 27 = σ77.1 27 ∧ s.2 119 = σ77.2 119 ∧ s.2 109 = σ77.2 109 ∧ s.2 110 = upd (σ77.2 110) (v80).toNatClampNeg (σ77.2 119 (x3_77).toNatClampNeg)) ⟨⟨ixt_110 w77.1 (by omega) (by omega), Ag_setA w77.2 (by decide)⟩, ⟨rfl, rfl, rfl, setA_ne (a := 119) _ 110 _ _ (by decide), setA_ne (a := 109) _ 110 _ _ (by decide), setA_same _ _ _ _⟩⟩ (fun σ82 z82 => ?_)
                obtain ⟨w82, g82⟩ := z82
                have gc := g82
                refine gz_iinc (c := 1) (pc' := 175) dX12_text_172 rfl rfl (by decide) (by decide) (by decide) (by omega) (fun v83 h83 e83 => ?_)
                refine go_goto (tgt := 149) dX12_text_175 (by decide) ?_
                exact go_lv (lv' := [(0, .ref (L.2.1 13)), (1, .int a), (2, .int y73), (3, .int v83)]) rfl (ih77 _ (by omega) σ82 v83 w82 (by omega) (gc.1.trans hz_77) ⟨gc.2.1.trans hp_77.1, gc.2.2.1.trans hp_77.2⟩ (gc.2.2.2.1.trans ht_77) (gc.2.2.2.2.1.trans hl_77) (cp_step hc_77 (by rw [← ez]; exact gc.2.2.2.2.2) (by rw [ht_77]) (by omega) (by omega)) (ot_step ho_77 gc.2.2.2.2.2 (by omega) (by omega)) rfl)
            exact go_lv (lv' := [(0, .ref (L.2.1 13)), (1, .int a), (2, .int y73), (3, .int (0 : Int32))]) rfl (loop149_77 _ σ76 (0 : Int32) w76 (by omega) (gl.1.trans gz.1) ⟨gl.2.1.trans gz.2.1, gl.2.2.1.trans gz.2.2.1⟩ (gl.2.2.2.1.trans (gz.2.2.2.1.trans kk.2.1)) (by rw [gl.2.2.2.2.1, gz.2.2.2.2.1, kk.2.2.1, yn]) (fun j hj => by exfalso; omega) (fun q _ => by rw [gl.2.2.2.2.2, gz.2.2.2.2.2, kk.2.2.2]) rfl)
          refine go_bipush (v := (-20)) (pc' := 134) dX12_text_132 rfl (by decide) ?_
          refine go_aload_n (i := 0) (pc' := 135) dX12_text_134 rfl rfl rfl ?_
          refine gf_13_faultKind (pc' := 138) dX12_text_135 rfl fl_X12_236 ?_
          refine gz_isub (pc' := 139) dX12_text_138 rfl (by omega) (fun v84 h84 e84 => ?_)
          exact go_iret dX12_text_139 rfl (Or.inr ⟨by omega, w74, TV_e (gz.2.2.2.2.1.trans kk.2.2.1) (gz.2.2.2.2.2.trans kk.2.2.2) tv, gz.1, by rw [gz.2.1, gz.2.2.1]; exact fl, Or.inr ⟨by omega, by omega, gz.2.2.2.2.1.trans kk.2.2.1, gz.2.2.2.2.2.trans kk.2.2.2⟩⟩)
        have tv0 := FLS_0 hf_54 (by omega)
        refine go_aload_n (i := 0) (pc' := 56) dX12_text_55 rfl rfl rfl ?_
        refine gf_13_tape (pc' := 59) dX12_text_56 rfl fl_X12_80 ?_
        refine go_iload_n (i := 2) (pc' := 60) dX12_text_59 rfl rfl rfl ?_
        refine go_iald (pc' := 61) dX12_text_60 rfl (by decide) (by decide) rfl (vin_of (n := 160) (by omega) (by omega)) ?_
        refine go_rngA (ixa_119 w54.1) (vinlt (vin_of (n := 160) (by omega) (by omega))) (fun g85 => ?_)
        refine go_bipush (v := 123) (pc' := 63) dX12_text_61 rfl (by decide) ?_
        have e63 : (σ54.2 119 (x2_54).toNatClampNeg).toInt = (tpT σ) (x2_54).toNatClampNeg := by rw [kk.2.1]; rfl
        refine gz_icmp_ne (tgt := 109) (pc' := 66) dX12_text_63 rfl (by decide) (fun c86 => ?_) (fun c86 => ?_)
        · refine gz_iinc (c := 1) (pc' := 112) dX12_text_109 rfl rfl (by decide) (by decide) (by decide) (by omega) (fun v87 h87 e87 => ?_)
          refine go_goto (tgt := 38) dX12_text_112 (by decide) ?_
          exact go_lv (lv' := [(0, .ref (L.2.1 13)), (1, .int a), (2, .int v87)]) rfl (ih54 _ (by omega) σ54 v87 w54 (by omega) kk (by first | exact FLS_no hf_54 (by have cq := cnat (x := v87) (by omega); omega) (fun q => by have q1 := q.2.1; have q2 := q.2.2.1; have q3 := q.2.2.2; omega) | exact FLS_new hf_54 (by have cq := cnat (x := v87) (by omega); omega) (by omega) ⟨by omega, by omega, by omega, by omega⟩ (by omega) (by omega)) rfl)
        refine go_aload_n (i := 0) (pc' := 67) dX12_text_66 rfl rfl rfl ?_
        refine gf_13_tape (pc' := 70) dX12_text_67 rfl fl_X12_80 ?_
        refine go_iload_n (i := 2) (pc' := 71) dX12_text_70 rfl rfl rfl ?_
        refine go_iconst (v := 1) (pc' := 72) dX12_text_71 rfl (by decide) ?_
        refine gz_iadd (pc' := 73) dX12_text_72 rfl (by omega) (fun v88 h88 e88 => ?_)
        refine go_iald (pc' := 74) dX12_text_73 rfl (by decide) (by decide) rfl (vin_of (n := 160) (by omega) (by omega)) ?_
        refine go_rngA (ixa_119 w54.1) (vinlt (vin_of (n := 160) (by omega) (by omega))) (fun g89 => ?_)
        have c72 := cnat (x := v88) (by omega)
        have e76 : (σ54.2 119 (v88).toNatClampNeg).toInt = (tpT σ) ((x2_54).toNatClampNeg + 1) := by rw [kk.2.1, show (v88).toNatClampNeg = (x2_54).toNatClampNeg + 1 from by omega]; rfl
        refine go_bipush (v := 110) (pc' := 76) dX12_text_74 rfl (by decide) ?_
        refine gz_icmp_ne (tgt := 109) (pc' := 79) dX12_text_76 rfl (by decide) (fun c90 => ?_) (fun c90 => ?_)
        · refine gz_iinc (c := 1) (pc' := 112) dX12_text_109 rfl rfl (by decide) (by decide) (by decide) (by omega) (fun v91 h91 e91 => ?_)
          refine go_goto (tgt := 38) dX12_text_112 (by decide) ?_
          exact go_lv (lv' := [(0, .ref (L.2.1 13)), (1, .int a), (2, .int v91)]) rfl (ih54 _ (by omega) σ54 v91 w54 (by omega) kk (by first | exact FLS_no hf_54 (by have cq := cnat (x := v91) (by omega); omega) (fun q => by have q1 := q.2.1; have q2 := q.2.2.1; have q3 := q.2.2.2; omega) | exact FLS_new hf_54 (by have cq := cnat (x := v91) (by omega); omega) (by omega) ⟨by omega, by omega, by omega, by omega⟩ (by omega) (by omega)) rfl)
        refine go_aload_n (i := 0) (pc' := 80) dX12_text_79 rfl rfl rfl ?_
        refine gf_13_tape (pc' := 83) dX12_text_80 rfl fl_X12_80 ?_
        refine go_iload_n (i := 2) (pc' := 84) dX12_text_83 rfl rfl rfl ?_
        refine go_iconst (v := 2) (pc' := 85) dX12_text_84 rfl (by decide) ?_
        refine gz_iadd (pc' := 86) dX12_text_85 rfl (by omega) (fun v92 h92 e92 => ?_)
        have tn := tk_note (t := (tpT σ)) (n := (σ.1 23).toNatClampNeg) (k := (x2_54).toNatClampNeg) (by omega) (by omega) (by omega) (x2_54).toNatClampNeg 0 0 200 _ (by omega) tv0
        have cz : (v92).toNatClampNeg = (x2_54).toNatClampNeg + 2 := by have cz := cnat (x := v92) (by omega); omega
        refine go_csi (pc' := 89) ls_X12_243 (f_numberAt_119 _ _ _ _ (dcnt (tpT σ) (σ.1 23).toNatClampNeg 4 ((x2_54).toNatClampNeg + 2)) (tpT σ) (fun i => by rw [kk.2.1]; rfl) (by omega) (dcnt_le _ _ _ _) (by rw [cz]; omega) (fun i hi => by rw [cz]; exact (dcnt_dig hi).2) (by rw [cz, tn.2.2]; decide) w54.1) rfl rfl (Nat.le_of_ble_eq_true rfl) ⟨Nat.le_of_ble_eq_true rfl, Nat.le_of_ble_eq_true rfl⟩ ⟨rfl, rfl⟩ dX12_text_86 rfl (fun r93 σ93 h93 => ?_)
        obtain ⟨e93, h93⟩ := h93
        have e93 := e93.symm
        subst e93
        have nv := h93
        rw [cz] at nv
        refine go_aload_n (i := 0) (pc' := 90) dX12_text_89 rfl rfl rfl ?_
        refine gf_13_letters (pc' := 93) dX12_text_90 rfl fl_X12_142 ?_
        have g94 := ixi_20 w54.1
        have l20 := congrArg Int32.toInt (w54.2.1 20 (by decide))
        refine gz_icmp_ge (tgt := 99) (pc' := 96) dX12_text_93 rfl (by decide) (fun c95 => ?_) (fun c95 => ?_)
        · refine go_aload_n (i := 0) (pc' := 100) dX12_text_99 rfl rfl rfl ?_
          refine go_iconst (v := 2) (pc' := 101) dX12_text_100 rfl (by decide) ?_
          refine pf_13_faultKind (pc' := 104) dX12_text_101 rfl fl_X12_236 ?_
          refine go_gen (P := fun s => WMt σ s ∧ KP σ54 s ∧ s.1 26 = (2 : Int32)) ⟨⟨ixs_n w54.1 (by decide), Ag_setI w54.2 (by decide)⟩, ⟨⟨rfl, rfl, rfl, rfl⟩, setI_same _ _ _⟩⟩ (fun σ96 z96 => ?_)
          obtain ⟨w96, g96⟩ := z96
          have kk := KP_trans kk g96.1
          have f26 := congrArg Int32.toInt g96.2
          refine go_aload_n (i := 0) (pc' := 105) dX12_text_104 rfl rfl rfl ?_
          refine go_iload_n (i := 2) (pc' := 106) dX12_text_105 rfl rfl rfl ?_
          refine pf_13_faultAt (pc' := 109) dX12_text_106 rfl fl_X12_92 ?_
          refine go_gen (P := fun s => WMt σ s ∧ KP σ96 s ∧ s.1 26 = σ96.1 26 ∧ s.1 27 = x2_54) ⟨⟨ixs_n w96.1 (by decide), Ag_setI w96.2 (by decide)⟩, ⟨⟨rfl, rfl, rfl, rfl⟩, rfl, setI_same _ _ _⟩⟩ (fun σ97 z97 => ?_)
          obtain ⟨w97, g97⟩ := z97
          have kk := KP_trans kk g97.1
          have f26b := congrArg Int32.toInt g97.2.1
          have f27 := congrArg Int32.toInt g97.2.2
          refine gz_iinc (c := 1) (pc' := 112) dX12_text_109 rfl rfl (by decide) (by decide) (by decide) (by omega) (fun v98 h98 e98 => ?_)
          refine go_goto (tgt := 38) dX12_text_112 (by decide) ?_
          exact go_lv (lv' := [(0, .ref (L.2.1 13)), (1, .int a), (2, .int v98)]) rfl (ih54 _ (by omega) σ97 v98 w97 (by omega) kk (by first | exact FLS_no hf_54 (by have cq := cnat (x := v98) (by omega); omega) (fun q => by have q1 := q.2.1; have q2 := q.2.2.1; have q3 := q.2.2.2; omega) | exact FLS_new hf_54 (by have cq := cnat (x := v98) (by omega); omega) (by omega) ⟨by omega, by omega, by omega, by omega⟩ (by omega) (by omega)) rfl)
        refine go_goto (tgt := 109) dX12_text_96 (by decide) ?_
        refine gz_iinc (c := 1) (pc' := 112) dX12_text_109 rfl rfl (by decide) (by decide) (by decide) (by omega) (fun v99 h99 e99 => ?_)
        refine go_goto (tgt := 38) dX12_text_112 (by decide) ?_
        exact go_lv (lv' := [(0, .ref (L.2.1 13)), (1, .int a), (2, .int v99)]) rfl (ih54 _ (by omega) σ54 v99 w54 (by omega) kk (by first | exact FLS_no hf_54 (by have cq := cnat (x := v99) (by omega); omega) (fun q => by have q1 := q.2.1; have q2 := q.2.2.1; have q3 := q.2.2.2; omega) | exact FLS_new hf_54 (by have cq := cnat (x := v99) (by omega); omega) (by omega) ⟨by omega, by omega, by omega, by omega⟩ (by omega) (by omega)) rfl)
    exact go_lv (lv' := [(0, .ref (L.2.1 13)), (1, .int a), (2, .int (0 : Int32))]) rfl (loop38_54 _ σ53 (0 : Int32) w53 (by omega) kk (by first | exact Or.inl ⟨by omega, by omega, by omega⟩ | exact Or.inr ⟨tk_neg (by omega), Or.inl ⟨by omega, by have := tk_neg (show tk (tpT σ) (σ.1 23).toNatClampNeg 200 0 0 (fun _ => 0) < 0 by omega); omega, fun k hk => by exfalso; omega⟩⟩) rfl)
  refine go_bipush (v := (-2)) (pc' := 10) dX12_text_8 rfl (by decide) ?_
  exact go_iret dX12_text_10 rfl (Or.inl ⟨by omega, rfl, rfl⟩)
