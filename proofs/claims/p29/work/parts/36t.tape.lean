theorem upd_eq (f : Nat → Int32) (i : Nat) (v : Int32) : upd f i v i = v := if_pos rfl
theorem upd_ne {f : Nat → Int32} {i j : Nat} {v : Int32} (h : j ≠ i) : upd f i v j = f j := if_neg h
theorem and255_mod (x : Int32) : (x &&& 255).toInt = x.toInt % 256 := by
  have e : (x &&& 255).toBitVec = x.toBitVec &&& 255#32 := rfl
  have h : (x &&& 255).toBitVec.toNat = x.toBitVec.toNat % 256 := by
    rw [e, BitVec.toNat_and]
    exact Nat.and_two_pow_sub_one_eq_mod x.toBitVec.toNat 8
  have h2 : (x &&& 255).toInt = (x &&& 255).toBitVec.toInt := rfl
  have h3 : x.toInt = x.toBitVec.toInt := rfl
  rw [h2, BitVec.toInt_eq_toNat_of_lt (by omega), h, h3, BitVec.toInt_eq_toNat_cond]
  split <;> omega
theorem byte_mod (x : Int32) : (x.toInt8.toInt32 &&& 255) = (x &&& 255) := by
  apply Int32.toInt_inj.mp
  rw [and255_mod, and255_mod, Int8.toInt_toInt32, Int32.toInt_toInt8]
  exact Int.bmod_emod
/-- the j-th byte of a number, as the class feeds it; as the reference does -/
def fbX (b : Int64) (j : Nat) : Int32 := ((((b.toUInt64 >>> (((8 : Int32) * Int32.ofNat j).toInt64.toUInt64 &&& Int64.toUInt64 63)).toInt64).toInt32).toInt8.toInt32).toInt8.toInt32
def fbM (b : Int64) (j : Nat) : Int32 := (((b >>> (((8 : Int32) * Int32.ofNat j).toInt64 &&& 63))).toInt32 &&& (255 : Int32))
theorem low8 (y : BitVec 64) (c : Nat) (h : c ≤ 56) : ((y >>> c).signExtend 32 &&& 255#32) = ((y.sshiftRight c).signExtend 32 &&& 255#32) := by
  apply BitVec.eq_of_getLsbD_eq
  intro i hi
  simp only [BitVec.getLsbD_and, BitVec.getLsbD_signExtend, BitVec.getLsbD_ushiftRight, BitVec.getLsbD_sshiftRight]
  by_cases z : i < 8
  · have h1 : c + i < 64 := by omega
    have h2 : ¬ 64 ≤ i := by omega
    have h3 : i < 64 := by omega
    simp [h1, h2, h3, hi]
  · have h3 : (255#32).getLsbD i = false := by
      have : ∀ k : Fin 32, 8 ≤ k.val → (255#32).getLsbD k.val = false := by decide
      exact this ⟨i, hi⟩ (show 8 ≤ i by omega)
    simp [h3]
theorem fb_c {b : Int64} {u : UInt64} {w : Int64} {c : Nat} (hu : (u.toBitVec % 64#64).toNat = c) (hw : (w.toBitVec.smod 64).toNat = c) (hc : c ≤ 56) : ((b.toUInt64 >>> u).toInt64.toInt32 &&& 255) = ((b >>> w).toInt32 &&& 255) := by
  apply Int32.toBitVec_inj.mp
  show ((b.toBitVec >>> (u.toBitVec % 64#64).toNat).signExtend 32 &&& 255#32) = ((b.toBitVec.sshiftRight (w.toBitVec.smod 64).toNat).signExtend 32 &&& 255#32)
  rw [hu, hw]
  exact low8 _ _ hc
theorem fb_eq (b : Int64) {j : Nat} (h : j < 8) : (fbX b j &&& 255) = fbM b j := by
  unfold fbX fbM
  rw [byte_mod, byte_mod]
  rcases (show j = 0 ∨ j = 1 ∨ j = 2 ∨ j = 3 ∨ j = 4 ∨ j = 5 ∨ j = 6 ∨ j = 7 by omega) with rfl | rfl | rfl | rfl | rfl | rfl | rfl | rfl
  · exact fb_c (c := 0) (by decide +kernel) (by decide +kernel) (by decide)
  · exact fb_c (c := 8) (by decide +kernel) (by decide +kernel) (by decide)
  · exact fb_c (c := 16) (by decide +kernel) (by decide +kernel) (by decide)
  · exact fb_c (c := 24) (by decide +kernel) (by decide +kernel) (by decide)
  · exact fb_c (c := 32) (by decide +kernel) (by decide +kernel) (by decide)
  · exact fb_c (c := 40) (by decide +kernel) (by decide +kernel) (by decide)
  · exact fb_c (c := 48) (by decide +kernel) (by decide +kernel) (by decide)
  · exact fb_c (c := 56) (by decide +kernel) (by decide +kernel) (by decide)
theorem add_WXf {s s2 : ST} {b : Int32} (iv : IV s) (h : (s.1 6).toInt < 160) (e : s2 = setI (setA s 43 (s.1 6).toNatClampNeg b.toInt8.toInt32) 6 (s.1 6 + 1)) : WXf s s2 := by
  have g := ixi_6 iv
  have p := inc1 (x := s.1 6) (by omega)
  rw [e]
  exact ⟨ixs_6 (ixt_43 iv (b8 _).1 (b8 _).2) (by omega) (by omega), Ag_setI (Ag_setA (Ag_rfl s) (by decide)) (by decide)⟩
def tX_feed (σ : ST) (n : Int32) (b : Int64) (r : Int32) (σ2 : ST) : Prop := (¬ (1 ≤ n.toInt ∧ n.toInt ≤ 8) ∧ r = -2 ∧ σ2 = σ) ∨ ((1 ≤ n.toInt ∧ n.toInt ≤ 8) ∧ 160 < (σ.1 6).toInt + n.toInt ∧ r = -4 ∧ σ2 = σ) ∨ ((1 ≤ n.toInt ∧ n.toInt ≤ 8) ∧ (σ.1 6).toInt + n.toInt ≤ 160 ∧ WXf σ σ2 ∧ (σ2.1 6).toInt = (σ.1 6).toInt + n.toInt ∧ r = σ2.1 6 ∧ (∀ j : Nat, (j : Int) < (σ.1 6).toInt → σ2.2 43 j = σ.2 43 j) ∧ ∀ j : Nat, (j : Int) < n.toInt → σ2.2 43 ((σ.1 6).toNatClampNeg + j) = fbX b j)
def tX_lay (σ : ST) (t f n r : Int32) (σ2 : ST) : Prop := (¬ ((0 ≤ t.toInt ∧ t.toInt < 4) ∧ 0 ≤ n.toInt) ∧ r = -2 ∧ σ2 = σ) ∨ (((0 ≤ t.toInt ∧ t.toInt < 4) ∧ 0 ≤ n.toInt) ∧ (σ.2 55 (t).toNatClampNeg).toInt = -1 ∧ r = -11 ∧ σ2 = σ) ∨ (((0 ≤ t.toInt ∧ t.toInt < 4) ∧ 0 ≤ n.toInt) ∧ (σ.2 55 (t).toNatClampNeg).toInt ≠ -1 ∧ WXf σ σ2 ∧ (r.toInt, (σ2.1 6).toInt) = layR (σ.2 55 (t).toNatClampNeg).toInt f.toInt n.toInt 100 0 (σ.1 6).toInt ∧ (∀ j : Nat, (j : Int) < (σ.1 6).toInt → σ2.2 43 j = σ.2 43 j) ∧ (σ.1 6).toInt ≤ (σ2.1 6).toInt ∧ ∀ j : Nat, (j : Int) < (σ2.1 6).toInt - (σ.1 6).toInt → (0 ≤ f.toInt ∧ f.toInt + j < 60) ∧ σ2.2 43 ((σ.1 6).toNatClampNeg + j) = (σ.2 (92 + (t).toNatClampNeg) ((f).toNatClampNeg + j)).toInt8.toInt32)
def tX_tray (σ : ST) (t n r : Int32) (σ2 : ST) : Prop := (¬ ((0 ≤ t.toInt ∧ t.toInt < 4) ∧ n.toInt ≤ 60) ∧ r = -2 ∧ σ2 = σ) ∨ (((0 ≤ t.toInt ∧ t.toInt < 4) ∧ n.toInt ≤ 60) ∧ n.toInt < -1 ∧ r = -14 ∧ σ2 = σ) ∨ (((0 ≤ t.toInt ∧ t.toInt < 4) ∧ n.toInt ≤ 60) ∧ -1 ≤ n.toInt ∧ r = 1 ∧ WXy σ σ2 ∧ σ2.2 55 = upd (σ.2 55) (t).toNatClampNeg n ∧ (∀ q : Nat, q < 4 → q ≠ (t).toNatClampNeg → σ2.2 (92 + q) = σ.2 (92 + q)) ∧ ∀ j : Nat, j < 60 → σ2.2 (92 + (t).toNatClampNeg) j = 0)
set_option maxHeartbeats 4000000 in
set_option maxRecDepth 100000 in
theorem f_X8_add (l : Launch) (L : WL) (σ : ST) (b : Int32) (hs : (σ.1 6).toInt < 160) (ix : IV σ) : CtV l L yX8_add cX8_add 2 none rm_X8_add [.ref (L.2.1 6), .int b] σ (fun σ2 => σ2 = setI (setA σ 43 (σ.1 6).toNatClampNeg b.toInt8.toInt32) 6 (σ.1 6 + 1)) := by
  refine ctV_go (own := RX8) (by decide) rfl (Nat.le_of_ble_eq_true rfl) (fun F hF => ?_)
  subst hF
  have n1 : (1 : Int32).toInt = 1 := by decide
  have n160 : (160 : Int32).toInt = 160 := by decide
  have w0 : WX σ σ := WX_rfl ix
  refine go_aload_n (i := 0) (pc' := 1) dX8_add_0 rfl rfl rfl ?_
  refine gf_6_size (pc' := 4) dX8_add_1 rfl fl_X8_15 ?_
  have g1 := ixi_6 ix
  refine go_sipush (v := 160) (pc' := 7) dX8_add_4 rfl (by decide) ?_
  refine gz_icmp_ge (tgt := 30) (pc' := 10) dX8_add_7 rfl (by decide) (fun c2 => (by exfalso; omega)) (fun c2 => ?_)
  refine go_aload_n (i := 0) (pc' := 11) dX8_add_10 rfl rfl rfl ?_
  refine gf_6_bytes (pc' := 14) dX8_add_11 rfl fl_X8_9 ?_
  refine go_aload_n (i := 0) (pc' := 15) dX8_add_14 rfl rfl rfl ?_
  refine gf_6_size (pc' := 18) dX8_add_15 rfl fl_X8_15 ?_
  have g3 := ixi_6 ix
  refine go_iload_n (i := 1) (pc' := 19) dX8_add_18 rfl rfl rfl ?_
  refine go_bast (pc' := 20) dX8_add_19 rfl (by decide) (by decide) rfl (vin_of (n := 160) (by omega) (by omega)) ?_
  refine go_aload_n (i := 0) (pc' := 21) dX8_add_20 rfl rfl rfl ?_
  refine go_dup (pc' := 22) dX8_add_21 rfl rfl ?_
  refine gf_6_size (pc' := 25) dX8_add_22 rfl fl_X8_15 ?_
  refine go_topq (y := (σ.1 6)) rfl ?_
  have g4 := ixi_6 ix
  refine go_iconst (v := 1) (pc' := 26) dX8_add_25 rfl (by decide) ?_
  refine go_iadd (pc' := 27) dX8_add_26 rfl ?_
  refine pf_6_size (pc' := 30) dX8_add_27 rfl fl_X8_15 ?_
  exact go_vret dX8_add_30 rfl (rfl)
set_option maxHeartbeats 4000000 in
set_option maxRecDepth 100000 in
theorem f_X11_feed (l : Launch) (L : WL) (σ : ST) (n : Int32) (b : Int64) (ix : IV σ) : CtI l L yX11_feed cX11_feed 5 (some .int) rm_X11_feed [.ref (L.2.1 0), .int n, .long b] σ (fun r σ2 => tX_feed σ n b r σ2) := by
  refine ctI_go (own := RX11) (by decide) rfl (Nat.le_of_ble_eq_true rfl) (fun F hF => ?_)
  subst hF
  have nm4 : (-4 : Int32).toInt = -4 := by decide
  have nm2 : (-2 : Int32).toInt = -2 := by decide
  have n0 : (0 : Int32).toInt = 0 := by decide
  have n1 : (1 : Int32).toInt = 1 := by decide
  have n8 : (8 : Int32).toInt = 8 := by decide
  have n160 : (160 : Int32).toInt = 160 := by decide
  have w0 : WXf σ σ := WXf_rfl ix
  have u6 := ixi_6 ix
  have c60 := cnat (x := σ.1 6) (by omega)
  refine go_iload_n (i := 1) (pc' := 1) dX11_feed_0 rfl rfl rfl ?_
  refine go_iconst (v := 1) (pc' := 2) dX11_feed_1 rfl (by decide) ?_
  refine gz_icmp_lt (tgt := 11) (pc' := 5) dX11_feed_2 rfl (by decide) (fun c1 => ?_) (fun c1 => ?_)
  · refine go_bipush (v := (-2)) (pc' := 13) dX11_feed_11 rfl (by decide) ?_
    exact go_iret dX11_feed_13 rfl (Or.inl ⟨by omega, rfl, rfl⟩)
  refine go_iload_n (i := 1) (pc' := 6) dX11_feed_5 rfl rfl rfl ?_
  refine go_bipush (v := 8) (pc' := 8) dX11_feed_6 rfl (by decide) ?_
  refine gz_icmp_le (tgt := 14) (pc' := 11) dX11_feed_8 rfl (by decide) (fun c2 => ?_) (fun c2 => ?_)
  · refine go_iload_n (i := 1) (pc' := 15) dX11_feed_14 rfl rfl rfl ?_
    refine go_sipush (v := 160) (pc' := 18) dX11_feed_15 rfl (by decide) ?_
    refine go_aload_n (i := 0) (pc' := 19) dX11_feed_18 rfl rfl rfl ?_
    refine gf_0_tape (pc' := 22) dX11_feed_19 rfl fl_X11_47 ?_
    refine gf_6_size (pc' := 25) dX11_feed_22 rfl fl_X11_234 ?_
    have g3 := ixi_6 w0.1
    refine gz_isub (pc' := 26) dX11_feed_25 rfl (by omega) (fun v4 h4 e4 => ?_)
    refine gz_icmp_le (tgt := 32) (pc' := 29) dX11_feed_26 rfl (by decide) (fun c5 => ?_) (fun c5 => ?_)
    · refine go_iconst (v := 0) (pc' := 33) dX11_feed_32 rfl (by decide) ?_
      refine go_istore (pc' := 35) dX11_feed_33 rfl (by decide) ?_
      have loop35_6 : ∀ (dd6 : Nat) (σ6 : ST) (x4_6 : Int32), WXf σ σ6 → (0 ≤ (x4_6).toInt ∧ (x4_6).toInt ≤ n.toInt) → ((σ6.1 6).toInt = (σ.1 6).toInt + (x4_6).toInt) → (∀ j : Nat, (j : Int) < (σ.1 6).toInt → σ6.2 43 j = σ.2 43 j) → (∀ j : Nat, (j : Int) < (x4_6).toInt → σ6.2 43 ((σ.1 6).toNatClampNeg + j) = fbX b j) → (8 - (x4_6).toInt).toNat = dd6 → Go F L RX11 cX11_feed 5 rm_X11_feed (some .int) (RI F L (fun r σ2 => tX_feed σ n b r σ2)) σ6 35 [(0, .ref (L.2.1 0)), (1, .int n), (2, .long b), (4, .int x4_6)] [] := by
        intro dd6
        induction dd6 using Nat.strongRecOn with
        | _ dd6 ih6 =>
          intro σ6 x4_6 w6 h_6 hs_6 hk_6 hb_6 hm_6
          refine go_iload (pc' := 37) dX11_feed_35 rfl rfl ?_
          refine go_iload_n (i := 1) (pc' := 38) dX11_feed_37 rfl rfl rfl ?_
          refine gz_icmp_ge (tgt := 63) (pc' := 41) dX11_feed_38 rfl (by decide) (fun c7 => ?_) (fun c7 => ?_)
          · refine go_aload_n (i := 0) (pc' := 64) dX11_feed_63 rfl rfl rfl ?_
            refine gf_0_tape (pc' := 67) dX11_feed_64 rfl fl_X11_47 ?_
            refine gf_6_size (pc' := 70) dX11_feed_67 rfl fl_X11_234 ?_
            have g8 := ixi_6 w6.1
            exact go_iret dX11_feed_70 rfl (Or.inr (Or.inr ⟨by omega, by omega, w6, by omega, rfl, hk_6, fun j hj => hb_6 j (by omega)⟩))
          have ivp := w6.1
          have c4 := cnat (x := x4_6) (by omega)
          have gp := ixi_6 ivp
          have cp := cnat (x := σ6.1 6) (by omega)
          refine go_aload_n (i := 0) (pc' := 42) dX11_feed_41 rfl rfl rfl ?_
          refine gf_0_tape (pc' := 45) dX11_feed_42 rfl fl_X11_47 ?_
          refine go_lload_n (i := 2) (pc' := 46) dX11_feed_45 rfl rfl rfl ?_
          refine go_bipush (v := 8) (pc' := 48) dX11_feed_46 rfl (by decide) ?_
          refine go_iload (pc' := 50) dX11_feed_48 rfl rfl ?_
          refine go_imul (pc' := 51) dX11_feed_50 rfl ?_
          refine go_lushr (pc' := 52) dX11_feed_51 rfl rfl ?_
          refine go_l2i (pc' := 53) dX11_feed_52 rfl ?_
          refine go_i2b (pc' := 54) dX11_feed_53 rfl ?_
          refine go_cvv (pc' := 57) lk_X11_235 (f_X8_add _ _ _ _ (by omega) w6.1) rfl rfl (Nat.le_of_ble_eq_true rfl) (by decide) rfl rfl rfl ⟨Nat.le_of_ble_eq_true rfl, Nat.le_of_ble_eq_true rfl⟩ ⟨rfl, rfl⟩ dX11_feed_54 rfl (fun σ9 h9 => ?_)
          have w9 := WXf_trans w6 ((fun z => add_WXf w6.1 (by omega) z) h9)
          have aX := h9
          have a6 : σ9.1 6 = σ6.1 6 + 1 := by rw [aX]; rfl
          have a43 : σ9.2 43 = upd (σ6.2 43) (σ6.1 6).toNatClampNeg (((((b.toUInt64 >>> (((8 : Int32) * x4_6).toInt64.toUInt64 &&& Int64.toUInt64 63)).toInt64).toInt32).toInt8.toInt32).toInt8.toInt32) := by rw [aX]; rfl
          have g6 := ixi_6 ivp
          have j6 := inc1 (x := σ6.1 6) (by omega)
          have i6 := congrArg Int32.toInt a6
          refine gz_iinc (c := 1) (pc' := 60) dX11_feed_57 rfl rfl (by decide) (by decide) (by decide) (by omega) (fun v10 h10 e10 => ?_)
          refine go_goto (tgt := 35) dX11_feed_60 (by decide) ?_
          exact go_lv (lv' := [(0, .ref (L.2.1 0)), (1, .int n), (2, .long b), (4, .int v10)]) rfl (ih6 _ (by omega) σ9 v10 w9 (by omega) (by omega) (fun j hj => by rw [a43, upd_ne (by omega)]; exact hk_6 j hj) (cp_step hb_6 (by rw [show (σ.1 6).toNatClampNeg + (x4_6).toNatClampNeg = (σ6.1 6).toNatClampNeg from by omega]; exact a43) (by unfold fbX; rw [of_nat (by omega)]) (by omega) (by omega)) rfl)
      exact go_lv (lv' := [(0, .ref (L.2.1 0)), (1, .int n), (2, .long b), (4, .int (0 : Int32))]) rfl (loop35_6 _ σ (0 : Int32) w0 (by omega) (by omega) (fun j hj => rfl) (fun j hj => by exfalso; omega) rfl)
    refine go_bipush (v := (-4)) (pc' := 31) dX11_feed_29 rfl (by decide) ?_
    exact go_iret dX11_feed_31 rfl (Or.inr (Or.inl ⟨by omega, by omega, rfl, rfl⟩))
  refine go_bipush (v := (-2)) (pc' := 13) dX11_feed_11 rfl (by decide) ?_
  exact go_iret dX11_feed_13 rfl (Or.inl ⟨by omega, rfl, rfl⟩)
set_option maxHeartbeats 4000000 in
set_option maxRecDepth 100000 in
theorem f_X11_lay (l : Launch) (L : WL) (σ : ST) (t f n : Int32) (ix : IV σ) : CtI l L yX11_lay cX11_lay 5 (some .int) rm_X11_lay [.ref (L.2.1 0), .int t, .int f, .int n] σ (fun r σ2 => tX_lay σ t f n r σ2) := by
  refine ctI_go (own := RX11) (by decide) rfl (Nat.le_of_ble_eq_true rfl) (fun F hF => ?_)
  subst hF
  have nm12 : (-12 : Int32).toInt = -12 := by decide
  have nm11 : (-11 : Int32).toInt = -11 := by decide
  have nm4 : (-4 : Int32).toInt = -4 := by decide
  have nm2 : (-2 : Int32).toInt = -2 := by decide
  have nm1 : (-1 : Int32).toInt = -1 := by decide
  have n0 : (0 : Int32).toInt = 0 := by decide
  have n160 : (160 : Int32).toInt = 160 := by decide
  have w0 : WXf σ σ := WXf_rfl ix
  have lf := Int32.le_toInt f
  have rf := Int32.toInt_lt f
  have u6 := ixi_6 ix
  have c60 := cnat (x := σ.1 6) (by omega)
  refine go_iload_n (i := 1) (pc' := 1) dX11_lay_0 rfl rfl rfl ?_
  refine go_csi (pc' := 4) ls_X11_298 (c_X9_has _ _ _ _) rfl rfl (Nat.le_of_ble_eq_true rfl) ⟨Nat.le_of_ble_eq_true rfl, Nat.le_of_ble_eq_true rfl⟩ ⟨rfl, rfl⟩ dX11_lay_1 rfl (fun r1 σ1 h1 => ?_)
  obtain ⟨e1, h1⟩ := h1
  have e1 := e1.symm
  subst e1
  refine go_eqB (tgt := 11) (pc' := 7) h1 dX11_lay_4 rfl (by decide) (fun c2 => ?_) (fun c2 => ?_)
  · refine go_bipush (v := (-2)) (pc' := 13) dX11_lay_11 rfl (by decide) ?_
    exact go_iret dX11_lay_13 rfl (Or.inl ⟨by omega, rfl, rfl⟩)
  refine go_iload_n (i := 3) (pc' := 8) dX11_lay_7 rfl rfl rfl ?_
  refine gz_if_ge (tgt := 14) (pc' := 11) dX11_lay_8 rfl (by decide) (fun c3 => ?_) (fun c3 => ?_)
  · refine go_aload_n (i := 0) (pc' := 15) dX11_lay_14 rfl rfl rfl ?_
    refine gf_0_trays (pc' := 18) dX11_lay_15 rfl fl_X11_85 ?_
    refine gf_12_sizes (pc' := 21) dX11_lay_18 rfl fl_X11_303 ?_
    refine go_iload_n (i := 1) (pc' := 22) dX11_lay_21 rfl rfl rfl ?_
    refine go_iald (pc' := 23) dX11_lay_22 rfl (by decide) (by decide) rfl (vin_of (n := 4) (by omega) (by omega)) ?_
    refine go_rngA (ixa_55 w0.1) (vinlt (vin_of (n := 4) (by omega) (by omega))) (fun g4 => ?_)
    refine go_iconst (v := (-1)) (pc' := 24) dX11_lay_23 rfl (by decide) ?_
    refine gz_icmp_ne (tgt := 30) (pc' := 27) dX11_lay_24 rfl (by decide) (fun c5 => ?_) (fun c5 => ?_)
    · refine go_iconst (v := 0) (pc' := 31) dX11_lay_30 rfl (by decide) ?_
      refine go_istore (pc' := 33) dX11_lay_31 rfl (by decide) ?_
      have loop33_6 : ∀ (dd6 : Nat) (σ6 : ST) (x4_6 : Int32), WXf σ σ6 → (0 ≤ (x4_6).toInt ∧ (x4_6).toInt ≤ 60) → ((x4_6).toInt = 0 ∨ (0 ≤ f.toInt ∧ f.toInt + (x4_6).toInt ≤ 60)) → ((σ6.1 6).toInt = (σ.1 6).toInt + (x4_6).toInt) → (layR (σ.2 55 (t).toNatClampNeg).toInt f.toInt n.toInt 100 0 (σ.1 6).toInt = layR (σ.2 55 (t).toNatClampNeg).toInt f.toInt n.toInt (100 - (x4_6).toInt.toNat) (x4_6).toInt (σ6.1 6).toInt) → (∀ j : Nat, (j : Int) < (σ.1 6).toInt → σ6.2 43 j = σ.2 43 j) → (∀ j : Nat, (j : Int) < (x4_6).toInt → (0 ≤ f.toInt ∧ f.toInt + j < 60) ∧ σ6.2 43 ((σ.1 6).toNatClampNeg + j) = (σ.2 (92 + (t).toNatClampNeg) ((f).toNatClampNeg + j)).toInt8.toInt32) → (61 - (x4_6).toInt).toNat = dd6 → Go F L RX11 cX11_lay 5 rm_X11_lay (some .int) (RI F L (fun r σ2 => tX_lay σ t f n r σ2)) σ6 33 [(0, .ref (L.2.1 0)), (1, .int t), (2, .int f), (3, .int n), (4, .int x4_6)] [] := by
        intro dd6
        induction dd6 using Nat.strongRecOn with
        | _ dd6 ih6 =>
          intro σ6 x4_6 w6 h_6 hf_6 hs_6 hl_6 hk_6 hb_6 hm_6
          refine go_iload (pc' := 35) dX11_lay_33 rfl rfl ?_
          refine go_iload_n (i := 3) (pc' := 36) dX11_lay_35 rfl rfl rfl ?_
          refine gz_icmp_ge (tgt := 100) (pc' := 39) dX11_lay_36 rfl (by decide) (fun c7 => ?_) (fun c7 => ?_)
          · refine go_aload_n (i := 0) (pc' := 101) dX11_lay_100 rfl rfl rfl ?_
            refine gf_0_tape (pc' := 104) dX11_lay_101 rfl fl_X11_47 ?_
            refine gf_6_size (pc' := 107) dX11_lay_104 rfl fl_X11_234 ?_
            have g8 := ixi_6 w6.1
            exact go_iret dX11_lay_107 rfl (Or.inr (Or.inr ⟨by omega, by omega, w6, (hl_6.trans (layR_end (by omega) (by omega))).symm, hk_6, by omega, fun j hj => hb_6 j (by omega)⟩))
          have ivp := w6.1
          have c4 := cnat (x := x4_6) (by omega)
          have gp := ixi_6 ivp
          have cp := cnat (x := σ6.1 6) (by omega)
          have row : σ6.2 (92 + (t).toNatClampNeg) = σ.2 (92 + (t).toNatClampNeg) := w6.2.2 _ (show ¬ 92 + _ = 43 by omega)
          refine go_aload_n (i := 0) (pc' := 40) dX11_lay_39 rfl rfl rfl ?_
          refine gf_0_trays (pc' := 43) dX11_lay_40 rfl fl_X11_85 ?_
          refine go_iload_n (i := 1) (pc' := 44) dX11_lay_43 rfl rfl rfl ?_
          refine go_iload_n (i := 2) (pc' := 45) dX11_lay_44 rfl rfl rfl ?_
          refine go_iload (pc' := 47) dX11_lay_45 rfl rfl ?_
          refine gz_iadd (pc' := 48) dX11_lay_47 rfl (by omega) (fun v9 h9 e9 => ?_)
          refine go_cvi (pc' := 51) lk_X11_304 (e_X9_hasCell _ _ _ _ _ (by omega) w6.1) rfl rfl (Nat.le_of_ble_eq_true rfl) (by decide) rfl rfl rfl ⟨Nat.le_of_ble_eq_true rfl, Nat.le_of_ble_eq_true rfl⟩ ⟨rfl, rfl⟩ dX11_lay_48 rfl (fun r10 σ10 h10 => ?_)
          obtain ⟨e10, h10⟩ := h10
          have e10 := e10.symm
          subst e10
          rw [w6.2.2 55 (by decide)] at h10
          refine go_neB (tgt := 57) (pc' := 54) h10 dX11_lay_51 rfl (by decide) (fun c11 => ?_) (fun c11 => ?_)
          · refine go_aload_n (i := 0) (pc' := 58) dX11_lay_57 rfl rfl rfl ?_
            refine gf_0_tape (pc' := 61) dX11_lay_58 rfl fl_X11_47 ?_
            refine gf_6_size (pc' := 64) dX11_lay_61 rfl fl_X11_234 ?_
            have g12 := ixi_6 w6.1
            refine go_sipush (v := 160) (pc' := 67) dX11_lay_64 rfl (by decide) ?_
            refine gz_icmp_lt (tgt := 73) (pc' := 70) dX11_lay_67 rfl (by decide) (fun c13 => ?_) (fun c13 => ?_)
            · refine go_aload_n (i := 0) (pc' := 74) dX11_lay_73 rfl rfl rfl ?_
              refine gf_0_tape (pc' := 77) dX11_lay_74 rfl fl_X11_47 ?_
              refine go_aload_n (i := 0) (pc' := 78) dX11_lay_77 rfl rfl rfl ?_
              refine gf_0_trays (pc' := 81) dX11_lay_78 rfl fl_X11_85 ?_
              refine gf_12_rows (pc' := 84) dX11_lay_81 rfl fl_X11_307 ?_
              refine go_iload_n (i := 1) (pc' := 85) dX11_lay_84 rfl rfl rfl ?_
              have p14 : (t).toNatClampNeg < 4 := vinlt (vin_of (n := 4) (by omega) (by omega))
              refine go_aald (b := 92) (pc' := 86) dX11_lay_85 rfl (by decide) (by decide) ⟨_, rfl⟩ (vin_of (n := 4) (by omega) (by omega)) rfl ?_
              refine go_iload_n (i := 2) (pc' := 87) dX11_lay_86 rfl rfl rfl ?_
              refine go_iload (pc' := 89) dX11_lay_87 rfl rfl ?_
              refine gz_iadd (pc' := 90) dX11_lay_89 rfl (by omega) (fun v15 h15 e15 => ?_)
              have cf := cnat (x := f) (by omega)
              have ez : (v15).toNatClampNeg = (f).toNatClampNeg + (x4_6).toNatClampNeg := by have cz := cnat (x := v15) (by omega); omega
              refine go_bald (pc' := 91) dX11_lay_90 rfl (by omega) (by omega) (rowt_92 p14) (by rw [rowl_92 p14]; exact (vin_of (n := 60) (by omega) (by omega))) ?_
              refine go_rngA (ixr_92 w6.1 p14) (vinlt (vin_of (n := 60) (by omega) (by omega))) (fun g16 => ?_)
              refine go_cvv (pc' := 94) lk_X11_235 (f_X8_add _ _ _ _ (by omega) w6.1) rfl rfl (Nat.le_of_ble_eq_true rfl) (by decide) rfl rfl rfl ⟨Nat.le_of_ble_eq_true rfl, Nat.le_of_ble_eq_true rfl⟩ ⟨rfl, rfl⟩ dX11_lay_91 rfl (fun σ17 h17 => ?_)
              have w17 := WXf_trans w6 ((fun z => add_WXf w6.1 (by omega) z) h17)
              have aX := h17
              have a6 : σ17.1 6 = σ6.1 6 + 1 := by rw [aX]; rfl
              have a43 : σ17.2 43 = upd (σ6.2 43) (σ6.1 6).toNatClampNeg (((σ6.2 (92 + (t).toNatClampNeg) (v15).toNatClampNeg)).toInt8.toInt32) := by rw [aX]; rfl
              have g6 := ixi_6 ivp
              have j6 := inc1 (x := σ6.1 6) (by omega)
              have i6 := congrArg Int32.toInt a6
              refine gz_iinc (c := 1) (pc' := 97) dX11_lay_94 rfl rfl (by decide) (by decide) (by decide) (by omega) (fun v18 h18 e18 => ?_)
              refine go_goto (tgt := 33) dX11_lay_97 (by decide) ?_
              exact go_lv (lv' := [(0, .ref (L.2.1 0)), (1, .int t), (2, .int f), (3, .int n), (4, .int v18)]) rfl (ih6 _ (by omega) σ17 v18 w17 (by omega) (by omega) (by omega) (hl_6.trans (layR_step (by omega) (by omega) (by omega) (by omega) (by omega) (by omega))) (fun j hj => by rw [a43, upd_ne (by omega)]; exact hk_6 j hj) (all_step (P := fun j => (0 ≤ f.toInt ∧ f.toInt + j < 60) ∧ σ17.2 43 ((σ.1 6).toNatClampNeg + j) = (σ.2 (92 + (t).toNatClampNeg) ((f).toNatClampNeg + j)).toInt8.toInt32) (fun j hj => ⟨(hb_6 j hj).1, by rw [a43, upd_ne (by omega)]; exact (hb_6 j hj).2⟩) (by omega) (by omega) ⟨by omega, by rw [a43, show (σ.1 6).toNatClampNeg + (x4_6).toNatClampNeg = (σ6.1 6).toNatClampNeg from by omega, upd_eq, row, ez]⟩) rfl)
            refine go_bipush (v := (-4)) (pc' := 72) dX11_lay_70 rfl (by decide) ?_
            exact go_iret dX11_lay_72 rfl (Or.inr (Or.inr ⟨by omega, by omega, w6, by rw [nm4]; exact (hl_6.trans (layR_full (by omega) (by omega) (by omega) (by omega))).symm, hk_6, by omega, fun j hj => hb_6 j (by omega)⟩))
          refine go_bipush (v := (-12)) (pc' := 56) dX11_lay_54 rfl (by decide) ?_
          exact go_iret dX11_lay_56 rfl (Or.inr (Or.inr ⟨by omega, by omega, w6, by rw [nm12]; exact (hl_6.trans (layR_out (by omega) (by omega) (by omega))).symm, hk_6, by omega, fun j hj => hb_6 j (by omega)⟩))
      exact go_lv (lv' := [(0, .ref (L.2.1 0)), (1, .int t), (2, .int f), (3, .int n), (4, .int (0 : Int32))]) rfl (loop33_6 _ σ (0 : Int32) w0 (by omega) (by omega) (by omega) (by rw [n0]; rfl) (fun j hj => rfl) (fun j hj => by exfalso; omega) rfl)
    refine go_bipush (v := (-11)) (pc' := 29) dX11_lay_27 rfl (by decide) ?_
    exact go_iret dX11_lay_29 rfl (Or.inr (Or.inl ⟨by omega, by omega, rfl, rfl⟩))
  refine go_bipush (v := (-2)) (pc' := 13) dX11_lay_11 rfl (by decide) ?_
  exact go_iret dX11_lay_13 rfl (Or.inl ⟨by omega, rfl, rfl⟩)
set_option maxHeartbeats 4000000 in
set_option maxRecDepth 100000 in
theorem f_X9_empty (l : Launch) (L : WL) (σ : ST) (t n : Int32) (ht : 0 ≤ t.toInt ∧ t.toInt < 4) (hn : -1 ≤ n.toInt ∧ n.toInt ≤ 60) (ix : IV σ) : CtV l L yX9_empty cX9_empty 4 none rm_X9_empty [.ref (L.2.1 12), .int t, .int n] σ (fun σ2 => WXy σ σ2 ∧ σ2.2 55 = upd (σ.2 55) (t).toNatClampNeg n ∧ (∀ q : Nat, q < 4 → q ≠ (t).toNatClampNeg → σ2.2 (92 + q) = σ.2 (92 + q)) ∧ ∀ j : Nat, j < 60 → σ2.2 (92 + (t).toNatClampNeg) j = 0) := by
  refine ctV_go (own := RX9) (by decide) rfl (Nat.le_of_ble_eq_true rfl) (fun F hF => ?_)
  subst hF
  have n0 : (0 : Int32).toInt = 0 := by decide
  have n60 : (60 : Int32).toInt = 60 := by decide
  have w0 : WXy σ σ := WXy_rfl ix
  have ct := cnat (x := t) (by omega)
  have v0 : ((0 : Int32).toInt8.toInt32) = 0 := by decide
  refine go_aload_n (i := 0) (pc' := 1) dX9_empty_0 rfl rfl rfl ?_
  refine gf_12_sizes (pc' := 4) dX9_empty_1 rfl fl_X9_16 ?_
  refine go_iload_n (i := 1) (pc' := 5) dX9_empty_4 rfl rfl rfl ?_
  refine go_iload_n (i := 2) (pc' := 6) dX9_empty_5 rfl rfl rfl ?_
  refine go_iast (pc' := 7) dX9_empty_6 rfl (by decide) (by decide) rfl (vin_of (n := 4) (by omega) (by omega)) ?_
  refine go_gen (P := fun s => WXy σ s ∧ s.2 55 = upd (σ.2 55) (t).toNatClampNeg n ∧ ∀ q : Nat, q ≠ 55 → s.2 q = σ.2 q) ⟨⟨ixt_55 w0.1 (by omega) (by omega), Ag_setA w0.2 (by decide)⟩, ⟨setA_same _ _ _ _, fun q hq => setA_ne _ _ _ _ hq⟩⟩ (fun σ1 z1 => ?_)
  obtain ⟨w1, g1⟩ := z1
  have gz := g1
  refine go_iconst (v := 0) (pc' := 8) dX9_empty_7 rfl (by decide) ?_
  refine go_istore_n (i := 3) (pc' := 9) dX9_empty_8 rfl rfl (by decide) ?_
  have loop9_2 : ∀ (dd2 : Nat) (σ2 : ST) (x3_2 : Int32), WXy σ σ2 → (0 ≤ (x3_2).toInt ∧ (x3_2).toInt ≤ 60) → (σ2.2 55 = upd (σ.2 55) (t).toNatClampNeg n) → (∀ q : Nat, q < 4 → q ≠ (t).toNatClampNeg → σ2.2 (92 + q) = σ.2 (92 + q)) → (∀ j : Nat, (j : Int) < (x3_2).toInt → σ2.2 (92 + (t).toNatClampNeg) j = 0) → (60 - (x3_2).toInt).toNat = dd2 → Go F L RX9 cX9_empty 4 rm_X9_empty none (RV F L (fun σ2 => WXy σ σ2 ∧ σ2.2 55 = upd (σ.2 55) (t).toNatClampNeg n ∧ (∀ q : Nat, q < 4 → q ≠ (t).toNatClampNeg → σ2.2 (92 + q) = σ.2 (92 + q)) ∧ ∀ j : Nat, j < 60 → σ2.2 (92 + (t).toNatClampNeg) j = 0)) σ2 9 [(0, .ref (L.2.1 12)), (1, .int t), (2, .int n), (3, .int x3_2)] [] := by
    intro dd2
    induction dd2 using Nat.strongRecOn with
    | _ dd2 ih2 =>
      intro σ2 x3_2 w2 h_2 hz_2 ho_2 hr_2 hm_2
      refine go_iload_n (i := 3) (pc' := 10) dX9_empty_9 rfl rfl rfl ?_
      refine go_bipush (v := 60) (pc' := 12) dX9_empty_10 rfl (by decide) ?_
      refine gz_icmp_ge (tgt := 30) (pc' := 15) dX9_empty_12 rfl (by decide) (fun c3 => ?_) (fun c3 => ?_)
      · exact go_vret dX9_empty_30 rfl (⟨w2, hz_2, ho_2, fun j hj => hr_2 j (by omega)⟩)
      refine go_aload_n (i := 0) (pc' := 16) dX9_empty_15 rfl rfl rfl ?_
      refine gf_12_rows (pc' := 19) dX9_empty_16 rfl fl_X9_13 ?_
      refine go_iload_n (i := 1) (pc' := 20) dX9_empty_19 rfl rfl rfl ?_
      have p4 : (t).toNatClampNeg < 4 := vinlt (vin_of (n := 4) (by omega) (by omega))
      refine go_aald (b := 92) (pc' := 21) dX9_empty_20 rfl (by decide) (by decide) ⟨_, rfl⟩ (vin_of (n := 4) (by omega) (by omega)) rfl ?_
      refine go_iload_n (i := 3) (pc' := 22) dX9_empty_21 rfl rfl rfl ?_
      refine go_iconst (v := 0) (pc' := 23) dX9_empty_22 rfl (by decide) ?_
      refine go_bast (pc' := 24) dX9_empty_23 rfl (by omega) (by omega) (rowt_92 p4) (by rw [rowl_92 p4]; exact (vin_of (n := 60) (by omega) (by omega))) ?_
      refine go_gen (P := fun s => WXy σ s ∧ s.2 55 = σ2.2 55 ∧ (∀ q : Nat, q ≠ (92 + (t).toNatClampNeg) → s.2 q = σ2.2 q) ∧ s.2 (92 + (t).toNatClampNeg) = upd (σ2.2 (92 + (t).toNatClampNeg)) (x3_2).toNatClampNeg ((((0 : Int32))).toInt8.toInt32)) ⟨⟨ixu_92 w2.1 p4 (b8 _), Ag_setA w2.2 (QY_row p4)⟩, ⟨setA_ne _ _ _ _ (by omega), fun q hq => setA_ne _ _ _ _ hq, setA_same _ _ _ _⟩⟩ (fun σ5 z5 => ?_)
      obtain ⟨w5, g5⟩ := z5
      have gR := g5
      refine gz_iinc (c := 1) (pc' := 27) dX9_empty_24 rfl rfl (by decide) (by decide) (by decide) (by omega) (fun v6 h6 e6 => ?_)
      refine go_goto (tgt := 9) dX9_empty_27 (by decide) ?_
      exact go_lv (lv' := [(0, .ref (L.2.1 12)), (1, .int t), (2, .int n), (3, .int v6)]) rfl (ih2 _ (by omega) σ5 v6 w5 (by omega) (gR.1.trans hz_2) (fun q h1 h2 => (gR.2.1 _ (by omega)).trans (ho_2 q h1 h2)) (upd_step (P := fun _ z => z = 0) hr_2 gR.2.2 v0 (by omega) (by omega)) rfl)
  exact go_lv (lv' := [(0, .ref (L.2.1 12)), (1, .int t), (2, .int n), (3, .int (0 : Int32))]) rfl (loop9_2 _ σ1 (0 : Int32) w1 (by omega) gz.1 (fun q h1 h2 => gz.2 _ (by omega)) (fun j hj => by exfalso; omega) rfl)
set_option maxHeartbeats 4000000 in
set_option maxRecDepth 100000 in
theorem f_X11_tray (l : Launch) (L : WL) (σ : ST) (t n : Int32) (ix : IV σ) : CtI l L yX11_tray cX11_tray 3 (some .int) rm_X11_tray [.ref (L.2.1 0), .int t, .int n] σ (fun r σ2 => tX_tray σ t n r σ2) := by
  refine ctI_go (own := RX11) (by decide) rfl (Nat.le_of_ble_eq_true rfl) (fun F hF => ?_)
  subst hF
  have nm14 : (-14 : Int32).toInt = -14 := by decide
  have nm2 : (-2 : Int32).toInt = -2 := by decide
  have nm1 : (-1 : Int32).toInt = -1 := by decide
  have n1 : (1 : Int32).toInt = 1 := by decide
  have n60 : (60 : Int32).toInt = 60 := by decide
  have w0 : WXy σ σ := WXy_rfl ix
  refine go_iload_n (i := 1) (pc' := 1) dX11_tray_0 rfl rfl rfl ?_
  refine go_csi (pc' := 4) ls_X11_298 (c_X9_has _ _ _ _) rfl rfl (Nat.le_of_ble_eq_true rfl) ⟨Nat.le_of_ble_eq_true rfl, Nat.le_of_ble_eq_true rfl⟩ ⟨rfl, rfl⟩ dX11_tray_1 rfl (fun r1 σ1 h1 => ?_)
  obtain ⟨e1, h1⟩ := h1
  have e1 := e1.symm
  subst e1
  refine go_eqB (tgt := 13) (pc' := 7) h1 dX11_tray_4 rfl (by decide) (fun c2 => ?_) (fun c2 => ?_)
  · refine go_bipush (v := (-2)) (pc' := 15) dX11_tray_13 rfl (by decide) ?_
    exact go_iret dX11_tray_15 rfl (Or.inl ⟨by omega, rfl, rfl⟩)
  refine go_iload_n (i := 2) (pc' := 8) dX11_tray_7 rfl rfl rfl ?_
  refine go_bipush (v := 60) (pc' := 10) dX11_tray_8 rfl (by decide) ?_
  refine gz_icmp_le (tgt := 16) (pc' := 13) dX11_tray_10 rfl (by decide) (fun c3 => ?_) (fun c3 => ?_)
  · refine go_iload_n (i := 2) (pc' := 17) dX11_tray_16 rfl rfl rfl ?_
    refine go_iconst (v := (-1)) (pc' := 18) dX11_tray_17 rfl (by decide) ?_
    refine gz_icmp_ge (tgt := 24) (pc' := 21) dX11_tray_18 rfl (by decide) (fun c4 => ?_) (fun c4 => ?_)
    · refine go_aload_n (i := 0) (pc' := 25) dX11_tray_24 rfl rfl rfl ?_
      refine gf_0_trays (pc' := 28) dX11_tray_25 rfl fl_X11_85 ?_
      refine go_iload_n (i := 1) (pc' := 29) dX11_tray_28 rfl rfl rfl ?_
      refine go_iload_n (i := 2) (pc' := 30) dX11_tray_29 rfl rfl rfl ?_
      refine go_cvv (pc' := 33) lk_X11_299 (f_X9_empty _ _ _ _ _ (by omega) (by omega) w0.1) rfl rfl (Nat.le_of_ble_eq_true rfl) (by decide) rfl rfl rfl ⟨Nat.le_of_ble_eq_true rfl, Nat.le_of_ble_eq_true rfl⟩ ⟨rfl, rfl⟩ dX11_tray_30 rfl (fun σ5 h5 => ?_)
      obtain ⟨u5, h5⟩ := h5
      have w5 := WXy_trans w0 u5
      refine go_iconst (v := 1) (pc' := 34) dX11_tray_33 rfl (by decide) ?_
      exact go_iret dX11_tray_34 rfl (Or.inr (Or.inr ⟨by omega, by omega, rfl, w5, h5⟩))
    refine go_bipush (v := (-14)) (pc' := 23) dX11_tray_21 rfl (by decide) ?_
    exact go_iret dX11_tray_23 rfl (Or.inr (Or.inl ⟨by omega, by omega, rfl, rfl⟩))
  refine go_bipush (v := (-2)) (pc' := 15) dX11_tray_13 rfl (by decide) ?_
  exact go_iret dX11_tray_15 rfl (Or.inl ⟨by omega, rfl, rfl⟩)
