/-! ===== highs that are sunk: the same with signs turned ===== -/
def wkN (w : Int) : Int := if 0 ≤ w then (-w) % 7 else w
theorem uwn_neg (w z : Int) : - uwn w z = dwn (wkN w) (-z) := by
  unfold uwn dwn wkN
  by_cases h : 0 ≤ w
  · rw [if_pos h, if_pos h, if_pos (show 0 ≤ (-w) % 7 by omega)]
    omega
  · rw [if_neg h, if_neg h, if_neg h]
def wkH (σ : ST) (u : Nat) : Int := wkN (wkE σ u)
def hwE (σ : ST) (g : Nat → Int32) (u : Nat) : Int := if ROOT σ u then - (g u).toInt else 0
def EdH (σ : ST) (a c : Nat) (s : Int) : Prop := ∃ k : Nat, (k : Int) < (σ.1 4).toInt ∧ a = dsX σ k ∧ c = srX σ k ∧ s = shX σ k
theorem hwE_r {σ : ST} {g : Nat → Int32} {u : Nat} (h : ROOT σ u) : hwE σ g u = - (g u).toInt := if_pos h
theorem wkH_r {σ : ST} {u : Nat} (h : ROOT σ u) : wkH σ u = wkN (σ.2 39 u).toInt := by
  unfold wkH
  rw [wkE_r h]
def SN (σ : ST) (r k : Nat) (g : Nat → Int32) : Prop := RND (wkH σ) (EdH σ) (σ.1 4).toInt.toNat (fun _ => True) (dsX σ) (srX σ) (shX σ) r k (hwE σ g)
def CH (σ : ST) (r : Nat) (g : Nat → Int32) : Prop := ∃ u : Nat, CGE (wkH σ) (EdH σ) (hwE σ g) r u
def HLH (σ : ST) (g : Nat → Int32) (k : Nat) : Prop := ∀ e : Nat, e < k → (e : Int) < (σ.1 4).toInt → (g (srX σ e)).toInt + shX σ e ≤ (g (dsX σ e)).toInt
def HWI (σ : ST) (kp : Nat → Prop) (g : Nat → Int32) : Prop := ∀ j : Nat, ROOT σ j → 0 ≤ (g j).toInt ∧ (g j).toInt ≤ (σ.2 34 j).toInt ∧ (0 ≤ (σ.2 39 j).toInt → (g j).toInt % 7 = (σ.2 39 j).toInt) ∧ ∀ x : Nat → Int, FSX σ kp x → x j ≤ (g j).toInt
def SWI (σ : ST) (kp : Nat → Prop) (g : Nat → Int32) (r k : Nat) : Prop := HWI σ kp g ∧ SN σ r k g
theorem wkH_lt {σ : ST} {kp : Nat → Prop} (jf : JF kp σ) (u : Nat) : wkH σ u < 7 := by
  have := wkE_lt jf u
  unfold wkH wkN
  split <;> omega
theorem modN {a w : Int} (h : 0 ≤ w) (h7 : w < 7) (e : a % 7 = w) : (-a) % 7 = wkN w := by
  unfold wkN
  rw [if_pos h]
  omega
theorem wkN_0 {w : Int} (h : 0 ≤ wkN w) : 0 ≤ w := by
  unfold wkN at h
  split at h <;> omega
theorem lo_0 {σ : ST} {kp : Nat → Prop} {x : Nat → Int} (jf : JF kp σ) (hx : FSX σ kp x) {j : Nat} (h : ROOT σ j) : 0 ≤ x j := by
  have := (jf j h).1.1
  have := ((jf j h).2.2.1 x hx).1
  omega
theorem SWI_0 {σ : ST} {kp : Nat → Prop} {x : Nat → Int} (iv : IV σ) (fd : FDX σ) (jf : JF kp σ) (hx : FSX σ kp x) : SWI σ kp (σ.2 34) 0 0 := by
  refine ⟨fun j hj => ?_, RND_0 (fun e he _ => root12 iv (sr_root fd iv (show (e : Int) < (σ.1 4).toInt by omega)).2.1) (fun u hu hw => ?_)⟩
  · have := jf j hj
    have y := lo_0 jf hx hj
    have z := (this.2.2.1 x hx).2.1
    exact ⟨by omega, Int.le_refl _, fun w => (this.2.1 w).2, fun x hx => (this.2.2.1 x hx).2.1⟩
  · by_cases h : ROOT σ u
    · rw [wkH_r h] at hw ⊢
      rw [hwE_r h]
      have w0 := wkN_0 hw
      have := (jf u h).1
      exact modN w0 (by omega) ((jf u h).2.1 w0).2
    · exfalso
      unfold wkH wkN wkE at hw
      rw [if_neg h] at hw
      omega
theorem SWI_skip {σ : ST} {kp : Nat → Prop} {g : Nat → Int32} {r k k2 : Nat} (iv : IV σ) (fd : FDX σ) (h : SWI σ kp g r k) (e : k2 = k + 1) (hk : (k : Int) < (σ.1 4).toInt) (hs : (g (srX σ k)).toInt ≤ (g (dsX σ k)).toInt - shX σ k) : SWI σ kp g r k2 := by
  subst e
  refine ⟨h.1, RND_skip h.2 (fun _ => ?_)⟩
  have sr := sr_root fd iv hk
  rw [hwE_r sr.1, hwE_r sr.2.1]
  omega
theorem SWI_up {σ : ST} {kp : Nat → Prop} {x : Nat → Int} {g g2 : Nat → Int32} {r k k2 : Nat} {v : Int32} (iv : IV σ) (fd : FDX σ) (jf : JF kp σ) (hx0 : FSX σ kp x) (h : SWI σ kp g r k) (e : k2 = k + 1) (hk : (k : Int) < (σ.1 4).toInt) (hp : kp k) (hz : uwn (σ.2 39 (srX σ k)).toInt ((g (dsX σ k)).toInt - shX σ k) < (g (srX σ k)).toInt) (ev : v.toInt = uwn (σ.2 39 (srX σ k)).toInt ((g (dsX σ k)).toInt - shX σ k)) (eg : g2 = upd g (srX σ k) v) : SWI σ kp g2 r k2 ∧ CH σ (r + 1) g2 := by
  subst e
  have sr := sr_root fd iv hk
  have u4 := ixi_4 iv
  have d := uwn_le (σ.2 39 (srX σ k)).toInt ((g (dsX σ k)).toInt - shX σ k)
  have en := uwn_neg (σ.2 39 (srX σ k)).toInt ((g (dsX σ k)).toInt - shX σ k)
  rw [show -((g (dsX σ k)).toInt - shX σ k) = -(g (dsX σ k)).toInt + shX σ k by omega] at en
  have up := RND_up (low2 := hwE σ g2) h.2 (show k < (σ.1 4).toInt.toNat by omega) trivial ⟨k, hk, rfl, rfl, rfl⟩ (root12 iv sr.1) (wkH_lt jf _) (by rw [hwE_r sr.1, hwE_r sr.2.1, wkH_r sr.1, ← en]; omega) (by rw [hwE_r sr.1, hwE_r sr.2.1, wkH_r sr.1, ← en, eg, upd_eq, ev]) (fun q hq => by
    unfold hwE
    rw [eg, upd_ne hq])
  have ux : ∀ x : Nat → Int, FSX σ kp x → x (srX σ k) ≤ uwn (σ.2 39 (srX σ k)).toInt ((g (dsX σ k)).toInt - shX σ k) := fun x hx => by
    have w := (jf _ sr.1).1
    refine uwn_ge (by omega) ?_ ((jf _ sr.1).2.2.1 x hx).2.2
    have q := FSX_bd fd iv hx hk hp
    have := (h.1 _ sr.2.1).2.2.2 x hx
    omega
  refine ⟨⟨fun j hj => ?_, up.1⟩, ⟨_, up.2⟩⟩
  rw [eg]
  by_cases c : j = srX σ k
  · rw [c, upd_eq, ev]
    rw [c] at hj
    have b := h.1 _ hj
    have w := (jf _ hj).1
    have y := lo_0 jf hx0 hj
    have z := ux x hx0
    exact ⟨by omega, by omega, fun q => uwn_w q (by omega), ux⟩
  · rw [upd_ne c]
    exact h.1 j hj
theorem SWI_next {σ : ST} {kp : Nat → Prop} {g : Nat → Int32} {r k r2 : Nat} (iv : IV σ) (h : SWI σ kp g r k) (ek : (k : Int) = (σ.1 4).toInt) (e : r2 = r + 1) : SWI σ kp g r2 0 := by
  subst e
  have e2 : (σ.1 4).toInt.toNat = k := by omega
  have h2 := h.2
  unfold SN at h2
  rw [e2] at h2
  refine ⟨h.1, ?_⟩
  unfold SN
  rw [e2]
  exact RND_next h2
theorem CH_no {σ : ST} {kp : Nat → Prop} {g : Nat → Int32} {r r2 k : Nat} {x : Nat → Int} (iv : IV σ) (fd : FDX σ) (jf : JF kp σ) (ka : ∀ k : Nat, (k : Int) < (σ.1 4).toInt → kp k) (h : SWI σ kp g r2 k) (c : CH σ r g) (hr : 48 ≤ r) (hx : FSX σ kp x) : False := by
  obtain ⟨u, n, hn, ch⟩ := c
  refine CHN_no (x := fun u => if ROOT σ u then - x u else 0) ch (by omega) (fun u _ => wkH_lt jf u) (fun a c s he => ?_) (fun u _ hw => ?_) (fun u _ => ?_)
  · obtain ⟨k, hk, rfl, rfl, rfl⟩ := he
    have sr := sr_root fd iv hk
    show (if ROOT σ (dsX σ k) then - x (dsX σ k) else 0) + shX σ k ≤ (if ROOT σ (srX σ k) then - x (srX σ k) else 0)
    rw [if_pos sr.1, if_pos sr.2.1]
    have := FSX_bd fd iv hx hk (ka k hk)
    omega
  · show (if ROOT σ u then - x u else 0) % 7 = _
    by_cases z : ROOT σ u
    · rw [wkH_r z] at hw ⊢
      rw [if_pos z]
      have w0 := wkN_0 hw
      have := (jf u z).1
      exact modN w0 (by omega) (((jf u z).2.2.1 x hx).2.2 w0)
    · exfalso
      unfold wkH wkN wkE at hw
      rw [if_neg z] at hw
      omega
  · show hwE σ g u ≤ (if ROOT σ u then - x u else 0)
    by_cases z : ROOT σ u
    · rw [hwE_r z, if_pos z]
      have := (h.1 u z).2.2.2 x hx
      omega
    · unfold hwE
      rw [if_neg z, if_neg z]
      exact Int.le_refl _
theorem HLH_s {σ : ST} {g : Nat → Int32} {k k2 : Nat} (h : HLH σ g k) (e : k2 = k + 1) (hs : (g (srX σ k)).toInt + shX σ k ≤ (g (dsX σ k)).toInt) : HLH σ g k2 := fun e1 h1 h2 => by
  subst e
  by_cases c : e1 = k
  · rw [c]
    exact hs
  · exact h e1 (by omega) h2
/-- highs are the greatest there may be -/
def JH (σ : ST) (kp : Nat → Prop) (g : Nat → Int32) : Prop := HWI σ kp g ∧ ∀ k : Nat, (k : Int) < (σ.1 4).toInt → (g (srX σ k)).toInt + shX σ k ≤ (g (dsX σ k)).toInt
theorem JH_FS {σ : ST} {kp : Nat → Prop} {g : Nat → Int32} {x : Nat → Int} (fd : FDX σ) (jf : JF kp σ) (hx : FSX σ kp x) (h : JH σ kp g) : FSX σ kp (fun i => (g (rtX σ i)).toInt) := FSX_of (y := fun i => (g i).toInt) fd (fun i hi => by
  have r := fd.1 i hi
  have a := h.1 _ r
  have b := (jf _ r).2.2.2 i hi rfl
  have c1 := (hx.1 i hi).1
  rw [FSX_rt hx hi] at c1
  have c2 := a.2.2.2 x hx
  refine ⟨by omega, by omega, fun w => ?_⟩
  have c := b.2.2 w
  rw [← c]
  exact a.2.2.1 (by omega)) (fun k hk _ => h.2 k hk)
set_option maxHeartbeats 4000000 in
set_option maxRecDepth 100000 in
theorem f_X0_sinkHighs (l : Launch) (L : WL) (σ : ST)  {kp : Nat → Prop} {x : Nat → Int} (ix : IV σ) (fd : FDX σ) (rt : RTS σ) (jf : JF kp σ) (ka : ∀ k : Nat, (k : Int) < (σ.1 4).toInt → kp k) (hx : FSX σ kp x) : CtV l L yX0_sinkHighs cX0_sinkHighs 4 none rm_X0_sinkHighs [.ref (L.2.1 3)] σ (fun σ2 => WXs σ σ2 ∧ JH σ kp (σ2.2 34)) := by
  refine ctV_go (own := RX0) (by decide) rfl (Nat.le_of_ble_eq_true rfl) (fun F hF => ?_)
  subst hF
  have n0 : (0 : Int32).toInt = 0 := by decide
  have n1 : (1 : Int32).toInt = 1 := by decide
  have n50 : (50 : Int32).toInt = 50 := by decide
  have w0 : WXs σ σ := WXs_rfl ix
  have u4 := ixi_4 ix
  refine go_iconst (v := 1) (pc' := 1) dX0_sinkHighs_0 rfl (by decide) ?_
  refine go_istore_n (i := 1) (pc' := 2) dX0_sinkHighs_1 rfl rfl (by decide) ?_
  refine go_iconst (v := 0) (pc' := 3) dX0_sinkHighs_2 rfl (by decide) ?_
  refine go_istore_n (i := 2) (pc' := 4) dX0_sinkHighs_3 rfl rfl (by decide) ?_
  have loop4_1 : ∀ (dd1 : Nat) (σ1 : ST) (x1_1 : Int32) (x2_1 : Int32), WXs σ σ1 → (0 ≤ (x2_1).toInt ∧ (x2_1).toInt ≤ 50) → ((x1_1).toInt = 0 ∨ (x1_1).toInt = 1) → (SWI σ kp (σ1.2 34) (x2_1).toInt.toNat 0) → ((x1_1).toInt = 0 → HLH σ (σ1.2 34) 20) → ((x1_1).toInt = 1 → 1 ≤ (x2_1).toInt → CH σ (x2_1).toInt.toNat (σ1.2 34)) → (50 - (x2_1).toInt).toNat = dd1 → Go F L RX0 cX0_sinkHighs 4 rm_X0_sinkHighs none (RV F L (fun σ2 => WXs σ σ2 ∧ JH σ kp (σ2.2 34))) σ1 4 [(0, .ref (L.2.1 3)), (1, .int x1_1), (2, .int x2_1)] [] := by
    intro dd1
    induction dd1 using Nat.strongRecOn with
    | _ dd1 ih1 =>
      intro σ1 x1_1 x2_1 w1 h_1 hb_1 hR_1 hz_1 ho_1 hm_1
      refine go_iload_n (i := 2) (pc' := 5) dX0_sinkHighs_4 rfl rfl rfl ?_
      refine go_bipush (v := 50) (pc' := 7) dX0_sinkHighs_5 rfl (by decide) ?_
      refine gz_icmp_ge (tgt := 48) (pc' := 10) dX0_sinkHighs_7 rfl (by decide) (fun c2 => ?_) (fun c2 => ?_)
      · exact go_vret dX0_sinkHighs_48 rfl (by
            rcases hb_1 with z | z
            · exact ⟨w1, hR_1.1, fun k hk => hz_1 z k (by omega) hk⟩
            · exact absurd hx (fun hx => CH_no ix fd jf ka hR_1 (ho_1 z (by omega)) (by omega) hx))
      refine go_iload_n (i := 1) (pc' := 11) dX0_sinkHighs_10 rfl rfl rfl ?_
      refine gz_if_eq (tgt := 48) (pc' := 14) dX0_sinkHighs_11 rfl (by decide) (fun c3 => ?_) (fun c3 => ?_)
      · exact go_vret dX0_sinkHighs_48 rfl (by
            rcases hb_1 with z | z
            · exact ⟨w1, hR_1.1, fun k hk => hz_1 z k (by omega) hk⟩
            · exact absurd hx (fun hx => CH_no ix fd jf ka hR_1 (ho_1 z (by omega)) (by omega) hx))
      refine go_iconst (v := 0) (pc' := 15) dX0_sinkHighs_14 rfl (by decide) ?_
      refine go_istore_n (i := 1) (pc' := 16) dX0_sinkHighs_15 rfl rfl (by decide) ?_
      refine go_iconst (v := 0) (pc' := 17) dX0_sinkHighs_16 rfl (by decide) ?_
      refine go_istore_n (i := 3) (pc' := 18) dX0_sinkHighs_17 rfl rfl (by decide) ?_
      have loop18_4 : ∀ (dd4 : Nat) (σ4 : ST) (x1_4 : Int32) (x3_4 : Int32), WXs σ σ4 → (0 ≤ (x3_4).toInt ∧ (x3_4).toInt ≤ (σ.1 4).toInt) → ((x1_4).toInt = 0 ∨ (x1_4).toInt = 1) → (SWI σ kp (σ4.2 34) (x2_1).toInt.toNat (x3_4).toNatClampNeg) → ((x1_4).toInt = 0 → HLH σ (σ4.2 34) (x3_4).toNatClampNeg) → ((x1_4).toInt = 1 → CH σ ((x2_1).toInt.toNat + 1) (σ4.2 34)) → (20 - (x3_4).toInt).toNat = dd4 → Go F L RX0 cX0_sinkHighs 4 rm_X0_sinkHighs none (RV F L (fun σ2 => WXs σ σ2 ∧ JH σ kp (σ2.2 34))) σ4 18 [(0, .ref (L.2.1 3)), (1, .int x1_4), (2, .int x2_1), (3, .int x3_4)] [] := by
        intro dd4
        induction dd4 using Nat.strongRecOn with
        | _ dd4 ih4 =>
          intro σ4 x1_4 x3_4 w4 h_4 hb_4 hR_4 hz_4 ho_4 hm_4
          refine go_iload_n (i := 3) (pc' := 19) dX0_sinkHighs_18 rfl rfl rfl ?_
          refine go_aload_n (i := 0) (pc' := 20) dX0_sinkHighs_19 rfl rfl rfl ?_
          refine gf_3_size (pc' := 23) dX0_sinkHighs_20 rfl fl_X0_20 ?_
          have g5 := ixi_4 w4.1
          refine gz_icmp_ge (tgt := 42) (pc' := 26) dX0_sinkHighs_23 rfl (by decide) (fun c6 => ?_) (fun c6 => ?_)
          · have c5 := cnat (x := x3_4) (by omega)
            have sdo := WXs_SD w4
            have k4o := congrArg Int32.toInt sdo.2.1
            refine gz_iinc (c := 1) (pc' := 45) dX0_sinkHighs_42 rfl rfl (by decide) (by decide) (by decide) (by omega) (fun v7 h7 e7 => ?_)
            refine go_goto (tgt := 4) dX0_sinkHighs_45 (by decide) ?_
            exact go_lv (lv' := [(0, .ref (L.2.1 3)), (1, .int x1_4), (2, .int v7)]) rfl (ih1 _ (by omega) σ4 x1_4 v7 w4 (by omega) (by omega) (SWI_next ix hR_4 (by omega) (by omega)) (fun z e h1 h2 => hz_4 z e (by omega) h2) (fun z _ => by rw [show (v7).toInt.toNat = (x2_1).toInt.toNat + 1 from by omega]; exact ho_4 z) rfl)
          have sd := WXs_SD w4
          have c5 := cnat (x := x3_4) (by omega)
          have e38 : σ4.2 38 = σ.2 38 := w4.2.2 38 (by decide)
          have e39 : σ4.2 39 = σ.2 39 := w4.2.2 39 (by decide)
          have k4 := congrArg Int32.toInt sd.2.1
          have rb := RB_of (k := x3_4) sd ix fd rt e38 e39 (by omega)
          have sr := sr_root fd ix (k := (x3_4).toNatClampNeg) (by omega)
          have hkp := ka (x3_4).toNatClampNeg (by omega)
          have b1 := hR_4.1 _ sr.2.1
          have b2 := (jf _ sr.2.1).1
          have b3 := (jf _ sr.1).1
          refine go_aload_n (i := 0) (pc' := 27) dX0_sinkHighs_26 rfl rfl rfl ?_
          refine go_iload_n (i := 3) (pc' := 28) dX0_sinkHighs_27 rfl rfl rfl ?_
          refine go_cvi (pc' := 31) lk_X0_100 (f_X0_sinkBy _ _ _ _ (by omega) (by rw [rb.2.1]; omega) (by rw [rb.1, e39]; omega) w4.1) rfl rfl (Nat.le_of_ble_eq_true rfl) (by decide) rfl rfl rfl ⟨Nat.le_of_ble_eq_true rfl, Nat.le_of_ble_eq_true rfl⟩ ⟨rfl, rfl⟩ dX0_sinkHighs_28 rfl (fun r8 σ8 h8 => ?_)
          have w8 := WXs_trans w4 ((fun z => SB_WX w4.1 z) h8)
          have rbh := h8
          rw [rb.1, rb.2.1, rb.2.2] at rbh
          refine gz_if_eq (tgt := 36) (pc' := 34) dX0_sinkHighs_31 rfl (by decide) (fun c9 => ?_) (fun c9 => ?_)
          · have st36 : (∀ k2 : Nat, k2 = (x3_4).toNatClampNeg + 1 → SWI σ kp (σ8.2 34) (x2_1).toInt.toNat k2) ∧ ((x1_4).toInt = 0 → ∀ k2 : Nat, k2 = (x3_4).toNatClampNeg + 1 → HLH σ (σ8.2 34) k2) ∧ ((x1_4).toInt = 1 → CH σ ((x2_1).toInt.toNat + 1) (σ8.2 34)) := by
              first
              | exact ⟨fun k2 e => (up k2 e).1, fun z => by exfalso; omega, fun _ => (up _ rfl).2⟩
              | (have q := Or.resolve_right rbh (fun q => by have q1 := q.1; clear q; omega)
                 rw [e39] at q
                 have d := uwn_le (σ.2 39 (srX σ (x3_4).toNatClampNeg)).toInt ((σ4.2 34 (dsX σ (x3_4).toNatClampNeg)).toInt - shX σ (x3_4).toNatClampNeg)
                 rw [q.2.1]
                 exact ⟨fun k2 e => SWI_skip ix fd hR_4 e (by omega) (by have := q.2.2; omega), fun z k2 e => HLH_s (hz_4 z) e (by have := q.2.2; omega), ho_4⟩)
            refine gz_iinc (c := 1) (pc' := 39) dX0_sinkHighs_36 rfl rfl (by decide) (by decide) (by decide) (by omega) (fun v10 h10 e10 => ?_)
            refine go_goto (tgt := 18) dX0_sinkHighs_39 (by decide) ?_
            exact go_lv (lv' := [(0, .ref (L.2.1 3)), (1, .int x1_4), (2, .int x2_1), (3, .int v10)]) rfl (ih4 _ (by omega) σ8 x1_4 v10 w8 (by omega) (by omega) (st36.1 _ (by have cv := cnat (x := v10) (by omega); omega)) (fun z => st36.2.1 z _ (by have cv := cnat (x := v10) (by omega); omega)) st36.2.2 rfl)
          obtain ⟨-, mz, v, ev, es⟩ := Or.resolve_left rbh (fun q => c9 q.1)
          rw [e39] at mz ev
          have up : ∀ k2 : Nat, k2 = (x3_4).toNatClampNeg + 1 → SWI σ kp (σ8.2 34) (x2_1).toInt.toNat k2 ∧ CH σ ((x2_1).toInt.toNat + 1) (σ8.2 34) := fun k2 e => SWI_up (v := v) ix fd jf hx hR_4 e (by omega) hkp mz ev (by rw [es]; exact setA_same _ _ _ _)
          refine go_iconst (v := 1) (pc' := 35) dX0_sinkHighs_34 rfl (by decide) ?_
          refine go_istore_n (i := 1) (pc' := 36) dX0_sinkHighs_35 rfl rfl (by decide) ?_
          have st36 : (∀ k2 : Nat, k2 = (x3_4).toNatClampNeg + 1 → SWI σ kp (σ8.2 34) (x2_1).toInt.toNat k2) ∧ (((1 : Int32)).toInt = 0 → ∀ k2 : Nat, k2 = (x3_4).toNatClampNeg + 1 → HLH σ (σ8.2 34) k2) ∧ (((1 : Int32)).toInt = 1 → CH σ ((x2_1).toInt.toNat + 1) (σ8.2 34)) := by
            first
            | exact ⟨fun k2 e => (up k2 e).1, fun z => by exfalso; omega, fun _ => (up _ rfl).2⟩
            | (have q := Or.resolve_right rbh (fun q => by have q1 := q.1; clear q; omega)
               rw [e39] at q
               have d := uwn_le (σ.2 39 (srX σ (x3_4).toNatClampNeg)).toInt ((σ4.2 34 (dsX σ (x3_4).toNatClampNeg)).toInt - shX σ (x3_4).toNatClampNeg)
               rw [q.2.1]
               exact ⟨fun k2 e => SWI_skip ix fd hR_4 e (by omega) (by have := q.2.2; omega), fun z k2 e => HLH_s (hz_4 z) e (by have := q.2.2; omega), ho_4⟩)
          refine gz_iinc (c := 1) (pc' := 39) dX0_sinkHighs_36 rfl rfl (by decide) (by decide) (by decide) (by omega) (fun v11 h11 e11 => ?_)
          refine go_goto (tgt := 18) dX0_sinkHighs_39 (by decide) ?_
          exact go_lv (lv' := [(0, .ref (L.2.1 3)), (1, .int (1 : Int32)), (2, .int x2_1), (3, .int v11)]) rfl (ih4 _ (by omega) σ8 (1 : Int32) v11 w8 (by omega) (by omega) (st36.1 _ (by have cv := cnat (x := v11) (by omega); omega)) (fun z => st36.2.1 z _ (by have cv := cnat (x := v11) (by omega); omega)) st36.2.2 rfl)
      exact go_lv (lv' := [(0, .ref (L.2.1 3)), (1, .int (0 : Int32)), (2, .int x2_1), (3, .int (0 : Int32))]) rfl (loop18_4 _ σ1 (0 : Int32) (0 : Int32) w1 (by omega) (by omega) (by rw [show (0 : Int32).toNatClampNeg = 0 from rfl]; exact hR_1) (fun _ e he => by exfalso; rw [show (0 : Int32).toNatClampNeg = 0 from rfl] at he; omega) (fun z => by exfalso; omega) rfl)
  exact go_lv (lv' := [(0, .ref (L.2.1 3)), (1, .int (1 : Int32)), (2, .int (0 : Int32))]) rfl (loop4_1 _ σ (1 : Int32) (0 : Int32) w0 (by omega) (by omega) (by rw [n0]; exact SWI_0 ix fd jf hx) (fun z => by exfalso; omega) (fun _ z => by exfalso; omega) rfl)
