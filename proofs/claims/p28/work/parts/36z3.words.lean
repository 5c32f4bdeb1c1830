theorem sh_upd {A A2 : Nat → Int32} {b k ix : Nat} {v : Int32} (e : A2 = upd A ix v) (h : ix = b + k) : (fun i => A2 (b + i)) = upd (fun i => A (b + i)) k v := by
  funext i
  rw [e]
  subst h
  by_cases z : i = k
  · rw [z, upd_eq]
    exact (upd_eq (fun i => A (b + i)) k v).symm
  · rw [upd_ne (by omega), upd_ne (f := fun i => A (b + i)) z]
theorem sh_out {A A2 o : Nat → Int32} {b ix : Nat} {v : Int32} (h : ∀ q : Nat, q < b ∨ b + 160 ≤ q → A q = o q) (e : A2 = upd A ix v) (h1 : b ≤ ix) (h2 : ix < b + 160) : ∀ q : Nat, q < b ∨ b + 160 ≤ q → A2 q = o q := fun q hq => by
  rw [e, upd_ne (by omega)]
  exact h q hq
theorem wN_le2 (P : Nat → Int) (i : Nat) : wN P i ≤ i := by
  have := (wN_le P i).1
  by_cases h : i = 0
  · rw [h]
    exact Nat.le_refl 0
  · omega
/-- the reference's rows of WORDS from place b on hold those of a list -/
def WRM (L : List Int) (s : ST) (b : Nat) : Prop := WDp (lsP L) L.length (wN (lsP L) L.length : Int) (fun i => s.2 127 (b + i)) (fun i => s.2 128 (b + i)) ∧ ∀ j : Nat, j < L.length → (s.2 126 (b + j)).toInt = lsP L j
theorem WRM_e {L : List Int} {s s2 : ST} {b : Nat} (h : WRM L s b) (e6 : ∀ q : Nat, b ≤ q → q < b + 160 → s2.2 126 q = s.2 126 q) (e7 : ∀ q : Nat, b ≤ q → q < b + 160 → s2.2 127 q = s.2 127 q) (e8 : ∀ q : Nat, b ≤ q → q < b + 160 → s2.2 128 q = s.2 128 q) (hl : L.length ≤ 160) : WRM L s2 b := by
  have wl := wN_le2 (lsP L) L.length
  refine ⟨⟨rfl, fun j hj => ?_⟩, fun j hj => ?_⟩
  · have z := h.1.2 j hj
    show (s2.2 127 (b + j)).toInt = _ ∧ (s2.2 128 (b + j)).toInt = _
    rw [e7 _ (by omega) (by omega), e8 _ (by omega) (by omega)]
    exact z
  · rw [e6 _ (by omega) (by omega)]
    exact h.2 j hj
def smM (σ : ST) (i j : Nat) : Prop := smP (fun k => (σ.2 126 k).toInt) (σ.2 127 i).toNatClampNeg (σ.2 128 i).toNatClampNeg (fun k => (σ.2 126 (160 + k)).toInt) (σ.2 127 (160 + j)).toNatClampNeg (σ.2 128 (160 + j)).toNatClampNeg
theorem FUM_q {σ σ2 : ST} (h : WM σ σ2) (l : Nat) (dy wy : Int) : FUM σ2 l dy wy = FUM σ l dy wy := by
  unfold FUM lrT
  rw [h.2.2 110 (by decide), h.2.2 109 (by decide)]
def tM_words (σ : ST) (a r : Int32) (σ2 : ST) : Prop := WM σ σ2 ∧ ((¬ (0 ≤ a.toInt ∧ a.toInt < (σ.1 20).toInt) ∧ r = -2) ∨ ((0 ≤ a.toInt ∧ a.toInt < (σ.1 20).toInt) ∧ r.toInt = (wN (lsP (FUM σ (a).toNatClampNeg 9999 0)) (FUM σ (a).toNatClampNeg 9999 0).length : Int)))
def tM_differ (σ : ST) (a b r : Int32) (σ2 : ST) : Prop := WM σ σ2 ∧ ((¬ ((0 ≤ a.toInt ∧ a.toInt < (σ.1 20).toInt) ∧ (0 ≤ b.toInt ∧ b.toInt < (σ.1 20).toInt)) ∧ r = -2) ∨ (((0 ≤ a.toInt ∧ a.toInt < (σ.1 20).toInt) ∧ (0 ≤ b.toInt ∧ b.toInt < (σ.1 20).toInt)) ∧ r.toInt = (DIF (FUM σ (a).toNatClampNeg 9999 0) (FUM σ (b).toNatClampNeg 9999 0) : Int)))
theorem dq_step {s : Nat → Nat → Prop} {I J : Nat} {B C2 : Nat → Int32} {x x2 v : Int32} {ix : Nat} (hb : ∀ q : Nat, (q : Int) < x.toInt → (B q).toInt = (dl s I q : Int)) (e : C2 = upd B ix v) (hix : ix = J) (hJ : (J : Int) = x.toInt) (hx : x2.toInt = x.toInt + 1) (hv : v.toInt = (dl s I J : Int)) : ∀ q : Nat, (q : Int) < x2.toInt → (C2 q).toInt = (dl s I q : Int) := fun q hq => by
  subst hix
  rw [e]
  by_cases z : q = ix
  · rw [z, upd_eq]
    exact hv
  · rw [upd_ne z]
    exact hb q (by omega)
set_option maxHeartbeats 4000000 in
set_option maxRecDepth 100000 in
theorem e_X12_findWords (l : Launch) (L : WL) (σ : ST) (a sx : Int32) (ha : 0 ≤ a.toInt ∧ a.toInt < 12) (hs : 0 ≤ sx.toInt ∧ sx.toInt < 2) (ix : IV σ) (tv : TV σ) : CtV l L yX12_findWords cX12_findWords 6 none rm_X12_findWords [.ref (L.2.1 13), .int a, .int sx] σ (fun σ2 => WM σ σ2 ∧ WRM (FUM σ (a).toNatClampNeg 9999 0) σ2 (160 * (sx).toNatClampNeg) ∧ (FUM σ (a).toNatClampNeg 9999 0).length ≤ 160 ∧ (σ2.2 129 (sx).toNatClampNeg).toInt = (wN (lsP (FUM σ (a).toNatClampNeg 9999 0)) (FUM σ (a).toNatClampNeg 9999 0).length : Int) ∧ (∀ q : Nat, q ≠ (sx).toNatClampNeg → σ2.2 129 q = σ.2 129 q) ∧ ∀ q : Nat, q < (160 * (sx).toNatClampNeg) ∨ (160 * (sx).toNatClampNeg) + 160 ≤ q → σ2.2 126 q = σ.2 126 q ∧ σ2.2 127 q = σ.2 127 q ∧ σ2.2 128 q = σ.2 128 q) := by
  refine ctV_go (own := RX12) (by decide) rfl (Nat.le_of_ble_eq_true rfl) (fun F hF => ?_)
  subst hF
  have n0 : (0 : Int32).toInt = 0 := by decide
  have n1 : (1 : Int32).toInt = 1 := by decide
  have n97 : (97 : Int32).toInt = 97 := by decide
  have n160 : (160 : Int32).toInt = 160 := by decide
  have n9999 : (9999 : Int32).toInt = 9999 := by decide
  have w0 : WM σ σ := WM_rfl ix
  have cs := cnat hs.1
  have ca := cnat ha.1
  have z0 : (0 : Int32).toNatClampNeg = 0 := rfl
  refine go_aload_n (i := 0) (pc' := 1) dX12_findWords_0 rfl rfl rfl ?_
  refine go_iload_n (i := 1) (pc' := 2) dX12_findWords_1 rfl rfl rfl ?_
  refine go_sipush (v := 9999) (pc' := 5) dX12_findWords_2 rfl (by decide) ?_
  refine go_iconst (v := 0) (pc' := 6) dX12_findWords_5 rfl (by decide) ?_
  refine go_cvv (pc' := 9) lk_X12_263 (e_X12_prints _ _ _ _ _ _ (by omega) (Or.inl n0) w0.1 (TV_q w0 tv)) rfl rfl (Nat.le_of_ble_eq_true rfl) (by decide) rfl rfl rfl ⟨Nat.le_of_ble_eq_true rfl, Nat.le_of_ble_eq_true rfl⟩ ⟨rfl, rfl⟩ dX12_findWords_6 rfl (fun σ1 h1 => ?_)
  obtain ⟨u1, h1⟩ := h1
  have w1 := WM_trans w0 (WM_of_o u1)
  have fu : outL (σ1.2 124) (σ1.1 29).toNatClampNeg = (FUM σ (a).toNatClampNeg 9999 0) := by
    have z := h1.1
    rw [n9999, n0] at z
    exact z
  have l160 := h1.2
  have fl := outL_len (σ1.2 124) (σ1.1 29).toNatClampNeg
  rw [fu] at fl
  have fs := outL_ls fu
  have fo := u1
  have g29 := ixi_29 w1.1
  have c29 := cnat (x := σ1.1 29) g29.1
  have pls := VT_pl (dy := 9999) (tv (a).toNatClampNeg (by omega))
  refine go_iconst (v := 0) (pc' := 10) dX12_findWords_9 rfl (by decide) ?_
  refine go_istore_n (i := 3) (pc' := 11) dX12_findWords_10 rfl rfl (by decide) ?_
  refine go_iconst (v := 0) (pc' := 12) dX12_findWords_11 rfl (by decide) ?_
  refine go_istore (pc' := 14) dX12_findWords_12 rfl (by decide) ?_
  have loop14_2 : ∀ (dd2 : Nat) (σ2 : ST) (x3_2 : Int32) (x4_2 : Int32), WM σ σ2 → (0 ≤ (x4_2).toInt ∧ (x4_2).toInt ≤ 160 ∧ (x4_2).toInt ≤ (σ1.1 29).toInt) → (σ2.1 29 = σ1.1 29) → (σ2.2 124 = σ1.2 124) → (σ2.2 129 = σ.2 129) → (WDp (lsP (FUM σ (a).toNatClampNeg 9999 0)) (x4_2).toNatClampNeg (x3_2).toInt (fun i => σ2.2 127 ((160 * (sx).toNatClampNeg) + i)) (fun i => σ2.2 128 ((160 * (sx).toNatClampNeg) + i))) → (∀ j : Nat, (j : Int) < (x4_2).toInt → (σ2.2 126 ((160 * (sx).toNatClampNeg) + j)).toInt = (lsP (FUM σ (a).toNatClampNeg 9999 0)) j) → (∀ q : Nat, q < (160 * (sx).toNatClampNeg) ∨ (160 * (sx).toNatClampNeg) + 160 ≤ q → σ2.2 126 q = σ.2 126 q) → (∀ q : Nat, q < (160 * (sx).toNatClampNeg) ∨ (160 * (sx).toNatClampNeg) + 160 ≤ q → σ2.2 127 q = σ.2 127 q) → (∀ q : Nat, q < (160 * (sx).toNatClampNeg) ∨ (160 * (sx).toNatClampNeg) + 160 ≤ q → σ2.2 128 q = σ.2 128 q) → (160 - (x4_2).toInt).toNat = dd2 → Go F L RX12 cX12_findWords 6 rm_X12_findWords none (RV F L (fun σ2 => WM σ σ2 ∧ WRM (FUM σ (a).toNatClampNeg 9999 0) σ2 (160 * (sx).toNatClampNeg) ∧ (FUM σ (a).toNatClampNeg 9999 0).length ≤ 160 ∧ (σ2.2 129 (sx).toNatClampNeg).toInt = (wN (lsP (FUM σ (a).toNatClampNeg 9999 0)) (FUM σ (a).toNatClampNeg 9999 0).length : Int) ∧ (∀ q : Nat, q ≠ (sx).toNatClampNeg → σ2.2 129 q = σ.2 129 q) ∧ ∀ q : Nat, q < (160 * (sx).toNatClampNeg) ∨ (160 * (sx).toNatClampNeg) + 160 ≤ q → σ2.2 126 q = σ.2 126 q ∧ σ2.2 127 q = σ.2 127 q ∧ σ2.2 128 q = σ.2 128 q)) σ2 14 [(0, .ref (L.2.1 13)), (1, .int a), (2, .int sx), (3, .int x3_2), (4, .int x4_2)] [] := by
    intro dd2
    induction dd2 using Nat.strongRecOn with
    | _ dd2 ih2 =>
      intro σ2 x3_2 x4_2 w2 h_2 hq9_2 h4_2 h9_2 hd_2 hb_2 o6_2 o7_2 o8_2 hm_2
      refine go_iload (pc' := 16) dX12_findWords_14 rfl rfl ?_
      refine go_aload_n (i := 0) (pc' := 17) dX12_findWords_16 rfl rfl rfl ?_
      refine gf_13_printMany (pc' := 20) dX12_findWords_17 rfl fl_X12_247 ?_
      have g3 := ixi_29 w2.1
      have k29 := congrArg Int32.toInt hq9_2
      refine gz_icmp_ge (tgt := 132) (pc' := 23) dX12_findWords_20 rfl (by decide) (fun c4 => ?_) (fun c4 => ?_)
      · have hsz := hd_2.1
        have wle := wN_le2 (lsP (FUM σ (a).toNatClampNeg 9999 0)) (x4_2).toNatClampNeg
        have c4 := cnat (x := x4_2) (by omega)
        have k29 := congrArg Int32.toInt hq9_2
        refine go_aload_n (i := 0) (pc' := 133) dX12_findWords_132 rfl rfl rfl ?_
        refine gf_13_wordMany (pc' := 136) dX12_findWords_133 rfl fl_X12_114 ?_
        refine go_iload_n (i := 2) (pc' := 137) dX12_findWords_136 rfl rfl rfl ?_
        refine go_iload_n (i := 3) (pc' := 138) dX12_findWords_137 rfl rfl rfl ?_
        refine go_iast (pc' := 139) dX12_findWords_138 rfl (by decide) (by decide) rfl (vin_of (n := 2) (by omega) (by omega)) ?_
        refine go_gen (P := fun s => WM σ s ∧ (∀ q : Nat, q ≠ 129 → s.2 q = σ2.2 q) ∧ s.2 129 = upd (σ2.2 129) (sx).toNatClampNeg x3_2) ⟨⟨ixt_129 w2.1 (by omega) (by omega), Ag_setA w2.2 (by decide)⟩, ⟨fun q hq => setA_ne (a := q) _ 129 _ _ hq, setA_same _ _ _ _⟩⟩ (fun σ5 z5 => ?_)
        obtain ⟨w5, g5⟩ := z5
        have gz := g5
        exact go_vret dX12_findWords_139 rfl (by
            have c4 := cnat (x := x4_2) (by omega)
            have k29 := congrArg Int32.toInt hq9_2
            have e4 : (x4_2).toNatClampNeg = (FUM σ (a).toNatClampNeg 9999 0).length := by rw [fl]; omega
            have hd := hd_2
            rw [e4] at hd
            have hn := hd.1
            refine ⟨w5, ⟨⟨rfl, fun j hj => ?_⟩, fun j hj => ?_⟩, by omega, ?_, fun q hq => ?_, fun q hq => ?_⟩
            · have z := hd.2 j hj
              show (σ5.2 127 _).toInt = _ ∧ (σ5.2 128 _).toInt = _
              rw [gz.1 127 (by decide), gz.1 128 (by decide)]
              exact z
            · rw [gz.1 126 (by decide)]
              exact hb_2 j (by omega)
            · rw [gz.2, upd_eq]
              exact hn
            · rw [gz.2, upd_ne hq, h9_2]
            · rw [gz.1 126 (by decide), gz.1 127 (by decide), gz.1 128 (by decide)]
              exact ⟨o6_2 q hq, o7_2 q hq, o8_2 q hq⟩)
      have c4 := cnat (x := x4_2) (by omega)
      have wle := wN_le2 (lsP (FUM σ (a).toNatClampNeg 9999 0)) (x4_2).toNatClampNeg
      have hsz := hd_2.1
      have pv : (σ2.2 124 (x4_2).toNatClampNeg).toInt = (lsP (FUM σ (a).toNatClampNeg 9999 0)) (x4_2).toNatClampNeg := by rw [h4_2]; exact fs _ (by omega)
      have plk : 97 ≤ (lsP (FUM σ (a).toNatClampNeg 9999 0)) (x4_2).toNatClampNeg → (lsP (FUM σ (a).toNatClampNeg 9999 0)) (x4_2).toNatClampNeg ≤ 122 := by
        have z : plainP ((lsP (FUM σ (a).toNatClampNeg 9999 0)) (x4_2).toNatClampNeg) := pls (x4_2).toNatClampNeg (by rw [show (prF (lrT σ (a).toNatClampNeg) (σ.2 109 (a).toNatClampNeg).toNatClampNeg 9999 0 200 0 0 (fun _ => 0) 0).length = (FUM σ (a).toNatClampNeg 9999 0).length from rfl, fl]; omega)
        intro q
        omega
      refine go_aload_n (i := 0) (pc' := 24) dX12_findWords_23 rfl rfl rfl ?_
      refine gf_13_signs (pc' := 27) dX12_findWords_24 rfl fl_X12_105 ?_
      refine go_sipush (v := 160) (pc' := 30) dX12_findWords_27 rfl (by decide) ?_
      refine go_iload_n (i := 2) (pc' := 31) dX12_findWords_30 rfl rfl rfl ?_
      refine gz_imulc (n := 160) (pc' := 32) dX12_findWords_31 rfl (by decide) (by omega) (fun v6 h6 e6 => ?_)
      refine go_iload (pc' := 34) dX12_findWords_32 rfl rfl ?_
      refine gz_iadd (pc' := 35) dX12_findWords_34 rfl (by omega) (fun v7 h7 e7 => ?_)
      have ez : (v7).toNatClampNeg = (160 * (sx).toNatClampNeg) + (x4_2).toNatClampNeg := by have cz := cnat (x := v7) (by omega); omega
      refine go_aload_n (i := 0) (pc' := 36) dX12_findWords_35 rfl rfl rfl ?_
      refine gf_13_print (pc' := 39) dX12_findWords_36 rfl fl_X12_99 ?_
      refine go_iload (pc' := 41) dX12_findWords_39 rfl rfl ?_
      refine go_iald (pc' := 42) dX12_findWords_41 rfl (by decide) (by decide) rfl (vin_of (n := 320) (by omega) (by omega)) ?_
      refine go_iast (pc' := 43) dX12_findWords_42 rfl (by decide) (by decide) rfl (vin_of (n := 320) (by omega) (by omega)) ?_
      refine go_gen (P := fun s => WM σ s ∧ s.1 29 = σ2.1 29 ∧ (∀ q : Nat, q ≠ 126 → s.2 q = σ2.2 q) ∧ s.2 126 = upd (σ2.2 126) (v7).toNatClampNeg (σ2.2 124 (x4_2).toNatClampNeg)) ⟨⟨ixt_n w2.1 (by decide), Ag_setA w2.2 (by decide)⟩, ⟨rfl, fun q hq => setA_ne (a := q) _ 126 _ _ hq, setA_same _ _ _ _⟩⟩ (fun σ8 z8 => ?_)
      obtain ⟨w8, g8⟩ := z8
      have ga := g8
      have gm8 := congrArg Int32.toInt ga.1
      have f124a : σ8.2 124 = σ1.2 124 := (ga.2.1 124 (by decide)).trans h4_2
      have pva : (σ8.2 124 (x4_2).toNatClampNeg).toInt = (lsP (FUM σ (a).toNatClampNeg 9999 0)) (x4_2).toNatClampNeg := by rw [f124a]; exact fs _ (by omega)
      refine go_aload_n (i := 0) (pc' := 44) dX12_findWords_43 rfl rfl rfl ?_
      refine gf_13_print (pc' := 47) dX12_findWords_44 rfl fl_X12_99 ?_
      refine go_iload (pc' := 49) dX12_findWords_47 rfl rfl ?_
      refine go_iald (pc' := 50) dX12_findWords_49 rfl (by decide) (by decide) rfl (vin_of (n := 320) (by omega) (by omega)) ?_
      refine go_bipush (v := 97) (pc' := 52) dX12_findWords_50 rfl (by decide) ?_
      refine gz_icmp_lt (tgt := 59) (pc' := 55) dX12_findWords_52 rfl (by decide) (fun c9 => ?_) (fun c9 => ?_)
      · refine go_iconst (v := 0) (pc' := 60) dX12_findWords_59 rfl (by decide) ?_
        refine go_istore (pc' := 62) dX12_findWords_60 rfl (by decide) ?_
        refine go_iload (pc' := 64) dX12_findWords_62 rfl rfl ?_
        refine gz_if_eq (tgt := 103) (pc' := 67) dX12_findWords_64 rfl (by decide) (fun c10 => ?_) (fun c10 => (by exfalso; omega))
        refine go_iload (pc' := 105) dX12_findWords_103 rfl rfl ?_
        refine gz_if_eq (tgt := 126) (pc' := 108) dX12_findWords_105 rfl (by decide) (fun c11 => ?_) (fun c11 => (by exfalso; omega))
        have f29 : σ8.1 29 = σ1.1 29 := by
          first
          | exact ge.1.trans (gs.1.trans (ga.1.trans hq9_2))
          | exact ge.1.trans (ga.1.trans hq9_2)
          | exact ga.1.trans hq9_2
        have f124 : σ8.2 124 = σ1.2 124 := by
          first
          | exact (ge.2.1 124 (by decide)).trans ((gs.2.1 124 (by decide)).trans f124a)
          | exact (ge.2.1 124 (by decide)).trans f124a
          | exact f124a
        have f129 : σ8.2 129 = σ.2 129 := by
          first
          | exact (ge.2.1 129 (by decide)).trans ((gs.2.1 129 (by decide)).trans ((ga.2.1 129 (by decide)).trans h9_2))
          | exact (ge.2.1 129 (by decide)).trans ((ga.2.1 129 (by decide)).trans h9_2)
          | exact (ga.2.1 129 (by decide)).trans h9_2
        have f126 : σ8.2 126 = upd (σ2.2 126) (v7).toNatClampNeg ((σ2.2 124 (x4_2).toNatClampNeg)) := by
          first
          | exact (ge.2.1 126 (by decide)).trans ((gs.2.1 126 (by decide)).trans ga.2.2)
          | exact (ge.2.1 126 (by decide)).trans ga.2.2
          | exact ga.2.2
        have fo6 : ∀ q : Nat, q < (160 * (sx).toNatClampNeg) ∨ (160 * (sx).toNatClampNeg) + 160 ≤ q → σ8.2 126 q = σ.2 126 q := sh_out o6_2 f126 (by omega) (by omega)
        have fo7 : ∀ q : Nat, q < (160 * (sx).toNatClampNeg) ∨ (160 * (sx).toNatClampNeg) + 160 ≤ q → σ8.2 127 q = σ.2 127 q := by
          first
          | (have z1 := ge.2.1 127 (by decide)
             rw [z1]
             exact sh_out (fun q hq => by rw [ga.2.1 127 (by decide)]; exact o7_2 q hq) gs.2.2 (by omega) (by omega))
          | (have z1 := ge.2.1 127 (by decide)
             exact (fun q hq => by rw [z1, ga.2.1 127 (by decide)]; exact o7_2 q hq))
          | exact (fun q hq => by rw [ga.2.1 127 (by decide)]; exact o7_2 q hq)
        have fo8 : ∀ q : Nat, q < (160 * (sx).toNatClampNeg) ∨ (160 * (sx).toNatClampNeg) + 160 ≤ q → σ8.2 128 q = σ.2 128 q := by
          first
          | exact sh_out (fun q hq => by rw [gs.2.1 128 (by decide), ga.2.1 128 (by decide)]; exact o8_2 q hq) ge.2.2 (by omega) (by omega)
          | exact sh_out (fun q hq => by rw [ga.2.1 128 (by decide)]; exact o8_2 q hq) ge.2.2 (by omega) (by omega)
          | exact (fun q hq => by rw [ga.2.1 128 (by decide)]; exact o8_2 q hq)
        have fWD : ∀ i2 : Nat, i2 = (x4_2).toNatClampNeg + 1 → WDp (lsP (FUM σ (a).toNatClampNeg 9999 0)) i2 (x3_2).toInt (fun i => σ8.2 127 ((160 * (sx).toNatClampNeg) + i)) (fun i => σ8.2 128 ((160 * (sx).toNatClampNeg) + i)) := by
          intro i2 ei
          first
          | (have z1 := sh_upd (b := (160 * (sx).toNatClampNeg)) (k := 0) gs.2.2 (by omega)
             have z2 := sh_upd (b := (160 * (sx).toNatClampNeg)) (k := 0) ge.2.2 (by omega)
             rw [ga.2.1 127 (by decide)] at z1
             rw [gs.2.1 128 (by decide), ga.2.1 128 (by decide)] at z2
             exact WD_new (k := 0) hd_2 hl hp ei (by omega) (by rw [ge.2.1 127 (by decide)]; exact z1) z2 (by omega) (by omega) (by omega))
          | (have z2 := sh_upd (b := (160 * (sx).toNatClampNeg)) (k := (x3_2).toNatClampNeg - 1) ge.2.2 (by omega)
             rw [ga.2.1 128 (by decide)] at z2
             exact WD_in (k := (x3_2).toNatClampNeg - 1) hd_2 ⟨by omega, by omega⟩ ⟨by omega, by omega, by omega⟩ ei rfl (by rw [ge.2.1 127 (by decide), ga.2.1 127 (by decide)]) z2 (by omega) (by omega))
          | exact WD_no hd_2 (fun q => by have q1 := q.1; omega) ei rfl (by rw [ga.2.1 127 (by decide)]) (by rw [ga.2.1 128 (by decide)])
        refine gz_iinc (c := 1) (pc' := 129) dX12_findWords_126 rfl rfl (by decide) (by decide) (by decide) (by omega) (fun v12 h12 e12 => ?_)
        refine go_goto (tgt := 14) dX12_findWords_129 (by decide) ?_
        exact go_lv (lv' := [(0, .ref (L.2.1 13)), (1, .int a), (2, .int sx), (3, .int x3_2), (4, .int v12)]) rfl (ih2 _ (by omega) σ8 x3_2 v12 w8 (by omega) f29 f124 f129 (fWD _ (by have cv := cnat (x := v12) (by omega); omega)) (all_step (P := fun j => (σ8.2 126 ((160 * (sx).toNatClampNeg) + j)).toInt = (lsP (FUM σ (a).toNatClampNeg 9999 0)) j) (x := x4_2) (fun j hj => by rw [f126, upd_ne (by omega)]; exact hb_2 j hj) (by omega) (by omega) (by rw [f126, ← ez, upd_eq]; exact pv)) fo6 fo7 fo8 rfl)
      refine go_iconst (v := 1) (pc' := 56) dX12_findWords_55 rfl (by decide) ?_
      refine go_goto (tgt := 60) dX12_findWords_56 (by decide) ?_
      refine go_istore (pc' := 62) dX12_findWords_60 rfl (by decide) ?_
      refine go_iload (pc' := 64) dX12_findWords_62 rfl rfl ?_
      refine gz_if_eq (tgt := 103) (pc' := 67) dX12_findWords_64 rfl (by decide) (fun c13 => (by exfalso; omega)) (fun c13 => ?_)
      refine go_iload (pc' := 69) dX12_findWords_67 rfl rfl ?_
      refine gz_if_eq (tgt := 86) (pc' := 72) dX12_findWords_69 rfl (by decide) (fun c14 => ?_) (fun c14 => ?_)
      · have hl : isLP ((lsP (FUM σ (a).toNatClampNeg 9999 0)) (x4_2).toNatClampNeg) := by omega
        have hp : ¬ prL (lsP (FUM σ (a).toNatClampNeg 9999 0)) (x4_2).toNatClampNeg := by
          intro q
          have q1 := q.1
          have q2 := q.2
          omega
        refine go_aload_n (i := 0) (pc' := 87) dX12_findWords_86 rfl rfl rfl ?_
        refine gf_13_begins (pc' := 90) dX12_findWords_87 rfl fl_X12_108 ?_
        refine go_sipush (v := 160) (pc' := 93) dX12_findWords_90 rfl (by decide) ?_
        refine go_iload_n (i := 2) (pc' := 94) dX12_findWords_93 rfl rfl rfl ?_
        refine gz_imulc (n := 160) (pc' := 95) dX12_findWords_94 rfl (by decide) (by omega) (fun v15 h15 e15 => ?_)
        refine go_iload_n (i := 3) (pc' := 96) dX12_findWords_95 rfl rfl rfl ?_
        refine gz_iadd (pc' := 97) dX12_findWords_96 rfl (by omega) (fun v16 h16 e16 => ?_)
        have c3 := cnat (x := x3_2) (by omega)
        have eb : (v16).toNatClampNeg = (160 * (sx).toNatClampNeg) + (x3_2).toNatClampNeg := by have cz := cnat (x := v16) (by omega); omega
        refine go_iload (pc' := 99) dX12_findWords_97 rfl rfl ?_
        refine go_iast (pc' := 100) dX12_findWords_99 rfl (by decide) (by decide) rfl (vin_of (n := 320) (by omega) (by omega)) ?_
        refine go_gen (P := fun s => WM σ s ∧ s.1 29 = σ8.1 29 ∧ (∀ q : Nat, q ≠ 127 → s.2 q = σ8.2 q) ∧ s.2 127 = upd (σ8.2 127) (v16).toNatClampNeg x4_2) ⟨⟨ixt_127 w8.1 (by omega) (by omega), Ag_setA w8.2 (by decide)⟩, ⟨rfl, fun q hq => setA_ne (a := q) _ 127 _ _ hq, setA_same _ _ _ _⟩⟩ (fun σ17 z17 => ?_)
        obtain ⟨w17, g17⟩ := z17
        have gs := g17
        have gm17 := congrArg Int32.toInt gs.1
        refine gz_iinc (c := 1) (pc' := 103) dX12_findWords_100 rfl rfl (by decide) (by decide) (by decide) (by omega) (fun v18 h18 e18 => ?_)
        refine go_iload (pc' := 105) dX12_findWords_103 rfl rfl ?_
        refine gz_if_eq (tgt := 126) (pc' := 108) dX12_findWords_105 rfl (by decide) (fun c19 => (by exfalso; omega)) (fun c19 => ?_)
        have w3 : 1 ≤ (v18).toInt := by
          first
          | omega
          | (have w1 := wN_pos (P := (lsP (FUM σ (a).toNatClampNeg 9999 0))) (i := (x4_2).toNatClampNeg) ⟨by omega, by omega, by omega⟩
             omega)
        have c3n := cnat (x := v18) (by omega)
        refine go_aload_n (i := 0) (pc' := 109) dX12_findWords_108 rfl rfl rfl ?_
        refine gf_13_ends (pc' := 112) dX12_findWords_109 rfl fl_X12_111 ?_
        refine go_sipush (v := 160) (pc' := 115) dX12_findWords_112 rfl (by decide) ?_
        refine go_iload_n (i := 2) (pc' := 116) dX12_findWords_115 rfl rfl rfl ?_
        refine gz_imulc (n := 160) (pc' := 117) dX12_findWords_116 rfl (by decide) (by omega) (fun v20 h20 e20 => ?_)
        refine go_iload_n (i := 3) (pc' := 118) dX12_findWords_117 rfl rfl rfl ?_
        refine gz_iadd (pc' := 119) dX12_findWords_118 rfl (by omega) (fun v21 h21 e21 => ?_)
        refine go_iconst (v := 1) (pc' := 120) dX12_findWords_119 rfl (by decide) ?_
        refine gz_isub (pc' := 121) dX12_findWords_120 rfl (by omega) (fun v22 h22 e22 => ?_)
        have ee : (v22).toNatClampNeg = (160 * (sx).toNatClampNeg) + ((v18).toNatClampNeg - 1) := by have cz := cnat (x := v22) (by omega); omega
        refine go_iload (pc' := 123) dX12_findWords_121 rfl rfl ?_
        refine go_iconst (v := 1) (pc' := 124) dX12_findWords_123 rfl (by decide) ?_
        refine gz_iadd (pc' := 125) dX12_findWords_124 rfl (by omega) (fun v23 h23 e23 => ?_)
        refine go_iast (pc' := 126) dX12_findWords_125 rfl (by decide) (by decide) rfl (vin_of (n := 320) (by omega) (by omega)) ?_
        refine go_gen (P := fun s => WM σ s ∧ s.1 29 = σ17.1 29 ∧ (∀ q : Nat, q ≠ 128 → s.2 q = σ17.2 q) ∧ s.2 128 = upd (σ17.2 128) (v22).toNatClampNeg v23) ⟨⟨ixt_128 w17.1 (by omega) (by omega), Ag_setA w17.2 (by decide)⟩, ⟨rfl, fun q hq => setA_ne (a := q) _ 128 _ _ hq, setA_same _ _ _ _⟩⟩ (fun σ24 z24 => ?_)
        obtain ⟨w24, g24⟩ := z24
        have ge := g24
        have gm24 := congrArg Int32.toInt ge.1
        have f29 : σ24.1 29 = σ1.1 29 := by
          first
          | exact ge.1.trans (gs.1.trans (ga.1.trans hq9_2))
          | exact ge.1.trans (ga.1.trans hq9_2)
          | exact ga.1.trans hq9_2
        have f124 : σ24.2 124 = σ1.2 124 := by
          first
          | exact (ge.2.1 124 (by decide)).trans ((gs.2.1 124 (by decide)).trans f124a)
          | exact (ge.2.1 124 (by decide)).trans f124a
          | exact f124a
        have f129 : σ24.2 129 = σ.2 129 := by
          first
          | exact (ge.2.1 129 (by decide)).trans ((gs.2.1 129 (by decide)).trans ((ga.2.1 129 (by decide)).trans h9_2))
          | exact (ge.2.1 129 (by decide)).trans ((ga.2.1 129 (by decide)).trans h9_2)
          | exact (ga.2.1 129 (by decide)).trans h9_2
        have f126 : σ24.2 126 = upd (σ2.2 126) (v7).toNatClampNeg ((σ2.2 124 (x4_2).toNatClampNeg)) := by
          first
          | exact (ge.2.1 126 (by decide)).trans ((gs.2.1 126 (by decide)).trans ga.2.2)
          | exact (ge.2.1 126 (by decide)).trans ga.2.2
          | exact ga.2.2
        have fo6 : ∀ q : Nat, q < (160 * (sx).toNatClampNeg) ∨ (160 * (sx).toNatClampNeg) + 160 ≤ q → σ24.2 126 q = σ.2 126 q := sh_out o6_2 f126 (by omega) (by omega)
        have fo7 : ∀ q : Nat, q < (160 * (sx).toNatClampNeg) ∨ (160 * (sx).toNatClampNeg) + 160 ≤ q → σ24.2 127 q = σ.2 127 q := by
          first
          | (have z1 := ge.2.1 127 (by decide)
             rw [z1]
             exact sh_out (fun q hq => by rw [ga.2.1 127 (by decide)]; exact o7_2 q hq) gs.2.2 (by omega) (by omega))
          | (have z1 := ge.2.1 127 (by decide)
             exact (fun q hq => by rw [z1, ga.2.1 127 (by decide)]; exact o7_2 q hq))
          | exact (fun q hq => by rw [ga.2.1 127 (by decide)]; exact o7_2 q hq)
        have fo8 : ∀ q : Nat, q < (160 * (sx).toNatClampNeg) ∨ (160 * (sx).toNatClampNeg) + 160 ≤ q → σ24.2 128 q = σ.2 128 q := by
          first
          | exact sh_out (fun q hq => by rw [gs.2.1 128 (by decide), ga.2.1 128 (by decide)]; exact o8_2 q hq) ge.2.2 (by omega) (by omega)
          | exact sh_out (fun q hq => by rw [ga.2.1 128 (by decide)]; exact o8_2 q hq) ge.2.2 (by omega) (by omega)
          | exact (fun q hq => by rw [ga.2.1 128 (by decide)]; exact o8_2 q hq)
        have fWD : ∀ i2 : Nat, i2 = (x4_2).toNatClampNeg + 1 → WDp (lsP (FUM σ (a).toNatClampNeg 9999 0)) i2 (v18).toInt (fun i => σ24.2 127 ((160 * (sx).toNatClampNeg) + i)) (fun i => σ24.2 128 ((160 * (sx).toNatClampNeg) + i)) := by
          intro i2 ei
          first
          | (have z1 := sh_upd (b := (160 * (sx).toNatClampNeg)) (k := (x3_2).toNatClampNeg) gs.2.2 (by omega)
             have z2 := sh_upd (b := (160 * (sx).toNatClampNeg)) (k := (x3_2).toNatClampNeg) ge.2.2 (by omega)
             rw [ga.2.1 127 (by decide)] at z1
             rw [gs.2.1 128 (by decide), ga.2.1 128 (by decide)] at z2
             exact WD_new (k := (x3_2).toNatClampNeg) hd_2 hl hp ei (by omega) (by rw [ge.2.1 127 (by decide)]; exact z1) z2 (by omega) (by omega) (by omega))
          | (have z2 := sh_upd (b := (160 * (sx).toNatClampNeg)) (k := (v18).toNatClampNeg - 1) ge.2.2 (by omega)
             rw [ga.2.1 128 (by decide)] at z2
             exact WD_in (k := (v18).toNatClampNeg - 1) hd_2 ⟨by omega, by omega⟩ ⟨by omega, by omega, by omega⟩ ei rfl (by rw [ge.2.1 127 (by decide), ga.2.1 127 (by decide)]) z2 (by omega) (by omega))
          | exact WD_no hd_2 (fun q => by have q1 := q.1; omega) ei rfl (by rw [ga.2.1 127 (by decide)]) (by rw [ga.2.1 128 (by decide)])
        refine gz_iinc (c := 1) (pc' := 129) dX12_findWords_126 rfl rfl (by decide) (by decide) (by decide) (by omega) (fun v25 h25 e25 => ?_)
        refine go_goto (tgt := 14) dX12_findWords_129 (by decide) ?_
        exact go_lv (lv' := [(0, .ref (L.2.1 13)), (1, .int a), (2, .int sx), (3, .int v18), (4, .int v25)]) rfl (ih2 _ (by omega) σ24 v18 v25 w24 (by omega) f29 f124 f129 (fWD _ (by have cv := cnat (x := v25) (by omega); omega)) (all_step (P := fun j => (σ24.2 126 ((160 * (sx).toNatClampNeg) + j)).toInt = (lsP (FUM σ (a).toNatClampNeg 9999 0)) j) (x := x4_2) (fun j hj => by rw [f126, upd_ne (by omega)]; exact hb_2 j hj) (by omega) (by omega) (by rw [f126, ← ez, upd_eq]; exact pv)) fo6 fo7 fo8 rfl)
      refine go_aload_n (i := 0) (pc' := 73) dX12_findWords_72 rfl rfl rfl ?_
      refine gf_13_print (pc' := 76) dX12_findWords_73 rfl fl_X12_99 ?_
      refine go_iload (pc' := 78) dX12_findWords_76 rfl rfl ?_
      refine go_iconst (v := 1) (pc' := 79) dX12_findWords_78 rfl (by decide) ?_
      refine gz_isub (pc' := 80) dX12_findWords_79 rfl (by omega) (fun v26 h26 e26 => ?_)
      have evk : (v26).toNatClampNeg = (x4_2).toNatClampNeg - 1 := by have cvk := cnat (x := v26) (by omega); omega
      refine go_iald (pc' := 81) dX12_findWords_80 rfl (by decide) (by decide) rfl (vin_of (n := 320) (by omega) (by omega)) ?_
      refine go_bipush (v := 97) (pc' := 83) dX12_findWords_81 rfl (by decide) ?_
      have pvb : ((σ8.2 124 (v26).toNatClampNeg)).toInt = (lsP (FUM σ (a).toNatClampNeg 9999 0)) ((x4_2).toNatClampNeg - 1) := by rw [evk, f124a]; exact fs _ (by omega)
      have plb : 97 ≤ (lsP (FUM σ (a).toNatClampNeg 9999 0)) ((x4_2).toNatClampNeg - 1) → (lsP (FUM σ (a).toNatClampNeg 9999 0)) ((x4_2).toNatClampNeg - 1) ≤ 122 := by
        have z : plainP ((lsP (FUM σ (a).toNatClampNeg 9999 0)) ((x4_2).toNatClampNeg - 1)) := pls ((x4_2).toNatClampNeg - 1) (by rw [show (prF (lrT σ (a).toNatClampNeg) (σ.2 109 (a).toNatClampNeg).toNatClampNeg 9999 0 200 0 0 (fun _ => 0) 0).length = (FUM σ (a).toNatClampNeg 9999 0).length from rfl, fl]; omega)
        intro q
        omega
      refine gz_icmp_ge (tgt := 103) (pc' := 86) dX12_findWords_83 rfl (by decide) (fun c27 => ?_) (fun c27 => ?_)
      · refine go_iload (pc' := 105) dX12_findWords_103 rfl rfl ?_
        refine gz_if_eq (tgt := 126) (pc' := 108) dX12_findWords_105 rfl (by decide) (fun c28 => (by exfalso; omega)) (fun c28 => ?_)
        have w3 : 1 ≤ (x3_2).toInt := by
          first
          | omega
          | (have w1 := wN_pos (P := (lsP (FUM σ (a).toNatClampNeg 9999 0))) (i := (x4_2).toNatClampNeg) ⟨by omega, by omega, by omega⟩
             omega)
        have c3n := cnat (x := x3_2) (by omega)
        refine go_aload_n (i := 0) (pc' := 109) dX12_findWords_108 rfl rfl rfl ?_
        refine gf_13_ends (pc' := 112) dX12_findWords_109 rfl fl_X12_111 ?_
        refine go_sipush (v := 160) (pc' := 115) dX12_findWords_112 rfl (by decide) ?_
        refine go_iload_n (i := 2) (pc' := 116) dX12_findWords_115 rfl rfl rfl ?_
        refine gz_imulc (n := 160) (pc' := 117) dX12_findWords_116 rfl (by decide) (by omega) (fun v29 h29 e29 => ?_)
        refine go_iload_n (i := 3) (pc' := 118) dX12_findWords_117 rfl rfl rfl ?_
        refine gz_iadd (pc' := 119) dX12_findWords_118 rfl (by omega) (fun v30 h30 e30 => ?_)
        refine go_iconst (v := 1) (pc' := 120) dX12_findWords_119 rfl (by decide) ?_
        refine gz_isub (pc' := 121) dX12_findWords_120 rfl (by omega) (fun v31 h31 e31 => ?_)
        have ee : (v31).toNatClampNeg = (160 * (sx).toNatClampNeg) + ((x3_2).toNatClampNeg - 1) := by have cz := cnat (x := v31) (by omega); omega
        refine go_iload (pc' := 123) dX12_findWords_121 rfl rfl ?_
        refine go_iconst (v := 1) (pc' := 124) dX12_findWords_123 rfl (by decide) ?_
        refine gz_iadd (pc' := 125) dX12_findWords_124 rfl (by omega) (fun v32 h32 e32 => ?_)
        refine go_iast (pc' := 126) dX12_findWords_125 rfl (by decide) (by decide) rfl (vin_of (n := 320) (by omega) (by omega)) ?_
        refine go_gen (P := fun s => WM σ s ∧ s.1 29 = σ8.1 29 ∧ (∀ q : Nat, q ≠ 128 → s.2 q = σ8.2 q) ∧ s.2 128 = upd (σ8.2 128) (v31).toNatClampNeg v32) ⟨⟨ixt_128 w8.1 (by omega) (by omega), Ag_setA w8.2 (by decide)⟩, ⟨rfl, fun q hq => setA_ne (a := q) _ 128 _ _ hq, setA_same _ _ _ _⟩⟩ (fun σ33 z33 => ?_)
        obtain ⟨w33, g33⟩ := z33
        have ge := g33
        have gm33 := congrArg Int32.toInt ge.1
        have f29 : σ33.1 29 = σ1.1 29 := by
          first
          | exact ge.1.trans (gs.1.trans (ga.1.trans hq9_2))
          | exact ge.1.trans (ga.1.trans hq9_2)
          | exact ga.1.trans hq9_2
        have f124 : σ33.2 124 = σ1.2 124 := by
          first
          | exact (ge.2.1 124 (by decide)).trans ((gs.2.1 124 (by decide)).trans f124a)
          | exact (ge.2.1 124 (by decide)).trans f124a
          | exact f124a
        have f129 : σ33.2 129 = σ.2 129 := by
          first
          | exact (ge.2.1 129 (by decide)).trans ((gs.2.1 129 (by decide)).trans ((ga.2.1 129 (by decide)).trans h9_2))
          | exact (ge.2.1 129 (by decide)).trans ((ga.2.1 129 (by decide)).trans h9_2)
          | exact (ga.2.1 129 (by decide)).trans h9_2
        have f126 : σ33.2 126 = upd (σ2.2 126) (v7).toNatClampNeg ((σ2.2 124 (x4_2).toNatClampNeg)) := by
          first
          | exact (ge.2.1 126 (by decide)).trans ((gs.2.1 126 (by decide)).trans ga.2.2)
          | exact (ge.2.1 126 (by decide)).trans ga.2.2
          | exact ga.2.2
        have fo6 : ∀ q : Nat, q < (160 * (sx).toNatClampNeg) ∨ (160 * (sx).toNatClampNeg) + 160 ≤ q → σ33.2 126 q = σ.2 126 q := sh_out o6_2 f126 (by omega) (by omega)
        have fo7 : ∀ q : Nat, q < (160 * (sx).toNatClampNeg) ∨ (160 * (sx).toNatClampNeg) + 160 ≤ q → σ33.2 127 q = σ.2 127 q := by
          first
          | (have z1 := ge.2.1 127 (by decide)
             rw [z1]
             exact sh_out (fun q hq => by rw [ga.2.1 127 (by decide)]; exact o7_2 q hq) gs.2.2 (by omega) (by omega))
          | (have z1 := ge.2.1 127 (by decide)
             exact (fun q hq => by rw [z1, ga.2.1 127 (by decide)]; exact o7_2 q hq))
          | exact (fun q hq => by rw [ga.2.1 127 (by decide)]; exact o7_2 q hq)
        have fo8 : ∀ q : Nat, q < (160 * (sx).toNatClampNeg) ∨ (160 * (sx).toNatClampNeg) + 160 ≤ q → σ33.2 128 q = σ.2 128 q := by
          first
          | exact sh_out (fun q hq => by rw [gs.2.1 128 (by decide), ga.2.1 128 (by decide)]; exact o8_2 q hq) ge.2.2 (by omega) (by omega)
          | exact sh_out (fun q hq => by rw [ga.2.1 128 (by decide)]; exact o8_2 q hq) ge.2.2 (by omega) (by omega)
          | exact (fun q hq => by rw [ga.2.1 128 (by decide)]; exact o8_2 q hq)
        have fWD : ∀ i2 : Nat, i2 = (x4_2).toNatClampNeg + 1 → WDp (lsP (FUM σ (a).toNatClampNeg 9999 0)) i2 (x3_2).toInt (fun i => σ33.2 127 ((160 * (sx).toNatClampNeg) + i)) (fun i => σ33.2 128 ((160 * (sx).toNatClampNeg) + i)) := by
          intro i2 ei
          first
          | (have z1 := sh_upd (b := (160 * (sx).toNatClampNeg)) (k := 0) gs.2.2 (by omega)
             have z2 := sh_upd (b := (160 * (sx).toNatClampNeg)) (k := 0) ge.2.2 (by omega)
             rw [ga.2.1 127 (by decide)] at z1
             rw [gs.2.1 128 (by decide), ga.2.1 128 (by decide)] at z2
             exact WD_new (k := 0) hd_2 hl hp ei (by omega) (by rw [ge.2.1 127 (by decide)]; exact z1) z2 (by omega) (by omega) (by omega))
          | (have z2 := sh_upd (b := (160 * (sx).toNatClampNeg)) (k := (x3_2).toNatClampNeg - 1) ge.2.2 (by omega)
             rw [ga.2.1 128 (by decide)] at z2
             exact WD_in (k := (x3_2).toNatClampNeg - 1) hd_2 ⟨by omega, by omega⟩ ⟨by omega, by omega, by omega⟩ ei rfl (by rw [ge.2.1 127 (by decide), ga.2.1 127 (by decide)]) z2 (by omega) (by omega))
          | exact WD_no hd_2 (fun q => by have q1 := q.1; omega) ei rfl (by rw [ga.2.1 127 (by decide)]) (by rw [ga.2.1 128 (by decide)])
        refine gz_iinc (c := 1) (pc' := 129) dX12_findWords_126 rfl rfl (by decide) (by decide) (by decide) (by omega) (fun v34 h34 e34 => ?_)
        refine go_goto (tgt := 14) dX12_findWords_129 (by decide) ?_
        exact go_lv (lv' := [(0, .ref (L.2.1 13)), (1, .int a), (2, .int sx), (3, .int x3_2), (4, .int v34)]) rfl (ih2 _ (by omega) σ33 x3_2 v34 w33 (by omega) f29 f124 f129 (fWD _ (by have cv := cnat (x := v34) (by omega); omega)) (all_step (P := fun j => (σ33.2 126 ((160 * (sx).toNatClampNeg) + j)).toInt = (lsP (FUM σ (a).toNatClampNeg 9999 0)) j) (x := x4_2) (fun j hj => by rw [f126, upd_ne (by omega)]; exact hb_2 j hj) (by omega) (by omega) (by rw [f126, ← ez, upd_eq]; exact pv)) fo6 fo7 fo8 rfl)
      have hl : isLP ((lsP (FUM σ (a).toNatClampNeg 9999 0)) (x4_2).toNatClampNeg) := by omega
      have hp : ¬ prL (lsP (FUM σ (a).toNatClampNeg 9999 0)) (x4_2).toNatClampNeg := by
        intro q
        have q1 := q.1
        have q2 := q.2
        omega
      refine go_aload_n (i := 0) (pc' := 87) dX12_findWords_86 rfl rfl rfl ?_
      refine gf_13_begins (pc' := 90) dX12_findWords_87 rfl fl_X12_108 ?_
      refine go_sipush (v := 160) (pc' := 93) dX12_findWords_90 rfl (by decide) ?_
      refine go_iload_n (i := 2) (pc' := 94) dX12_findWords_93 rfl rfl rfl ?_
      refine gz_imulc (n := 160) (pc' := 95) dX12_findWords_94 rfl (by decide) (by omega) (fun v35 h35 e35 => ?_)
      refine go_iload_n (i := 3) (pc' := 96) dX12_findWords_95 rfl rfl rfl ?_
      refine gz_iadd (pc' := 97) dX12_findWords_96 rfl (by omega) (fun v36 h36 e36 => ?_)
      have c3 := cnat (x := x3_2) (by omega)
      have eb : (v36).toNatClampNeg = (160 * (sx).toNatClampNeg) + (x3_2).toNatClampNeg := by have cz := cnat (x := v36) (by omega); omega
      refine go_iload (pc' := 99) dX12_findWords_97 rfl rfl ?_
      refine go_iast (pc' := 100) dX12_findWords_99 rfl (by decide) (by decide) rfl (vin_of (n := 320) (by omega) (by omega)) ?_
      refine go_gen (P := fun s => WM σ s ∧ s.1 29 = σ8.1 29 ∧ (∀ q : Nat, q ≠ 127 → s.2 q = σ8.2 q) ∧ s.2 127 = upd (σ8.2 127) (v36).toNatClampNeg x4_2) ⟨⟨ixt_127 w8.1 (by omega) (by omega), Ag_setA w8.2 (by decide)⟩, ⟨rfl, fun q hq => setA_ne (a := q) _ 127 _ _ hq, setA_same _ _ _ _⟩⟩ (fun σ37 z37 => ?_)
      obtain ⟨w37, g37⟩ := z37
      have gs := g37
      have gm37 := congrArg Int32.toInt gs.1
      refine gz_iinc (c := 1) (pc' := 103) dX12_findWords_100 rfl rfl (by decide) (by decide) (by decide) (by omega) (fun v38 h38 e38 => ?_)
      refine go_iload (pc' := 105) dX12_findWords_103 rfl rfl ?_
      refine gz_if_eq (tgt := 126) (pc' := 108) dX12_findWords_105 rfl (by decide) (fun c39 => (by exfalso; omega)) (fun c39 => ?_)
      have w3 : 1 ≤ (v38).toInt := by
        first
        | omega
        | (have w1 := wN_pos (P := (lsP (FUM σ (a).toNatClampNeg 9999 0))) (i := (x4_2).toNatClampNeg) ⟨by omega, by omega, by omega⟩
           omega)
      have c3n := cnat (x := v38) (by omega)
      refine go_aload_n (i := 0) (pc' := 109) dX12_findWords_108 rfl rfl rfl ?_
      refine gf_13_ends (pc' := 112) dX12_findWords_109 rfl fl_X12_111 ?_
      refine go_sipush (v := 160) (pc' := 115) dX12_findWords_112 rfl (by decide) ?_
      refine go_iload_n (i := 2) (pc' := 116) dX12_findWords_115 rfl rfl rfl ?_
      refine gz_imulc (n := 160) (pc' := 117) dX12_findWords_116 rfl (by decide) (by omega) (fun v40 h40 e40 => ?_)
      refine go_iload_n (i := 3) (pc' := 118) dX12_findWords_117 rfl rfl rfl ?_
      refine gz_iadd (pc' := 119) dX12_findWords_118 rfl (by omega) (fun v41 h41 e41 => ?_)
      refine go_iconst (v := 1) (pc' := 120) dX12_findWords_119 rfl (by decide) ?_
      refine gz_isub (pc' := 121) dX12_findWords_120 rfl (by omega) (fun v42 h42 e42 => ?_)
      have ee : (v42).toNatClampNeg = (160 * (sx).toNatClampNeg) + ((v38).toNatClampNeg - 1) := by have cz := cnat (x := v42) (by omega); omega
      refine go_iload (pc' := 123) dX12_findWords_121 rfl rfl ?_
      refine go_iconst (v := 1) (pc' := 124) dX12_findWords_123 rfl (by decide) ?_
      refine gz_iadd (pc' := 125) dX12_findWords_124 rfl (by omega) (fun v43 h43 e43 => ?_)
      refine go_iast (pc' := 126) dX12_findWords_125 rfl (by decide) (by decide) rfl (vin_of (n := 320) (by omega) (by omega)) ?_
      refine go_gen (P := fun s => WM σ s ∧ s.1 29 = σ37.1 29 ∧ (∀ q : Nat, q ≠ 128 → s.2 q = σ37.2 q) ∧ s.2 128 = upd (σ37.2 128) (v42).toNatClampNeg v43) ⟨⟨ixt_128 w37.1 (by omega) (by omega), Ag_setA w37.2 (by decide)⟩, ⟨rfl, fun q hq => setA_ne (a := q) _ 128 _ _ hq, setA_same _ _ _ _⟩⟩ (fun σ44 z44 => ?_)
      obtain ⟨w44, g44⟩ := z44
      have ge := g44
      have gm44 := congrArg Int32.toInt ge.1
      have f29 : σ44.1 29 = σ1.1 29 := by
        first
        | exact ge.1.trans (gs.1.trans (ga.1.trans hq9_2))
        | exact ge.1.trans (ga.1.trans hq9_2)
        | exact ga.1.trans hq9_2
      have f124 : σ44.2 124 = σ1.2 124 := by
        first
        | exact (ge.2.1 124 (by decide)).trans ((gs.2.1 124 (by decide)).trans f124a)
        | exact (ge.2.1 124 (by decide)).trans f124a
        | exact f124a
      have f129 : σ44.2 129 = σ.2 129 := by
        first
        | exact (ge.2.1 129 (by decide)).trans ((gs.2.1 129 (by decide)).trans ((ga.2.1 129 (by decide)).trans h9_2))
        | exact (ge.2.1 129 (by decide)).trans ((ga.2.1 129 (by decide)).trans h9_2)
        | exact (ga.2.1 129 (by decide)).trans h9_2
      have f126 : σ44.2 126 = upd (σ2.2 126) (v7).toNatClampNeg ((σ2.2 124 (x4_2).toNatClampNeg)) := by
        first
        | exact (ge.2.1 126 (by decide)).trans ((gs.2.1 126 (by decide)).trans ga.2.2)
        | exact (ge.2.1 126 (by decide)).trans ga.2.2
        | exact ga.2.2
      have fo6 : ∀ q : Nat, q < (160 * (sx).toNatClampNeg) ∨ (160 * (sx).toNatClampNeg) + 160 ≤ q → σ44.2 126 q = σ.2 126 q := sh_out o6_2 f126 (by omega) (by omega)
      have fo7 : ∀ q : Nat, q < (160 * (sx).toNatClampNeg) ∨ (160 * (sx).toNatClampNeg) + 160 ≤ q → σ44.2 127 q = σ.2 127 q := by
        first
        | (have z1 := ge.2.1 127 (by decide)
           rw [z1]
           exact sh_out (fun q hq => by rw [ga.2.1 127 (by decide)]; exact o7_2 q hq) gs.2.2 (by omega) (by omega))
        | (have z1 := ge.2.1 127 (by decide)
           exact (fun q hq => by rw [z1, ga.2.1 127 (by decide)]; exact o7_2 q hq))
        | exact (fun q hq => by rw [ga.2.1 127 (by decide)]; exact o7_2 q hq)
      have fo8 : ∀ q : Nat, q < (160 * (sx).toNatClampNeg) ∨ (160 * (sx).toNatClampNeg) + 160 ≤ q → σ44.2 128 q = σ.2 128 q := by
        first
        | exact sh_out (fun q hq => by rw [gs.2.1 128 (by decide), ga.2.1 128 (by decide)]; exact o8_2 q hq) ge.2.2 (by omega) (by omega)
        | exact sh_out (fun q hq => by rw [ga.2.1 128 (by decide)]; exact o8_2 q hq) ge.2.2 (by omega) (by omega)
        | exact (fun q hq => by rw [ga.2.1 128 (by decide)]; exact o8_2 q hq)
      have fWD : ∀ i2 : Nat, i2 = (x4_2).toNatClampNeg + 1 → WDp (lsP (FUM σ (a).toNatClampNeg 9999 0)) i2 (v38).toInt (fun i => σ44.2 127 ((160 * (sx).toNatClampNeg) + i)) (fun i => σ44.2 128 ((160 * (sx).toNatClampNeg) + i)) := by
        intro i2 ei
        first
        | (have z1 := sh_upd (b := (160 * (sx).toNatClampNeg)) (k := (x3_2).toNatClampNeg) gs.2.2 (by omega)
           have z2 := sh_upd (b := (160 * (sx).toNatClampNeg)) (k := (x3_2).toNatClampNeg) ge.2.2 (by omega)
           rw [ga.2.1 127 (by decide)] at z1
           rw [gs.2.1 128 (by decide), ga.2.1 128 (by decide)] at z2
           exact WD_new (k := (x3_2).toNatClampNeg) hd_2 hl hp ei (by omega) (by rw [ge.2.1 127 (by decide)]; exact z1) z2 (by omega) (by omega) (by omega))
        | (have z2 := sh_upd (b := (160 * (sx).toNatClampNeg)) (k := (v38).toNatClampNeg - 1) ge.2.2 (by omega)
           rw [ga.2.1 128 (by decide)] at z2
           exact WD_in (k := (v38).toNatClampNeg - 1) hd_2 ⟨by omega, by omega⟩ ⟨by omega, by omega, by omega⟩ ei rfl (by rw [ge.2.1 127 (by decide), ga.2.1 127 (by decide)]) z2 (by omega) (by omega))
        | exact WD_no hd_2 (fun q => by have q1 := q.1; omega) ei rfl (by rw [ga.2.1 127 (by decide)]) (by rw [ga.2.1 128 (by decide)])
      refine gz_iinc (c := 1) (pc' := 129) dX12_findWords_126 rfl rfl (by decide) (by decide) (by decide) (by omega) (fun v45 h45 e45 => ?_)
      refine go_goto (tgt := 14) dX12_findWords_129 (by decide) ?_
      exact go_lv (lv' := [(0, .ref (L.2.1 13)), (1, .int a), (2, .int sx), (3, .int v38), (4, .int v45)]) rfl (ih2 _ (by omega) σ44 v38 v45 w44 (by omega) f29 f124 f129 (fWD _ (by have cv := cnat (x := v45) (by omega); omega)) (all_step (P := fun j => (σ44.2 126 ((160 * (sx).toNatClampNeg) + j)).toInt = (lsP (FUM σ (a).toNatClampNeg 9999 0)) j) (x := x4_2) (fun j hj => by rw [f126, upd_ne (by omega)]; exact hb_2 j hj) (by omega) (by omega) (by rw [f126, ← ez, upd_eq]; exact pv)) fo6 fo7 fo8 rfl)
  exact go_lv (lv' := [(0, .ref (L.2.1 13)), (1, .int a), (2, .int sx), (3, .int (0 : Int32)), (4, .int (0 : Int32))]) rfl (loop14_2 _ σ1 (0 : Int32) (0 : Int32) w1 (by omega) rfl rfl (fo.2.2 129 (by decide)) (by rw [z0, n0]; exact WD_0 _ _ _) (fun j hj => by exfalso; omega) (fun q _ => by rw [fo.2.2 126 (by decide)]) (fun q _ => by rw [fo.2.2 127 (by decide)]) (fun q _ => by rw [fo.2.2 128 (by decide)]) rfl)
set_option maxHeartbeats 4000000 in
set_option maxRecDepth 100000 in
theorem f_X12_words (l : Launch) (L : WL) (σ : ST) (a : Int32) (ix : IV σ) (tv : TV σ) : CtI l L yX12_words cX12_words 2 (some .int) rm_X12_words [.ref (L.2.1 13), .int a] σ (fun r σ2 => tM_words σ a r σ2) := by
  refine ctI_go (own := RX12) (by decide) rfl (Nat.le_of_ble_eq_true rfl) (fun F hF => ?_)
  subst hF
  have nm2 : (-2 : Int32).toInt = -2 := by decide
  have n0 : (0 : Int32).toInt = 0 := by decide
  have w0 : WM σ σ := WM_rfl ix
  have u19 := ixi_19 ix
  have u20 := ixi_20 ix
  have u21 := ixi_21 ix
  have u22 := ixi_22 ix
  have z0 : (0 : Int32).toNatClampNeg = 0 := rfl
  refine go_aload_n (i := 0) (pc' := 1) dX12_words_0 rfl rfl rfl ?_
  refine go_iload_n (i := 1) (pc' := 2) dX12_words_1 rfl rfl rfl ?_
  refine go_cvi (pc' := 5) lk_X12_152 (c_X12_isLetter _ _ _ _) rfl rfl (Nat.le_of_ble_eq_true rfl) (by decide) rfl rfl rfl ⟨Nat.le_of_ble_eq_true rfl, Nat.le_of_ble_eq_true rfl⟩ ⟨rfl, rfl⟩ dX12_words_2 rfl (fun r1 σ1 h1 => ?_)
  obtain ⟨e1, h1⟩ := h1
  have e1 := e1.symm
  subst e1
  refine go_neB (tgt := 11) (pc' := 8) h1 dX12_words_5 rfl (by decide) (fun c2 => ?_) (fun c2 => ?_)
  · refine go_aload_n (i := 0) (pc' := 12) dX12_words_11 rfl rfl rfl ?_
    refine go_iload_n (i := 1) (pc' := 13) dX12_words_12 rfl rfl rfl ?_
    refine go_iconst (v := 0) (pc' := 14) dX12_words_13 rfl (by decide) ?_
    refine go_cvv (pc' := 17) lk_X12_266 (e_X12_findWords _ _ _ _ _ (by omega) (by omega) w0.1 (TV_q w0 tv)) rfl rfl (Nat.le_of_ble_eq_true rfl) (by decide) rfl rfl rfl ⟨Nat.le_of_ble_eq_true rfl, Nat.le_of_ble_eq_true rfl⟩ ⟨rfl, rfl⟩ dX12_words_14 rfl (fun σ3 h3 => ?_)
    obtain ⟨u3, h3⟩ := h3
    have w3 := WM_trans w0 u3
    have fw := h3
    refine go_aload_n (i := 0) (pc' := 18) dX12_words_17 rfl rfl rfl ?_
    refine gf_13_wordMany (pc' := 21) dX12_words_18 rfl fl_X12_114 ?_
    refine go_iconst (v := 0) (pc' := 22) dX12_words_21 rfl (by decide) ?_
    refine go_iald (pc' := 23) dX12_words_22 rfl (by decide) (by decide) rfl (vin_of (n := 2) (by omega) (by omega)) ?_
    refine go_rngA (ixa_129 w3.1) (vinlt (vin_of (n := 2) (by omega) (by omega))) (fun g4 => ?_)
    exact go_iret dX12_words_23 rfl (⟨w3, Or.inr ⟨by omega, fw.2.2.1⟩⟩)
  refine go_bipush (v := (-2)) (pc' := 10) dX12_words_8 rfl (by decide) ?_
  exact go_iret dX12_words_10 rfl (⟨w0, Or.inl ⟨by omega, rfl⟩⟩)
set_option maxHeartbeats 4000000 in
set_option maxRecDepth 100000 in
theorem e_X12_isSame (l : Launch) (L : WL) (σ : ST) (a b : Int32) (ha : 0 ≤ a.toInt ∧ a.toInt < 160) (hb : 0 ≤ b.toInt ∧ b.toInt < 160) (h1 : (σ.2 127 (a).toNatClampNeg).toInt ≤ (σ.2 128 (a).toNatClampNeg).toInt) (h2 : (σ.2 127 (160 + (b).toNatClampNeg)).toInt ≤ (σ.2 128 (160 + (b).toNatClampNeg)).toInt) (ix : IV σ) : CtI l L yX12_isSame cX12_isSame 8 (some .boolean) rm_X12_isSame [.ref (L.2.1 13), .int a, .int b] σ (fun r σ2 => σ2 = σ ∧ bq (smM σ (a).toNatClampNeg (b).toNatClampNeg) r) := by
  refine ctI_go (own := RX12) (by decide) rfl (Nat.le_of_ble_eq_true rfl) (fun F hF => ?_)
  subst hF
  have n0 : (0 : Int32).toInt = 0 := by decide
  have n1 : (1 : Int32).toInt = 1 := by decide
  have n160 : (160 : Int32).toInt = 160 := by decide
  have w0 : WM σ σ := WM_rfl ix
  have ca := cnat ha.1
  have cb := cnat hb.1
  have g1 := ixa_127 ix (a).toNatClampNeg (by omega)
  have g2 := ixa_128 ix (a).toNatClampNeg (by omega)
  have g3 := ixa_127 ix (160 + (b).toNatClampNeg) (by omega)
  have g4 := ixa_128 ix (160 + (b).toNatClampNeg) (by omega)
  have c1 := cnat g1.1
  have c2 := cnat g2.1
  have c3 := cnat g3.1
  have c4 := cnat g4.1
  have z0 : (0 : Int32).toNatClampNeg = 0 := rfl
  refine go_aload_n (i := 0) (pc' := 1) dX12_isSame_0 rfl rfl rfl ?_
  refine gf_13_begins (pc' := 4) dX12_isSame_1 rfl fl_X12_108 ?_
  refine go_iload_n (i := 1) (pc' := 5) dX12_isSame_4 rfl rfl rfl ?_
  refine go_iald (pc' := 6) dX12_isSame_5 rfl (by decide) (by decide) rfl (vin_of (n := 320) (by omega) (by omega)) ?_
  refine go_rngA (ixa_127 w0.1) (vinlt (vin_of (n := 320) (by omega) (by omega))) (fun g1 => ?_)
  refine go_topz (fun y2 h2 e2 => ?_)
  refine go_istore_n (i := 3) (pc' := 7) dX12_isSame_6 rfl rfl (by decide) ?_
  refine go_aload_n (i := 0) (pc' := 8) dX12_isSame_7 rfl rfl rfl ?_
  refine gf_13_begins (pc' := 11) dX12_isSame_8 rfl fl_X12_108 ?_
  refine go_sipush (v := 160) (pc' := 14) dX12_isSame_11 rfl (by decide) ?_
  refine go_iload_n (i := 2) (pc' := 15) dX12_isSame_14 rfl rfl rfl ?_
  refine gz_iadd (pc' := 16) dX12_isSame_15 rfl (by omega) (fun v3 h3 e3 => ?_)
  have eb : (v3).toNatClampNeg = 160 + (b).toNatClampNeg := by have cz := cnat (x := v3) (by omega); omega
  refine go_iald (pc' := 17) dX12_isSame_16 rfl (by decide) (by decide) rfl (vin_of (n := 320) (by omega) (by omega)) ?_
  refine go_rngA (ixa_127 w0.1) (vinlt (vin_of (n := 320) (by omega) (by omega))) (fun g4 => ?_)
  rw [eb]
  refine go_topz (fun y5 h5 e5 => ?_)
  refine go_istore (pc' := 19) dX12_isSame_17 rfl (by decide) ?_
  refine go_aload_n (i := 0) (pc' := 20) dX12_isSame_19 rfl rfl rfl ?_
  refine gf_13_ends (pc' := 23) dX12_isSame_20 rfl fl_X12_111 ?_
  refine go_iload_n (i := 1) (pc' := 24) dX12_isSame_23 rfl rfl rfl ?_
  refine go_iald (pc' := 25) dX12_isSame_24 rfl (by decide) (by decide) rfl (vin_of (n := 320) (by omega) (by omega)) ?_
  refine go_rngA (ixa_128 w0.1) (vinlt (vin_of (n := 320) (by omega) (by omega))) (fun g6 => ?_)
  refine go_iload_n (i := 3) (pc' := 26) dX12_isSame_25 rfl rfl rfl ?_
  refine gz_isub (pc' := 27) dX12_isSame_26 rfl (by omega) (fun v7 h7 e7 => ?_)
  refine go_istore (pc' := 29) dX12_isSame_27 rfl (by decide) ?_
  refine go_iload (pc' := 31) dX12_isSame_29 rfl rfl ?_
  refine go_aload_n (i := 0) (pc' := 32) dX12_isSame_31 rfl rfl rfl ?_
  refine gf_13_ends (pc' := 35) dX12_isSame_32 rfl fl_X12_111 ?_
  refine go_sipush (v := 160) (pc' := 38) dX12_isSame_35 rfl (by decide) ?_
  refine go_iload_n (i := 2) (pc' := 39) dX12_isSame_38 rfl rfl rfl ?_
  refine gz_iadd (pc' := 40) dX12_isSame_39 rfl (by omega) (fun v8 h8 e8 => ?_)
  have ec : (v8).toNatClampNeg = 160 + (b).toNatClampNeg := by have cz := cnat (x := v8) (by omega); omega
  refine go_iald (pc' := 41) dX12_isSame_40 rfl (by decide) (by decide) rfl (vin_of (n := 320) (by omega) (by omega)) ?_
  refine go_rngA (ixa_128 w0.1) (vinlt (vin_of (n := 320) (by omega) (by omega))) (fun g9 => ?_)
  rw [ec]
  refine go_iload (pc' := 43) dX12_isSame_41 rfl rfl ?_
  refine gz_isub (pc' := 44) dX12_isSame_43 rfl (by omega) (fun v10 h10 e10 => ?_)
  refine gz_icmp_ne (tgt := 51) (pc' := 47) dX12_isSame_44 rfl (by decide) (fun c11 => ?_) (fun c11 => ?_)
  · refine go_iconst (v := 0) (pc' := 52) dX12_isSame_51 rfl (by decide) ?_
    refine go_istore (pc' := 54) dX12_isSame_52 rfl (by decide) ?_
    refine go_iconst (v := 0) (pc' := 55) dX12_isSame_54 rfl (by decide) ?_
    refine go_istore (pc' := 57) dX12_isSame_55 rfl (by decide) ?_
    have loop57_12 : ∀ (dd12 : Nat) (x6_12 : Int32) (x7_12 : Int32), (0 ≤ (x7_12).toInt ∧ (x7_12).toInt ≤ (v7).toInt) → ((x6_12 = 0 ∨ x6_12 = 1)) → (((x6_12).toInt = 1 → (σ.2 128 (a).toNatClampNeg).toInt - (σ.2 127 (a).toNatClampNeg).toInt = (σ.2 128 (160 + (b).toNatClampNeg)).toInt - (σ.2 127 (160 + (b).toNatClampNeg)).toInt ∧ ∀ k : Nat, (k : Int) < (x7_12).toInt → (σ.2 126 ((σ.2 127 (a).toNatClampNeg).toNatClampNeg + k)).toInt = (σ.2 126 (160 + ((σ.2 127 (160 + (b).toNatClampNeg)).toNatClampNeg + k))).toInt) ∧ ((x6_12).toInt = 0 → ¬ smM σ (a).toNatClampNeg (b).toNatClampNeg)) → ((v7).toInt - (x7_12).toInt).toNat = dd12 → Go F L RX12 cX12_isSame 8 rm_X12_isSame (some .boolean) (RI F L (fun r σ2 => σ2 = σ ∧ bq (smM σ (a).toNatClampNeg (b).toNatClampNeg) r)) σ 57 [(0, .ref (L.2.1 13)), (1, .int a), (2, .int b), (3, .int y2), (4, .int y5), (5, .int v7), (6, .int x6_12), (7, .int x7_12)] [] := by
      intro dd12
      induction dd12 using Nat.strongRecOn with
      | _ dd12 ih12 =>
        intro x6_12 x7_12 h_12 hq_12 hs_12 hm_12
        have hqi : (x6_12).toInt = 0 ∨ (x6_12).toInt = 1 := by
          rcases hq_12 with z | z
          · exact Or.inl (by rw [z]; exact n0)
          · exact Or.inr (by rw [z]; exact n1)
        refine go_iload (pc' := 59) dX12_isSame_57 rfl rfl ?_
        refine go_iload (pc' := 61) dX12_isSame_59 rfl rfl ?_
        refine gz_icmp_ge (tgt := 108) (pc' := 64) dX12_isSame_61 rfl (by decide) (fun c13 => ?_) (fun c13 => ?_)
        · refine go_iload (pc' := 110) dX12_isSame_108 rfl rfl ?_
          exact go_zret dX12_isSame_110 rfl (nb01 hq_12) (⟨rfl, by
              rcases hq_12 with z | z
              · exact Or.inr ⟨z, hs_12.2 (by rw [z]; exact n0)⟩
              · have y := hs_12.1 (by rw [z]; exact n1)
                have z1 : (x6_12).toInt = 1 := by rw [z]; exact n1
                exact Or.inl ⟨z, by omega, fun k hk => y.2 k (by omega)⟩⟩)
        refine go_iload (pc' := 66) dX12_isSame_64 rfl rfl ?_
        refine gz_if_eq (tgt := 108) (pc' := 69) dX12_isSame_66 rfl (by decide) (fun c14 => ?_) (fun c14 => ?_)
        · refine go_iload (pc' := 110) dX12_isSame_108 rfl rfl ?_
          exact go_zret dX12_isSame_110 rfl (nb01 hq_12) (⟨rfl, by
              rcases hq_12 with z | z
              · exact Or.inr ⟨z, hs_12.2 (by rw [z]; exact n0)⟩
              · have y := hs_12.1 (by rw [z]; exact n1)
                have z1 : (x6_12).toInt = 1 := by rw [z]; exact n1
                exact Or.inl ⟨z, by omega, fun k hk => y.2 k (by omega)⟩⟩)
        have hs1 := (hs_12.1 (by omega)).1
        refine go_aload_n (i := 0) (pc' := 70) dX12_isSame_69 rfl rfl rfl ?_
        refine gf_13_signs (pc' := 73) dX12_isSame_70 rfl fl_X12_105 ?_
        refine go_iload_n (i := 3) (pc' := 74) dX12_isSame_73 rfl rfl rfl ?_
        refine go_iload (pc' := 76) dX12_isSame_74 rfl rfl ?_
        refine gz_iadd (pc' := 77) dX12_isSame_76 rfl (by omega) (fun v15 h15 e15 => ?_)
        have c7 := cnat (x := x7_12) (by omega)
        have ez1 : (v15).toNatClampNeg = (σ.2 127 (a).toNatClampNeg).toNatClampNeg + (x7_12).toNatClampNeg := by have cz := cnat (x := v15) (by omega); omega
        refine go_iald (pc' := 78) dX12_isSame_77 rfl (by decide) (by decide) rfl (vin_of (n := 320) (by omega) (by omega)) ?_
        refine go_aload_n (i := 0) (pc' := 79) dX12_isSame_78 rfl rfl rfl ?_
        refine gf_13_signs (pc' := 82) dX12_isSame_79 rfl fl_X12_105 ?_
        refine go_sipush (v := 160) (pc' := 85) dX12_isSame_82 rfl (by decide) ?_
        refine go_iload (pc' := 87) dX12_isSame_85 rfl rfl ?_
        refine gz_iadd (pc' := 88) dX12_isSame_87 rfl (by omega) (fun v16 h16 e16 => ?_)
        refine go_iload (pc' := 90) dX12_isSame_88 rfl rfl ?_
        refine gz_iadd (pc' := 91) dX12_isSame_90 rfl (by omega) (fun v17 h17 e17 => ?_)
        have ez2 : (v17).toNatClampNeg = 160 + ((σ.2 127 (160 + (b).toNatClampNeg)).toNatClampNeg + (x7_12).toNatClampNeg) := by have cz := cnat (x := v17) (by omega); omega
        refine go_iald (pc' := 92) dX12_isSame_91 rfl (by decide) (by decide) rfl (vin_of (n := 320) (by omega) (by omega)) ?_
        refine gz_icmp_ne (tgt := 99) (pc' := 95) dX12_isSame_92 rfl (by decide) (fun c18 => ?_) (fun c18 => ?_)
        · refine go_iconst (v := 0) (pc' := 100) dX12_isSame_99 rfl (by decide) ?_
          have st : (((0 : Int32)).toInt = 1 → ∀ k : Nat, (k : Int) < (x7_12).toInt + 1 → (σ.2 126 ((σ.2 127 (a).toNatClampNeg).toNatClampNeg + k)).toInt = (σ.2 126 (160 + ((σ.2 127 (160 + (b).toNatClampNeg)).toNatClampNeg + k))).toInt) ∧ (((0 : Int32)).toInt = 0 → ¬ smM σ (a).toNatClampNeg (b).toNatClampNeg) := by
            first
            | exact ⟨fun _ k hk => by
                by_cases z : k = (x7_12).toNatClampNeg
                · rw [z, ← ez1, ← ez2]
                  omega
                · exact (hs_12.1 (by omega)).2 k (by omega), fun z => by exfalso; omega⟩
            | exact ⟨fun z => by exfalso; omega, fun _ q => by
                have y : (σ.2 126 ((σ.2 127 (a).toNatClampNeg).toNatClampNeg + (x7_12).toNatClampNeg)).toInt = (σ.2 126 (160 + ((σ.2 127 (160 + (b).toNatClampNeg)).toNatClampNeg + (x7_12).toNatClampNeg))).toInt := q.2 (x7_12).toNatClampNeg (by omega)
                rw [← ez1, ← ez2] at y
                omega⟩
          refine go_istore (pc' := 102) dX12_isSame_100 rfl (by decide) ?_
          refine gz_iinc (c := 1) (pc' := 105) dX12_isSame_102 rfl rfl (by decide) (by decide) (by decide) (by omega) (fun v19 h19 e19 => ?_)
          refine go_goto (tgt := 57) dX12_isSame_105 (by decide) ?_
          exact go_lv (lv' := [(0, .ref (L.2.1 13)), (1, .int a), (2, .int b), (3, .int y2), (4, .int y5), (5, .int v7), (6, .int (0 : Int32)), (7, .int v19)]) rfl (ih12 _ (by omega)  (0 : Int32) v19 (by omega) (by first | exact Or.inl rfl | exact Or.inr rfl) ⟨fun z => ⟨(hs_12.1 (by omega)).1, fun k hk => st.1 z k (by omega)⟩, st.2⟩ rfl)
        refine go_iconst (v := 1) (pc' := 96) dX12_isSame_95 rfl (by decide) ?_
        refine go_goto (tgt := 100) dX12_isSame_96 (by decide) ?_
        have st : (((1 : Int32)).toInt = 1 → ∀ k : Nat, (k : Int) < (x7_12).toInt + 1 → (σ.2 126 ((σ.2 127 (a).toNatClampNeg).toNatClampNeg + k)).toInt = (σ.2 126 (160 + ((σ.2 127 (160 + (b).toNatClampNeg)).toNatClampNeg + k))).toInt) ∧ (((1 : Int32)).toInt = 0 → ¬ smM σ (a).toNatClampNeg (b).toNatClampNeg) := by
          first
          | exact ⟨fun _ k hk => by
              by_cases z : k = (x7_12).toNatClampNeg
              · rw [z, ← ez1, ← ez2]
                omega
              · exact (hs_12.1 (by omega)).2 k (by omega), fun z => by exfalso; omega⟩
          | exact ⟨fun z => by exfalso; omega, fun _ q => by
              have y : (σ.2 126 ((σ.2 127 (a).toNatClampNeg).toNatClampNeg + (x7_12).toNatClampNeg)).toInt = (σ.2 126 (160 + ((σ.2 127 (160 + (b).toNatClampNeg)).toNatClampNeg + (x7_12).toNatClampNeg))).toInt := q.2 (x7_12).toNatClampNeg (by omega)
              rw [← ez1, ← ez2] at y
              omega⟩
        refine go_istore (pc' := 102) dX12_isSame_100 rfl (by decide) ?_
        refine gz_iinc (c := 1) (pc' := 105) dX12_isSame_102 rfl rfl (by decide) (by decide) (by decide) (by omega) (fun v20 h20 e20 => ?_)
        refine go_goto (tgt := 57) dX12_isSame_105 (by decide) ?_
        exact go_lv (lv' := [(0, .ref (L.2.1 13)), (1, .int a), (2, .int b), (3, .int y2), (4, .int y5), (5, .int v7), (6, .int (1 : Int32)), (7, .int v20)]) rfl (ih12 _ (by omega)  (1 : Int32) v20 (by omega) (by first | exact Or.inl rfl | exact Or.inr rfl) ⟨fun z => ⟨(hs_12.1 (by omega)).1, fun k hk => st.1 z k (by omega)⟩, st.2⟩ rfl)
    exact go_lv (lv' := [(0, .ref (L.2.1 13)), (1, .int a), (2, .int b), (3, .int y2), (4, .int y5), (5, .int v7), (6, .int (0 : Int32)), (7, .int (0 : Int32))]) rfl (loop57_12 _  (0 : Int32) (0 : Int32) (by omega) (by first | exact Or.inl rfl | exact Or.inr rfl) (by first | exact ⟨fun _ => ⟨by omega, fun k hk => by exfalso; omega⟩, fun z => by exfalso; omega⟩ | exact ⟨fun z => by exfalso; omega, fun _ q => by have y := q.1; omega⟩) rfl)
  refine go_iconst (v := 1) (pc' := 48) dX12_isSame_47 rfl (by decide) ?_
  refine go_goto (tgt := 52) dX12_isSame_48 (by decide) ?_
  refine go_istore (pc' := 54) dX12_isSame_52 rfl (by decide) ?_
  refine go_iconst (v := 0) (pc' := 55) dX12_isSame_54 rfl (by decide) ?_
  refine go_istore (pc' := 57) dX12_isSame_55 rfl (by decide) ?_
  have loop57_21 : ∀ (dd21 : Nat) (x6_21 : Int32) (x7_21 : Int32), (0 ≤ (x7_21).toInt ∧ (x7_21).toInt ≤ (v7).toInt) → ((x6_21 = 0 ∨ x6_21 = 1)) → (((x6_21).toInt = 1 → (σ.2 128 (a).toNatClampNeg).toInt - (σ.2 127 (a).toNatClampNeg).toInt = (σ.2 128 (160 + (b).toNatClampNeg)).toInt - (σ.2 127 (160 + (b).toNatClampNeg)).toInt ∧ ∀ k : Nat, (k : Int) < (x7_21).toInt → (σ.2 126 ((σ.2 127 (a).toNatClampNeg).toNatClampNeg + k)).toInt = (σ.2 126 (160 + ((σ.2 127 (160 + (b).toNatClampNeg)).toNatClampNeg + k))).toInt) ∧ ((x6_21).toInt = 0 → ¬ smM σ (a).toNatClampNeg (b).toNatClampNeg)) → ((v7).toInt - (x7_21).toInt).toNat = dd21 → Go F L RX12 cX12_isSame 8 rm_X12_isSame (some .boolean) (RI F L (fun r σ2 => σ2 = σ ∧ bq (smM σ (a).toNatClampNeg (b).toNatClampNeg) r)) σ 57 [(0, .ref (L.2.1 13)), (1, .int a), (2, .int b), (3, .int y2), (4, .int y5), (5, .int v7), (6, .int x6_21), (7, .int x7_21)] [] := by
    intro dd21
    induction dd21 using Nat.strongRecOn with
    | _ dd21 ih21 =>
      intro x6_21 x7_21 h_21 hq_21 hs_21 hm_21
      have hqi : (x6_21).toInt = 0 ∨ (x6_21).toInt = 1 := by
        rcases hq_21 with z | z
        · exact Or.inl (by rw [z]; exact n0)
        · exact Or.inr (by rw [z]; exact n1)
      refine go_iload (pc' := 59) dX12_isSame_57 rfl rfl ?_
      refine go_iload (pc' := 61) dX12_isSame_59 rfl rfl ?_
      refine gz_icmp_ge (tgt := 108) (pc' := 64) dX12_isSame_61 rfl (by decide) (fun c22 => ?_) (fun c22 => ?_)
      · refine go_iload (pc' := 110) dX12_isSame_108 rfl rfl ?_
        exact go_zret dX12_isSame_110 rfl (nb01 hq_21) (⟨rfl, by
            rcases hq_21 with z | z
            · exact Or.inr ⟨z, hs_21.2 (by rw [z]; exact n0)⟩
            · have y := hs_21.1 (by rw [z]; exact n1)
              have z1 : (x6_21).toInt = 1 := by rw [z]; exact n1
              exact Or.inl ⟨z, by omega, fun k hk => y.2 k (by omega)⟩⟩)
      refine go_iload (pc' := 66) dX12_isSame_64 rfl rfl ?_
      refine gz_if_eq (tgt := 108) (pc' := 69) dX12_isSame_66 rfl (by decide) (fun c23 => ?_) (fun c23 => ?_)
      · refine go_iload (pc' := 110) dX12_isSame_108 rfl rfl ?_
        exact go_zret dX12_isSame_110 rfl (nb01 hq_21) (⟨rfl, by
            rcases hq_21 with z | z
            · exact Or.inr ⟨z, hs_21.2 (by rw [z]; exact n0)⟩
            · have y := hs_21.1 (by rw [z]; exact n1)
              have z1 : (x6_21).toInt = 1 := by rw [z]; exact n1
              exact Or.inl ⟨z, by omega, fun k hk => y.2 k (by omega)⟩⟩)
      have hs1 := (hs_21.1 (by omega)).1
      refine go_aload_n (i := 0) (pc' := 70) dX12_isSame_69 rfl rfl rfl ?_
      refine gf_13_signs (pc' := 73) dX12_isSame_70 rfl fl_X12_105 ?_
      refine go_iload_n (i := 3) (pc' := 74) dX12_isSame_73 rfl rfl rfl ?_
      refine go_iload (pc' := 76) dX12_isSame_74 rfl rfl ?_
      refine gz_iadd (pc' := 77) dX12_isSame_76 rfl (by omega) (fun v24 h24 e24 => ?_)
      have c7 := cnat (x := x7_21) (by omega)
      have ez1 : (v24).toNatClampNeg = (σ.2 127 (a).toNatClampNeg).toNatClampNeg + (x7_21).toNatClampNeg := by have cz := cnat (x := v24) (by omega); omega
      refine go_iald (pc' := 78) dX12_isSame_77 rfl (by decide) (by decide) rfl (vin_of (n := 320) (by omega) (by omega)) ?_
      refine go_aload_n (i := 0) (pc' := 79) dX12_isSame_78 rfl rfl rfl ?_
      refine gf_13_signs (pc' := 82) dX12_isSame_79 rfl fl_X12_105 ?_
      refine go_sipush (v := 160) (pc' := 85) dX12_isSame_82 rfl (by decide) ?_
      refine go_iload (pc' := 87) dX12_isSame_85 rfl rfl ?_
      refine gz_iadd (pc' := 88) dX12_isSame_87 rfl (by omega) (fun v25 h25 e25 => ?_)
      refine go_iload (pc' := 90) dX12_isSame_88 rfl rfl ?_
      refine gz_iadd (pc' := 91) dX12_isSame_90 rfl (by omega) (fun v26 h26 e26 => ?_)
      have ez2 : (v26).toNatClampNeg = 160 + ((σ.2 127 (160 + (b).toNatClampNeg)).toNatClampNeg + (x7_21).toNatClampNeg) := by have cz := cnat (x := v26) (by omega); omega
      refine go_iald (pc' := 92) dX12_isSame_91 rfl (by decide) (by decide) rfl (vin_of (n := 320) (by omega) (by omega)) ?_
      refine gz_icmp_ne (tgt := 99) (pc' := 95) dX12_isSame_92 rfl (by decide) (fun c27 => ?_) (fun c27 => ?_)
      · refine go_iconst (v := 0) (pc' := 100) dX12_isSame_99 rfl (by decide) ?_
        have st : (((0 : Int32)).toInt = 1 → ∀ k : Nat, (k : Int) < (x7_21).toInt + 1 → (σ.2 126 ((σ.2 127 (a).toNatClampNeg).toNatClampNeg + k)).toInt = (σ.2 126 (160 + ((σ.2 127 (160 + (b).toNatClampNeg)).toNatClampNeg + k))).toInt) ∧ (((0 : Int32)).toInt = 0 → ¬ smM σ (a).toNatClampNeg (b).toNatClampNeg) := by
          first
          | exact ⟨fun _ k hk => by
              by_cases z : k = (x7_21).toNatClampNeg
              · rw [z, ← ez1, ← ez2]
                omega
              · exact (hs_21.1 (by omega)).2 k (by omega), fun z => by exfalso; omega⟩
          | exact ⟨fun z => by exfalso; omega, fun _ q => by
              have y : (σ.2 126 ((σ.2 127 (a).toNatClampNeg).toNatClampNeg + (x7_21).toNatClampNeg)).toInt = (σ.2 126 (160 + ((σ.2 127 (160 + (b).toNatClampNeg)).toNatClampNeg + (x7_21).toNatClampNeg))).toInt := q.2 (x7_21).toNatClampNeg (by omega)
              rw [← ez1, ← ez2] at y
              omega⟩
        refine go_istore (pc' := 102) dX12_isSame_100 rfl (by decide) ?_
        refine gz_iinc (c := 1) (pc' := 105) dX12_isSame_102 rfl rfl (by decide) (by decide) (by decide) (by omega) (fun v28 h28 e28 => ?_)
        refine go_goto (tgt := 57) dX12_isSame_105 (by decide) ?_
        exact go_lv (lv' := [(0, .ref (L.2.1 13)), (1, .int a), (2, .int b), (3, .int y2), (4, .int y5), (5, .int v7), (6, .int (0 : Int32)), (7, .int v28)]) rfl (ih21 _ (by omega)  (0 : Int32) v28 (by omega) (by first | exact Or.inl rfl | exact Or.inr rfl) ⟨fun z => ⟨(hs_21.1 (by omega)).1, fun k hk => st.1 z k (by omega)⟩, st.2⟩ rfl)
      refine go_iconst (v := 1) (pc' := 96) dX12_isSame_95 rfl (by decide) ?_
      refine go_goto (tgt := 100) dX12_isSame_96 (by decide) ?_
      have st : (((1 : Int32)).toInt = 1 → ∀ k : Nat, (k : Int) < (x7_21).toInt + 1 → (σ.2 126 ((σ.2 127 (a).toNatClampNeg).toNatClampNeg + k)).toInt = (σ.2 126 (160 + ((σ.2 127 (160 + (b).toNatClampNeg)).toNatClampNeg + k))).toInt) ∧ (((1 : Int32)).toInt = 0 → ¬ smM σ (a).toNatClampNeg (b).toNatClampNeg) := by
        first
        | exact ⟨fun _ k hk => by
            by_cases z : k = (x7_21).toNatClampNeg
            · rw [z, ← ez1, ← ez2]
              omega
            · exact (hs_21.1 (by omega)).2 k (by omega), fun z => by exfalso; omega⟩
        | exact ⟨fun z => by exfalso; omega, fun _ q => by
            have y : (σ.2 126 ((σ.2 127 (a).toNatClampNeg).toNatClampNeg + (x7_21).toNatClampNeg)).toInt = (σ.2 126 (160 + ((σ.2 127 (160 + (b).toNatClampNeg)).toNatClampNeg + (x7_21).toNatClampNeg))).toInt := q.2 (x7_21).toNatClampNeg (by omega)
            rw [← ez1, ← ez2] at y
            omega⟩
      refine go_istore (pc' := 102) dX12_isSame_100 rfl (by decide) ?_
      refine gz_iinc (c := 1) (pc' := 105) dX12_isSame_102 rfl rfl (by decide) (by decide) (by decide) (by omega) (fun v29 h29 e29 => ?_)
      refine go_goto (tgt := 57) dX12_isSame_105 (by decide) ?_
      exact go_lv (lv' := [(0, .ref (L.2.1 13)), (1, .int a), (2, .int b), (3, .int y2), (4, .int y5), (5, .int v7), (6, .int (1 : Int32)), (7, .int v29)]) rfl (ih21 _ (by omega)  (1 : Int32) v29 (by omega) (by first | exact Or.inl rfl | exact Or.inr rfl) ⟨fun z => ⟨(hs_21.1 (by omega)).1, fun k hk => st.1 z k (by omega)⟩, st.2⟩ rfl)
  exact go_lv (lv' := [(0, .ref (L.2.1 13)), (1, .int a), (2, .int b), (3, .int y2), (4, .int y5), (5, .int v7), (6, .int (1 : Int32)), (7, .int (0 : Int32))]) rfl (loop57_21 _  (1 : Int32) (0 : Int32) (by omega) (by first | exact Or.inl rfl | exact Or.inr rfl) (by first | exact ⟨fun _ => ⟨by omega, fun k hk => by exfalso; omega⟩, fun z => by exfalso; omega⟩ | exact ⟨fun z => by exfalso; omega, fun _ q => by have y := q.1; omega⟩) rfl)
set_option maxHeartbeats 4000000 in
set_option maxRecDepth 100000 in
theorem f_X12_differ (l : Launch) (L : WL) (σ : ST) (a b : Int32) (ix : IV σ) (tv : TV σ) : CtI l L yX12_differ cX12_differ 7 (some .int) rm_X12_differ [.ref (L.2.1 13), .int a, .int b] σ (fun r σ2 => tM_differ σ a b r σ2) := by
  refine ctI_go (own := RX12) (by decide) rfl (Nat.le_of_ble_eq_true rfl) (fun F hF => ?_)
  subst hF
  have nm2 : (-2 : Int32).toInt = -2 := by decide
  have n0 : (0 : Int32).toInt = 0 := by decide
  have n1 : (1 : Int32).toInt = 1 := by decide
  have w0 : WM σ σ := WM_rfl ix
  have u19 := ixi_19 ix
  have u20 := ixi_20 ix
  have u21 := ixi_21 ix
  have u22 := ixi_22 ix
  have z0 : (0 : Int32).toNatClampNeg = 0 := rfl
  have z1 : (1 : Int32).toNatClampNeg = 1 := rfl
  refine go_aload_n (i := 0) (pc' := 1) dX12_differ_0 rfl rfl rfl ?_
  refine go_iload_n (i := 1) (pc' := 2) dX12_differ_1 rfl rfl rfl ?_
  refine go_cvi (pc' := 5) lk_X12_152 (c_X12_isLetter _ _ _ _) rfl rfl (Nat.le_of_ble_eq_true rfl) (by decide) rfl rfl rfl ⟨Nat.le_of_ble_eq_true rfl, Nat.le_of_ble_eq_true rfl⟩ ⟨rfl, rfl⟩ dX12_differ_2 rfl (fun r1 σ1 h1 => ?_)
  obtain ⟨e1, h1⟩ := h1
  have e1 := e1.symm
  subst e1
  refine go_eqB (tgt := 16) (pc' := 8) h1 dX12_differ_5 rfl (by decide) (fun c2 => ?_) (fun c2 => ?_)
  · refine go_bipush (v := (-2)) (pc' := 18) dX12_differ_16 rfl (by decide) ?_
    exact go_iret dX12_differ_18 rfl (⟨w0, Or.inl ⟨by omega, rfl⟩⟩)
  refine go_aload_n (i := 0) (pc' := 9) dX12_differ_8 rfl rfl rfl ?_
  refine go_iload_n (i := 2) (pc' := 10) dX12_differ_9 rfl rfl rfl ?_
  refine go_cvi (pc' := 13) lk_X12_152 (c_X12_isLetter _ _ _ _) rfl rfl (Nat.le_of_ble_eq_true rfl) (by decide) rfl rfl rfl ⟨Nat.le_of_ble_eq_true rfl, Nat.le_of_ble_eq_true rfl⟩ ⟨rfl, rfl⟩ dX12_differ_10 rfl (fun r3 σ3 h3 => ?_)
  obtain ⟨e3, h3⟩ := h3
  have e3 := e3.symm
  subst e3
  refine go_neB (tgt := 19) (pc' := 16) h3 dX12_differ_13 rfl (by decide) (fun c4 => ?_) (fun c4 => ?_)
  · refine go_aload_n (i := 0) (pc' := 20) dX12_differ_19 rfl rfl rfl ?_
    refine go_iload_n (i := 1) (pc' := 21) dX12_differ_20 rfl rfl rfl ?_
    refine go_iconst (v := 0) (pc' := 22) dX12_differ_21 rfl (by decide) ?_
    refine go_cvv (pc' := 25) lk_X12_266 (e_X12_findWords _ _ _ _ _ (by omega) (by omega) w0.1 (TV_q w0 tv)) rfl rfl (Nat.le_of_ble_eq_true rfl) (by decide) rfl rfl rfl ⟨Nat.le_of_ble_eq_true rfl, Nat.le_of_ble_eq_true rfl⟩ ⟨rfl, rfl⟩ dX12_differ_22 rfl (fun σ5 h5 => ?_)
    obtain ⟨u5, h5⟩ := h5
    have w5 := WM_trans w0 u5
    have rA := h5
    have u9 := u5
    refine go_aload_n (i := 0) (pc' := 26) dX12_differ_25 rfl rfl rfl ?_
    refine go_iload_n (i := 2) (pc' := 27) dX12_differ_26 rfl rfl rfl ?_
    refine go_iconst (v := 1) (pc' := 28) dX12_differ_27 rfl (by decide) ?_
    refine go_cvv (pc' := 31) lk_X12_266 (e_X12_findWords _ _ _ _ _ (by omega) (by omega) w5.1 (TV_q w5 tv)) rfl rfl (Nat.le_of_ble_eq_true rfl) (by decide) rfl rfl rfl ⟨Nat.le_of_ble_eq_true rfl, Nat.le_of_ble_eq_true rfl⟩ ⟨rfl, rfl⟩ dX12_differ_28 rfl (fun σ6 h6 => ?_)
    obtain ⟨u6, h6⟩ := h6
    have w6 := WM_trans w5 u6
    have rB := h6
    rw [FUM_q u9] at rB
    rw [z0] at rA
    rw [z1] at rB
    have wa := WRM_e rA.1 (fun q h1 h2 => (rB.2.2.2.2 q (by omega)).1) (fun q h1 h2 => (rB.2.2.2.2 q (by omega)).2.1) (fun q h1 h2 => (rB.2.2.2.2 q (by omega)).2.2) rA.2.1
    have wb := rB.1
    have lA := rA.2.1
    have lB := rB.2.1
    have nA : (σ6.2 129 0).toInt = ((wN (lsP (FUM σ (a).toNatClampNeg 9999 0)) (FUM σ (a).toNatClampNeg 9999 0).length) : Int) := by rw [rB.2.2.2.1 0 (by decide)]; exact rA.2.2.1
    have nB : (σ6.2 129 1).toInt = ((wN (lsP (FUM σ (b).toNatClampNeg 9999 0)) (FUM σ (b).toNatClampNeg 9999 0).length) : Int) := rB.2.2.1
    have mA := wN_le2 (lsP (FUM σ (a).toNatClampNeg 9999 0)) (FUM σ (a).toNatClampNeg 9999 0).length
    have mB := wN_le2 (lsP (FUM σ (b).toNatClampNeg 9999 0)) (FUM σ (b).toNatClampNeg 9999 0).length
    have ra := wd_rng (lsP (FUM σ (a).toNatClampNeg 9999 0)) (FUM σ (a).toNatClampNeg 9999 0).length
    have rb := wd_rng (lsP (FUM σ (b).toNatClampNeg 9999 0)) (FUM σ (b).toNatClampNeg 9999 0).length
    have sme : ∀ i j : Nat, i < (wN (lsP (FUM σ (a).toNatClampNeg 9999 0)) (FUM σ (a).toNatClampNeg 9999 0).length) → j < (wN (lsP (FUM σ (b).toNatClampNeg 9999 0)) (FUM σ (b).toNatClampNeg 9999 0).length) → (smM σ6 i j ↔ (sLL (FUM σ (a).toNatClampNeg 9999 0) (FUM σ (b).toNatClampNeg 9999 0)) i j) := fun i j hi hj => by
      have ya : (σ6.2 127 (160 * 0 + i)).toInt = _ ∧ (σ6.2 128 (160 * 0 + i)).toInt = _ := wa.1.2 i hi
      have za := ra i hi
      have yb : (σ6.2 127 (160 * 1 + j)).toInt = _ ∧ (σ6.2 128 (160 * 1 + j)).toInt = _ := wb.1.2 j hj
      have zb := rb j hj
      have e160 : 160 * 1 + j = 160 + j := by omega
      have e0 : 160 * 0 + i = i := by omega
      rw [e160] at yb
      rw [e0] at ya
      have e1 : (σ6.2 127 i).toNatClampNeg = wS (lsP (FUM σ (a).toNatClampNeg 9999 0)) (FUM σ (a).toNatClampNeg 9999 0).length i := by have q := cnat (x := σ6.2 127 i) (by omega); omega
      have e2 : (σ6.2 128 i).toNatClampNeg = wE (lsP (FUM σ (a).toNatClampNeg 9999 0)) (FUM σ (a).toNatClampNeg 9999 0).length i := by have q := cnat (x := σ6.2 128 i) (by omega); omega
      have e3 : (σ6.2 127 (160 + j)).toNatClampNeg = wS (lsP (FUM σ (b).toNatClampNeg 9999 0)) (FUM σ (b).toNatClampNeg 9999 0).length j := by have q := cnat (x := σ6.2 127 (160 + j)) (by omega); omega
      have e4 : (σ6.2 128 (160 + j)).toNatClampNeg = wE (lsP (FUM σ (b).toNatClampNeg 9999 0)) (FUM σ (b).toNatClampNeg 9999 0).length j := by have q := cnat (x := σ6.2 128 (160 + j)) (by omega); omega
      unfold smM sLL
      rw [e1, e2, e3, e4]
      exact sm_eq (fun k hk => by have y := wa.2 k hk; rw [show 160 * 0 + k = k by omega] at y; exact y) (fun k hk => by have y := wb.2 k hk; rw [show 160 * 1 + k = 160 + k by omega] at y; exact y) za.2 zb.2
    have w1 : ∀ i : Nat, i < (wN (lsP (FUM σ (a).toNatClampNeg 9999 0)) (FUM σ (a).toNatClampNeg 9999 0).length) → (σ6.2 127 i).toInt ≤ (σ6.2 128 i).toInt := fun i hi => by
      have ya : (σ6.2 127 (160 * 0 + i)).toInt = _ ∧ (σ6.2 128 (160 * 0 + i)).toInt = _ := wa.1.2 i hi
      have za := ra i hi
      rw [show 160 * 0 + i = i by omega] at ya
      omega
    have w2 : ∀ j : Nat, j < (wN (lsP (FUM σ (b).toNatClampNeg 9999 0)) (FUM σ (b).toNatClampNeg 9999 0).length) → (σ6.2 127 (160 + j)).toInt ≤ (σ6.2 128 (160 + j)).toInt := fun j hj => by
      have yb : (σ6.2 127 (160 * 1 + j)).toInt = _ ∧ (σ6.2 128 (160 * 1 + j)).toInt = _ := wb.1.2 j hj
      have zb := rb j hj
      rw [show 160 * 1 + j = 160 + j by omega] at yb
      omega
    refine go_aload_n (i := 0) (pc' := 32) dX12_differ_31 rfl rfl rfl ?_
    refine gf_13_wordMany (pc' := 35) dX12_differ_32 rfl fl_X12_114 ?_
    refine go_iconst (v := 1) (pc' := 36) dX12_differ_35 rfl (by decide) ?_
    refine go_iald (pc' := 37) dX12_differ_36 rfl (by decide) (by decide) rfl (vin_of (n := 2) (by omega) (by omega)) ?_
    refine go_rngA (ixa_129 w6.1) (vinlt (vin_of (n := 2) (by omega) (by omega))) (fun g7 => ?_)
    have k37 : ((σ6.2 129 ((1 : Int32)).toNatClampNeg)).toInt = _ := nB
    refine go_topz (fun y8 h8 e8 => ?_)
    refine go_istore_n (i := 3) (pc' := 38) dX12_differ_37 rfl rfl (by decide) ?_
    refine go_iconst (v := 0) (pc' := 39) dX12_differ_38 rfl (by decide) ?_
    refine go_istore (pc' := 41) dX12_differ_39 rfl (by decide) ?_
    have loop41_9 : ∀ (dd9 : Nat) (σ9 : ST) (x4_9 : Int32), WM σ σ9 → (0 ≤ (x4_9).toInt ∧ (x4_9).toInt ≤ ((wN (lsP (FUM σ (b).toNatClampNeg 9999 0)) (FUM σ (b).toNatClampNeg 9999 0).length) : Int) + 1) → (σ9.2 126 = σ6.2 126 ∧ σ9.2 127 = σ6.2 127 ∧ σ9.2 128 = σ6.2 128 ∧ σ9.2 129 = σ6.2 129) → (∀ q : Nat, (q : Int) < (x4_9).toInt → (σ9.2 130 q).toInt = (q : Int)) → (161 - (x4_9).toInt).toNat = dd9 → Go F L RX12 cX12_differ 7 rm_X12_differ (some .int) (RI F L (fun r σ2 => tM_differ σ a b r σ2)) σ9 41 [(0, .ref (L.2.1 13)), (1, .int a), (2, .int b), (3, .int y8), (4, .int x4_9)] [] := by
      intro dd9
      induction dd9 using Nat.strongRecOn with
      | _ dd9 ih9 =>
        intro σ9 x4_9 w9 h_9 kw_9 hc_9 hm_9
        refine go_iload (pc' := 43) dX12_differ_41 rfl rfl ?_
        refine go_iload_n (i := 3) (pc' := 44) dX12_differ_43 rfl rfl rfl ?_
        have c4 := cnat (x := x4_9) (by omega)
        have kw := kw_9
        refine gz_icmp_gt (tgt := 62) (pc' := 47) dX12_differ_44 rfl (by decide) (fun c10 => ?_) (fun c10 => ?_)
        · refine go_iconst (v := 1) (pc' := 63) dX12_differ_62 rfl (by decide) ?_
          refine go_istore (pc' := 65) dX12_differ_63 rfl (by decide) ?_
          have loop65_11 : ∀ (dd11 : Nat) (σ11 : ST) (x4_11 : Int32), WM σ σ11 → (1 ≤ (x4_11).toInt ∧ (x4_11).toInt ≤ ((wN (lsP (FUM σ (a).toNatClampNeg 9999 0)) (FUM σ (a).toNatClampNeg 9999 0).length) : Int) + 1) → (σ11.2 126 = σ6.2 126 ∧ σ11.2 127 = σ6.2 127 ∧ σ11.2 128 = σ6.2 128 ∧ σ11.2 129 = σ6.2 129) → (∀ q : Nat, q ≤ (wN (lsP (FUM σ (b).toNatClampNeg 9999 0)) (FUM σ (b).toNatClampNeg 9999 0).length) → (σ11.2 130 q).toInt = (dl (sLL (FUM σ (a).toNatClampNeg 9999 0) (FUM σ (b).toNatClampNeg 9999 0)) ((x4_11).toNatClampNeg - 1) q : Int)) → (161 - (x4_11).toInt).toNat = dd11 → Go F L RX12 cX12_differ 7 rm_X12_differ (some .int) (RI F L (fun r σ2 => tM_differ σ a b r σ2)) σ11 65 [(0, .ref (L.2.1 13)), (1, .int a), (2, .int b), (3, .int y8), (4, .int x4_11)] [] := by
            intro dd11
            induction dd11 using Nat.strongRecOn with
            | _ dd11 ih11 =>
              intro σ11 x4_11 w11 h_11 kw_11 hc_11 hm_11
              refine go_iload (pc' := 67) dX12_differ_65 rfl rfl ?_
              refine go_aload_n (i := 0) (pc' := 68) dX12_differ_67 rfl rfl rfl ?_
              refine gf_13_wordMany (pc' := 71) dX12_differ_68 rfl fl_X12_114 ?_
              refine go_iconst (v := 0) (pc' := 72) dX12_differ_71 rfl (by decide) ?_
              have k72 : ((0 : Int32)).toNatClampNeg = 0 := rfl
              refine go_iald (pc' := 73) dX12_differ_72 rfl (by decide) (by decide) rfl (vin_of (n := 2) (by omega) (by omega)) ?_
              refine go_rngA (ixa_129 w11.1) (vinlt (vin_of (n := 2) (by omega) (by omega))) (fun g12 => ?_)
              have c4 := cnat (x := x4_11) (by omega)
              have kw := kw_11
              have k73 : ((σ11.2 129 ((0 : Int32)).toNatClampNeg)).toInt = ((wN (lsP (FUM σ (a).toNatClampNeg 9999 0)) (FUM σ (a).toNatClampNeg 9999 0).length) : Int) := by rw [kw.2.2.2, z0]; exact nA
              refine gz_icmp_gt (tgt := 199) (pc' := 76) dX12_differ_73 rfl (by decide) (fun c13 => ?_) (fun c13 => ?_)
              · refine go_aload_n (i := 0) (pc' := 200) dX12_differ_199 rfl rfl rfl ?_
                refine gf_13_above (pc' := 203) dX12_differ_200 rfl fl_X12_117 ?_
                refine go_iload_n (i := 3) (pc' := 204) dX12_differ_203 rfl rfl rfl ?_
                refine go_iald (pc' := 205) dX12_differ_204 rfl (by decide) (by decide) rfl (vin_of (n := 161) (by omega) (by omega)) ?_
                exact go_iret dX12_differ_205 rfl (⟨w11, Or.inr ⟨by omega, by have c4 := cnat (x := x4_11) (by omega); have c3 := cnat (x := y8) (by omega); rw [show (y8).toNatClampNeg = (wN (lsP (FUM σ (b).toNatClampNeg 9999 0)) (FUM σ (b).toNatClampNeg 9999 0).length) from by omega, hc_11 _ (Nat.le_refl _), show (x4_11).toNatClampNeg - 1 = (wN (lsP (FUM σ (a).toNatClampNeg 9999 0)) (FUM σ (a).toNatClampNeg 9999 0).length) from by omega]; rfl⟩⟩)
              refine go_aload_n (i := 0) (pc' := 77) dX12_differ_76 rfl rfl rfl ?_
              refine gf_13_below (pc' := 80) dX12_differ_77 rfl fl_X12_120 ?_
              refine go_iconst (v := 0) (pc' := 81) dX12_differ_80 rfl (by decide) ?_
              refine go_iload (pc' := 83) dX12_differ_81 rfl rfl ?_
              refine go_iast (pc' := 84) dX12_differ_83 rfl (by decide) (by decide) rfl (vin_of (n := 161) (by omega) (by omega)) ?_
              refine go_gen (P := fun s => WM σ s ∧ (∀ q : Nat, q ≠ 131 → s.2 q = σ11.2 q) ∧ s.2 131 = upd (σ11.2 131) ((0 : Int32)).toNatClampNeg x4_11) ⟨⟨ixt_n w11.1 (by decide), Ag_setA w11.2 (by decide)⟩, ⟨fun q hq => setA_ne (a := q) _ 131 _ _ hq, setA_same _ _ _ _⟩⟩ (fun σ14 z14 => ?_)
              obtain ⟨w14, g14⟩ := z14
              have gb := g14
              refine go_iconst (v := 1) (pc' := 85) dX12_differ_84 rfl (by decide) ?_
              refine go_istore (pc' := 87) dX12_differ_85 rfl (by decide) ?_
              have loop87_15 : ∀ (dd15 : Nat) (σ15 : ST) (x5_15 : Int32), WM σ σ15 → (1 ≤ (x5_15).toInt ∧ (x5_15).toInt ≤ ((wN (lsP (FUM σ (b).toNatClampNeg 9999 0)) (FUM σ (b).toNatClampNeg 9999 0).length) : Int) + 1) → (σ15.2 126 = σ6.2 126 ∧ σ15.2 127 = σ6.2 127 ∧ σ15.2 128 = σ6.2 128 ∧ σ15.2 129 = σ6.2 129) → (∀ q : Nat, q ≤ (wN (lsP (FUM σ (b).toNatClampNeg 9999 0)) (FUM σ (b).toNatClampNeg 9999 0).length) → (σ15.2 130 q).toInt = (dl (sLL (FUM σ (a).toNatClampNeg 9999 0) (FUM σ (b).toNatClampNeg 9999 0)) ((x4_11).toNatClampNeg - 1) q : Int)) → (∀ q : Nat, (q : Int) < (x5_15).toInt → (σ15.2 131 q).toInt = (dl (sLL (FUM σ (a).toNatClampNeg 9999 0) (FUM σ (b).toNatClampNeg 9999 0)) (x4_11).toNatClampNeg q : Int)) → (161 - (x5_15).toInt).toNat = dd15 → Go F L RX12 cX12_differ 7 rm_X12_differ (some .int) (RI F L (fun r σ2 => tM_differ σ a b r σ2)) σ15 87 [(0, .ref (L.2.1 13)), (1, .int a), (2, .int b), (3, .int y8), (4, .int x4_11), (5, .int x5_15)] [] := by
                intro dd15
                induction dd15 using Nat.strongRecOn with
                | _ dd15 ih15 =>
                  intro σ15 x5_15 w15 h_15 kw_15 ha_15 hb_15 hm_15
                  refine go_iload (pc' := 89) dX12_differ_87 rfl rfl ?_
                  refine go_iload_n (i := 3) (pc' := 90) dX12_differ_89 rfl rfl rfl ?_
                  have c5 := cnat (x := x5_15) (by omega)
                  have kw := kw_15
                  refine gz_icmp_gt (tgt := 164) (pc' := 93) dX12_differ_90 rfl (by decide) (fun c16 => ?_) (fun c16 => ?_)
                  · refine go_iconst (v := 0) (pc' := 165) dX12_differ_164 rfl (by decide) ?_
                    refine go_istore (pc' := 167) dX12_differ_165 rfl (by decide) ?_
                    have loop167_17 : ∀ (dd17 : Nat) (σ17 : ST) (x5_17 : Int32), WM σ σ17 → (0 ≤ (x5_17).toInt ∧ (x5_17).toInt ≤ ((wN (lsP (FUM σ (b).toNatClampNeg 9999 0)) (FUM σ (b).toNatClampNeg 9999 0).length) : Int) + 1) → (σ17.2 126 = σ6.2 126 ∧ σ17.2 127 = σ6.2 127 ∧ σ17.2 128 = σ6.2 128 ∧ σ17.2 129 = σ6.2 129) → (∀ q : Nat, q ≤ (wN (lsP (FUM σ (b).toNatClampNeg 9999 0)) (FUM σ (b).toNatClampNeg 9999 0).length) → (σ17.2 131 q).toInt = (dl (sLL (FUM σ (a).toNatClampNeg 9999 0) (FUM σ (b).toNatClampNeg 9999 0)) (x4_11).toNatClampNeg q : Int)) → (∀ q : Nat, (q : Int) < (x5_17).toInt → (σ17.2 130 q).toInt = (dl (sLL (FUM σ (a).toNatClampNeg 9999 0) (FUM σ (b).toNatClampNeg 9999 0)) (x4_11).toNatClampNeg q : Int)) → (161 - (x5_17).toInt).toNat = dd17 → Go F L RX12 cX12_differ 7 rm_X12_differ (some .int) (RI F L (fun r σ2 => tM_differ σ a b r σ2)) σ17 167 [(0, .ref (L.2.1 13)), (1, .int a), (2, .int b), (3, .int y8), (4, .int x4_11), (5, .int x5_17)] [] := by
                      intro dd17
                      induction dd17 using Nat.strongRecOn with
                      | _ dd17 ih17 =>
                        intro σ17 x5_17 w17 h_17 kw_17 hb_17 hc_17 hm_17
                        refine go_iload (pc' := 169) dX12_differ_167 rfl rfl ?_
                        refine go_iload_n (i := 3) (pc' := 170) dX12_differ_169 rfl rfl rfl ?_
                        have c5 := cnat (x := x5_17) (by omega)
                        have kw := kw_17
                        refine gz_icmp_gt (tgt := 193) (pc' := 173) dX12_differ_170 rfl (by decide) (fun c18 => ?_) (fun c18 => ?_)
                        · refine gz_iinc (c := 1) (pc' := 196) dX12_differ_193 rfl rfl (by decide) (by decide) (by decide) (by omega) (fun v19 h19 e19 => ?_)
                          refine go_goto (tgt := 65) dX12_differ_196 (by decide) ?_
                          exact go_lv (lv' := [(0, .ref (L.2.1 13)), (1, .int a), (2, .int b), (3, .int y8), (4, .int v19)]) rfl (ih11 _ (by omega) σ17 v19 w17 (by omega) kw_17 (fun q hq => by have cv := cnat (x := v19) (by omega); rw [show (v19).toNatClampNeg - 1 = (x4_11).toNatClampNeg from by omega]; exact hc_17 q (by omega)) rfl)
                        refine go_aload_n (i := 0) (pc' := 174) dX12_differ_173 rfl rfl rfl ?_
                        refine gf_13_above (pc' := 177) dX12_differ_174 rfl fl_X12_117 ?_
                        refine go_iload (pc' := 179) dX12_differ_177 rfl rfl ?_
                        refine go_aload_n (i := 0) (pc' := 180) dX12_differ_179 rfl rfl rfl ?_
                        refine gf_13_below (pc' := 183) dX12_differ_180 rfl fl_X12_120 ?_
                        refine go_iload (pc' := 185) dX12_differ_183 rfl rfl ?_
                        refine go_iald (pc' := 186) dX12_differ_185 rfl (by decide) (by decide) rfl (vin_of (n := 161) (by omega) (by omega)) ?_
                        refine go_iast (pc' := 187) dX12_differ_186 rfl (by decide) (by decide) rfl (vin_of (n := 161) (by omega) (by omega)) ?_
                        refine go_gen (P := fun s => WM σ s ∧ (∀ q : Nat, q ≠ 130 → s.2 q = σ17.2 q) ∧ s.2 130 = upd (σ17.2 130) (x5_17).toNatClampNeg (σ17.2 131 (x5_17).toNatClampNeg)) ⟨⟨ixt_n w17.1 (by decide), Ag_setA w17.2 (by decide)⟩, ⟨fun q hq => setA_ne (a := q) _ 130 _ _ hq, setA_same _ _ _ _⟩⟩ (fun σ20 z20 => ?_)
                        obtain ⟨w20, g20⟩ := z20
                        have gd := g20
                        refine gz_iinc (c := 1) (pc' := 190) dX12_differ_187 rfl rfl (by decide) (by decide) (by decide) (by omega) (fun v21 h21 e21 => ?_)
                        refine go_goto (tgt := 167) dX12_differ_190 (by decide) ?_
                        exact go_lv (lv' := [(0, .ref (L.2.1 13)), (1, .int a), (2, .int b), (3, .int y8), (4, .int x4_11), (5, .int v21)]) rfl (ih17 _ (by omega) σ20 v21 w20 (by omega) ⟨(gd.1 126 (by decide)).trans kw.1, (gd.1 127 (by decide)).trans kw.2.1, (gd.1 128 (by decide)).trans kw.2.2.1, (gd.1 129 (by decide)).trans kw.2.2.2⟩ (fun q hq => by rw [gd.1 131 (by decide)]; exact hb_17 q hq) (dq_step hc_17 gd.2 rfl (by omega) (by omega) (hb_17 _ (by omega))) rfl)
                    exact go_lv (lv' := [(0, .ref (L.2.1 13)), (1, .int a), (2, .int b), (3, .int y8), (4, .int x4_11), (5, .int (0 : Int32))]) rfl (loop167_17 _ σ15 (0 : Int32) w15 (by omega) kw_15 (fun q hq => hb_15 q (by omega)) (fun q hq => by exfalso; omega) rfl)
                  have dA := dl_le (sLL (FUM σ (a).toNatClampNeg 9999 0) (FUM σ (b).toNatClampNeg 9999 0)) ((x4_11).toNatClampNeg - 1) (x5_15).toNatClampNeg
                  have dB := dl_le (sLL (FUM σ (a).toNatClampNeg 9999 0) (FUM σ (b).toNatClampNeg 9999 0)) (x4_11).toNatClampNeg ((x5_15).toNatClampNeg - 1)
                  have dC := dl_le (sLL (FUM σ (a).toNatClampNeg 9999 0) (FUM σ (b).toNatClampNeg 9999 0)) ((x4_11).toNatClampNeg - 1) ((x5_15).toNatClampNeg - 1)
                  have qa := ha_15 (x5_15).toNatClampNeg (by omega)
                  have qb := hb_15 ((x5_15).toNatClampNeg - 1) (by omega)
                  have qc := ha_15 ((x5_15).toNatClampNeg - 1) (by omega)
                  refine go_aload_n (i := 0) (pc' := 94) dX12_differ_93 rfl rfl rfl ?_
                  refine gf_13_above (pc' := 97) dX12_differ_94 rfl fl_X12_117 ?_
                  refine go_iload (pc' := 99) dX12_differ_97 rfl rfl ?_
                  refine go_iald (pc' := 100) dX12_differ_99 rfl (by decide) (by decide) rfl (vin_of (n := 161) (by omega) (by omega)) ?_
                  refine go_aload_n (i := 0) (pc' := 101) dX12_differ_100 rfl rfl rfl ?_
                  refine gf_13_below (pc' := 104) dX12_differ_101 rfl fl_X12_120 ?_
                  refine go_iload (pc' := 106) dX12_differ_104 rfl rfl ?_
                  refine go_iconst (v := 1) (pc' := 107) dX12_differ_106 rfl (by decide) ?_
                  refine gz_isub (pc' := 108) dX12_differ_107 rfl (by omega) (fun v22 h22 e22 => ?_)
                  have ez8 : (v22).toNatClampNeg = (x5_15).toNatClampNeg - 1 := by have cz := cnat (x := v22) (by omega); omega
                  refine go_iald (pc' := 109) dX12_differ_108 rfl (by decide) (by decide) rfl (vin_of (n := 161) (by omega) (by omega)) ?_
                  rw [ez8]
                  refine gz_min (pc' := 112) dX12_differ_109 rfl ml_X12_178 (Nat.le_of_ble_eq_true rfl) (Nat.le_of_ble_eq_true rfl) (fun v23 h23 e23 => ?_)
                  refine go_iconst (v := 1) (pc' := 113) dX12_differ_112 rfl (by decide) ?_
                  refine gz_iadd (pc' := 114) dX12_differ_113 rfl (by omega) (fun v24 h24 e24 => ?_)
                  refine go_istore (pc' := 116) dX12_differ_114 rfl (by decide) ?_
                  refine go_aload_n (i := 0) (pc' := 117) dX12_differ_116 rfl rfl rfl ?_
                  refine gf_13_below (pc' := 120) dX12_differ_117 rfl fl_X12_120 ?_
                  refine go_iload (pc' := 122) dX12_differ_120 rfl rfl ?_
                  refine go_iload (pc' := 124) dX12_differ_122 rfl rfl ?_
                  refine go_aload_n (i := 0) (pc' := 125) dX12_differ_124 rfl rfl rfl ?_
                  refine gf_13_above (pc' := 128) dX12_differ_125 rfl fl_X12_117 ?_
                  refine go_iload (pc' := 130) dX12_differ_128 rfl rfl ?_
                  refine go_iconst (v := 1) (pc' := 131) dX12_differ_130 rfl (by decide) ?_
                  refine gz_isub (pc' := 132) dX12_differ_131 rfl (by omega) (fun v25 h25 e25 => ?_)
                  have ez2 : (v25).toNatClampNeg = (x5_15).toNatClampNeg - 1 := by have cz := cnat (x := v25) (by omega); omega
                  refine go_iald (pc' := 133) dX12_differ_132 rfl (by decide) (by decide) rfl (vin_of (n := 161) (by omega) (by omega)) ?_
                  rw [ez2]
                  refine go_aload_n (i := 0) (pc' := 134) dX12_differ_133 rfl rfl rfl ?_
                  refine go_iload (pc' := 136) dX12_differ_134 rfl rfl ?_
                  refine go_iconst (v := 1) (pc' := 137) dX12_differ_136 rfl (by decide) ?_
                  refine gz_isub (pc' := 138) dX12_differ_137 rfl (by omega) (fun v26 h26 e26 => ?_)
                  refine go_iload (pc' := 140) dX12_differ_138 rfl rfl ?_
                  refine go_iconst (v := 1) (pc' := 141) dX12_differ_140 rfl (by decide) ?_
                  refine gz_isub (pc' := 142) dX12_differ_141 rfl (by omega) (fun v27 h27 e27 => ?_)
                  have ei : (v26).toNatClampNeg = (x4_11).toNatClampNeg - 1 := by have cz := cnat (x := v26) (by omega); omega
                  have ej : (v27).toNatClampNeg = (x5_15).toNatClampNeg - 1 := by have cz := cnat (x := v27) (by omega); omega
                  have smc : smM σ15 (v26).toNatClampNeg (v27).toNatClampNeg ↔ (sLL (FUM σ (a).toNatClampNeg 9999 0) (FUM σ (b).toNatClampNeg 9999 0)) ((x4_11).toNatClampNeg - 1) ((x5_15).toNatClampNeg - 1) := by
                    rw [ei, ej, ← sme _ _ (by omega) (by omega)]
                    unfold smM
                    rw [kw.1, kw.2.1, kw.2.2.1]
                  refine go_cvi (pc' := 145) lk_X12_269 (e_X12_isSame _ _ _ _ _ (by omega) (by omega) (by rw [kw.2.1, kw.2.2.1]; exact w1 _ (by omega)) (by rw [kw.2.1, kw.2.2.1]; exact w2 _ (by omega)) w15.1) rfl rfl (Nat.le_of_ble_eq_true rfl) (by decide) rfl rfl rfl ⟨Nat.le_of_ble_eq_true rfl, Nat.le_of_ble_eq_true rfl⟩ ⟨rfl, rfl⟩ dX12_differ_142 rfl (fun r28 σ28 h28 => ?_)
                  obtain ⟨e28, h28⟩ := h28
                  have e28 := e28.symm
                  subst e28
                  refine go_eqB (tgt := 152) (pc' := 148) h28 dX12_differ_145 rfl (by decide) (fun c29 => ?_) (fun c29 => ?_)
                  · refine go_iconst (v := 1) (pc' := 153) dX12_differ_152 rfl (by decide) ?_
                    obtain ⟨de, ds1, ds2⟩ : ∃ e : Nat, ((1 : Int32)).toInt = (e : Int) ∧ dl (sLL (FUM σ (a).toNatClampNeg 9999 0) (FUM σ (b).toNatClampNeg 9999 0)) ((x4_11).toNatClampNeg - 1 + 1) ((x5_15).toNatClampNeg - 1 + 1) = min (min (dl (sLL (FUM σ (a).toNatClampNeg 9999 0) (FUM σ (b).toNatClampNeg 9999 0)) ((x4_11).toNatClampNeg - 1) ((x5_15).toNatClampNeg - 1 + 1)) (dl (sLL (FUM σ (a).toNatClampNeg 9999 0) (FUM σ (b).toNatClampNeg 9999 0)) ((x4_11).toNatClampNeg - 1 + 1) ((x5_15).toNatClampNeg - 1)) + 1) (dl (sLL (FUM σ (a).toNatClampNeg 9999 0) (FUM σ (b).toNatClampNeg 9999 0)) ((x4_11).toNatClampNeg - 1) ((x5_15).toNatClampNeg - 1) + e) := by
                      first
                      | exact ⟨0, n0, dl_step rfl rfl rfl (Or.inl ⟨smc.mp c29, rfl⟩)⟩
                      | exact ⟨1, n1, dl_step rfl rfl rfl (Or.inr ⟨fun q => c29 (smc.mpr q), rfl⟩)⟩
                    rw [show (x4_11).toNatClampNeg - 1 + 1 = (x4_11).toNatClampNeg from by omega, show (x5_15).toNatClampNeg - 1 + 1 = (x5_15).toNatClampNeg from by omega] at ds2
                    refine gz_iadd (pc' := 154) dX12_differ_153 rfl (by omega) (fun v30 h30 e30 => ?_)
                    refine gz_min (pc' := 157) dX12_differ_154 rfl ml_X12_178 (Nat.le_of_ble_eq_true rfl) (Nat.le_of_ble_eq_true rfl) (fun v31 h31 e31 => ?_)
                    refine go_iast (pc' := 158) dX12_differ_157 rfl (by decide) (by decide) rfl (vin_of (n := 161) (by omega) (by omega)) ?_
                    refine go_gen (P := fun s => WM σ s ∧ (∀ q : Nat, q ≠ 131 → s.2 q = σ15.2 q) ∧ s.2 131 = upd (σ15.2 131) (x5_15).toNatClampNeg v31) ⟨⟨ixt_n w15.1 (by decide), Ag_setA w15.2 (by decide)⟩, ⟨fun q hq => setA_ne (a := q) _ 131 _ _ hq, setA_same _ _ _ _⟩⟩ (fun σ32 z32 => ?_)
                    obtain ⟨w32, g32⟩ := z32
                    have gc := g32
                    refine gz_iinc (c := 1) (pc' := 161) dX12_differ_158 rfl rfl (by decide) (by decide) (by decide) (by omega) (fun v33 h33 e33 => ?_)
                    refine go_goto (tgt := 87) dX12_differ_161 (by decide) ?_
                    exact go_lv (lv' := [(0, .ref (L.2.1 13)), (1, .int a), (2, .int b), (3, .int y8), (4, .int x4_11), (5, .int v33)]) rfl (ih15 _ (by omega) σ32 v33 w32 (by omega) ⟨(gc.1 126 (by decide)).trans kw.1, (gc.1 127 (by decide)).trans kw.2.1, (gc.1 128 (by decide)).trans kw.2.2.1, (gc.1 129 (by decide)).trans kw.2.2.2⟩ (fun q hq => by rw [gc.1 130 (by decide)]; exact ha_15 q hq) (dq_step hb_15 gc.2 rfl (by omega) (by omega) (by omega)) rfl)
                  refine go_iconst (v := 0) (pc' := 149) dX12_differ_148 rfl (by decide) ?_
                  refine go_goto (tgt := 153) dX12_differ_149 (by decide) ?_
                  obtain ⟨de, ds1, ds2⟩ : ∃ e : Nat, ((0 : Int32)).toInt = (e : Int) ∧ dl (sLL (FUM σ (a).toNatClampNeg 9999 0) (FUM σ (b).toNatClampNeg 9999 0)) ((x4_11).toNatClampNeg - 1 + 1) ((x5_15).toNatClampNeg - 1 + 1) = min (min (dl (sLL (FUM σ (a).toNatClampNeg 9999 0) (FUM σ (b).toNatClampNeg 9999 0)) ((x4_11).toNatClampNeg - 1) ((x5_15).toNatClampNeg - 1 + 1)) (dl (sLL (FUM σ (a).toNatClampNeg 9999 0) (FUM σ (b).toNatClampNeg 9999 0)) ((x4_11).toNatClampNeg - 1 + 1) ((x5_15).toNatClampNeg - 1)) + 1) (dl (sLL (FUM σ (a).toNatClampNeg 9999 0) (FUM σ (b).toNatClampNeg 9999 0)) ((x4_11).toNatClampNeg - 1) ((x5_15).toNatClampNeg - 1) + e) := by
                    first
                    | exact ⟨0, n0, dl_step rfl rfl rfl (Or.inl ⟨smc.mp c29, rfl⟩)⟩
                    | exact ⟨1, n1, dl_step rfl rfl rfl (Or.inr ⟨fun q => c29 (smc.mpr q), rfl⟩)⟩
                  rw [show (x4_11).toNatClampNeg - 1 + 1 = (x4_11).toNatClampNeg from by omega, show (x5_15).toNatClampNeg - 1 + 1 = (x5_15).toNatClampNeg from by omega] at ds2
                  refine gz_iadd (pc' := 154) dX12_differ_153 rfl (by omega) (fun v34 h34 e34 => ?_)
                  refine gz_min (pc' := 157) dX12_differ_154 rfl ml_X12_178 (Nat.le_of_ble_eq_true rfl) (Nat.le_of_ble_eq_true rfl) (fun v35 h35 e35 => ?_)
                  refine go_iast (pc' := 158) dX12_differ_157 rfl (by decide) (by decide) rfl (vin_of (n := 161) (by omega) (by omega)) ?_
                  refine go_gen (P := fun s => WM σ s ∧ (∀ q : Nat, q ≠ 131 → s.2 q = σ15.2 q) ∧ s.2 131 = upd (σ15.2 131) (x5_15).toNatClampNeg v35) ⟨⟨ixt_n w15.1 (by decide), Ag_setA w15.2 (by decide)⟩, ⟨fun q hq => setA_ne (a := q) _ 131 _ _ hq, setA_same _ _ _ _⟩⟩ (fun σ36 z36 => ?_)
                  obtain ⟨w36, g36⟩ := z36
                  have gc := g36
                  refine gz_iinc (c := 1) (pc' := 161) dX12_differ_158 rfl rfl (by decide) (by decide) (by decide) (by omega) (fun v37 h37 e37 => ?_)
                  refine go_goto (tgt := 87) dX12_differ_161 (by decide) ?_
                  exact go_lv (lv' := [(0, .ref (L.2.1 13)), (1, .int a), (2, .int b), (3, .int y8), (4, .int x4_11), (5, .int v37)]) rfl (ih15 _ (by omega) σ36 v37 w36 (by omega) ⟨(gc.1 126 (by decide)).trans kw.1, (gc.1 127 (by decide)).trans kw.2.1, (gc.1 128 (by decide)).trans kw.2.2.1, (gc.1 129 (by decide)).trans kw.2.2.2⟩ (fun q hq => by rw [gc.1 130 (by decide)]; exact ha_15 q hq) (dq_step hb_15 gc.2 rfl (by omega) (by omega) (by omega)) rfl)
              exact go_lv (lv' := [(0, .ref (L.2.1 13)), (1, .int a), (2, .int b), (3, .int y8), (4, .int x4_11), (5, .int (1 : Int32))]) rfl (loop87_15 _ σ14 (1 : Int32) w14 (by omega) ⟨(gb.1 126 (by decide)).trans kw.1, (gb.1 127 (by decide)).trans kw.2.1, (gb.1 128 (by decide)).trans kw.2.2.1, (gb.1 129 (by decide)).trans kw.2.2.2⟩ (fun q hq => by rw [gb.1 130 (by decide)]; exact hc_11 q hq) (fun q hq => by rw [gb.2, show q = ((0 : Int32)).toNatClampNeg from by omega, upd_eq, z0, dl_0]; omega) rfl)
          exact go_lv (lv' := [(0, .ref (L.2.1 13)), (1, .int a), (2, .int b), (3, .int y8), (4, .int (1 : Int32))]) rfl (loop65_11 _ σ9 (1 : Int32) w9 (by omega) kw_9 (fun q hq => by rw [show ((1 : Int32)).toNatClampNeg - 1 = 0 from rfl]; exact hc_9 q (by omega)) rfl)
        refine go_aload_n (i := 0) (pc' := 48) dX12_differ_47 rfl rfl rfl ?_
        refine gf_13_above (pc' := 51) dX12_differ_48 rfl fl_X12_117 ?_
        refine go_iload (pc' := 53) dX12_differ_51 rfl rfl ?_
        refine go_iload (pc' := 55) dX12_differ_53 rfl rfl ?_
        refine go_iast (pc' := 56) dX12_differ_55 rfl (by decide) (by decide) rfl (vin_of (n := 161) (by omega) (by omega)) ?_
        refine go_gen (P := fun s => WM σ s ∧ (∀ q : Nat, q ≠ 130 → s.2 q = σ9.2 q) ∧ s.2 130 = upd (σ9.2 130) (x4_9).toNatClampNeg x4_9) ⟨⟨ixt_n w9.1 (by decide), Ag_setA w9.2 (by decide)⟩, ⟨fun q hq => setA_ne (a := q) _ 130 _ _ hq, setA_same _ _ _ _⟩⟩ (fun σ38 z38 => ?_)
        obtain ⟨w38, g38⟩ := z38
        have ga := g38
        refine gz_iinc (c := 1) (pc' := 59) dX12_differ_56 rfl rfl (by decide) (by decide) (by decide) (by omega) (fun v39 h39 e39 => ?_)
        refine go_goto (tgt := 41) dX12_differ_59 (by decide) ?_
        exact go_lv (lv' := [(0, .ref (L.2.1 13)), (1, .int a), (2, .int b), (3, .int y8), (4, .int v39)]) rfl (ih9 _ (by omega) σ38 v39 w38 (by omega) ⟨(ga.1 126 (by decide)).trans kw.1, (ga.1 127 (by decide)).trans kw.2.1, (ga.1 128 (by decide)).trans kw.2.2.1, (ga.1 129 (by decide)).trans kw.2.2.2⟩ (upd_step (P := fun q z => z.toInt = (q : Int)) hc_9 ga.2 (by have cz := cnat (x := x4_9) (by omega); omega) (by omega) (by omega)) rfl)
    exact go_lv (lv' := [(0, .ref (L.2.1 13)), (1, .int a), (2, .int b), (3, .int y8), (4, .int (0 : Int32))]) rfl (loop41_9 _ σ6 (0 : Int32) w6 (by omega) ⟨rfl, rfl, rfl, rfl⟩ (fun q hq => by exfalso; omega) rfl)
  refine go_bipush (v := (-2)) (pc' := 18) dX12_differ_16 rfl (by decide) ?_
  exact go_iret dX12_differ_18 rfl (⟨w0, Or.inl ⟨by omega, rfl⟩⟩)
