theorem ite_or {c : Prop} [Decidable c] {a b : Int} (ha : c → (a = -1 ∨ 0 ≤ a)) (hb : ¬ c → (b = -1 ∨ 0 ≤ b)) : (if c then a else b) = -1 ∨ 0 ≤ (if c then a else b) := by
  by_cases h : c
  · rw [if_pos h]
    exact ha h
  · rw [if_neg h]
    exact hb h
theorem tk_or (t : Nat → Int) (n f p d : Nat) (stk : Nat → Int) : tk t n f p d stk = -1 ∨ 0 ≤ tk t n f p d stk := by
  induction f generalizing p d stk with
  | zero => exact Or.inr (Int.le_refl _)
  | succ f ih =>
    unfold tk
    exact ite_or (fun _ => ite_or (fun _ => Or.inl rfl) (fun _ => Or.inr (by omega))) (fun _ => ite_or (fun _ => ite_or (fun _ => Or.inr (by omega)) (fun _ => ih _ _ _)) (fun _ => ite_or (fun _ => ite_or (fun _ => ih _ _ _) (fun _ => Or.inr (by omega))) (fun _ => ite_or (fun _ => Or.inr (by omega)) (fun _ => ite_or (fun _ => Or.inr (by omega)) (fun _ => ite_or (fun _ => Or.inr (by omega)) (fun _ => ite_or (fun _ => Or.inr (by omega)) (fun _ => ite_or (fun _ => ih _ _ _) (fun _ => ih _ _ _))))))))
theorem tk_neg {t : Nat → Int} {n f p d : Nat} {stk : Nat → Int} (h : tk t n f p d stk < 0) : tk t n f p d stk = -1 := by
  rcases tk_or t n f p d stk with q | q
  · exact q
  · omega
/-- a TEXT of the reference may have changed: scratch, the faults, the tape's size, TEXTS and their sizes -/
abbrev smtI (i : Nat) : Prop := i = 23 ∨ i = 26 ∨ i = 27 ∨ smI i
abbrev smtA (k : Nat) : Prop := k = 109 ∨ k = 110 ∨ smA k
def WMt (σ σ2 : ST) : Prop := IV σ2 ∧ Ag smtI smtA σ σ2
theorem WMt_rfl {σ : ST} (h : IV σ) : WMt σ σ := ⟨h, Ag_rfl σ⟩
theorem WMt_trans {σ σ2 σ3 : ST} (h : WMt σ σ2) (h2 : WMt σ2 σ3) : WMt σ σ3 := ⟨h2.1, Ag_trans h.2 h2.2⟩
theorem WMt_of {σ σ2 : ST} (h : WM σ σ2) : WMt σ σ2 := ⟨h.1, ⟨fun i hi => h.2.1 i (fun q => hi (Or.inr (Or.inr (Or.inr q)))), fun k hk => h.2.2 k (fun q => hk (Or.inr (Or.inr q)))⟩⟩
/-- tape and texts are as they were -/
def KP (σ σ2 : ST) : Prop := σ2.1 23 = σ.1 23 ∧ σ2.2 119 = σ.2 119 ∧ σ2.2 109 = σ.2 109 ∧ σ2.2 110 = σ.2 110
theorem KP_rfl (σ : ST) : KP σ σ := ⟨rfl, rfl, rfl, rfl⟩
theorem KP_trans {σ σ2 σ3 : ST} (h : KP σ σ2) (h2 : KP σ2 σ3) : KP σ σ3 := ⟨h2.1.trans h.1, h2.2.1.trans h.2.1, h2.2.2.1.trans h.2.2.1, h2.2.2.2.trans h.2.2.2⟩
theorem KP_of {σ σ2 : ST} (h : WM σ σ2) : KP σ σ2 := ⟨h.2.1 23 (by decide), h.2.2 119 (by decide), h.2.2 109 (by decide), h.2.2 110 (by decide)⟩
/-- the text of a LETTER taken from the tape -/
theorem TV_new {σ σ2 : ST} {a : Int32} (tv : TV σ) (ha : 0 ≤ a.toInt ∧ a.toInt < 12) (hn : 0 ≤ (σ.1 23).toInt ∧ (σ.1 23).toInt ≤ 160) (hv : tk (tpT σ) (σ.1 23).toNatClampNeg 200 0 0 (fun _ => 0) = -1) (h1 : σ2.2 109 = upd (σ.2 109) a.toNatClampNeg (σ.1 23)) (h2 : ∀ j : Nat, (j : Int) < (σ.1 23).toInt → σ2.2 110 (160 * a.toNatClampNeg + j) = σ.2 119 j) (h3 : ∀ q : Nat, q < 160 * a.toNatClampNeg ∨ 160 * a.toNatClampNeg + 160 ≤ q → σ2.2 110 q = σ.2 110 q) (hr : ∀ l : Nat, l < 12 → 0 ≤ (σ.2 109 l).toInt ∧ (σ.2 109 l).toInt ≤ 160) : TV σ2 := fun l hl => by
  have ca := cnat ha.1
  have cn := cnat hn.1
  unfold VT
  rw [h1]
  by_cases e : l = a.toNatClampNeg
  · rw [e, show upd (σ.2 109) a.toNatClampNeg (σ.1 23) a.toNatClampNeg = σ.1 23 from if_pos rfl, ← hv]
    refine tk_congr (fun j hj => ?_) _ _ _ _
    show (σ2.2 110 (160 * a.toNatClampNeg + j)).toInt = (σ.2 119 j).toInt
    rw [h2 j (by omega)]
  · rw [show upd (σ.2 109) a.toNatClampNeg (σ.1 23) l = σ.2 109 l from if_neg e]
    have cl := cnat (hr l hl).1
    have z := tv l hl
    unfold VT at z
    rw [← z]
    refine tk_congr (fun j hj => ?_) _ _ _ _
    show (σ2.2 110 (160 * l + j)).toInt = (σ.2 110 (160 * l + j)).toInt
    have g := (hr l hl).2
    rw [h3 (160 * l + j) (by omega)]
def sM_text (σ : ST) (a : Int32) (σ2 : ST) : Prop := (¬ (0 ≤ a.toInt ∧ a.toInt < (σ.1 20).toInt) ∧ σ2 = σ) ∨ ((0 ≤ a.toInt ∧ a.toInt < (σ.1 20).toInt) ∧ WMt σ σ2 ∧ TV σ2 ∧ σ2.1 23 = 0)
theorem KP_q {σ σ2 : ST} (h : KP σ σ2) : tpT σ2 = tpT σ ∧ σ2.1 23 = σ.1 23 := ⟨by unfold tpT; rw [h.2.1], h.1⟩
theorem cp_step {S S2 tp : Nat → Int32} {b : Nat} {x v w : Int32} (h : ∀ j : Nat, (j : Int) < x.toInt → S (b + j) = tp j) (e : S2 = upd S (b + x.toNatClampNeg) w) (hw : w = tp x.toNatClampNeg) (hv : v.toInt = x.toInt + 1) (h0 : 0 ≤ x.toInt) : ∀ j : Nat, (j : Int) < v.toInt → S2 (b + j) = tp j := fun j hj => by
  have c := cnat h0
  rw [e]
  by_cases q : j = x.toNatClampNeg
  · rw [q, ← hw]
    exact if_pos rfl
  · rw [show upd S (b + x.toNatClampNeg) w (b + j) = S (b + j) from if_neg (by omega)]
    exact h j (by omega)
theorem ot_step {S S2 : Nat → Int32} {o : Nat → Int32} {b i : Nat} {w : Int32} (h : ∀ q : Nat, q < b ∨ b + 160 ≤ q → S q = o q) (e : S2 = upd S i w) (h1 : b ≤ i) (h2 : i < b + 160) : ∀ q : Nat, q < b ∨ b + 160 ≤ q → S2 q = o q := fun q hq => by
  rw [e, show upd S i w q = S q from if_neg (by omega)]
  exact h q hq
set_option maxHeartbeats 4000000 in
set_option maxRecDepth 100000 in
theorem c_X12_findWords (l : Launch) (L : WL) (σ : ST) (a s : Int32) (ha : 0 ≤ a.toInt ∧ a.toInt < 12) (hs : 0 ≤ s.toInt ∧ s.toInt < 2) (ix : IV σ) (tv : TV σ) : CtV l L yX12_findWords cX12_findWords 6 none rm_X12_findWords [.ref (L.2.1 13), .int a, .int s] σ (fun σ2 => WM σ σ2) := by
  refine ctV_go (own := RX12) (by decide) rfl (Nat.le_of_ble_eq_true rfl) (fun F hF => ?_)
  subst hF
  have n0 : (0 : Int32).toInt = 0 := by decide
  have n1 : (1 : Int32).toInt = 1 := by decide
  have n97 : (97 : Int32).toInt = 97 := by decide
  have n160 : (160 : Int32).toInt = 160 := by decide
  have n9999 : (9999 : Int32).toInt = 9999 := by decide
  have w0 : WM σ σ := WM_rfl ix
  refine go_aload_n (i := 0) (pc' := 1) dX12_findWords_0 rfl rfl rfl ?_
  refine go_iload_n (i := 1) (pc' := 2) dX12_findWords_1 rfl rfl rfl ?_
  refine go_sipush (v := 9999) (pc' := 5) dX12_findWords_2 rfl (by decide) ?_
  refine go_iconst (v := 0) (pc' := 6) dX12_findWords_5 rfl (by decide) ?_
  refine go_cvv (pc' := 9) lk_X12_263 (c_X12_prints _ _ _ _ _ _ (by omega) w0.1 (TV_q w0 tv)) rfl rfl (Nat.le_of_ble_eq_true rfl) (by decide) rfl rfl rfl ⟨Nat.le_of_ble_eq_true rfl, Nat.le_of_ble_eq_true rfl⟩ ⟨rfl, rfl⟩ dX12_findWords_6 rfl (fun σ1 h1 => ?_)
  obtain ⟨u1, h1⟩ := h1
  have w1 := WM_trans w0 u1
  have pm := h1 n0
  refine go_iconst (v := 0) (pc' := 10) dX12_findWords_9 rfl (by decide) ?_
  refine go_istore_n (i := 3) (pc' := 11) dX12_findWords_10 rfl rfl (by decide) ?_
  refine go_iconst (v := 0) (pc' := 12) dX12_findWords_11 rfl (by decide) ?_
  refine go_istore (pc' := 14) dX12_findWords_12 rfl (by decide) ?_
  have loop14_2 : ∀ (dd2 : Nat) (σ2 : ST) (x3_2 : Int32) (x4_2 : Int32), WM σ σ2 → (0 ≤ (x4_2).toInt ∧ (x4_2).toInt ≤ 160 ∧ 0 ≤ (x3_2).toInt ∧ (x3_2).toInt ≤ (x4_2).toInt) → ((σ2.1 29).toInt ≤ 160) → (∀ j : Nat, (j : Int) + 1 = (x4_2).toInt → 97 ≤ (σ2.2 124 j).toInt → 1 ≤ (x3_2).toInt) → (160 - (x4_2).toInt).toNat = dd2 → Go F L RX12 cX12_findWords 6 rm_X12_findWords none (RV F L (fun σ2 => WM σ σ2)) σ2 14 [(0, .ref (L.2.1 13)), (1, .int a), (2, .int s), (3, .int x3_2), (4, .int x4_2)] [] := by
    intro dd2
    induction dd2 using Nat.strongRecOn with
    | _ dd2 ih2 =>
      intro σ2 x3_2 x4_2 w2 h_2 hm_2 hn_2 hm_2
      refine go_iload (pc' := 16) dX12_findWords_14 rfl rfl ?_
      refine go_aload_n (i := 0) (pc' := 17) dX12_findWords_16 rfl rfl rfl ?_
      refine gf_13_printMany (pc' := 20) dX12_findWords_17 rfl fl_X12_247 ?_
      have g3 := ixi_29 w2.1
      refine gz_icmp_ge (tgt := 132) (pc' := 23) dX12_findWords_20 rfl (by decide) (fun c4 => ?_) (fun c4 => ?_)
      · refine go_aload_n (i := 0) (pc' := 133) dX12_findWords_132 rfl rfl rfl ?_
        refine gf_13_wordMany (pc' := 136) dX12_findWords_133 rfl fl_X12_114 ?_
        refine go_iload_n (i := 2) (pc' := 137) dX12_findWords_136 rfl rfl rfl ?_
        refine go_iload_n (i := 3) (pc' := 138) dX12_findWords_137 rfl rfl rfl ?_
        refine go_iast (pc' := 139) dX12_findWords_138 rfl (by decide) (by decide) rfl (vin_of (n := 2) (by omega) (by omega)) ?_
        refine go_gen (P := WM σ) ⟨ixt_129 w2.1 (by omega) (by omega), Ag_setA w2.2 (by decide)⟩ (fun σ5 w5 => ?_)
        exact go_vret dX12_findWords_139 rfl (w5)
      have c4 := cnat (x := x4_2) (by omega)
      have gR : σ2.2 124 = σ2.2 124 := rfl
      refine go_aload_n (i := 0) (pc' := 24) dX12_findWords_23 rfl rfl rfl ?_
      refine gf_13_signs (pc' := 27) dX12_findWords_24 rfl fl_X12_105 ?_
      refine go_sipush (v := 160) (pc' := 30) dX12_findWords_27 rfl (by decide) ?_
      refine go_iload_n (i := 2) (pc' := 31) dX12_findWords_30 rfl rfl rfl ?_
      refine gz_imulc (n := 160) (pc' := 32) dX12_findWords_31 rfl (by decide) (by omega) (fun v6 h6 e6 => ?_)
      refine go_iload (pc' := 34) dX12_findWords_32 rfl rfl ?_
      refine gz_iadd (pc' := 35) dX12_findWords_34 rfl (by omega) (fun v7 h7 e7 => ?_)
      refine go_aload_n (i := 0) (pc' := 36) dX12_findWords_35 rfl rfl rfl ?_
      refine gf_13_print (pc' := 39) dX12_findWords_36 rfl fl_X12_99 ?_
      refine go_iload (pc' := 41) dX12_findWords_39 rfl rfl ?_
      refine go_iald (pc' := 42) dX12_findWords_41 rfl (by decide) (by decide) rfl (vin_of (n := 320) (by omega) (by omega)) ?_
      refine go_iast (pc' := 43) dX12_findWords_42 rfl (by decide) (by decide) rfl (vin_of (n := 320) (by omega) (by omega)) ?_
      refine go_gen (P := fun s => WM σ s ∧ s.1 29 = σ2.1 29 ∧ s.2 124 = σ2.2 124) ⟨⟨ixt_n w2.1 (by decide), Ag_setA w2.2 (by decide)⟩, ⟨rfl, setA_ne (a := 124) _ 126 _ _ (by decide)⟩⟩ (fun σ8 z8 => ?_)
      obtain ⟨w8, g8⟩ := z8
      have gR := g8.2.trans gR
      have gm8 := congrArg Int32.toInt g8.1
      refine go_aload_n (i := 0) (pc' := 44) dX12_findWords_43 rfl rfl rfl ?_
      refine gf_13_print (pc' := 47) dX12_findWords_44 rfl fl_X12_99 ?_
      refine go_iload (pc' := 49) dX12_findWords_47 rfl rfl ?_
      refine go_iald (pc' := 50) dX12_findWords_49 rfl (by decide) (by decide) rfl (vin_of (n := 320) (by omega) (by omega)) ?_
      refine go_bipush (v := 97) (pc' := 52) dX12_findWords_50 rfl (by decide) ?_
      refine gz_icmp_lt (tgt := 59) (pc' := 55) dX12_findWords_52 rfl (by decide) (fun c9 => ?_) (fun c9 => ?_)
      · refine go_iconst (v := 0) (pc' := 60) dX12_findWords_59 rfl (by decide) ?_
        have k97 := c9
        rw [gR] at k97
        refine go_istore (pc' := 62) dX12_findWords_60 rfl (by decide) ?_
        refine go_iload (pc' := 64) dX12_findWords_62 rfl rfl ?_
        refine gz_if_eq (tgt := 103) (pc' := 67) dX12_findWords_64 rfl (by decide) (fun c10 => ?_) (fun c10 => ?_)
        · have nw : ((0 : Int32)).toInt = 1 → 1 ≤ (x3_2).toInt := by first | (intro q; omega) | (intro q; exact hn_2 ({vk}).toNatClampNeg (by omega) (by rw [← gR]; exact c10))
          refine go_iload (pc' := 105) dX12_findWords_103 rfl rfl ?_
          refine gz_if_eq (tgt := 126) (pc' := 108) dX12_findWords_105 rfl (by decide) (fun c11 => ?_) (fun c11 => ?_)
          · refine gz_iinc (c := 1) (pc' := 129) dX12_findWords_126 rfl rfl (by decide) (by decide) (by decide) (by omega) (fun v12 h12 e12 => ?_)
            refine go_goto (tgt := 14) dX12_findWords_129 (by decide) ?_
            exact go_lv (lv' := [(0, .ref (L.2.1 13)), (1, .int a), (2, .int s), (3, .int x3_2), (4, .int v12)]) rfl (ih2 _ (by omega) σ8 x3_2 v12 w8 (by omega) (by omega) (fun j hj q => by have ej : j = (x4_2).toNatClampNeg := (by omega); first | omega | (exfalso; rw [gR, ej] at q; omega)) rfl)
          refine go_aload_n (i := 0) (pc' := 109) dX12_findWords_108 rfl rfl rfl ?_
          refine gf_13_ends (pc' := 112) dX12_findWords_109 rfl fl_X12_111 ?_
          refine go_sipush (v := 160) (pc' := 115) dX12_findWords_112 rfl (by decide) ?_
          refine go_iload_n (i := 2) (pc' := 116) dX12_findWords_115 rfl rfl rfl ?_
          refine gz_imulc (n := 160) (pc' := 117) dX12_findWords_116 rfl (by decide) (by omega) (fun v13 h13 e13 => ?_)
          refine go_iload_n (i := 3) (pc' := 118) dX12_findWords_117 rfl rfl rfl ?_
          refine gz_iadd (pc' := 119) dX12_findWords_118 rfl (by omega) (fun v14 h14 e14 => ?_)
          refine go_iconst (v := 1) (pc' := 120) dX12_findWords_119 rfl (by decide) ?_
          refine gz_isub (pc' := 121) dX12_findWords_120 rfl (by omega) (fun v15 h15 e15 => ?_)
          refine go_iload (pc' := 123) dX12_findWords_121 rfl rfl ?_
          refine go_iconst (v := 1) (pc' := 124) dX12_findWords_123 rfl (by decide) ?_
          refine gz_iadd (pc' := 125) dX12_findWords_124 rfl (by omega) (fun v16 h16 e16 => ?_)
          refine go_iast (pc' := 126) dX12_findWords_125 rfl (by decide) (by decide) rfl (vin_of (n := 320) (by omega) (by omega)) ?_
          refine go_gen (P := fun s => WM σ s ∧ s.1 29 = σ8.1 29 ∧ s.2 124 = σ8.2 124) ⟨⟨ixt_128 w8.1 (by omega) (by omega), Ag_setA w8.2 (by decide)⟩, ⟨rfl, setA_ne (a := 124) _ 128 _ _ (by decide)⟩⟩ (fun σ17 z17 => ?_)
          obtain ⟨w17, g17⟩ := z17
          have gR := g17.2.trans gR
          have gm17 := congrArg Int32.toInt g17.1
          refine gz_iinc (c := 1) (pc' := 129) dX12_findWords_126 rfl rfl (by decide) (by decide) (by decide) (by omega) (fun v18 h18 e18 => ?_)
          refine go_goto (tgt := 14) dX12_findWords_129 (by decide) ?_
          exact go_lv (lv' := [(0, .ref (L.2.1 13)), (1, .int a), (2, .int s), (3, .int x3_2), (4, .int v18)]) rfl (ih2 _ (by omega) σ17 x3_2 v18 w17 (by omega) (by omega) (fun j hj q => by have ej : j = (x4_2).toNatClampNeg := (by omega); first | omega | (exfalso; rw [gR, ej] at q; omega)) rfl)
        refine go_iload (pc' := 69) dX12_findWords_67 rfl rfl ?_
        refine gz_if_eq (tgt := 86) (pc' := 72) dX12_findWords_69 rfl (by decide) (fun c19 => ?_) (fun c19 => ?_)
        · refine go_aload_n (i := 0) (pc' := 87) dX12_findWords_86 rfl rfl rfl ?_
          refine gf_13_begins (pc' := 90) dX12_findWords_87 rfl fl_X12_108 ?_
          refine go_sipush (v := 160) (pc' := 93) dX12_findWords_90 rfl (by decide) ?_
          refine go_iload_n (i := 2) (pc' := 94) dX12_findWords_93 rfl rfl rfl ?_
          refine gz_imulc (n := 160) (pc' := 95) dX12_findWords_94 rfl (by decide) (by omega) (fun v20 h20 e20 => ?_)
          refine go_iload_n (i := 3) (pc' := 96) dX12_findWords_95 rfl rfl rfl ?_
          refine gz_iadd (pc' := 97) dX12_findWords_96 rfl (by omega) (fun v21 h21 e21 => ?_)
          refine go_iload (pc' := 99) dX12_findWords_97 rfl rfl ?_
          refine go_iast (pc' := 100) dX12_findWords_99 rfl (by decide) (by decide) rfl (vin_of (n := 320) (by omega) (by omega)) ?_
          refine go_gen (P := fun s => WM σ s ∧ s.1 29 = σ8.1 29 ∧ s.2 124 = σ8.2 124) ⟨⟨ixt_127 w8.1 (by omega) (by omega), Ag_setA w8.2 (by decide)⟩, ⟨rfl, setA_ne (a := 124) _ 127 _ _ (by decide)⟩⟩ (fun σ22 z22 => ?_)
          obtain ⟨w22, g22⟩ := z22
          have gR := g22.2.trans gR
          have gm22 := congrArg Int32.toInt g22.1
          refine gz_iinc (c := 1) (pc' := 103) dX12_findWords_100 rfl rfl (by decide) (by decide) (by decide) (by omega) (fun v23 h23 e23 => ?_)
          have nw : ((0 : Int32)).toInt = 1 → 1 ≤ (v23).toInt := by first | (intro q; omega) | (intro q; exact hn_2 ({vk}).toNatClampNeg (by omega) (by rw [← gR]; exact c19))
          refine go_iload (pc' := 105) dX12_findWords_103 rfl rfl ?_
          refine gz_if_eq (tgt := 126) (pc' := 108) dX12_findWords_105 rfl (by decide) (fun c24 => ?_) (fun c24 => ?_)
          · refine gz_iinc (c := 1) (pc' := 129) dX12_findWords_126 rfl rfl (by decide) (by decide) (by decide) (by omega) (fun v25 h25 e25 => ?_)
            refine go_goto (tgt := 14) dX12_findWords_129 (by decide) ?_
            exact go_lv (lv' := [(0, .ref (L.2.1 13)), (1, .int a), (2, .int s), (3, .int v23), (4, .int v25)]) rfl (ih2 _ (by omega) σ22 v23 v25 w22 (by omega) (by omega) (fun j hj q => by have ej : j = (x4_2).toNatClampNeg := (by omega); first | omega | (exfalso; rw [gR, ej] at q; omega)) rfl)
          refine go_aload_n (i := 0) (pc' := 109) dX12_findWords_108 rfl rfl rfl ?_
          refine gf_13_ends (pc' := 112) dX12_findWords_109 rfl fl_X12_111 ?_
          refine go_sipush (v := 160) (pc' := 115) dX12_findWords_112 rfl (by decide) ?_
          refine go_iload_n (i := 2) (pc' := 116) dX12_findWords_115 rfl rfl rfl ?_
          refine gz_imulc (n := 160) (pc' := 117) dX12_findWords_116 rfl (by decide) (by omega) (fun v26 h26 e26 => ?_)
          refine go_iload_n (i := 3) (pc' := 118) dX12_findWords_117 rfl rfl rfl ?_
          refine gz_iadd (pc' := 119) dX12_findWords_118 rfl (by omega) (fun v27 h27 e27 => ?_)
          refine go_iconst (v := 1) (pc' := 120) dX12_findWords_119 rfl (by decide) ?_
          refine gz_isub (pc' := 121) dX12_findWords_120 rfl (by omega) (fun v28 h28 e28 => ?_)
          refine go_iload (pc' := 123) dX12_findWords_121 rfl rfl ?_
          refine go_iconst (v := 1) (pc' := 124) dX12_findWords_123 rfl (by decide) ?_
          refine gz_iadd (pc' := 125) dX12_findWords_124 rfl (by omega) (fun v29 h29 e29 => ?_)
          refine go_iast (pc' := 126) dX12_findWords_125 rfl (by decide) (by decide) rfl (vin_of (n := 320) (by omega) (by omega)) ?_
          refine go_gen (P := fun s => WM σ s ∧ s.1 29 = σ22.1 29 ∧ s.2 124 = σ22.2 124) ⟨⟨ixt_128 w22.1 (by omega) (by omega), Ag_setA w22.2 (by decide)⟩, ⟨rfl, setA_ne (a := 124) _ 128 _ _ (by decide)⟩⟩ (fun σ30 z30 => ?_)
          obtain ⟨w30, g30⟩ := z30
          have gR := g30.2.trans gR
          have gm30 := congrArg Int32.toInt g30.1
          refine gz_iinc (c := 1) (pc' := 129) dX12_findWords_126 rfl rfl (by decide) (by decide) (by decide) (by omega) (fun v31 h31 e31 => ?_)
          refine go_goto (tgt := 14) dX12_findWords_129 (by decide) ?_
          exact go_lv (lv' := [(0, .ref (L.2.1 13)), (1, .int a), (2, .int s), (3, .int v23), (4, .int v31)]) rfl (ih2 _ (by omega) σ30 v23 v31 w30 (by omega) (by omega) (fun j hj q => by have ej : j = (x4_2).toNatClampNeg := (by omega); first | omega | (exfalso; rw [gR, ej] at q; omega)) rfl)
        refine go_aload_n (i := 0) (pc' := 73) dX12_findWords_72 rfl rfl rfl ?_
        refine gf_13_print (pc' := 76) dX12_findWords_73 rfl fl_X12_99 ?_
        refine go_iload (pc' := 78) dX12_findWords_76 rfl rfl ?_
        refine go_iconst (v := 1) (pc' := 79) dX12_findWords_78 rfl (by decide) ?_
        refine gz_isub (pc' := 80) dX12_findWords_79 rfl (by omega) (fun v32 h32 e32 => ?_)
        have cvk := cnat (x := v32) (by omega)
        refine go_iald (pc' := 81) dX12_findWords_80 rfl (by decide) (by decide) rfl (vin_of (n := 320) (by omega) (by omega)) ?_
        refine go_bipush (v := 97) (pc' := 83) dX12_findWords_81 rfl (by decide) ?_
        refine gz_icmp_ge (tgt := 103) (pc' := 86) dX12_findWords_83 rfl (by decide) (fun c33 => ?_) (fun c33 => ?_)
        · have nw : ((0 : Int32)).toInt = 1 → 1 ≤ (x3_2).toInt := by first | (intro q; omega) | (intro q; exact hn_2 (v32).toNatClampNeg (by omega) (by rw [← gR]; exact c33))
          refine go_iload (pc' := 105) dX12_findWords_103 rfl rfl ?_
          refine gz_if_eq (tgt := 126) (pc' := 108) dX12_findWords_105 rfl (by decide) (fun c34 => ?_) (fun c34 => ?_)
          · refine gz_iinc (c := 1) (pc' := 129) dX12_findWords_126 rfl rfl (by decide) (by decide) (by decide) (by omega) (fun v35 h35 e35 => ?_)
            refine go_goto (tgt := 14) dX12_findWords_129 (by decide) ?_
            exact go_lv (lv' := [(0, .ref (L.2.1 13)), (1, .int a), (2, .int s), (3, .int x3_2), (4, .int v35)]) rfl (ih2 _ (by omega) σ8 x3_2 v35 w8 (by omega) (by omega) (fun j hj q => by have ej : j = (x4_2).toNatClampNeg := (by omega); first | omega | (exfalso; rw [gR, ej] at q; omega)) rfl)
          refine go_aload_n (i := 0) (pc' := 109) dX12_findWords_108 rfl rfl rfl ?_
          refine gf_13_ends (pc' := 112) dX12_findWords_109 rfl fl_X12_111 ?_
          refine go_sipush (v := 160) (pc' := 115) dX12_findWords_112 rfl (by decide) ?_
          refine go_iload_n (i := 2) (pc' := 116) dX12_findWords_115 rfl rfl rfl ?_
          refine gz_imulc (n := 160) (pc' := 117) dX12_findWords_116 rfl (by decide) (by omega) (fun v36 h36 e36 => ?_)
          refine go_iload_n (i := 3) (pc' := 118) dX12_findWords_117 rfl rfl rfl ?_
          refine gz_iadd (pc' := 119) dX12_findWords_118 rfl (by omega) (fun v37 h37 e37 => ?_)
          refine go_iconst (v := 1) (pc' := 120) dX12_findWords_119 rfl (by decide) ?_
          refine gz_isub (pc' := 121) dX12_findWords_120 rfl (by omega) (fun v38 h38 e38 => ?_)
          refine go_iload (pc' := 123) dX12_findWords_121 rfl rfl ?_
          refine go_iconst (v := 1) (pc' := 124) dX12_findWords_123 rfl (by decide) ?_
          refine gz_iadd (pc' := 125) dX12_findWords_124 rfl (by omega) (fun v39 h39 e39 => ?_)
          refine go_iast (pc' := 126) dX12_findWords_125 rfl (by decide) (by decide) rfl (vin_of (n := 320) (by omega) (by omega)) ?_
          refine go_gen (P := fun s => WM σ s ∧ s.1 29 = σ8.1 29 ∧ s.2 124 = σ8.2 124) ⟨⟨ixt_128 w8.1 (by omega) (by omega), Ag_setA w8.2 (by decide)⟩, ⟨rfl, setA_ne (a := 124) _ 128 _ _ (by decide)⟩⟩ (fun σ40 z40 => ?_)
          obtain ⟨w40, g40⟩ := z40
          have gR := g40.2.trans gR
          have gm40 := congrArg Int32.toInt g40.1
          refine gz_iinc (c := 1) (pc' := 129) dX12_findWords_126 rfl rfl (by decide) (by decide) (by decide) (by omega) (fun v41 h41 e41 => ?_)
          refine go_goto (tgt := 14) dX12_findWords_129 (by decide) ?_
          exact go_lv (lv' := [(0, .ref (L.2.1 13)), (1, .int a), (2, .int s), (3, .int x3_2), (4, .int v41)]) rfl (ih2 _ (by omega) σ40 x3_2 v41 w40 (by omega) (by omega) (fun j hj q => by have ej : j = (x4_2).toNatClampNeg := (by omega); first | omega | (exfalso; rw [gR, ej] at q; omega)) rfl)
        refine go_aload_n (i := 0) (pc' := 87) dX12_findWords_86 rfl rfl rfl ?_
        refine gf_13_begins (pc' := 90) dX12_findWords_87 rfl fl_X12_108 ?_
        refine go_sipush (v := 160) (pc' := 93) dX12_findWords_90 rfl (by decide) ?_
        refine go_iload_n (i := 2) (pc' := 94) dX12_findWords_93 rfl rfl rfl ?_
        refine gz_imulc (n := 160) (pc' := 95) dX12_findWords_94 rfl (by decide) (by omega) (fun v42 h42 e42 => ?_)
        refine go_iload_n (i := 3) (pc' := 96) dX12_findWords_95 rfl rfl rfl ?_
        refine gz_iadd (pc' := 97) dX12_findWords_96 rfl (by omega) (fun v43 h43 e43 => ?_)
        refine go_iload (pc' := 99) dX12_findWords_97 rfl rfl ?_
        refine go_iast (pc' := 100) dX12_findWords_99 rfl (by decide) (by decide) rfl (vin_of (n := 320) (by omega) (by omega)) ?_
        refine go_gen (P := fun s => WM σ s ∧ s.1 29 = σ8.1 29 ∧ s.2 124 = σ8.2 124) ⟨⟨ixt_127 w8.1 (by omega) (by omega), Ag_setA w8.2 (by decide)⟩, ⟨rfl, setA_ne (a := 124) _ 127 _ _ (by decide)⟩⟩ (fun σ44 z44 => ?_)
        obtain ⟨w44, g44⟩ := z44
        have gR := g44.2.trans gR
        have gm44 := congrArg Int32.toInt g44.1
        refine gz_iinc (c := 1) (pc' := 103) dX12_findWords_100 rfl rfl (by decide) (by decide) (by decide) (by omega) (fun v45 h45 e45 => ?_)
        have nw : ((0 : Int32)).toInt = 1 → 1 ≤ (v45).toInt := by first | (intro q; omega) | (intro q; exact hn_2 (v32).toNatClampNeg (by omega) (by rw [← gR]; exact c33))
        refine go_iload (pc' := 105) dX12_findWords_103 rfl rfl ?_
        refine gz_if_eq (tgt := 126) (pc' := 108) dX12_findWords_105 rfl (by decide) (fun c46 => ?_) (fun c46 => ?_)
        · refine gz_iinc (c := 1) (pc' := 129) dX12_findWords_126 rfl rfl (by decide) (by decide) (by decide) (by omega) (fun v47 h47 e47 => ?_)
          refine go_goto (tgt := 14) dX12_findWords_129 (by decide) ?_
          exact go_lv (lv' := [(0, .ref (L.2.1 13)), (1, .int a), (2, .int s), (3, .int v45), (4, .int v47)]) rfl (ih2 _ (by omega) σ44 v45 v47 w44 (by omega) (by omega) (fun j hj q => by have ej : j = (x4_2).toNatClampNeg := (by omega); first | omega | (exfalso; rw [gR, ej] at q; omega)) rfl)
        refine go_aload_n (i := 0) (pc' := 109) dX12_findWords_108 rfl rfl rfl ?_
        refine gf_13_ends (pc' := 112) dX12_findWords_109 rfl fl_X12_111 ?_
        refine go_sipush (v := 160) (pc' := 115) dX12_findWords_112 rfl (by decide) ?_
        refine go_iload_n (i := 2) (pc' := 116) dX12_findWords_115 rfl rfl rfl ?_
        refine gz_imulc (n := 160) (pc' := 117) dX12_findWords_116 rfl (by decide) (by omega) (fun v48 h48 e48 => ?_)
        refine go_iload_n (i := 3) (pc' := 118) dX12_findWords_117 rfl rfl rfl ?_
        refine gz_iadd (pc' := 119) dX12_findWords_118 rfl (by omega) (fun v49 h49 e49 => ?_)
        refine go_iconst (v := 1) (pc' := 120) dX12_findWords_119 rfl (by decide) ?_
        refine gz_isub (pc' := 121) dX12_findWords_120 rfl (by omega) (fun v50 h50 e50 => ?_)
        refine go_iload (pc' := 123) dX12_findWords_121 rfl rfl ?_
        refine go_iconst (v := 1) (pc' := 124) dX12_findWords_123 rfl (by decide) ?_
        refine gz_iadd (pc' := 125) dX12_findWords_124 rfl (by omega) (fun v51 h51 e51 => ?_)
        refine go_iast (pc' := 126) dX12_findWords_125 rfl (by decide) (by decide) rfl (vin_of (n := 320) (by omega) (by omega)) ?_
        refine go_gen (P := fun s => WM σ s ∧ s.1 29 = σ44.1 29 ∧ s.2 124 = σ44.2 124) ⟨⟨ixt_128 w44.1 (by omega) (by omega), Ag_setA w44.2 (by decide)⟩, ⟨rfl, setA_ne (a := 124) _ 128 _ _ (by decide)⟩⟩ (fun σ52 z52 => ?_)
        obtain ⟨w52, g52⟩ := z52
        have gR := g52.2.trans gR
        have gm52 := congrArg Int32.toInt g52.1
        refine gz_iinc (c := 1) (pc' := 129) dX12_findWords_126 rfl rfl (by decide) (by decide) (by decide) (by omega) (fun v53 h53 e53 => ?_)
        refine go_goto (tgt := 14) dX12_findWords_129 (by decide) ?_
        exact go_lv (lv' := [(0, .ref (L.2.1 13)), (1, .int a), (2, .int s), (3, .int v45), (4, .int v53)]) rfl (ih2 _ (by omega) σ52 v45 v53 w52 (by omega) (by omega) (fun j hj q => by have ej : j = (x4_2).toNatClampNeg := (by omega); first | omega | (exfalso; rw [gR, ej] at q; omega)) rfl)
      refine go_iconst (v := 1) (pc' := 56) dX12_findWords_55 rfl (by decide) ?_
      refine go_goto (tgt := 60) dX12_findWords_56 (by decide) ?_
      have k97 := c9
      rw [gR] at k97
      refine go_istore (pc' := 62) dX12_findWords_60 rfl (by decide) ?_
      refine go_iload (pc' := 64) dX12_findWords_62 rfl rfl ?_
      refine gz_if_eq (tgt := 103) (pc' := 67) dX12_findWords_64 rfl (by decide) (fun c54 => ?_) (fun c54 => ?_)
      · have nw : ((1 : Int32)).toInt = 1 → 1 ≤ (x3_2).toInt := by first | (intro q; omega) | (intro q; exact hn_2 ({vk}).toNatClampNeg (by omega) (by rw [← gR]; exact c54))
        refine go_iload (pc' := 105) dX12_findWords_103 rfl rfl ?_
        refine gz_if_eq (tgt := 126) (pc' := 108) dX12_findWords_105 rfl (by decide) (fun c55 => ?_) (fun c55 => ?_)
        · refine gz_iinc (c := 1) (pc' := 129) dX12_findWords_126 rfl rfl (by decide) (by decide) (by decide) (by omega) (fun v56 h56 e56 => ?_)
          refine go_goto (tgt := 14) dX12_findWords_129 (by decide) ?_
          exact go_lv (lv' := [(0, .ref (L.2.1 13)), (1, .int a), (2, .int s), (3, .int x3_2), (4, .int v56)]) rfl (ih2 _ (by omega) σ8 x3_2 v56 w8 (by omega) (by omega) (fun j hj q => by have ej : j = (x4_2).toNatClampNeg := (by omega); first | omega | (exfalso; rw [gR, ej] at q; omega)) rfl)
        refine go_aload_n (i := 0) (pc' := 109) dX12_findWords_108 rfl rfl rfl ?_
        refine gf_13_ends (pc' := 112) dX12_findWords_109 rfl fl_X12_111 ?_
        refine go_sipush (v := 160) (pc' := 115) dX12_findWords_112 rfl (by decide) ?_
        refine go_iload_n (i := 2) (pc' := 116) dX12_findWords_115 rfl rfl rfl ?_
        refine gz_imulc (n := 160) (pc' := 117) dX12_findWords_116 rfl (by decide) (by omega) (fun v57 h57 e57 => ?_)
        refine go_iload_n (i := 3) (pc' := 118) dX12_findWords_117 rfl rfl rfl ?_
        refine gz_iadd (pc' := 119) dX12_findWords_118 rfl (by omega) (fun v58 h58 e58 => ?_)
        refine go_iconst (v := 1) (pc' := 120) dX12_findWords_119 rfl (by decide) ?_
        refine gz_isub (pc' := 121) dX12_findWords_120 rfl (by omega) (fun v59 h59 e59 => ?_)
        refine go_iload (pc' := 123) dX12_findWords_121 rfl rfl ?_
        refine go_iconst (v := 1) (pc' := 124) dX12_findWords_123 rfl (by decide) ?_
        refine gz_iadd (pc' := 125) dX12_findWords_124 rfl (by omega) (fun v60 h60 e60 => ?_)
        refine go_iast (pc' := 126) dX12_findWords_125 rfl (by decide) (by decide) rfl (vin_of (n := 320) (by omega) (by omega)) ?_
        refine go_gen (P := fun s => WM σ s ∧ s.1 29 = σ8.1 29 ∧ s.2 124 = σ8.2 124) ⟨⟨ixt_128 w8.1 (by omega) (by omega), Ag_setA w8.2 (by decide)⟩, ⟨rfl, setA_ne (a := 124) _ 128 _ _ (by decide)⟩⟩ (fun σ61 z61 => ?_)
        obtain ⟨w61, g61⟩ := z61
        have gR := g61.2.trans gR
        have gm61 := congrArg Int32.toInt g61.1
        refine gz_iinc (c := 1) (pc' := 129) dX12_findWords_126 rfl rfl (by decide) (by decide) (by decide) (by omega) (fun v62 h62 e62 => ?_)
        refine go_goto (tgt := 14) dX12_findWords_129 (by decide) ?_
        exact go_lv (lv' := [(0, .ref (L.2.1 13)), (1, .int a), (2, .int s), (3, .int x3_2), (4, .int v62)]) rfl (ih2 _ (by omega) σ61 x3_2 v62 w61 (by omega) (by omega) (fun j hj q => by have ej : j = (x4_2).toNatClampNeg := (by omega); first | omega | (exfalso; rw [gR, ej] at q; omega)) rfl)
      refine go_iload (pc' := 69) dX12_findWords_67 rfl rfl ?_
      refine gz_if_eq (tgt := 86) (pc' := 72) dX12_findWords_69 rfl (by decide) (fun c63 => ?_) (fun c63 => ?_)
      · refine go_aload_n (i := 0) (pc' := 87) dX12_findWords_86 rfl rfl rfl ?_
        refine gf_13_begins (pc' := 90) dX12_findWords_87 rfl fl_X12_108 ?_
        refine go_sipush (v := 160) (pc' := 93) dX12_findWords_90 rfl (by decide) ?_
        refine go_iload_n (i := 2) (pc' := 94) dX12_findWords_93 rfl rfl rfl ?_
        refine gz_imulc (n := 160) (pc' := 95) dX12_findWords_94 rfl (by decide) (by omega) (fun v64 h64 e64 => ?_)
        refine go_iload_n (i := 3) (pc' := 96) dX12_findWords_95 rfl rfl rfl ?_
        refine gz_iadd (pc' := 97) dX12_findWords_96 rfl (by omega) (fun v65 h65 e65 => ?_)
        refine go_iload (pc' := 99) dX12_findWords_97 rfl rfl ?_
        refine go_iast (pc' := 100) dX12_findWords_99 rfl (by decide) (by decide) rfl (vin_of (n := 320) (by omega) (by omega)) ?_
        refine go_gen (P := fun s => WM σ s ∧ s.1 29 = σ8.1 29 ∧ s.2 124 = σ8.2 124) ⟨⟨ixt_127 w8.1 (by omega) (by omega), Ag_setA w8.2 (by decide)⟩, ⟨rfl, setA_ne (a := 124) _ 127 _ _ (by decide)⟩⟩ (fun σ66 z66 => ?_)
        obtain ⟨w66, g66⟩ := z66
        have gR := g66.2.trans gR
        have gm66 := congrArg Int32.toInt g66.1
        refine gz_iinc (c := 1) (pc' := 103) dX12_findWords_100 rfl rfl (by decide) (by decide) (by decide) (by omega) (fun v67 h67 e67 => ?_)
        have nw : ((1 : Int32)).toInt = 1 → 1 ≤ (v67).toInt := by first | (intro q; omega) | (intro q; exact hn_2 ({vk}).toNatClampNeg (by omega) (by rw [← gR]; exact c63))
        refine go_iload (pc' := 105) dX12_findWords_103 rfl rfl ?_
        refine gz_if_eq (tgt := 126) (pc' := 108) dX12_findWords_105 rfl (by decide) (fun c68 => ?_) (fun c68 => ?_)
        · refine gz_iinc (c := 1) (pc' := 129) dX12_findWords_126 rfl rfl (by decide) (by decide) (by decide) (by omega) (fun v69 h69 e69 => ?_)
          refine go_goto (tgt := 14) dX12_findWords_129 (by decide) ?_
          exact go_lv (lv' := [(0, .ref (L.2.1 13)), (1, .int a), (2, .int s), (3, .int v67), (4, .int v69)]) rfl (ih2 _ (by omega) σ66 v67 v69 w66 (by omega) (by omega) (fun j hj q => by have ej : j = (x4_2).toNatClampNeg := (by omega); first | omega | (exfalso; rw [gR, ej] at q; omega)) rfl)
        refine go_aload_n (i := 0) (pc' := 109) dX12_findWords_108 rfl rfl rfl ?_
        refine gf_13_ends (pc' := 112) dX12_findWords_109 rfl fl_X12_111 ?_
        refine go_sipush (v := 160) (pc' := 115) dX12_findWords_112 rfl (by decide) ?_
        refine go_iload_n (i := 2) (pc' := 116) dX12_findWords_115 rfl rfl rfl ?_
        refine gz_imulc (n := 160) (pc' := 117) dX12_findWords_116 rfl (by decide) (by omega) (fun v70 h70 e70 => ?_)
        refine go_iload_n (i := 3) (pc' := 118) dX12_findWords_117 rfl rfl rfl ?_
        refine gz_iadd (pc' := 119) dX12_findWords_118 rfl (by omega) (fun v71 h71 e71 => ?_)
        refine go_iconst (v := 1) (pc' := 120) dX12_findWords_119 rfl (by decide) ?_
        refine gz_isub (pc' := 121) dX12_findWords_120 rfl (by omega) (fun v72 h72 e72 => ?_)
        refine go_iload (pc' := 123) dX12_findWords_121 rfl rfl ?_
        refine go_iconst (v := 1) (pc' := 124) dX12_findWords_123 rfl (by decide) ?_
        refine gz_iadd (pc' := 125) dX12_findWords_124 rfl (by omega) (fun v73 h73 e73 => ?_)
        refine go_iast (pc' := 126) dX12_findWords_125 rfl (by decide) (by decide) rfl (vin_of (n := 320) (by omega) (by omega)) ?_
        refine go_gen (P := fun s => WM σ s ∧ s.1 29 = σ66.1 29 ∧ s.2 124 = σ66.2 124) ⟨⟨ixt_128 w66.1 (by omega) (by omega), Ag_setA w66.2 (by decide)⟩, ⟨rfl, setA_ne (a := 124) _ 128 _ _ (by decide)⟩⟩ (fun σ74 z74 => ?_)
        obtain ⟨w74, g74⟩ := z74
        have gR := g74.2.trans gR
        have gm74 := congrArg Int32.toInt g74.1
        refine gz_iinc (c := 1) (pc' := 129) dX12_findWords_126 rfl rfl (by decide) (by decide) (by decide) (by omega) (fun v75 h75 e75 => ?_)
        refine go_goto (tgt := 14) dX12_findWords_129 (by decide) ?_
        exact go_lv (lv' := [(0, .ref (L.2.1 13)), (1, .int a), (2, .int s), (3, .int v67), (4, .int v75)]) rfl (ih2 _ (by omega) σ74 v67 v75 w74 (by omega) (by omega) (fun j hj q => by have ej : j = (x4_2).toNatClampNeg := (by omega); first | omega | (exfalso; rw [gR, ej] at q; omega)) rfl)
      refine go_aload_n (i := 0) (pc' := 73) dX12_findWords_72 rfl rfl rfl ?_
      refine gf_13_print (pc' := 76) dX12_findWords_73 rfl fl_X12_99 ?_
      refine go_iload (pc' := 78) dX12_findWords_76 rfl rfl ?_
      refine go_iconst (v := 1) (pc' := 79) dX12_findWords_78 rfl (by decide) ?_
      refine gz_isub (pc' := 80) dX12_findWords_79 rfl (by omega) (fun v76 h76 e76 => ?_)
      have cvk := cnat (x := v76) (by omega)
      refine go_iald (pc' := 81) dX12_findWords_80 rfl (by decide) (by decide) rfl (vin_of (n := 320) (by omega) (by omega)) ?_
      refine go_bipush (v := 97) (pc' := 83) dX12_findWords_81 rfl (by decide) ?_
      refine gz_icmp_ge (tgt := 103) (pc' := 86) dX12_findWords_83 rfl (by decide) (fun c77 => ?_) (fun c77 => ?_)
      · have nw : ((1 : Int32)).toInt = 1 → 1 ≤ (x3_2).toInt := by first | (intro q; omega) | (intro q; exact hn_2 (v76).toNatClampNeg (by omega) (by rw [← gR]; exact c77))
        refine go_iload (pc' := 105) dX12_findWords_103 rfl rfl ?_
        refine gz_if_eq (tgt := 126) (pc' := 108) dX12_findWords_105 rfl (by decide) (fun c78 => ?_) (fun c78 => ?_)
        · refine gz_iinc (c := 1) (pc' := 129) dX12_findWords_126 rfl rfl (by decide) (by decide) (by decide) (by omega) (fun v79 h79 e79 => ?_)
          refine go_goto (tgt := 14) dX12_findWords_129 (by decide) ?_
          exact go_lv (lv' := [(0, .ref (L.2.1 13)), (1, .int a), (2, .int s), (3, .int x3_2), (4, .int v79)]) rfl (ih2 _ (by omega) σ8 x3_2 v79 w8 (by omega) (by omega) (fun j hj q => by have ej : j = (x4_2).toNatClampNeg := (by omega); first | omega | (exfalso; rw [gR, ej] at q; omega)) rfl)
        refine go_aload_n (i := 0) (pc' := 109) dX12_findWords_108 rfl rfl rfl ?_
        refine gf_13_ends (pc' := 112) dX12_findWords_109 rfl fl_X12_111 ?_
        refine go_sipush (v := 160) (pc' := 115) dX12_findWords_112 rfl (by decide) ?_
        refine go_iload_n (i := 2) (pc' := 116) dX12_findWords_115 rfl rfl rfl ?_
        refine gz_imulc (n := 160) (pc' := 117) dX12_findWords_116 rfl (by decide) (by omega) (fun v80 h80 e80 => ?_)
        refine go_iload_n (i := 3) (pc' := 118) dX12_findWords_117 rfl rfl rfl ?_
        refine gz_iadd (pc' := 119) dX12_findWords_118 rfl (by omega) (fun v81 h81 e81 => ?_)
        refine go_iconst (v := 1) (pc' := 120) dX12_findWords_119 rfl (by decide) ?_
        refine gz_isub (pc' := 121) dX12_findWords_120 rfl (by omega) (fun v82 h82 e82 => ?_)
        refine go_iload (pc' := 123) dX12_findWords_121 rfl rfl ?_
        refine go_iconst (v := 1) (pc' := 124) dX12_findWords_123 rfl (by decide) ?_
        refine gz_iadd (pc' := 125) dX12_findWords_124 rfl (by omega) (fun v83 h83 e83 => ?_)
        refine go_iast (pc' := 126) dX12_findWords_125 rfl (by decide) (by decide) rfl (vin_of (n := 320) (by omega) (by omega)) ?_
        refine go_gen (P := fun s => WM σ s ∧ s.1 29 = σ8.1 29 ∧ s.2 124 = σ8.2 124) ⟨⟨ixt_128 w8.1 (by omega) (by omega), Ag_setA w8.2 (by decide)⟩, ⟨rfl, setA_ne (a := 124) _ 128 _ _ (by decide)⟩⟩ (fun σ84 z84 => ?_)
        obtain ⟨w84, g84⟩ := z84
        have gR := g84.2.trans gR
        have gm84 := congrArg Int32.toInt g84.1
        refine gz_iinc (c := 1) (pc' := 129) dX12_findWords_126 rfl rfl (by decide) (by decide) (by decide) (by omega) (fun v85 h85 e85 => ?_)
        refine go_goto (tgt := 14) dX12_findWords_129 (by decide) ?_
        exact go_lv (lv' := [(0, .ref (L.2.1 13)), (1, .int a), (2, .int s), (3, .int x3_2), (4, .int v85)]) rfl (ih2 _ (by omega) σ84 x3_2 v85 w84 (by omega) (by omega) (fun j hj q => by have ej : j = (x4_2).toNatClampNeg := (by omega); first | omega | (exfalso; rw [gR, ej] at q; omega)) rfl)
      refine go_aload_n (i := 0) (pc' := 87) dX12_findWords_86 rfl rfl rfl ?_
      refine gf_13_begins (pc' := 90) dX12_findWords_87 rfl fl_X12_108 ?_
      refine go_sipush (v := 160) (pc' := 93) dX12_findWords_90 rfl (by decide) ?_
      refine go_iload_n (i := 2) (pc' := 94) dX12_findWords_93 rfl rfl rfl ?_
      refine gz_imulc (n := 160) (pc' := 95) dX12_findWords_94 rfl (by decide) (by omega) (fun v86 h86 e86 => ?_)
      refine go_iload_n (i := 3) (pc' := 96) dX12_findWords_95 rfl rfl rfl ?_
      refine gz_iadd (pc' := 97) dX12_findWords_96 rfl (by omega) (fun v87 h87 e87 => ?_)
      refine go_iload (pc' := 99) dX12_findWords_97 rfl rfl ?_
      refine go_iast (pc' := 100) dX12_findWords_99 rfl (by decide) (by decide) rfl (vin_of (n := 320) (by omega) (by omega)) ?_
      refine go_gen (P := fun s => WM σ s ∧ s.1 29 = σ8.1 29 ∧ s.2 124 = σ8.2 124) ⟨⟨ixt_127 w8.1 (by omega) (by omega), Ag_setA w8.2 (by decide)⟩, ⟨rfl, setA_ne (a := 124) _ 127 _ _ (by decide)⟩⟩ (fun σ88 z88 => ?_)
      obtain ⟨w88, g88⟩ := z88
      have gR := g88.2.trans gR
      have gm88 := congrArg Int32.toInt g88.1
      refine gz_iinc (c := 1) (pc' := 103) dX12_findWords_100 rfl rfl (by decide) (by decide) (by decide) (by omega) (fun v89 h89 e89 => ?_)
      have nw : ((1 : Int32)).toInt = 1 → 1 ≤ (v89).toInt := by first | (intro q; omega) | (intro q; exact hn_2 (v76).toNatClampNeg (by omega) (by rw [← gR]; exact c77))
      refine go_iload (pc' := 105) dX12_findWords_103 rfl rfl ?_
      refine gz_if_eq (tgt := 126) (pc' := 108) dX12_findWords_105 rfl (by decide) (fun c90 => ?_) (fun c90 => ?_)
      · refine gz_iinc (c := 1) (pc' := 129) dX12_findWords_126 rfl rfl (by decide) (by decide) (by decide) (by omega) (fun v91 h91 e91 => ?_)
        refine go_goto (tgt := 14) dX12_findWords_129 (by decide) ?_
        exact go_lv (lv' := [(0, .ref (L.2.1 13)), (1, .int a), (2, .int s), (3, .int v89), (4, .int v91)]) rfl (ih2 _ (by omega) σ88 v89 v91 w88 (by omega) (by omega) (fun j hj q => by have ej : j = (x4_2).toNatClampNeg := (by omega); first | omega | (exfalso; rw [gR, ej] at q; omega)) rfl)
      refine go_aload_n (i := 0) (pc' := 109) dX12_findWords_108 rfl rfl rfl ?_
      refine gf_13_ends (pc' := 112) dX12_findWords_109 rfl fl_X12_111 ?_
      refine go_sipush (v := 160) (pc' := 115) dX12_findWords_112 rfl (by decide) ?_
      refine go_iload_n (i := 2) (pc' := 116) dX12_findWords_115 rfl rfl rfl ?_
      refine gz_imulc (n := 160) (pc' := 117) dX12_findWords_116 rfl (by decide) (by omega) (fun v92 h92 e92 => ?_)
      refine go_iload_n (i := 3) (pc' := 118) dX12_findWords_117 rfl rfl rfl ?_
      refine gz_iadd (pc' := 119) dX12_findWords_118 rfl (by omega) (fun v93 h93 e93 => ?_)
      refine go_iconst (v := 1) (pc' := 120) dX12_findWords_119 rfl (by decide) ?_
      refine gz_isub (pc' := 121) dX12_findWords_120 rfl (by omega) (fun v94 h94 e94 => ?_)
      refine go_iload (pc' := 123) dX12_findWords_121 rfl rfl ?_
      refine go_iconst (v := 1) (pc' := 124) dX12_findWords_123 rfl (by decide) ?_
      refine gz_iadd (pc' := 125) dX12_findWords_124 rfl (by omega) (fun v95 h95 e95 => ?_)
      refine go_iast (pc' := 126) dX12_findWords_125 rfl (by decide) (by decide) rfl (vin_of (n := 320) (by omega) (by omega)) ?_
      refine go_gen (P := fun s => WM σ s ∧ s.1 29 = σ88.1 29 ∧ s.2 124 = σ88.2 124) ⟨⟨ixt_128 w88.1 (by omega) (by omega), Ag_setA w88.2 (by decide)⟩, ⟨rfl, setA_ne (a := 124) _ 128 _ _ (by decide)⟩⟩ (fun σ96 z96 => ?_)
      obtain ⟨w96, g96⟩ := z96
      have gR := g96.2.trans gR
      have gm96 := congrArg Int32.toInt g96.1
      refine gz_iinc (c := 1) (pc' := 129) dX12_findWords_126 rfl rfl (by decide) (by decide) (by decide) (by omega) (fun v97 h97 e97 => ?_)
      refine go_goto (tgt := 14) dX12_findWords_129 (by decide) ?_
      exact go_lv (lv' := [(0, .ref (L.2.1 13)), (1, .int a), (2, .int s), (3, .int v89), (4, .int v97)]) rfl (ih2 _ (by omega) σ96 v89 v97 w96 (by omega) (by omega) (fun j hj q => by have ej : j = (x4_2).toNatClampNeg := (by omega); first | omega | (exfalso; rw [gR, ej] at q; omega)) rfl)
  exact go_lv (lv' := [(0, .ref (L.2.1 13)), (1, .int a), (2, .int s), (3, .int (0 : Int32)), (4, .int (0 : Int32))]) rfl (loop14_2 _ σ1 (0 : Int32) (0 : Int32) w1 (by omega) (by omega) (fun j hj => by exfalso; omega) rfl)
set_option maxHeartbeats 4000000 in
set_option maxRecDepth 100000 in
theorem c_X12_words (l : Launch) (L : WL) (σ : ST) (a : Int32) (ix : IV σ) (tv : TV σ) : CtI l L yX12_words cX12_words 2 (some .int) rm_X12_words [.ref (L.2.1 13), .int a] σ (fun _ σ2 => WM σ σ2) := by
  refine ctI_go (own := RX12) (by decide) rfl (Nat.le_of_ble_eq_true rfl) (fun F hF => ?_)
  subst hF
  have nm2 : (-2 : Int32).toInt = -2 := by decide
  have n0 : (0 : Int32).toInt = 0 := by decide
  have w0 : WM σ σ := WM_rfl ix
  have u19 := ixi_19 ix
  have u20 := ixi_20 ix
  have u21 := ixi_21 ix
  have u22 := ixi_22 ix
  refine go_aload_n (i := 0) (pc' := 1) dX12_words_0 rfl rfl rfl ?_
  refine go_iload_n (i := 1) (pc' := 2) dX12_words_1 rfl rfl rfl ?_
  refine go_cvi (pc' := 5) lk_X12_152 (c_X12_isLetter _ _ _ _) rfl rfl (Nat.le_of_ble_eq_true rfl) (by decide) rfl rfl rfl ⟨Nat.le_of_ble_eq_true rfl, Nat.le_of_ble_eq_true rfl⟩ ⟨rfl, rfl⟩ dX12_words_2 rfl (fun r1 σ1 h1 => ?_)
  obtain ⟨e1, h1⟩ := h1
  have e1 := e1.symm
  subst e1
  refine go_neB (tgt := 11) (pc' := 8) h1 dX12_words_5 rfl (by decide) (fun c2 => ?_) (fun c2 => ?_)
  · refine go_aload_n (i := 0) (pc' := 12) dX12_words_11 rfl rfl rfl ?_
    refine go_iload_n (i := 1) (pc' := 13) dX12_words_12 rfl rfl rfl ?_
    refine go_iconst (v := 0) (pc' := 14) dX12_words_13 rfl (by decide) ?_
    refine go_cvv (pc' := 17) lk_X12_266 (c_X12_findWords _ _ _ _ _ (by omega) (by omega) w0.1 (TV_q w0 tv)) rfl rfl (Nat.le_of_ble_eq_true rfl) (by decide) rfl rfl rfl ⟨Nat.le_of_ble_eq_true rfl, Nat.le_of_ble_eq_true rfl⟩ ⟨rfl, rfl⟩ dX12_words_14 rfl (fun σ3 h3 => ?_)
    have w3 := WM_trans w0 h3
    refine go_aload_n (i := 0) (pc' := 18) dX12_words_17 rfl rfl rfl ?_
    refine gf_13_wordMany (pc' := 21) dX12_words_18 rfl fl_X12_114 ?_
    refine go_iconst (v := 0) (pc' := 22) dX12_words_21 rfl (by decide) ?_
    refine go_iald (pc' := 23) dX12_words_22 rfl (by decide) (by decide) rfl (vin_of (n := 2) (by omega) (by omega)) ?_
    refine go_rngA (ixa_129 w3.1) (vinlt (vin_of (n := 2) (by omega) (by omega))) (fun g4 => ?_)
    exact go_iret dX12_words_23 rfl (w3)
  refine go_bipush (v := (-2)) (pc' := 10) dX12_words_8 rfl (by decide) ?_
  exact go_iret dX12_words_10 rfl (w0)
set_option maxHeartbeats 4000000 in
set_option maxRecDepth 100000 in
theorem c_X12_isSame (l : Launch) (L : WL) (σ : ST) (a b : Int32) (ha : 0 ≤ a.toInt ∧ a.toInt < 160) (hb : 0 ≤ b.toInt ∧ b.toInt < 160) (ix : IV σ) : CtI l L yX12_isSame cX12_isSame 8 (some .boolean) rm_X12_isSame [.ref (L.2.1 13), .int a, .int b] σ (fun _ σ2 => σ2 = σ) := by
  refine ctI_go (own := RX12) (by decide) rfl (Nat.le_of_ble_eq_true rfl) (fun F hF => ?_)
  subst hF
  have n0 : (0 : Int32).toInt = 0 := by decide
  have n1 : (1 : Int32).toInt = 1 := by decide
  have n160 : (160 : Int32).toInt = 160 := by decide
  have w0 : WM σ σ := WM_rfl ix
  refine go_aload_n (i := 0) (pc' := 1) dX12_isSame_0 rfl rfl rfl ?_
  refine gf_13_begins (pc' := 4) dX12_isSame_1 rfl fl_X12_108 ?_
  refine go_iload_n (i := 1) (pc' := 5) dX12_isSame_4 rfl rfl rfl ?_
  refine go_iald (pc' := 6) dX12_isSame_5 rfl (by decide) (by decide) rfl (vin_of (n := 320) (by omega) (by omega)) ?_
  refine go_rngA (ixa_127 w0.1) (vinlt (vin_of (n := 320) (by omega) (by omega))) (fun g1 => ?_)
  refine go_topz (fun y2 h2 e2 => ?_)
  refine go_istore_n (i := 3) (pc' := 7) dX12_isSame_6 rfl rfl (by decide) ?_
  refine go_aload_n (i := 0) (pc' := 8) dX12_isSame_7 rfl rfl rfl ?_
  refine gf_13_begins (pc' := 11) dX12_isSame_8 rfl fl_X12_108 ?_
  refine go_sipush (v := 160) (pc' := 14) dX12_isSame_11 rfl (by decide) ?_
  refine go_iload_n (i := 2) (pc' := 15) dX12_isSame_14 rfl rfl rfl ?_
  refine gz_iadd (pc' := 16) dX12_isSame_15 rfl (by omega) (fun v3 h3 e3 => ?_)
  refine go_iald (pc' := 17) dX12_isSame_16 rfl (by decide) (by decide) rfl (vin_of (n := 320) (by omega) (by omega)) ?_
  refine go_rngA (ixa_127 w0.1) (vinlt (vin_of (n := 320) (by omega) (by omega))) (fun g4 => ?_)
  refine go_topz (fun y5 h5 e5 => ?_)
  refine go_istore (pc' := 19) dX12_isSame_17 rfl (by decide) ?_
  refine go_aload_n (i := 0) (pc' := 20) dX12_isSame_19 rfl rfl rfl ?_
  refine gf_13_ends (pc' := 23) dX12_isSame_20 rfl fl_X12_111 ?_
  refine go_iload_n (i := 1) (pc' := 24) dX12_isSame_23 rfl rfl rfl ?_
  refine go_iald (pc' := 25) dX12_isSame_24 rfl (by decide) (by decide) rfl (vin_of (n := 320) (by omega) (by omega)) ?_
  refine go_rngA (ixa_128 w0.1) (vinlt (vin_of (n := 320) (by omega) (by omega))) (fun g6 => ?_)
  refine go_iload_n (i := 3) (pc' := 26) dX12_isSame_25 rfl rfl rfl ?_
  refine gz_isub (pc' := 27) dX12_isSame_26 rfl (by omega) (fun v7 h7 e7 => ?_)
  refine go_istore (pc' := 29) dX12_isSame_27 rfl (by decide) ?_
  refine go_iload (pc' := 31) dX12_isSame_29 rfl rfl ?_
  refine go_aload_n (i := 0) (pc' := 32) dX12_isSame_31 rfl rfl rfl ?_
  refine gf_13_ends (pc' := 35) dX12_isSame_32 rfl fl_X12_111 ?_
  refine go_sipush (v := 160) (pc' := 38) dX12_isSame_35 rfl (by decide) ?_
  refine go_iload_n (i := 2) (pc' := 39) dX12_isSame_38 rfl rfl rfl ?_
  refine gz_iadd (pc' := 40) dX12_isSame_39 rfl (by omega) (fun v8 h8 e8 => ?_)
  refine go_iald (pc' := 41) dX12_isSame_40 rfl (by decide) (by decide) rfl (vin_of (n := 320) (by omega) (by omega)) ?_
  refine go_rngA (ixa_128 w0.1) (vinlt (vin_of (n := 320) (by omega) (by omega))) (fun g9 => ?_)
  refine go_iload (pc' := 43) dX12_isSame_41 rfl rfl ?_
  refine gz_isub (pc' := 44) dX12_isSame_43 rfl (by omega) (fun v10 h10 e10 => ?_)
  refine gz_icmp_ne (tgt := 51) (pc' := 47) dX12_isSame_44 rfl (by decide) (fun c11 => ?_) (fun c11 => ?_)
  · refine go_iconst (v := 0) (pc' := 52) dX12_isSame_51 rfl (by decide) ?_
    refine go_istore (pc' := 54) dX12_isSame_52 rfl (by decide) ?_
    refine go_iconst (v := 0) (pc' := 55) dX12_isSame_54 rfl (by decide) ?_
    refine go_istore (pc' := 57) dX12_isSame_55 rfl (by decide) ?_
    have loop57_12 : ∀ (dd12 : Nat) (x6_12 : Int32) (x7_12 : Int32), (0 ≤ (x7_12).toInt) → ((x6_12 = 0 ∨ x6_12 = 1)) → ((x6_12).toInt ≠ 0 → (v7).toInt = (v10).toInt) → ((v7).toInt - (x7_12).toInt).toNat = dd12 → Go F L RX12 cX12_isSame 8 rm_X12_isSame (some .boolean) (RI F L (fun _ σ2 => σ2 = σ)) σ 57 [(0, .ref (L.2.1 13)), (1, .int a), (2, .int b), (3, .int y2), (4, .int y5), (5, .int v7), (6, .int x6_12), (7, .int x7_12)] [] := by
      intro dd12
      induction dd12 using Nat.strongRecOn with
      | _ dd12 ih12 =>
        intro x6_12 x7_12 h_12 hq_12 hs_12 hm_12
        refine go_iload (pc' := 59) dX12_isSame_57 rfl rfl ?_
        refine go_iload (pc' := 61) dX12_isSame_59 rfl rfl ?_
        refine gz_icmp_ge (tgt := 108) (pc' := 64) dX12_isSame_61 rfl (by decide) (fun c13 => ?_) (fun c13 => ?_)
        · refine go_iload (pc' := 110) dX12_isSame_108 rfl rfl ?_
          exact go_zret dX12_isSame_110 rfl (nb01 hq_12) (rfl)
        refine go_iload (pc' := 66) dX12_isSame_64 rfl rfl ?_
        refine gz_if_eq (tgt := 108) (pc' := 69) dX12_isSame_66 rfl (by decide) (fun c14 => ?_) (fun c14 => ?_)
        · refine go_iload (pc' := 110) dX12_isSame_108 rfl rfl ?_
          exact go_zret dX12_isSame_110 rfl (nb01 hq_12) (rfl)
        refine go_aload_n (i := 0) (pc' := 70) dX12_isSame_69 rfl rfl rfl ?_
        refine gf_13_signs (pc' := 73) dX12_isSame_70 rfl fl_X12_105 ?_
        refine go_iload_n (i := 3) (pc' := 74) dX12_isSame_73 rfl rfl rfl ?_
        refine go_iload (pc' := 76) dX12_isSame_74 rfl rfl ?_
        refine gz_iadd (pc' := 77) dX12_isSame_76 rfl (by omega) (fun v15 h15 e15 => ?_)
        refine go_iald (pc' := 78) dX12_isSame_77 rfl (by decide) (by decide) rfl (vin_of (n := 320) (by omega) (by omega)) ?_
        refine go_aload_n (i := 0) (pc' := 79) dX12_isSame_78 rfl rfl rfl ?_
        refine gf_13_signs (pc' := 82) dX12_isSame_79 rfl fl_X12_105 ?_
        refine go_sipush (v := 160) (pc' := 85) dX12_isSame_82 rfl (by decide) ?_
        refine go_iload (pc' := 87) dX12_isSame_85 rfl rfl ?_
        refine gz_iadd (pc' := 88) dX12_isSame_87 rfl (by omega) (fun v16 h16 e16 => ?_)
        refine go_iload (pc' := 90) dX12_isSame_88 rfl rfl ?_
        refine gz_iadd (pc' := 91) dX12_isSame_90 rfl (by omega) (fun v17 h17 e17 => ?_)
        refine go_iald (pc' := 92) dX12_isSame_91 rfl (by decide) (by decide) rfl (vin_of (n := 320) (by omega) (by omega)) ?_
        refine gz_icmp_ne (tgt := 99) (pc' := 95) dX12_isSame_92 rfl (by decide) (fun c18 => ?_) (fun c18 => ?_)
        · refine go_iconst (v := 0) (pc' := 100) dX12_isSame_99 rfl (by decide) ?_
          refine go_istore (pc' := 102) dX12_isSame_100 rfl (by decide) ?_
          refine gz_iinc (c := 1) (pc' := 105) dX12_isSame_102 rfl rfl (by decide) (by decide) (by decide) (by omega) (fun v19 h19 e19 => ?_)
          refine go_goto (tgt := 57) dX12_isSame_105 (by decide) ?_
          exact go_lv (lv' := [(0, .ref (L.2.1 13)), (1, .int a), (2, .int b), (3, .int y2), (4, .int y5), (5, .int v7), (6, .int (0 : Int32)), (7, .int v19)]) rfl (ih12 _ (by omega)  (0 : Int32) v19 (by omega) (by first | exact Or.inl rfl | exact Or.inr rfl) (fun q => by omega) rfl)
        refine go_iconst (v := 1) (pc' := 96) dX12_isSame_95 rfl (by decide) ?_
        refine go_goto (tgt := 100) dX12_isSame_96 (by decide) ?_
        refine go_istore (pc' := 102) dX12_isSame_100 rfl (by decide) ?_
        refine gz_iinc (c := 1) (pc' := 105) dX12_isSame_102 rfl rfl (by decide) (by decide) (by decide) (by omega) (fun v20 h20 e20 => ?_)
        refine go_goto (tgt := 57) dX12_isSame_105 (by decide) ?_
        exact go_lv (lv' := [(0, .ref (L.2.1 13)), (1, .int a), (2, .int b), (3, .int y2), (4, .int y5), (5, .int v7), (6, .int (1 : Int32)), (7, .int v20)]) rfl (ih12 _ (by omega)  (1 : Int32) v20 (by omega) (by first | exact Or.inl rfl | exact Or.inr rfl) (fun q => by omega) rfl)
    exact go_lv (lv' := [(0, .ref (L.2.1 13)), (1, .int a), (2, .int b), (3, .int y2), (4, .int y5), (5, .int v7), (6, .int (0 : Int32)), (7, .int (0 : Int32))]) rfl (loop57_12 _  (0 : Int32) (0 : Int32) (by omega) (by first | exact Or.inl rfl | exact Or.inr rfl) (fun q => by omega) rfl)
  refine go_iconst (v := 1) (pc' := 48) dX12_isSame_47 rfl (by decide) ?_
  refine go_goto (tgt := 52) dX12_isSame_48 (by decide) ?_
  refine go_istore (pc' := 54) dX12_isSame_52 rfl (by decide) ?_
  refine go_iconst (v := 0) (pc' := 55) dX12_isSame_54 rfl (by decide) ?_
  refine go_istore (pc' := 57) dX12_isSame_55 rfl (by decide) ?_
  have loop57_21 : ∀ (dd21 : Nat) (x6_21 : Int32) (x7_21 : Int32), (0 ≤ (x7_21).toInt) → ((x6_21 = 0 ∨ x6_21 = 1)) → ((x6_21).toInt ≠ 0 → (v7).toInt = (v10).toInt) → ((v7).toInt - (x7_21).toInt).toNat = dd21 → Go F L RX12 cX12_isSame 8 rm_X12_isSame (some .boolean) (RI F L (fun _ σ2 => σ2 = σ)) σ 57 [(0, .ref (L.2.1 13)), (1, .int a), (2, .int b), (3, .int y2), (4, .int y5), (5, .int v7), (6, .int x6_21), (7, .int x7_21)] [] := by
    intro dd21
    induction dd21 using Nat.strongRecOn with
    | _ dd21 ih21 =>
      intro x6_21 x7_21 h_21 hq_21 hs_21 hm_21
      refine go_iload (pc' := 59) dX12_isSame_57 rfl rfl ?_
      refine go_iload (pc' := 61) dX12_isSame_59 rfl rfl ?_
      refine gz_icmp_ge (tgt := 108) (pc' := 64) dX12_isSame_61 rfl (by decide) (fun c22 => ?_) (fun c22 => ?_)
      · refine go_iload (pc' := 110) dX12_isSame_108 rfl rfl ?_
        exact go_zret dX12_isSame_110 rfl (nb01 hq_21) (rfl)
      refine go_iload (pc' := 66) dX12_isSame_64 rfl rfl ?_
      refine gz_if_eq (tgt := 108) (pc' := 69) dX12_isSame_66 rfl (by decide) (fun c23 => ?_) (fun c23 => ?_)
      · refine go_iload (pc' := 110) dX12_isSame_108 rfl rfl ?_
        exact go_zret dX12_isSame_110 rfl (nb01 hq_21) (rfl)
      refine go_aload_n (i := 0) (pc' := 70) dX12_isSame_69 rfl rfl rfl ?_
      refine gf_13_signs (pc' := 73) dX12_isSame_70 rfl fl_X12_105 ?_
      refine go_iload_n (i := 3) (pc' := 74) dX12_isSame_73 rfl rfl rfl ?_
      refine go_iload (pc' := 76) dX12_isSame_74 rfl rfl ?_
      refine gz_iadd (pc' := 77) dX12_isSame_76 rfl (by omega) (fun v24 h24 e24 => ?_)
      refine go_iald (pc' := 78) dX12_isSame_77 rfl (by decide) (by decide) rfl (vin_of (n := 320) (by omega) (by omega)) ?_
      refine go_aload_n (i := 0) (pc' := 79) dX12_isSame_78 rfl rfl rfl ?_
      refine gf_13_signs (pc' := 82) dX12_isSame_79 rfl fl_X12_105 ?_
      refine go_sipush (v := 160) (pc' := 85) dX12_isSame_82 rfl (by decide) ?_
      refine go_iload (pc' := 87) dX12_isSame_85 rfl rfl ?_
      refine gz_iadd (pc' := 88) dX12_isSame_87 rfl (by omega) (fun v25 h25 e25 => ?_)
      refine go_iload (pc' := 90) dX12_isSame_88 rfl rfl ?_
      refine gz_iadd (pc' := 91) dX12_isSame_90 rfl (by omega) (fun v26 h26 e26 => ?_)
      refine go_iald (pc' := 92) dX12_isSame_91 rfl (by decide) (by decide) rfl (vin_of (n := 320) (by omega) (by omega)) ?_
      refine gz_icmp_ne (tgt := 99) (pc' := 95) dX12_isSame_92 rfl (by decide) (fun c27 => ?_) (fun c27 => ?_)
      · refine go_iconst (v := 0) (pc' := 100) dX12_isSame_99 rfl (by decide) ?_
        refine go_istore (pc' := 102) dX12_isSame_100 rfl (by decide) ?_
        refine gz_iinc (c := 1) (pc' := 105) dX12_isSame_102 rfl rfl (by decide) (by decide) (by decide) (by omega) (fun v28 h28 e28 => ?_)
        refine go_goto (tgt := 57) dX12_isSame_105 (by decide) ?_
        exact go_lv (lv' := [(0, .ref (L.2.1 13)), (1, .int a), (2, .int b), (3, .int y2), (4, .int y5), (5, .int v7), (6, .int (0 : Int32)), (7, .int v28)]) rfl (ih21 _ (by omega)  (0 : Int32) v28 (by omega) (by first | exact Or.inl rfl | exact Or.inr rfl) (fun q => by omega) rfl)
      refine go_iconst (v := 1) (pc' := 96) dX12_isSame_95 rfl (by decide) ?_
      refine go_goto (tgt := 100) dX12_isSame_96 (by decide) ?_
      refine go_istore (pc' := 102) dX12_isSame_100 rfl (by decide) ?_
      refine gz_iinc (c := 1) (pc' := 105) dX12_isSame_102 rfl rfl (by decide) (by decide) (by decide) (by omega) (fun v29 h29 e29 => ?_)
      refine go_goto (tgt := 57) dX12_isSame_105 (by decide) ?_
      exact go_lv (lv' := [(0, .ref (L.2.1 13)), (1, .int a), (2, .int b), (3, .int y2), (4, .int y5), (5, .int v7), (6, .int (1 : Int32)), (7, .int v29)]) rfl (ih21 _ (by omega)  (1 : Int32) v29 (by omega) (by first | exact Or.inl rfl | exact Or.inr rfl) (fun q => by omega) rfl)
  exact go_lv (lv' := [(0, .ref (L.2.1 13)), (1, .int a), (2, .int b), (3, .int y2), (4, .int y5), (5, .int v7), (6, .int (1 : Int32)), (7, .int (0 : Int32))]) rfl (loop57_21 _  (1 : Int32) (0 : Int32) (by omega) (by first | exact Or.inl rfl | exact Or.inr rfl) (fun q => by omega) rfl)
set_option maxHeartbeats 4000000 in
set_option maxRecDepth 100000 in
theorem c_X12_differ (l : Launch) (L : WL) (σ : ST) (a b : Int32) (ix : IV σ) (tv : TV σ) : CtI l L yX12_differ cX12_differ 7 (some .int) rm_X12_differ [.ref (L.2.1 13), .int a, .int b] σ (fun _ σ2 => WM σ σ2) := by
  refine ctI_go (own := RX12) (by decide) rfl (Nat.le_of_ble_eq_true rfl) (fun F hF => ?_)
  subst hF
  have nm2 : (-2 : Int32).toInt = -2 := by decide
  have n0 : (0 : Int32).toInt = 0 := by decide
  have n1 : (1 : Int32).toInt = 1 := by decide
  have w0 : WM σ σ := WM_rfl ix
  have u19 := ixi_19 ix
  have u20 := ixi_20 ix
  have u21 := ixi_21 ix
  have u22 := ixi_22 ix
  refine go_aload_n (i := 0) (pc' := 1) dX12_differ_0 rfl rfl rfl ?_
  refine go_iload_n (i := 1) (pc' := 2) dX12_differ_1 rfl rfl rfl ?_
  refine go_cvi (pc' := 5) lk_X12_152 (c_X12_isLetter _ _ _ _) rfl rfl (Nat.le_of_ble_eq_true rfl) (by decide) rfl rfl rfl ⟨Nat.le_of_ble_eq_true rfl, Nat.le_of_ble_eq_true rfl⟩ ⟨rfl, rfl⟩ dX12_differ_2 rfl (fun r1 σ1 h1 => ?_)
  obtain ⟨e1, h1⟩ := h1
  have e1 := e1.symm
  subst e1
  refine go_eqB (tgt := 16) (pc' := 8) h1 dX12_differ_5 rfl (by decide) (fun c2 => ?_) (fun c2 => ?_)
  · refine go_bipush (v := (-2)) (pc' := 18) dX12_differ_16 rfl (by decide) ?_
    exact go_iret dX12_differ_18 rfl (w0)
  refine go_aload_n (i := 0) (pc' := 9) dX12_differ_8 rfl rfl rfl ?_
  refine go_iload_n (i := 2) (pc' := 10) dX12_differ_9 rfl rfl rfl ?_
  refine go_cvi (pc' := 13) lk_X12_152 (c_X12_isLetter _ _ _ _) rfl rfl (Nat.le_of_ble_eq_true rfl) (by decide) rfl rfl rfl ⟨Nat.le_of_ble_eq_true rfl, Nat.le_of_ble_eq_true rfl⟩ ⟨rfl, rfl⟩ dX12_differ_10 rfl (fun r3 σ3 h3 => ?_)
  obtain ⟨e3, h3⟩ := h3
  have e3 := e3.symm
  subst e3
  refine go_neB (tgt := 19) (pc' := 16) h3 dX12_differ_13 rfl (by decide) (fun c4 => ?_) (fun c4 => ?_)
  · refine go_aload_n (i := 0) (pc' := 20) dX12_differ_19 rfl rfl rfl ?_
    refine go_iload_n (i := 1) (pc' := 21) dX12_differ_20 rfl rfl rfl ?_
    refine go_iconst (v := 0) (pc' := 22) dX12_differ_21 rfl (by decide) ?_
    refine go_cvv (pc' := 25) lk_X12_266 (c_X12_findWords _ _ _ _ _ (by omega) (by omega) w0.1 (TV_q w0 tv)) rfl rfl (Nat.le_of_ble_eq_true rfl) (by decide) rfl rfl rfl ⟨Nat.le_of_ble_eq_true rfl, Nat.le_of_ble_eq_true rfl⟩ ⟨rfl, rfl⟩ dX12_differ_22 rfl (fun σ5 h5 => ?_)
    have w5 := WM_trans w0 h5
    refine go_aload_n (i := 0) (pc' := 26) dX12_differ_25 rfl rfl rfl ?_
    refine go_iload_n (i := 2) (pc' := 27) dX12_differ_26 rfl rfl rfl ?_
    refine go_iconst (v := 1) (pc' := 28) dX12_differ_27 rfl (by decide) ?_
    refine go_cvv (pc' := 31) lk_X12_266 (c_X12_findWords _ _ _ _ _ (by omega) (by omega) w5.1 (TV_q w5 tv)) rfl rfl (Nat.le_of_ble_eq_true rfl) (by decide) rfl rfl rfl ⟨Nat.le_of_ble_eq_true rfl, Nat.le_of_ble_eq_true rfl⟩ ⟨rfl, rfl⟩ dX12_differ_28 rfl (fun σ6 h6 => ?_)
    have w6 := WM_trans w5 h6
    refine go_aload_n (i := 0) (pc' := 32) dX12_differ_31 rfl rfl rfl ?_
    refine gf_13_wordMany (pc' := 35) dX12_differ_32 rfl fl_X12_114 ?_
    refine go_iconst (v := 1) (pc' := 36) dX12_differ_35 rfl (by decide) ?_
    refine go_iald (pc' := 37) dX12_differ_36 rfl (by decide) (by decide) rfl (vin_of (n := 2) (by omega) (by omega)) ?_
    refine go_rngA (ixa_129 w6.1) (vinlt (vin_of (n := 2) (by omega) (by omega))) (fun g7 => ?_)
    refine go_topz (fun y8 h8 e8 => ?_)
    refine go_istore_n (i := 3) (pc' := 38) dX12_differ_37 rfl rfl (by decide) ?_
    refine go_iconst (v := 0) (pc' := 39) dX12_differ_38 rfl (by decide) ?_
    refine go_istore (pc' := 41) dX12_differ_39 rfl (by decide) ?_
    have loop41_9 : ∀ (dd9 : Nat) (σ9 : ST) (x4_9 : Int32), WM σ σ9 → (0 ≤ (x4_9).toInt ∧ (x4_9).toInt ≤ 161) → (161 - (x4_9).toInt).toNat = dd9 → Go F L RX12 cX12_differ 7 rm_X12_differ (some .int) (RI F L (fun _ σ2 => WM σ σ2)) σ9 41 [(0, .ref (L.2.1 13)), (1, .int a), (2, .int b), (3, .int y8), (4, .int x4_9)] [] := by
      intro dd9
      induction dd9 using Nat.strongRecOn with
      | _ dd9 ih9 =>
        intro σ9 x4_9 w9 h_9 hm_9
        refine go_iload (pc' := 43) dX12_differ_41 rfl rfl ?_
        refine go_iload_n (i := 3) (pc' := 44) dX12_differ_43 rfl rfl rfl ?_
        refine gz_icmp_gt (tgt := 62) (pc' := 47) dX12_differ_44 rfl (by decide) (fun c10 => ?_) (fun c10 => ?_)
        · refine go_iconst (v := 1) (pc' := 63) dX12_differ_62 rfl (by decide) ?_
          refine go_istore (pc' := 65) dX12_differ_63 rfl (by decide) ?_
          have loop65_11 : ∀ (dd11 : Nat) (σ11 : ST) (x4_11 : Int32), WM σ σ11 → (1 ≤ (x4_11).toInt ∧ (x4_11).toInt ≤ 161) → (161 - (x4_11).toInt).toNat = dd11 → Go F L RX12 cX12_differ 7 rm_X12_differ (some .int) (RI F L (fun _ σ2 => WM σ σ2)) σ11 65 [(0, .ref (L.2.1 13)), (1, .int a), (2, .int b), (3, .int y8), (4, .int x4_11)] [] := by
            intro dd11
            induction dd11 using Nat.strongRecOn with
            | _ dd11 ih11 =>
              intro σ11 x4_11 w11 h_11 hm_11
              refine go_iload (pc' := 67) dX12_differ_65 rfl rfl ?_
              refine go_aload_n (i := 0) (pc' := 68) dX12_differ_67 rfl rfl rfl ?_
              refine gf_13_wordMany (pc' := 71) dX12_differ_68 rfl fl_X12_114 ?_
              refine go_iconst (v := 0) (pc' := 72) dX12_differ_71 rfl (by decide) ?_
              refine go_iald (pc' := 73) dX12_differ_72 rfl (by decide) (by decide) rfl (vin_of (n := 2) (by omega) (by omega)) ?_
              refine go_rngA (ixa_129 w11.1) (vinlt (vin_of (n := 2) (by omega) (by omega))) (fun g12 => ?_)
              refine gz_icmp_gt (tgt := 199) (pc' := 76) dX12_differ_73 rfl (by decide) (fun c13 => ?_) (fun c13 => ?_)
              · refine go_aload_n (i := 0) (pc' := 200) dX12_differ_199 rfl rfl rfl ?_
                refine gf_13_above (pc' := 203) dX12_differ_200 rfl fl_X12_117 ?_
                refine go_iload_n (i := 3) (pc' := 204) dX12_differ_203 rfl rfl rfl ?_
                refine go_iald (pc' := 205) dX12_differ_204 rfl (by decide) (by decide) rfl (vin_of (n := 161) (by omega) (by omega)) ?_
                exact go_iret dX12_differ_205 rfl (w11)
              refine go_aload_n (i := 0) (pc' := 77) dX12_differ_76 rfl rfl rfl ?_
              refine gf_13_below (pc' := 80) dX12_differ_77 rfl fl_X12_120 ?_
              refine go_iconst (v := 0) (pc' := 81) dX12_differ_80 rfl (by decide) ?_
              refine go_iload (pc' := 83) dX12_differ_81 rfl rfl ?_
              refine go_iast (pc' := 84) dX12_differ_83 rfl (by decide) (by decide) rfl (vin_of (n := 161) (by omega) (by omega)) ?_
              refine go_gen (P := WM σ) ⟨ixt_n w11.1 (by decide), Ag_setA w11.2 (by decide)⟩ (fun σ14 w14 => ?_)
              refine go_iconst (v := 1) (pc' := 85) dX12_differ_84 rfl (by decide) ?_
              refine go_istore (pc' := 87) dX12_differ_85 rfl (by decide) ?_
              have loop87_15 : ∀ (dd15 : Nat) (σ15 : ST) (x5_15 : Int32), WM σ σ15 → (1 ≤ (x5_15).toInt ∧ (x5_15).toInt ≤ 161) → (161 - (x5_15).toInt).toNat = dd15 → Go F L RX12 cX12_differ 7 rm_X12_differ (some .int) (RI F L (fun _ σ2 => WM σ σ2)) σ15 87 [(0, .ref (L.2.1 13)), (1, .int a), (2, .int b), (3, .int y8), (4, .int x4_11), (5, .int x5_15)] [] := by
                intro dd15
                induction dd15 using Nat.strongRecOn with
                | _ dd15 ih15 =>
                  intro σ15 x5_15 w15 h_15 hm_15
                  refine go_iload (pc' := 89) dX12_differ_87 rfl rfl ?_
                  refine go_iload_n (i := 3) (pc' := 90) dX12_differ_89 rfl rfl rfl ?_
                  refine gz_icmp_gt (tgt := 164) (pc' := 93) dX12_differ_90 rfl (by decide) (fun c16 => ?_) (fun c16 => ?_)
                  · refine go_iconst (v := 0) (pc' := 165) dX12_differ_164 rfl (by decide) ?_
                    refine go_istore (pc' := 167) dX12_differ_165 rfl (by decide) ?_
                    have loop167_17 : ∀ (dd17 : Nat) (σ17 : ST) (x5_17 : Int32), WM σ σ17 → (0 ≤ (x5_17).toInt ∧ (x5_17).toInt ≤ 161) → (161 - (x5_17).toInt).toNat = dd17 → Go F L RX12 cX12_differ 7 rm_X12_differ (some .int) (RI F L (fun _ σ2 => WM σ σ2)) σ17 167 [(0, .ref (L.2.1 13)), (1, .int a), (2, .int b), (3, .int y8), (4, .int x4_11), (5, .int x5_17)] [] := by
                      intro dd17
                      induction dd17 using Nat.strongRecOn with
                      | _ dd17 ih17 =>
                        intro σ17 x5_17 w17 h_17 hm_17
                        refine go_iload (pc' := 169) dX12_differ_167 rfl rfl ?_
                        refine go_iload_n (i := 3) (pc' := 170) dX12_differ_169 rfl rfl rfl ?_
                        refine gz_icmp_gt (tgt := 193) (pc' := 173) dX12_differ_170 rfl (by decide) (fun c18 => ?_) (fun c18 => ?_)
                        · refine gz_iinc (c := 1) (pc' := 196) dX12_differ_193 rfl rfl (by decide) (by decide) (by decide) (by omega) (fun v19 h19 e19 => ?_)
                          refine go_goto (tgt := 65) dX12_differ_196 (by decide) ?_
                          exact go_lv (lv' := [(0, .ref (L.2.1 13)), (1, .int a), (2, .int b), (3, .int y8), (4, .int v19)]) rfl (ih11 _ (by omega) σ17 v19 w17 (by omega) rfl)
                        refine go_aload_n (i := 0) (pc' := 174) dX12_differ_173 rfl rfl rfl ?_
                        refine gf_13_above (pc' := 177) dX12_differ_174 rfl fl_X12_117 ?_
                        refine go_iload (pc' := 179) dX12_differ_177 rfl rfl ?_
                        refine go_aload_n (i := 0) (pc' := 180) dX12_differ_179 rfl rfl rfl ?_
                        refine gf_13_below (pc' := 183) dX12_differ_180 rfl fl_X12_120 ?_
                        refine go_iload (pc' := 185) dX12_differ_183 rfl rfl ?_
                        refine go_iald (pc' := 186) dX12_differ_185 rfl (by decide) (by decide) rfl (vin_of (n := 161) (by omega) (by omega)) ?_
                        refine go_iast (pc' := 187) dX12_differ_186 rfl (by decide) (by decide) rfl (vin_of (n := 161) (by omega) (by omega)) ?_
                        refine go_gen (P := WM σ) ⟨ixt_n w17.1 (by decide), Ag_setA w17.2 (by decide)⟩ (fun σ20 w20 => ?_)
                        refine gz_iinc (c := 1) (pc' := 190) dX12_differ_187 rfl rfl (by decide) (by decide) (by decide) (by omega) (fun v21 h21 e21 => ?_)
                        refine go_goto (tgt := 167) dX12_differ_190 (by decide) ?_
                        exact go_lv (lv' := [(0, .ref (L.2.1 13)), (1, .int a), (2, .int b), (3, .int y8), (4, .int x4_11), (5, .int v21)]) rfl (ih17 _ (by omega) σ20 v21 w20 (by omega) rfl)
                    exact go_lv (lv' := [(0, .ref (L.2.1 13)), (1, .int a), (2, .int b), (3, .int y8), (4, .int x4_11), (5, .int (0 : Int32))]) rfl (loop167_17 _ σ15 (0 : Int32) w15 (by omega) rfl)
                  refine go_aload_n (i := 0) (pc' := 94) dX12_differ_93 rfl rfl rfl ?_
                  refine gf_13_above (pc' := 97) dX12_differ_94 rfl fl_X12_117 ?_
                  refine go_iload (pc' := 99) dX12_differ_97 rfl rfl ?_
                  refine go_iald (pc' := 100) dX12_differ_99 rfl (by decide) (by decide) rfl (vin_of (n := 161) (by omega) (by omega)) ?_
                  refine go_aload_n (i := 0) (pc' := 101) dX12_differ_100 rfl rfl rfl ?_
                  refine gf_13_below (pc' := 104) dX12_differ_101 rfl fl_X12_120 ?_
                  refine go_iload (pc' := 106) dX12_differ_104 rfl rfl ?_
                  refine go_iconst (v := 1) (pc' := 107) dX12_differ_106 rfl (by decide) ?_
                  refine gz_isub (pc' := 108) dX12_differ_107 rfl (by omega) (fun v22 h22 e22 => ?_)
                  refine go_iald (pc' := 109) dX12_differ_108 rfl (by decide) (by decide) rfl (vin_of (n := 161) (by omega) (by omega)) ?_
                  refine gz_min (pc' := 112) dX12_differ_109 rfl ml_X12_178 (Nat.le_of_ble_eq_true rfl) (Nat.le_of_ble_eq_true rfl) (fun v23 h23 e23 => ?_)
                  refine go_iconst (v := 1) (pc' := 113) dX12_differ_112 rfl (by decide) ?_
                  refine go_iadd (pc' := 114) dX12_differ_113 rfl ?_
                  refine go_topz (fun y24 h24 e24 => ?_)
                  refine go_istore (pc' := 116) dX12_differ_114 rfl (by decide) ?_
                  refine go_aload_n (i := 0) (pc' := 117) dX12_differ_116 rfl rfl rfl ?_
                  refine gf_13_below (pc' := 120) dX12_differ_117 rfl fl_X12_120 ?_
                  refine go_iload (pc' := 122) dX12_differ_120 rfl rfl ?_
                  refine go_iload (pc' := 124) dX12_differ_122 rfl rfl ?_
                  refine go_aload_n (i := 0) (pc' := 125) dX12_differ_124 rfl rfl rfl ?_
                  refine gf_13_above (pc' := 128) dX12_differ_125 rfl fl_X12_117 ?_
                  refine go_iload (pc' := 130) dX12_differ_128 rfl rfl ?_
                  refine go_iconst (v := 1) (pc' := 131) dX12_differ_130 rfl (by decide) ?_
                  refine gz_isub (pc' := 132) dX12_differ_131 rfl (by omega) (fun v25 h25 e25 => ?_)
                  refine go_iald (pc' := 133) dX12_differ_132 rfl (by decide) (by decide) rfl (vin_of (n := 161) (by omega) (by omega)) ?_
                  refine go_aload_n (i := 0) (pc' := 134) dX12_differ_133 rfl rfl rfl ?_
                  refine go_iload (pc' := 136) dX12_differ_134 rfl rfl ?_
                  refine go_iconst (v := 1) (pc' := 137) dX12_differ_136 rfl (by decide) ?_
                  refine gz_isub (pc' := 138) dX12_differ_137 rfl (by omega) (fun v26 h26 e26 => ?_)
                  refine go_iload (pc' := 140) dX12_differ_138 rfl rfl ?_
                  refine go_iconst (v := 1) (pc' := 141) dX12_differ_140 rfl (by decide) ?_
                  refine gz_isub (pc' := 142) dX12_differ_141 rfl (by omega) (fun v27 h27 e27 => ?_)
                  refine go_cvi (pc' := 145) lk_X12_269 (c_X12_isSame _ _ _ _ _ (by omega) (by omega) w15.1) rfl rfl (Nat.le_of_ble_eq_true rfl) (by decide) rfl rfl rfl ⟨Nat.le_of_ble_eq_true rfl, Nat.le_of_ble_eq_true rfl⟩ ⟨rfl, rfl⟩ dX12_differ_142 rfl (fun r28 σ28 h28 => ?_)
                  have h28 := h28.symm
                  subst h28
                  refine gz_if_eq (tgt := 152) (pc' := 148) dX12_differ_145 rfl (by decide) (fun c29 => ?_) (fun c29 => ?_)
                  · refine go_iconst (v := 1) (pc' := 153) dX12_differ_152 rfl (by decide) ?_
                    refine go_iadd (pc' := 154) dX12_differ_153 rfl ?_
                    refine gz_min (pc' := 157) dX12_differ_154 rfl ml_X12_178 (Nat.le_of_ble_eq_true rfl) (Nat.le_of_ble_eq_true rfl) (fun v30 h30 e30 => ?_)
                    refine go_iast (pc' := 158) dX12_differ_157 rfl (by decide) (by decide) rfl (vin_of (n := 161) (by omega) (by omega)) ?_
                    refine go_gen (P := WM σ) ⟨ixt_n w15.1 (by decide), Ag_setA w15.2 (by decide)⟩ (fun σ31 w31 => ?_)
                    refine gz_iinc (c := 1) (pc' := 161) dX12_differ_158 rfl rfl (by decide) (by decide) (by decide) (by omega) (fun v32 h32 e32 => ?_)
                    refine go_goto (tgt := 87) dX12_differ_161 (by decide) ?_
                    exact go_lv (lv' := [(0, .ref (L.2.1 13)), (1, .int a), (2, .int b), (3, .int y8), (4, .int x4_11), (5, .int v32)]) rfl (ih15 _ (by omega) σ31 v32 w31 (by omega) rfl)
                  refine go_iconst (v := 0) (pc' := 149) dX12_differ_148 rfl (by decide) ?_
                  refine go_goto (tgt := 153) dX12_differ_149 (by decide) ?_
                  refine go_iadd (pc' := 154) dX12_differ_153 rfl ?_
                  refine gz_min (pc' := 157) dX12_differ_154 rfl ml_X12_178 (Nat.le_of_ble_eq_true rfl) (Nat.le_of_ble_eq_true rfl) (fun v33 h33 e33 => ?_)
                  refine go_iast (pc' := 158) dX12_differ_157 rfl (by decide) (by decide) rfl (vin_of (n := 161) (by omega) (by omega)) ?_
                  refine go_gen (P := WM σ) ⟨ixt_n w15.1 (by decide), Ag_setA w15.2 (by decide)⟩ (fun σ34 w34 => ?_)
                  refine gz_iinc (c := 1) (pc' := 161) dX12_differ_158 rfl rfl (by decide) (by decide) (by decide) (by omega) (fun v35 h35 e35 => ?_)
                  refine go_goto (tgt := 87) dX12_differ_161 (by decide) ?_
                  exact go_lv (lv' := [(0, .ref (L.2.1 13)), (1, .int a), (2, .int b), (3, .int y8), (4, .int x4_11), (5, .int v35)]) rfl (ih15 _ (by omega) σ34 v35 w34 (by omega) rfl)
              exact go_lv (lv' := [(0, .ref (L.2.1 13)), (1, .int a), (2, .int b), (3, .int y8), (4, .int x4_11), (5, .int (1 : Int32))]) rfl (loop87_15 _ σ14 (1 : Int32) w14 (by omega) rfl)
          exact go_lv (lv' := [(0, .ref (L.2.1 13)), (1, .int a), (2, .int b), (3, .int y8), (4, .int (1 : Int32))]) rfl (loop65_11 _ σ9 (1 : Int32) w9 (by omega) rfl)
        refine go_aload_n (i := 0) (pc' := 48) dX12_differ_47 rfl rfl rfl ?_
        refine gf_13_above (pc' := 51) dX12_differ_48 rfl fl_X12_117 ?_
        refine go_iload (pc' := 53) dX12_differ_51 rfl rfl ?_
        refine go_iload (pc' := 55) dX12_differ_53 rfl rfl ?_
        refine go_iast (pc' := 56) dX12_differ_55 rfl (by decide) (by decide) rfl (vin_of (n := 161) (by omega) (by omega)) ?_
        refine go_gen (P := WM σ) ⟨ixt_n w9.1 (by decide), Ag_setA w9.2 (by decide)⟩ (fun σ36 w36 => ?_)
        refine gz_iinc (c := 1) (pc' := 59) dX12_differ_56 rfl rfl (by decide) (by decide) (by decide) (by omega) (fun v37 h37 e37 => ?_)
        refine go_goto (tgt := 41) dX12_differ_59 (by decide) ?_
        exact go_lv (lv' := [(0, .ref (L.2.1 13)), (1, .int a), (2, .int b), (3, .int y8), (4, .int v37)]) rfl (ih9 _ (by omega) σ36 v37 w36 (by omega) rfl)
    exact go_lv (lv' := [(0, .ref (L.2.1 13)), (1, .int a), (2, .int b), (3, .int y8), (4, .int (0 : Int32))]) rfl (loop41_9 _ σ6 (0 : Int32) w6 (by omega) rfl)
  refine go_bipush (v := (-2)) (pc' := 18) dX12_differ_16 rfl (by decide) ?_
  exact go_iret dX12_differ_18 rfl (w0)
set_option maxHeartbeats 4000000 in
set_option maxRecDepth 100000 in
theorem c_X12_note (l : Launch) (L : WL) (σ : ST) (a b : Int32) (ix : IV σ) (tv : TV σ) : CtI l L yX12_note cX12_note 7 (some .int) rm_X12_note [.ref (L.2.1 13), .int a, .int b] σ (fun _ σ2 => WM σ σ2) := by
  refine ctI_go (own := RX12) (by decide) rfl (Nat.le_of_ble_eq_true rfl) (fun F hF => ?_)
  subst hF
  have nm2 : (-2 : Int32).toInt = -2 := by decide
  have nm1 : (-1 : Int32).toInt = -1 := by decide
  have n0 : (0 : Int32).toInt = 0 := by decide
  have n1 : (1 : Int32).toInt = 1 := by decide
  have n2 : (2 : Int32).toInt = 2 := by decide
  have n10 : (10 : Int32).toInt = 10 := by decide
  have n48 : (48 : Int32).toInt = 48 := by decide
  have n110 : (110 : Int32).toInt = 110 := by decide
  have n123 : (123 : Int32).toInt = 123 := by decide
  have n160 : (160 : Int32).toInt = 160 := by decide
  have w0 : WM σ σ := WM_rfl ix
  have u19 := ixi_19 ix
  have u20 := ixi_20 ix
  have u21 := ixi_21 ix
  have u22 := ixi_22 ix
  refine go_aload_n (i := 0) (pc' := 1) dX12_note_0 rfl rfl rfl ?_
  refine go_iload_n (i := 1) (pc' := 2) dX12_note_1 rfl rfl rfl ?_
  refine go_cvi (pc' := 5) lk_X12_152 (c_X12_isLetter _ _ _ _) rfl rfl (Nat.le_of_ble_eq_true rfl) (by decide) rfl rfl rfl ⟨Nat.le_of_ble_eq_true rfl, Nat.le_of_ble_eq_true rfl⟩ ⟨rfl, rfl⟩ dX12_note_2 rfl (fun r1 σ1 h1 => ?_)
  obtain ⟨e1, h1⟩ := h1
  have e1 := e1.symm
  subst e1
  refine go_neB (tgt := 11) (pc' := 8) h1 dX12_note_5 rfl (by decide) (fun c2 => ?_) (fun c2 => ?_)
  · refine go_iload_n (i := 2) (pc' := 12) dX12_note_11 rfl rfl rfl ?_
    refine go_istore_n (i := 3) (pc' := 13) dX12_note_12 rfl rfl (by decide) ?_
    refine go_iconst (v := 0) (pc' := 14) dX12_note_13 rfl (by decide) ?_
    refine go_istore (pc' := 16) dX12_note_14 rfl (by decide) ?_
    have loop16_3 : ∀ (dd3 : Nat) (σ3 : ST) (x3_3 : Int32) (x4_3 : Int32), WM σ σ3 → (0 ≤ (x4_3).toInt ∧ (x4_3).toInt ≤ 160) → (160 - (x4_3).toInt).toNat = dd3 → Go F L RX12 cX12_note 7 rm_X12_note (some .int) (RI F L (fun _ σ2 => WM σ σ2)) σ3 16 [(0, .ref (L.2.1 13)), (1, .int a), (2, .int b), (3, .int x3_3), (4, .int x4_3)] [] := by
      intro dd3
      induction dd3 using Nat.strongRecOn with
      | _ dd3 ih3 =>
        intro σ3 x3_3 x4_3 w3 h_3 hm_3
        refine go_iload (pc' := 18) dX12_note_16 rfl rfl ?_
        refine go_iconst (v := 1) (pc' := 19) dX12_note_18 rfl (by decide) ?_
        refine gz_iadd (pc' := 20) dX12_note_19 rfl (by omega) (fun v4 h4 e4 => ?_)
        refine go_aload_n (i := 0) (pc' := 21) dX12_note_20 rfl rfl rfl ?_
        refine gf_13_length (pc' := 24) dX12_note_21 rfl fl_X12_50 ?_
        refine go_iload_n (i := 1) (pc' := 25) dX12_note_24 rfl rfl rfl ?_
        refine go_iald (pc' := 26) dX12_note_25 rfl (by decide) (by decide) rfl (vin_of (n := 12) (by omega) (by omega)) ?_
        refine go_topq (y := (σ.2 109 (a).toNatClampNeg)) (congrFun (w3.2.2 109 (by decide)) _) ?_
        have g5 := ixa_109 ix (a).toNatClampNeg (vinlt (vin_of (n := 12) (by omega) (by omega)))
        refine gz_icmp_ge (tgt := 148) (pc' := 29) dX12_note_26 rfl (by decide) (fun c6 => ?_) (fun c6 => ?_)
        · refine go_iconst (v := (-1)) (pc' := 149) dX12_note_148 rfl (by decide) ?_
          exact go_iret dX12_note_149 rfl (w3)
        refine go_iload_n (i := 2) (pc' := 30) dX12_note_29 rfl rfl rfl ?_
        refine gz_if_lt (tgt := 148) (pc' := 33) dX12_note_30 rfl (by decide) (fun c7 => ?_) (fun c7 => ?_)
        · refine go_iconst (v := (-1)) (pc' := 149) dX12_note_148 rfl (by decide) ?_
          exact go_iret dX12_note_149 rfl (w3)
        refine go_aload_n (i := 0) (pc' := 34) dX12_note_33 rfl rfl rfl ?_
        refine gf_13_texts (pc' := 37) dX12_note_34 rfl fl_X12_53 ?_
        refine go_sipush (v := 160) (pc' := 40) dX12_note_37 rfl (by decide) ?_
        refine go_iload_n (i := 1) (pc' := 41) dX12_note_40 rfl rfl rfl ?_
        refine gz_imulc (n := 160) (pc' := 42) dX12_note_41 rfl (by decide) (by omega) (fun v8 h8 e8 => ?_)
        refine go_iload (pc' := 44) dX12_note_42 rfl rfl ?_
        refine gz_iadd (pc' := 45) dX12_note_44 rfl (by omega) (fun v9 h9 e9 => ?_)
        have ck4 := cnat (x := x4_3) (by omega)
        have ca := cnat (x := a) (by omega)
        have ez : (v9).toNatClampNeg = 160 * (a).toNatClampNeg + (x4_3).toNatClampNeg := by have cz := cnat (x := v9) (by omega); omega
        refine go_iald (pc' := 46) dX12_note_45 rfl (by decide) (by decide) rfl (vin_of (n := 1920) (by omega) (by omega)) ?_
        refine go_topq (y := (σ.2 110 (v9).toNatClampNeg)) (congrFun (w3.2.2 110 (by decide)) _) ?_
        have g10 := ixa_110 ix (v9).toNatClampNeg (vinlt (vin_of (n := 1920) (by omega) (by omega)))
        refine go_bipush (v := 123) (pc' := 48) dX12_note_46 rfl (by decide) ?_
        refine gz_icmp_ne (tgt := 142) (pc' := 51) dX12_note_48 rfl (by decide) (fun c11 => ?_) (fun c11 => ?_)
        · refine gz_iinc (c := 1) (pc' := 145) dX12_note_142 rfl rfl (by decide) (by decide) (by decide) (by omega) (fun v12 h12 e12 => ?_)
          refine go_goto (tgt := 16) dX12_note_145 (by decide) ?_
          exact go_lv (lv' := [(0, .ref (L.2.1 13)), (1, .int a), (2, .int b), (3, .int x3_3), (4, .int v12)]) rfl (ih3 _ (by omega) σ3 x3_3 v12 w3 (by omega) rfl)
        have tk0 : (lrT σ (a).toNatClampNeg) (x4_3).toNatClampNeg = 123 := by show (σ.2 110 _).toInt = 123; rw [← ez]; omega
        refine go_aload_n (i := 0) (pc' := 52) dX12_note_51 rfl rfl rfl ?_
        refine gf_13_texts (pc' := 55) dX12_note_52 rfl fl_X12_53 ?_
        refine go_sipush (v := 160) (pc' := 58) dX12_note_55 rfl (by decide) ?_
        refine go_iload_n (i := 1) (pc' := 59) dX12_note_58 rfl rfl rfl ?_
        refine gz_imulc (n := 160) (pc' := 60) dX12_note_59 rfl (by decide) (by omega) (fun v13 h13 e13 => ?_)
        refine go_iload (pc' := 62) dX12_note_60 rfl rfl ?_
        refine gz_iadd (pc' := 63) dX12_note_62 rfl (by omega) (fun v14 h14 e14 => ?_)
        refine go_iconst (v := 1) (pc' := 64) dX12_note_63 rfl (by decide) ?_
        refine gz_iadd (pc' := 65) dX12_note_64 rfl (by omega) (fun v15 h15 e15 => ?_)
        have ez : (v15).toNatClampNeg = 160 * (a).toNatClampNeg + ((x4_3).toNatClampNeg + 1) := by have cz := cnat (x := v15) (by omega); omega
        refine go_iald (pc' := 66) dX12_note_65 rfl (by decide) (by decide) rfl (vin_of (n := 1920) (by omega) (by omega)) ?_
        refine go_topq (y := (σ.2 110 (v15).toNatClampNeg)) (congrFun (w3.2.2 110 (by decide)) _) ?_
        have g16 := ixa_110 ix (v15).toNatClampNeg (vinlt (vin_of (n := 1920) (by omega) (by omega)))
        refine go_bipush (v := 110) (pc' := 68) dX12_note_66 rfl (by decide) ?_
        refine gz_icmp_eq (tgt := 74) (pc' := 71) dX12_note_68 rfl (by decide) (fun c17 => ?_) (fun c17 => ?_)
        · have tk1 : (lrT σ (a).toNatClampNeg) ((x4_3).toNatClampNeg + 1) = 110 := by show (σ.2 110 _).toInt = 110; rw [← ez]; omega
          refine go_iload_n (i := 3) (pc' := 75) dX12_note_74 rfl rfl rfl ?_
          refine gz_if_ne (tgt := 139) (pc' := 78) dX12_note_75 rfl (by decide) (fun c18 => ?_) (fun c18 => ?_)
          · refine go_iinc (c := (-1)) (pc' := 142) dX12_note_139 rfl rfl (by decide) (by decide) ?_
            refine gz_iinc (c := 1) (pc' := 145) dX12_note_142 rfl rfl (by decide) (by decide) (by decide) (by omega) (fun v20 h20 e20 => ?_)
            refine go_goto (tgt := 16) dX12_note_145 (by decide) ?_
            exact go_lv (lv' := [(0, .ref (L.2.1 13)), (1, .int a), (2, .int b), (3, .int (x3_3 + (-1))), (4, .int v20)]) rfl (ih3 _ (by omega) σ3 (x3_3 + (-1)) v20 w3 (by omega) rfl)
          have cn := cnat (x := σ.2 109 (a).toNatClampNeg) (by omega)
          have tn := tk_note (t := (lrT σ (a).toNatClampNeg)) (n := (σ.2 109 (a).toNatClampNeg).toNatClampNeg) (k := (x4_3).toNatClampNeg) (by omega) tk0 tk1 (x4_3).toNatClampNeg 0 0 200 _ (by omega) (tv (a).toNatClampNeg (by omega))
          have hJ := dcnt_le (lrT σ (a).toNatClampNeg) (σ.2 109 (a).toNatClampNeg).toNatClampNeg 4 ((x4_3).toNatClampNeg + 2)
          refine go_iconst (v := 0) (pc' := 79) dX12_note_78 rfl (by decide) ?_
          refine go_istore (pc' := 81) dX12_note_79 rfl (by decide) ?_
          refine go_iload (pc' := 83) dX12_note_81 rfl rfl ?_
          refine go_iconst (v := 2) (pc' := 84) dX12_note_83 rfl (by decide) ?_
          refine gz_iadd (pc' := 85) dX12_note_84 rfl (by omega) (fun v21 h21 e21 => ?_)
          refine go_istore (pc' := 87) dX12_note_85 rfl (by decide) ?_
          have loop87_22 : ∀ (dd22 : Nat) (x5_22 : Int32) (x6_22 : Int32), (0 ≤ (x6_22).toInt ∧ (x4_3).toNatClampNeg + 2 ≤ (x6_22).toNatClampNeg ∧ (x6_22).toNatClampNeg ≤ (x4_3).toNatClampNeg + 2 + dcnt (lrT σ (a).toNatClampNeg) (σ.2 109 (a).toNatClampNeg).toNatClampNeg 4 ((x4_3).toNatClampNeg + 2)) → (200 - (x6_22).toInt).toNat = dd22 → Go F L RX12 cX12_note 7 rm_X12_note (some .int) (RI F L (fun _ σ2 => WM σ σ2)) σ3 87 [(0, .ref (L.2.1 13)), (1, .int a), (2, .int b), (3, .int x3_3), (4, .int x4_3), (5, .int x5_22), (6, .int x6_22)] [] := by
            intro dd22
            induction dd22 using Nat.strongRecOn with
            | _ dd22 ih22 =>
              intro x5_22 x6_22 h_22 hm_22
              have c6 := cnat (x := x6_22) (by omega)
              refine go_aload_n (i := 0) (pc' := 88) dX12_note_87 rfl rfl rfl ?_
              refine gf_13_texts (pc' := 91) dX12_note_88 rfl fl_X12_53 ?_
              refine go_sipush (v := 160) (pc' := 94) dX12_note_91 rfl (by decide) ?_
              refine go_iload_n (i := 1) (pc' := 95) dX12_note_94 rfl rfl rfl ?_
              refine gz_imulc (n := 160) (pc' := 96) dX12_note_95 rfl (by decide) (by omega) (fun v23 h23 e23 => ?_)
              refine go_iload (pc' := 98) dX12_note_96 rfl rfl ?_
              refine gz_iadd (pc' := 99) dX12_note_98 rfl (by omega) (fun v24 h24 e24 => ?_)
              have ez : (v24).toNatClampNeg = 160 * (a).toNatClampNeg + (x6_22).toNatClampNeg := by have cz := cnat (x := v24) (by omega); omega
              refine go_iald (pc' := 100) dX12_note_99 rfl (by decide) (by decide) rfl (vin_of (n := 1920) (by omega) (by omega)) ?_
              refine go_topq (y := (σ.2 110 (v24).toNatClampNeg)) (congrFun (w3.2.2 110 (by decide)) _) ?_
              have g25 := ixa_110 ix (v24).toNatClampNeg (vinlt (vin_of (n := 1920) (by omega) (by omega)))
              refine go_csi (pc' := 103) ls_X12_221 (c_X12_isDigit _ _ _ _) rfl rfl (Nat.le_of_ble_eq_true rfl) ⟨Nat.le_of_ble_eq_true rfl, Nat.le_of_ble_eq_true rfl⟩ ⟨rfl, rfl⟩ dX12_note_100 rfl (fun r26 σ26 h26 => ?_)
              obtain ⟨e26, h26⟩ := h26
              have e26 := e26.symm
              subst e26
              refine go_eqB (tgt := 136) (pc' := 106) h26 dX12_note_103 rfl (by decide) (fun c27 => ?_) (fun c27 => ?_)
              · refine go_iload (pc' := 138) dX12_note_136 rfl rfl ?_
                exact go_iret dX12_note_138 rfl (w3)
              have lt := dg_more (t := (lrT σ (a).toNatClampNeg)) (n := (σ.2 109 (a).toNatClampNeg).toNatClampNeg) (i := (x4_3).toNatClampNeg + 2) (A := (x6_22).toNatClampNeg) (by show _ = (σ.2 110 _).toInt; rw [← ez]) c27 (by rw [tn.2.2]; decide) (by omega) (by omega)
              refine go_bipush (v := 10) (pc' := 108) dX12_note_106 rfl (by decide) ?_
              refine go_iload (pc' := 110) dX12_note_108 rfl rfl ?_
              refine go_imul (pc' := 111) dX12_note_110 rfl ?_
              refine go_aload_n (i := 0) (pc' := 112) dX12_note_111 rfl rfl rfl ?_
              refine gf_13_texts (pc' := 115) dX12_note_112 rfl fl_X12_53 ?_
              refine go_sipush (v := 160) (pc' := 118) dX12_note_115 rfl (by decide) ?_
              refine go_iload_n (i := 1) (pc' := 119) dX12_note_118 rfl rfl rfl ?_
              refine gz_imulc (n := 160) (pc' := 120) dX12_note_119 rfl (by decide) (by omega) (fun v28 h28 e28 => ?_)
              refine go_iload (pc' := 122) dX12_note_120 rfl rfl ?_
              refine gz_iadd (pc' := 123) dX12_note_122 rfl (by omega) (fun v29 h29 e29 => ?_)
              refine go_iald (pc' := 124) dX12_note_123 rfl (by decide) (by decide) rfl (vin_of (n := 1920) (by omega) (by omega)) ?_
              refine go_topq (y := (σ.2 110 (v29).toNatClampNeg)) (congrFun (w3.2.2 110 (by decide)) _) ?_
              have g30 := ixa_110 ix (v29).toNatClampNeg (vinlt (vin_of (n := 1920) (by omega) (by omega)))
              refine go_iadd (pc' := 125) dX12_note_124 rfl ?_
              refine go_bipush (v := 48) (pc' := 127) dX12_note_125 rfl (by decide) ?_
              refine go_isub (pc' := 128) dX12_note_127 rfl ?_
              refine go_topz (fun y31 h31 e31 => ?_)
              refine go_istore (pc' := 130) dX12_note_128 rfl (by decide) ?_
              refine gz_iinc (c := 1) (pc' := 133) dX12_note_130 rfl rfl (by decide) (by decide) (by decide) (by omega) (fun v32 h32 e32 => ?_)
              refine go_goto (tgt := 87) dX12_note_133 (by decide) ?_
              exact go_lv (lv' := [(0, .ref (L.2.1 13)), (1, .int a), (2, .int b), (3, .int x3_3), (4, .int x4_3), (5, .int y31), (6, .int v32)]) rfl (ih22 _ (by omega)  y31 v32 (by have c6v := cnat (x := v32) (by omega); omega) rfl)
          exact go_lv (lv' := [(0, .ref (L.2.1 13)), (1, .int a), (2, .int b), (3, .int x3_3), (4, .int x4_3), (5, .int (0 : Int32)), (6, .int v21)]) rfl (loop87_22 _  (0 : Int32) v21 (by have c6v := cnat (x := v21) (by omega); omega) rfl)
        refine go_goto (tgt := 142) dX12_note_71 (by decide) ?_
        refine gz_iinc (c := 1) (pc' := 145) dX12_note_142 rfl rfl (by decide) (by decide) (by decide) (by omega) (fun v33 h33 e33 => ?_)
        refine go_goto (tgt := 16) dX12_note_145 (by decide) ?_
        exact go_lv (lv' := [(0, .ref (L.2.1 13)), (1, .int a), (2, .int b), (3, .int x3_3), (4, .int v33)]) rfl (ih3 _ (by omega) σ3 x3_3 v33 w3 (by omega) rfl)
    exact go_lv (lv' := [(0, .ref (L.2.1 13)), (1, .int a), (2, .int b), (3, .int b), (4, .int (0 : Int32))]) rfl (loop16_3 _ σ b (0 : Int32) w0 (by omega) rfl)
  refine go_bipush (v := (-2)) (pc' := 10) dX12_note_8 rfl (by decide) ?_
  exact go_iret dX12_note_10 rfl (w0)
set_option maxHeartbeats 4000000 in
set_option maxRecDepth 100000 in
theorem c_X12_text (l : Launch) (L : WL) (σ : ST) (a : Int32) (ix : IV σ) (tv : TV σ) : CtI l L yX12_text cX12_text 4 (some .int) rm_X12_text [.ref (L.2.1 13), .int a] σ (fun _ σ2 => sM_text σ a σ2) := by
  refine ctI_go (own := RX12) (by decide) rfl (Nat.le_of_ble_eq_true rfl) (fun F hF => ?_)
  subst hF
  have nm20 : (-20 : Int32).toInt = -20 := by decide
  have nm2 : (-2 : Int32).toInt = -2 := by decide
  have n0 : (0 : Int32).toInt = 0 := by decide
  have n1 : (1 : Int32).toInt = 1 := by decide
  have n2 : (2 : Int32).toInt = 2 := by decide
  have n110 : (110 : Int32).toInt = 110 := by decide
  have n123 : (123 : Int32).toInt = 123 := by decide
  have n160 : (160 : Int32).toInt = 160 := by decide
  have w0 : WMt σ σ := WMt_rfl ix
  have u19 := ixi_19 ix
  have u20 := ixi_20 ix
  have u21 := ixi_21 ix
  have u22 := ixi_22 ix
  have u23 := ixi_23 ix
  have kk := KP_rfl σ
  refine go_aload_n (i := 0) (pc' := 1) dX12_text_0 rfl rfl rfl ?_
  refine go_iload_n (i := 1) (pc' := 2) dX12_text_1 rfl rfl rfl ?_
  refine go_cvi (pc' := 5) lk_X12_152 (c_X12_isLetter _ _ _ _) rfl rfl (Nat.le_of_ble_eq_true rfl) (by decide) rfl rfl rfl ⟨Nat.le_of_ble_eq_true rfl, Nat.le_of_ble_eq_true rfl⟩ ⟨rfl, rfl⟩ dX12_text_2 rfl (fun r1 σ1 h1 => ?_)
  obtain ⟨e1, h1⟩ := h1
  have e1 := e1.symm
  subst e1
  refine go_neB (tgt := 11) (pc' := 8) h1 dX12_text_5 rfl (by decide) (fun c2 => ?_) (fun c2 => ?_)
  · refine go_aload_n (i := 0) (pc' := 12) dX12_text_11 rfl rfl rfl ?_
    refine go_iconst (v := 0) (pc' := 13) dX12_text_12 rfl (by decide) ?_
    refine pf_13_faultKind (pc' := 16) dX12_text_13 rfl fl_X12_236 ?_
    refine go_gen (P := fun s => WMt σ s ∧ KP σ s ∧ s.1 26 = (0 : Int32)) ⟨⟨ixs_n w0.1 (by decide), Ag_setI w0.2 (by decide)⟩, ⟨⟨rfl, rfl, rfl, rfl⟩, setI_same _ _ _⟩⟩ (fun σ3 z3 => ?_)
    obtain ⟨w3, g3⟩ := z3
    have kk := KP_trans kk g3.1
    have f26 := congrArg Int32.toInt g3.2
    refine go_aload_n (i := 0) (pc' := 17) dX12_text_16 rfl rfl rfl ?_
    refine go_aload_n (i := 0) (pc' := 18) dX12_text_17 rfl rfl rfl ?_
    refine go_cvi (pc' := 21) lk_X12_239 (c_X12_wrongAt _ _ _ w3.1) rfl rfl (Nat.le_of_ble_eq_true rfl) (by decide) rfl rfl rfl ⟨Nat.le_of_ble_eq_true rfl, Nat.le_of_ble_eq_true rfl⟩ ⟨rfl, rfl⟩ dX12_text_18 rfl (fun r4 σ4 h4 => ?_)
    obtain ⟨u4, h4⟩ := h4
    have w4 := WMt_trans w3 (WMt_of u4)
    have kz := h4
    rw [(KP_q kk).1, (KP_q kk).2] at kz
    have ff := congrArg Int32.toInt (u4.2.1 26 (by decide))
    have kk := KP_trans kk (KP_of u4)
    refine pf_13_faultAt (pc' := 24) dX12_text_21 rfl fl_X12_92 ?_
    refine go_gen (P := fun s => WMt σ s ∧ KP σ4 s ∧ s.1 26 = σ4.1 26 ∧ s.1 27 = r4) ⟨⟨ixs_n w4.1 (by decide), Ag_setI w4.2 (by decide)⟩, ⟨⟨rfl, rfl, rfl, rfl⟩, rfl, setI_same _ _ _⟩⟩ (fun σ5 z5 => ?_)
    obtain ⟨w5, g5⟩ := z5
    have kk := KP_trans kk g5.1
    have f26b := congrArg Int32.toInt g5.2.1
    have f27 := congrArg Int32.toInt g5.2.2
    refine go_aload_n (i := 0) (pc' := 25) dX12_text_24 rfl rfl rfl ?_
    refine gf_13_faultAt (pc' := 28) dX12_text_25 rfl fl_X12_92 ?_
    refine gz_if_lt (tgt := 36) (pc' := 31) dX12_text_28 rfl (by decide) (fun c6 => ?_) (fun c6 => ?_)
    · refine go_iconst (v := 0) (pc' := 37) dX12_text_36 rfl (by decide) ?_
      refine go_istore_n (i := 2) (pc' := 38) dX12_text_37 rfl rfl (by decide) ?_
      have loop38_7 : ∀ (dd7 : Nat) (σ7 : ST) (x2_7 : Int32), WMt σ σ7 → (0 ≤ (x2_7).toInt ∧ (x2_7).toInt ≤ 160) → (KP σ σ7) → ((σ7.1 26).toInt ≤ 0 → tk (tpT σ) (σ.1 23).toNatClampNeg 200 0 0 (fun _ => 0) = -1) → (160 - (x2_7).toInt).toNat = dd7 → Go F L RX12 cX12_text 4 rm_X12_text (some .int) (RI F L (fun _ σ2 => sM_text σ a σ2)) σ7 38 [(0, .ref (L.2.1 13)), (1, .int a), (2, .int x2_7)] [] := by
        intro dd7
        induction dd7 using Nat.strongRecOn with
        | _ dd7 ih7 =>
          intro σ7 x2_7 w7 h_7 hk_7 hf_7 hm_7
          refine go_iload_n (i := 2) (pc' := 39) dX12_text_38 rfl rfl rfl ?_
          refine go_iconst (v := 1) (pc' := 40) dX12_text_39 rfl (by decide) ?_
          refine gz_iadd (pc' := 41) dX12_text_40 rfl (by omega) (fun v8 h8 e8 => ?_)
          have kk := hk_7
          refine go_aload_n (i := 0) (pc' := 42) dX12_text_41 rfl rfl rfl ?_
          refine gf_13_size (pc' := 45) dX12_text_42 rfl fl_X12_215 ?_
          have g9 := ixi_23 w7.1
          refine gz_icmp_ge (tgt := 115) (pc' := 48) dX12_text_45 rfl (by decide) (fun c10 => ?_) (fun c10 => ?_)
          · have kk := hk_7
            have hf := hf_7
            refine go_aload_n (i := 0) (pc' := 116) dX12_text_115 rfl rfl rfl ?_
            refine gf_13_size (pc' := 119) dX12_text_116 rfl fl_X12_215 ?_
            have g11 := ixi_23 w7.1
            refine go_topz (fun y12 h12 e12 => ?_)
            refine go_istore_n (i := 2) (pc' := 120) dX12_text_119 rfl rfl (by decide) ?_
            have yn : y12 = σ.1 23 := Eq.trans (by assumption) kk.1
            have yi := congrArg Int32.toInt yn
            refine go_aload_n (i := 0) (pc' := 121) dX12_text_120 rfl rfl rfl ?_
            refine go_iconst (v := 0) (pc' := 122) dX12_text_121 rfl (by decide) ?_
            refine pf_13_size (pc' := 125) dX12_text_122 rfl fl_X12_215 ?_
            refine go_gen (P := fun s => WMt σ s ∧ s.1 23 = (0 : Int32) ∧ s.1 26 = σ7.1 26 ∧ s.2 119 = σ7.2 119 ∧ s.2 109 = σ7.2 109 ∧ s.2 110 = σ7.2 110) ⟨⟨ixs_23 w7.1 (by omega) (by omega), Ag_setI w7.2 (by decide)⟩, ⟨setI_same _ _ _, rfl, rfl, rfl, rfl⟩⟩ (fun σ13 z13 => ?_)
            obtain ⟨w13, g13⟩ := z13
            have gz := g13
            have f26 := congrArg Int32.toInt gz.2.1
            refine go_aload_n (i := 0) (pc' := 126) dX12_text_125 rfl rfl rfl ?_
            refine gf_13_faultKind (pc' := 129) dX12_text_126 rfl fl_X12_236 ?_
            refine gz_if_le (tgt := 140) (pc' := 132) dX12_text_129 rfl (by decide) (fun c14 => ?_) (fun c14 => ?_)
            · refine go_aload_n (i := 0) (pc' := 141) dX12_text_140 rfl rfl rfl ?_
              refine gf_13_length (pc' := 144) dX12_text_141 rfl fl_X12_50 ?_
              refine go_iload_n (i := 1) (pc' := 145) dX12_text_144 rfl rfl rfl ?_
              refine go_iload_n (i := 2) (pc' := 146) dX12_text_145 rfl rfl rfl ?_
              refine go_iast (pc' := 147) dX12_text_146 rfl (by decide) (by decide) rfl (vin_of (n := 12) (by omega) (by omega)) ?_
              refine go_gen (P := fun s => WMt σ s ∧ s.1 23 = σ13.1 23 ∧ s.2 119 = σ13.2 119 ∧ s.2 109 = upd (σ13.2 109) (a).toNatClampNeg y12 ∧ s.2 110 = σ13.2 110) ⟨⟨ixt_109 w13.1 (by omega) (by omega), Ag_setA w13.2 (by decide)⟩, ⟨rfl, setA_ne (a := 119) _ 109 _ _ (by decide), setA_same _ _ _ _, setA_ne (a := 110) _ 109 _ _ (by decide)⟩⟩ (fun σ15 z15 => ?_)
              obtain ⟨w15, g15⟩ := z15
              have gl := g15
              refine go_iconst (v := 0) (pc' := 148) dX12_text_147 rfl (by decide) ?_
              refine go_istore_n (i := 3) (pc' := 149) dX12_text_148 rfl rfl (by decide) ?_
              have loop149_16 : ∀ (dd16 : Nat) (σ16 : ST) (x3_16 : Int32), WMt σ σ16 → (0 ≤ (x3_16).toInt ∧ (x3_16).toInt ≤ (y12).toInt) → (σ16.1 23 = 0) → (σ16.2 119 = σ.2 119) → (σ16.2 109 = upd (σ.2 109) (a).toNatClampNeg (σ.1 23)) → (∀ j : Nat, (j : Int) < (x3_16).toInt → σ16.2 110 (160 * (a).toNatClampNeg + j) = σ.2 119 j) → (∀ q : Nat, q < 160 * (a).toNatClampNeg ∨ 160 * (a).toNatClampNeg + 160 ≤ q → σ16.2 110 q = σ.2 110 q) → (160 - (x3_16).toInt).toNat = dd16 → Go F L RX12 cX12_text 4 rm_X12_text (some .int) (RI F L (fun _ σ2 => sM_text σ a σ2)) σ16 149 [(0, .ref (L.2.1 13)), (1, .int a), (2, .int y12), (3, .int x3_16)] [] := by
                intro dd16
                induction dd16 using Nat.strongRecOn with
                | _ dd16 ih16 =>
                  intro σ16 x3_16 w16 h_16 hz_16 ht_16 hl_16 hc_16 ho_16 hm_16
                  refine go_iload_n (i := 3) (pc' := 150) dX12_text_149 rfl rfl rfl ?_
                  refine go_iload_n (i := 2) (pc' := 151) dX12_text_150 rfl rfl rfl ?_
                  refine gz_icmp_ge (tgt := 178) (pc' := 154) dX12_text_151 rfl (by decide) (fun c17 => ?_) (fun c17 => ?_)
                  · refine go_iload_n (i := 2) (pc' := 179) dX12_text_178 rfl rfl rfl ?_
                    exact go_iret dX12_text_179 rfl (Or.inr ⟨by omega, w16, TV_new tv (by omega) (by omega) (hf (by omega)) hl_16 (fun j hj => hc_16 j (by omega)) ho_16 (fun l hl => ixa_109 ix l hl), hz_16⟩)
                  refine go_aload_n (i := 0) (pc' := 155) dX12_text_154 rfl rfl rfl ?_
                  refine gf_13_texts (pc' := 158) dX12_text_155 rfl fl_X12_53 ?_
                  refine go_sipush (v := 160) (pc' := 161) dX12_text_158 rfl (by decide) ?_
                  refine go_iload_n (i := 1) (pc' := 162) dX12_text_161 rfl rfl rfl ?_
                  refine gz_imulc (n := 160) (pc' := 163) dX12_text_162 rfl (by decide) (by omega) (fun v18 h18 e18 => ?_)
                  refine go_iload_n (i := 3) (pc' := 164) dX12_text_163 rfl rfl rfl ?_
                  refine gz_iadd (pc' := 165) dX12_text_164 rfl (by omega) (fun v19 h19 e19 => ?_)
                  have ck3 := cnat (x := x3_16) (by omega)
                  have ca := cnat (x := a) (by omega)
                  have ez : (v19).toNatClampNeg = 160 * (a).toNatClampNeg + (x3_16).toNatClampNeg := by have cz := cnat (x := v19) (by omega); omega
                  refine go_aload_n (i := 0) (pc' := 166) dX12_text_165 rfl rfl rfl ?_
                  refine gf_13_tape (pc' := 169) dX12_text_166 rfl fl_X12_80 ?_
                  refine go_iload_n (i := 3) (pc' := 170) dX12_text_169 rfl rfl rfl ?_
                  refine go_iald (pc' := 171) dX12_text_170 rfl (by decide) (by decide) rfl (vin_of (n := 160) (by omega) (by omega)) ?_
                  refine go_rngA (ixa_119 w16.1) (vinlt (vin_of (n := 160) (by omega) (by omega))) (fun g20 => ?_)
                  refine go_iast (pc' := 172) dX12_text_171 rfl (by decide) (by decide) rfl (vin_of (n := 1920) (by omega) (by omega)) ?_
                  refine go_gen (P := fun s => WMt σ s ∧ s.1 23 = σ16.1 23 ∧ s.2 119 = σ16.2 119 ∧ s.2 109 = σ16.2 109 ∧ s.2 110 = upd (σ16.2 110) (v19).toNatClampNeg (σ16.2 119 (x3_16).toNatClampNeg)) ⟨⟨ixt_110 w16.1 (by omega) (by omega), Ag_setA w16.2 (by decide)⟩, ⟨rfl, setA_ne (a := 119) _ 110 _ _ (by decide), setA_ne (a := 109) _ 110 _ _ (by decide), setA_same _ _ _ _⟩⟩ (fun σ21 z21 => ?_)
                  obtain ⟨w21, g21⟩ := z21
                  have gc := g21
                  refine gz_iinc (c := 1) (pc' := 175) dX12_text_172 rfl rfl (by decide) (by decide) (by decide) (by omega) (fun v22 h22 e22 => ?_)
                  refine go_goto (tgt := 149) dX12_text_175 (by decide) ?_
                  exact go_lv (lv' := [(0, .ref (L.2.1 13)), (1, .int a), (2, .int y12), (3, .int v22)]) rfl (ih16 _ (by omega) σ21 v22 w21 (by omega) (gc.1.trans hz_16) (gc.2.1.trans ht_16) (gc.2.2.1.trans hl_16) (cp_step hc_16 (by rw [← ez]; exact gc.2.2.2) (by rw [ht_16]) (by omega) (by omega)) (ot_step ho_16 gc.2.2.2 (by omega) (by omega)) rfl)
              exact go_lv (lv' := [(0, .ref (L.2.1 13)), (1, .int a), (2, .int y12), (3, .int (0 : Int32))]) rfl (loop149_16 _ σ15 (0 : Int32) w15 (by omega) (gl.1.trans gz.1) (gl.2.1.trans (gz.2.2.1.trans kk.2.1)) (by rw [gl.2.2.1, gz.2.2.2.1, kk.2.2.1, yn]) (fun j hj => by exfalso; omega) (fun q _ => by rw [gl.2.2.2, gz.2.2.2.2, kk.2.2.2]) rfl)
            refine go_bipush (v := (-20)) (pc' := 134) dX12_text_132 rfl (by decide) ?_
            refine go_aload_n (i := 0) (pc' := 135) dX12_text_134 rfl rfl rfl ?_
            refine gf_13_faultKind (pc' := 138) dX12_text_135 rfl fl_X12_236 ?_
            refine go_isub (pc' := 139) dX12_text_138 rfl ?_
            exact go_iret dX12_text_139 rfl (Or.inr ⟨by omega, w13, TV_e (gz.2.2.2.1.trans kk.2.2.1) (gz.2.2.2.2.trans kk.2.2.2) tv, gz.1⟩)
          refine go_aload_n (i := 0) (pc' := 49) dX12_text_48 rfl rfl rfl ?_
          refine gf_13_faultKind (pc' := 52) dX12_text_49 rfl fl_X12_236 ?_
          refine gz_if_ne (tgt := 115) (pc' := 55) dX12_text_52 rfl (by decide) (fun c23 => ?_) (fun c23 => ?_)
          · have kk := hk_7
            have hf := hf_7
            refine go_aload_n (i := 0) (pc' := 116) dX12_text_115 rfl rfl rfl ?_
            refine gf_13_size (pc' := 119) dX12_text_116 rfl fl_X12_215 ?_
            have g24 := ixi_23 w7.1
            refine go_topz (fun y25 h25 e25 => ?_)
            refine go_istore_n (i := 2) (pc' := 120) dX12_text_119 rfl rfl (by decide) ?_
            have yn : y25 = σ.1 23 := Eq.trans (by assumption) kk.1
            have yi := congrArg Int32.toInt yn
            refine go_aload_n (i := 0) (pc' := 121) dX12_text_120 rfl rfl rfl ?_
            refine go_iconst (v := 0) (pc' := 122) dX12_text_121 rfl (by decide) ?_
            refine pf_13_size (pc' := 125) dX12_text_122 rfl fl_X12_215 ?_
            refine go_gen (P := fun s => WMt σ s ∧ s.1 23 = (0 : Int32) ∧ s.1 26 = σ7.1 26 ∧ s.2 119 = σ7.2 119 ∧ s.2 109 = σ7.2 109 ∧ s.2 110 = σ7.2 110) ⟨⟨ixs_23 w7.1 (by omega) (by omega), Ag_setI w7.2 (by decide)⟩, ⟨setI_same _ _ _, rfl, rfl, rfl, rfl⟩⟩ (fun σ26 z26 => ?_)
            obtain ⟨w26, g26⟩ := z26
            have gz := g26
            have f26 := congrArg Int32.toInt gz.2.1
            refine go_aload_n (i := 0) (pc' := 126) dX12_text_125 rfl rfl rfl ?_
            refine gf_13_faultKind (pc' := 129) dX12_text_126 rfl fl_X12_236 ?_
            refine gz_if_le (tgt := 140) (pc' := 132) dX12_text_129 rfl (by decide) (fun c27 => ?_) (fun c27 => ?_)
            · refine go_aload_n (i := 0) (pc' := 141) dX12_text_140 rfl rfl rfl ?_
              refine gf_13_length (pc' := 144) dX12_text_141 rfl fl_X12_50 ?_
              refine go_iload_n (i := 1) (pc' := 145) dX12_text_144 rfl rfl rfl ?_
              refine go_iload_n (i := 2) (pc' := 146) dX12_text_145 rfl rfl rfl ?_
              refine go_iast (pc' := 147) dX12_text_146 rfl (by decide) (by decide) rfl (vin_of (n := 12) (by omega) (by omega)) ?_
              refine go_gen (P := fun s => WMt σ s ∧ s.1 23 = σ26.1 23 ∧ s.2 119 = σ26.2 119 ∧ s.2 109 = upd (σ26.2 109) (a).toNatClampNeg y25 ∧ s.2 110 = σ26.2 110) ⟨⟨ixt_109 w26.1 (by omega) (by omega), Ag_setA w26.2 (by decide)⟩, ⟨rfl, setA_ne (a := 119) _ 109 _ _ (by decide), setA_same _ _ _ _, setA_ne (a := 110) _ 109 _ _ (by decide)⟩⟩ (fun σ28 z28 => ?_)
              obtain ⟨w28, g28⟩ := z28
              have gl := g28
              refine go_iconst (v := 0) (pc' := 148) dX12_text_147 rfl (by decide) ?_
              refine go_istore_n (i := 3) (pc' := 149) dX12_text_148 rfl rfl (by decide) ?_
              have loop149_29 : ∀ (dd29 : Nat) (σ29 : ST) (x3_29 : Int32), WMt σ σ29 → (0 ≤ (x3_29).toInt ∧ (x3_29).toInt ≤ (y25).toInt) → (σ29.1 23 = 0) → (σ29.2 119 = σ.2 119) → (σ29.2 109 = upd (σ.2 109) (a).toNatClampNeg (σ.1 23)) → (∀ j : Nat, (j : Int) < (x3_29).toInt → σ29.2 110 (160 * (a).toNatClampNeg + j) = σ.2 119 j) → (∀ q : Nat, q < 160 * (a).toNatClampNeg ∨ 160 * (a).toNatClampNeg + 160 ≤ q → σ29.2 110 q = σ.2 110 q) → (160 - (x3_29).toInt).toNat = dd29 → Go F L RX12 cX12_text 4 rm_X12_text (some .int) (RI F L (fun _ σ2 => sM_text σ a σ2)) σ29 149 [(0, .ref (L.2.1 13)), (1, .int a), (2, .int y25), (3, .int x3_29)] [] := by
                intro dd29
                induction dd29 using Nat.strongRecOn with
                | _ dd29 ih29 =>
                  intro σ29 x3_29 w29 h_29 hz_29 ht_29 hl_29 hc_29 ho_29 hm_29
                  refine go_iload_n (i := 3) (pc' := 150) dX12_text_149 rfl rfl rfl ?_
                  refine go_iload_n (i := 2) (pc' := 151) dX12_text_150 rfl rfl rfl ?_
                  refine gz_icmp_ge (tgt := 178) (pc' := 154) dX12_text_151 rfl (by decide) (fun c30 => ?_) (fun c30 => ?_)
                  · refine go_iload_n (i := 2) (pc' := 179) dX12_text_178 rfl rfl rfl ?_
                    exact go_iret dX12_text_179 rfl (Or.inr ⟨by omega, w29, TV_new tv (by omega) (by omega) (hf (by omega)) hl_29 (fun j hj => hc_29 j (by omega)) ho_29 (fun l hl => ixa_109 ix l hl), hz_29⟩)
                  refine go_aload_n (i := 0) (pc' := 155) dX12_text_154 rfl rfl rfl ?_
                  refine gf_13_texts (pc' := 158) dX12_text_155 rfl fl_X12_53 ?_
                  refine go_sipush (v := 160) (pc' := 161) dX12_text_158 rfl (by decide) ?_
                  refine go_iload_n (i := 1) (pc' := 162) dX12_text_161 rfl rfl rfl ?_
                  refine gz_imulc (n := 160) (pc' := 163) dX12_text_162 rfl (by decide) (by omega) (fun v31 h31 e31 => ?_)
                  refine go_iload_n (i := 3) (pc' := 164) dX12_text_163 rfl rfl rfl ?_
                  refine gz_iadd (pc' := 165) dX12_text_164 rfl (by omega) (fun v32 h32 e32 => ?_)
                  have ck3 := cnat (x := x3_29) (by omega)
                  have ca := cnat (x := a) (by omega)
                  have ez : (v32).toNatClampNeg = 160 * (a).toNatClampNeg + (x3_29).toNatClampNeg := by have cz := cnat (x := v32) (by omega); omega
                  refine go_aload_n (i := 0) (pc' := 166) dX12_text_165 rfl rfl rfl ?_
                  refine gf_13_tape (pc' := 169) dX12_text_166 rfl fl_X12_80 ?_
                  refine go_iload_n (i := 3) (pc' := 170) dX12_text_169 rfl rfl rfl ?_
                  refine go_iald (pc' := 171) dX12_text_170 rfl (by decide) (by decide) rfl (vin_of (n := 160) (by omega) (by omega)) ?_
                  refine go_rngA (ixa_119 w29.1) (vinlt (vin_of (n := 160) (by omega) (by omega))) (fun g33 => ?_)
                  refine go_iast (pc' := 172) dX12_text_171 rfl (by decide) (by decide) rfl (vin_of (n := 1920) (by omega) (by omega)) ?_
                  refine go_gen (P := fun s => WMt σ s ∧ s.1 23 = σ29.1 23 ∧ s.2 119 = σ29.2 119 ∧ s.2 109 = σ29.2 109 ∧ s.2 110 = upd (σ29.2 110) (v32).toNatClampNeg (σ29.2 119 (x3_29).toNatClampNeg)) ⟨⟨ixt_110 w29.1 (by omega) (by omega), Ag_setA w29.2 (by decide)⟩, ⟨rfl, setA_ne (a := 119) _ 110 _ _ (by decide), setA_ne (a := 109) _ 110 _ _ (by decide), setA_same _ _ _ _⟩⟩ (fun σ34 z34 => ?_)
                  obtain ⟨w34, g34⟩ := z34
                  have gc := g34
                  refine gz_iinc (c := 1) (pc' := 175) dX12_text_172 rfl rfl (by decide) (by decide) (by decide) (by omega) (fun v35 h35 e35 => ?_)
                  refine go_goto (tgt := 149) dX12_text_175 (by decide) ?_
                  exact go_lv (lv' := [(0, .ref (L.2.1 13)), (1, .int a), (2, .int y25), (3, .int v35)]) rfl (ih29 _ (by omega) σ34 v35 w34 (by omega) (gc.1.trans hz_29) (gc.2.1.trans ht_29) (gc.2.2.1.trans hl_29) (cp_step hc_29 (by rw [← ez]; exact gc.2.2.2) (by rw [ht_29]) (by omega) (by omega)) (ot_step ho_29 gc.2.2.2 (by omega) (by omega)) rfl)
              exact go_lv (lv' := [(0, .ref (L.2.1 13)), (1, .int a), (2, .int y25), (3, .int (0 : Int32))]) rfl (loop149_29 _ σ28 (0 : Int32) w28 (by omega) (gl.1.trans gz.1) (gl.2.1.trans (gz.2.2.1.trans kk.2.1)) (by rw [gl.2.2.1, gz.2.2.2.1, kk.2.2.1, yn]) (fun j hj => by exfalso; omega) (fun q _ => by rw [gl.2.2.2, gz.2.2.2.2, kk.2.2.2]) rfl)
            refine go_bipush (v := (-20)) (pc' := 134) dX12_text_132 rfl (by decide) ?_
            refine go_aload_n (i := 0) (pc' := 135) dX12_text_134 rfl rfl rfl ?_
            refine gf_13_faultKind (pc' := 138) dX12_text_135 rfl fl_X12_236 ?_
            refine go_isub (pc' := 139) dX12_text_138 rfl ?_
            exact go_iret dX12_text_139 rfl (Or.inr ⟨by omega, w26, TV_e (gz.2.2.2.1.trans kk.2.2.1) (gz.2.2.2.2.trans kk.2.2.2) tv, gz.1⟩)
          refine go_aload_n (i := 0) (pc' := 56) dX12_text_55 rfl rfl rfl ?_
          refine gf_13_tape (pc' := 59) dX12_text_56 rfl fl_X12_80 ?_
          refine go_iload_n (i := 2) (pc' := 60) dX12_text_59 rfl rfl rfl ?_
          refine go_iald (pc' := 61) dX12_text_60 rfl (by decide) (by decide) rfl (vin_of (n := 160) (by omega) (by omega)) ?_
          refine go_rngA (ixa_119 w7.1) (vinlt (vin_of (n := 160) (by omega) (by omega))) (fun g36 => ?_)
          refine go_bipush (v := 123) (pc' := 63) dX12_text_61 rfl (by decide) ?_
          refine gz_icmp_ne (tgt := 109) (pc' := 66) dX12_text_63 rfl (by decide) (fun c37 => ?_) (fun c37 => ?_)
          · refine gz_iinc (c := 1) (pc' := 112) dX12_text_109 rfl rfl (by decide) (by decide) (by decide) (by omega) (fun v38 h38 e38 => ?_)
            refine go_goto (tgt := 38) dX12_text_112 (by decide) ?_
            exact go_lv (lv' := [(0, .ref (L.2.1 13)), (1, .int a), (2, .int v38)]) rfl (ih7 _ (by omega) σ7 v38 w7 (by omega) kk (by first | exact hf_7 | exact (fun q => by exfalso; omega)) rfl)
          refine go_aload_n (i := 0) (pc' := 67) dX12_text_66 rfl rfl rfl ?_
          refine gf_13_tape (pc' := 70) dX12_text_67 rfl fl_X12_80 ?_
          refine go_iload_n (i := 2) (pc' := 71) dX12_text_70 rfl rfl rfl ?_
          refine go_iconst (v := 1) (pc' := 72) dX12_text_71 rfl (by decide) ?_
          refine gz_iadd (pc' := 73) dX12_text_72 rfl (by omega) (fun v39 h39 e39 => ?_)
          refine go_iald (pc' := 74) dX12_text_73 rfl (by decide) (by decide) rfl (vin_of (n := 160) (by omega) (by omega)) ?_
          refine go_rngA (ixa_119 w7.1) (vinlt (vin_of (n := 160) (by omega) (by omega))) (fun g40 => ?_)
          refine go_bipush (v := 110) (pc' := 76) dX12_text_74 rfl (by decide) ?_
          refine gz_icmp_ne (tgt := 109) (pc' := 79) dX12_text_76 rfl (by decide) (fun c41 => ?_) (fun c41 => ?_)
          · refine gz_iinc (c := 1) (pc' := 112) dX12_text_109 rfl rfl (by decide) (by decide) (by decide) (by omega) (fun v42 h42 e42 => ?_)
            refine go_goto (tgt := 38) dX12_text_112 (by decide) ?_
            exact go_lv (lv' := [(0, .ref (L.2.1 13)), (1, .int a), (2, .int v42)]) rfl (ih7 _ (by omega) σ7 v42 w7 (by omega) kk (by first | exact hf_7 | exact (fun q => by exfalso; omega)) rfl)
          refine go_aload_n (i := 0) (pc' := 80) dX12_text_79 rfl rfl rfl ?_
          refine gf_13_tape (pc' := 83) dX12_text_80 rfl fl_X12_80 ?_
          refine go_iload_n (i := 2) (pc' := 84) dX12_text_83 rfl rfl rfl ?_
          refine go_iconst (v := 2) (pc' := 85) dX12_text_84 rfl (by decide) ?_
          refine gz_iadd (pc' := 86) dX12_text_85 rfl (by omega) (fun v43 h43 e43 => ?_)
          refine go_csi (pc' := 89) ls_X12_243 (c_numberAt_119 _ _ _ _ (by omega) w7.1) rfl rfl (Nat.le_of_ble_eq_true rfl) ⟨Nat.le_of_ble_eq_true rfl, Nat.le_of_ble_eq_true rfl⟩ ⟨rfl, rfl⟩ dX12_text_86 rfl (fun r44 σ44 h44 => ?_)
          have h44 := h44.symm
          subst h44
          refine go_aload_n (i := 0) (pc' := 90) dX12_text_89 rfl rfl rfl ?_
          refine gf_13_letters (pc' := 93) dX12_text_90 rfl fl_X12_142 ?_
          have g45 := ixi_20 w7.1
          refine gz_icmp_ge (tgt := 99) (pc' := 96) dX12_text_93 rfl (by decide) (fun c46 => ?_) (fun c46 => ?_)
          · refine go_aload_n (i := 0) (pc' := 100) dX12_text_99 rfl rfl rfl ?_
            refine go_iconst (v := 2) (pc' := 101) dX12_text_100 rfl (by decide) ?_
            refine pf_13_faultKind (pc' := 104) dX12_text_101 rfl fl_X12_236 ?_
            refine go_gen (P := fun s => WMt σ s ∧ KP σ7 s ∧ s.1 26 = (2 : Int32)) ⟨⟨ixs_n w7.1 (by decide), Ag_setI w7.2 (by decide)⟩, ⟨⟨rfl, rfl, rfl, rfl⟩, setI_same _ _ _⟩⟩ (fun σ47 z47 => ?_)
            obtain ⟨w47, g47⟩ := z47
            have kk := KP_trans kk g47.1
            have f26 := congrArg Int32.toInt g47.2
            refine go_aload_n (i := 0) (pc' := 105) dX12_text_104 rfl rfl rfl ?_
            refine go_iload_n (i := 2) (pc' := 106) dX12_text_105 rfl rfl rfl ?_
            refine pf_13_faultAt (pc' := 109) dX12_text_106 rfl fl_X12_92 ?_
            refine go_gen (P := fun s => WMt σ s ∧ KP σ47 s ∧ s.1 26 = σ47.1 26) ⟨⟨ixs_n w47.1 (by decide), Ag_setI w47.2 (by decide)⟩, ⟨⟨rfl, rfl, rfl, rfl⟩, rfl⟩⟩ (fun σ48 z48 => ?_)
            obtain ⟨w48, g48⟩ := z48
            have kk := KP_trans kk g48.1
            have f26b := congrArg Int32.toInt g48.2
            refine gz_iinc (c := 1) (pc' := 112) dX12_text_109 rfl rfl (by decide) (by decide) (by decide) (by omega) (fun v49 h49 e49 => ?_)
            refine go_goto (tgt := 38) dX12_text_112 (by decide) ?_
            exact go_lv (lv' := [(0, .ref (L.2.1 13)), (1, .int a), (2, .int v49)]) rfl (ih7 _ (by omega) σ48 v49 w48 (by omega) kk (by first | exact hf_7 | exact (fun q => by exfalso; omega)) rfl)
          refine go_goto (tgt := 109) dX12_text_96 (by decide) ?_
          refine gz_iinc (c := 1) (pc' := 112) dX12_text_109 rfl rfl (by decide) (by decide) (by decide) (by omega) (fun v50 h50 e50 => ?_)
          refine go_goto (tgt := 38) dX12_text_112 (by decide) ?_
          exact go_lv (lv' := [(0, .ref (L.2.1 13)), (1, .int a), (2, .int v50)]) rfl (ih7 _ (by omega) σ7 v50 w7 (by omega) kk (by first | exact hf_7 | exact (fun q => by exfalso; omega)) rfl)
      exact go_lv (lv' := [(0, .ref (L.2.1 13)), (1, .int a), (2, .int (0 : Int32))]) rfl (loop38_7 _ σ5 (0 : Int32) w5 (by omega) kk (by first | exact (fun _ => tk_neg (by omega)) | exact (fun q => by exfalso; omega)) rfl)
    refine go_aload_n (i := 0) (pc' := 32) dX12_text_31 rfl rfl rfl ?_
    refine go_iconst (v := 1) (pc' := 33) dX12_text_32 rfl (by decide) ?_
    refine pf_13_faultKind (pc' := 36) dX12_text_33 rfl fl_X12_236 ?_
    refine go_gen (P := fun s => WMt σ s ∧ KP σ5 s ∧ s.1 26 = (1 : Int32)) ⟨⟨ixs_n w5.1 (by decide), Ag_setI w5.2 (by decide)⟩, ⟨⟨rfl, rfl, rfl, rfl⟩, setI_same _ _ _⟩⟩ (fun σ51 z51 => ?_)
    obtain ⟨w51, g51⟩ := z51
    have kk := KP_trans kk g51.1
    have f26 := congrArg Int32.toInt g51.2
    refine go_iconst (v := 0) (pc' := 37) dX12_text_36 rfl (by decide) ?_
    refine go_istore_n (i := 2) (pc' := 38) dX12_text_37 rfl rfl (by decide) ?_
    have loop38_52 : ∀ (dd52 : Nat) (σ52 : ST) (x2_52 : Int32), WMt σ σ52 → (0 ≤ (x2_52).toInt ∧ (x2_52).toInt ≤ 160) → (KP σ σ52) → ((σ52.1 26).toInt ≤ 0 → tk (tpT σ) (σ.1 23).toNatClampNeg 200 0 0 (fun _ => 0) = -1) → (160 - (x2_52).toInt).toNat = dd52 → Go F L RX12 cX12_text 4 rm_X12_text (some .int) (RI F L (fun _ σ2 => sM_text σ a σ2)) σ52 38 [(0, .ref (L.2.1 13)), (1, .int a), (2, .int x2_52)] [] := by
      intro dd52
      induction dd52 using Nat.strongRecOn with
      | _ dd52 ih52 =>
        intro σ52 x2_52 w52 h_52 hk_52 hf_52 hm_52
        refine go_iload_n (i := 2) (pc' := 39) dX12_text_38 rfl rfl rfl ?_
        refine go_iconst (v := 1) (pc' := 40) dX12_text_39 rfl (by decide) ?_
        refine gz_iadd (pc' := 41) dX12_text_40 rfl (by omega) (fun v53 h53 e53 => ?_)
        have kk := hk_52
        refine go_aload_n (i := 0) (pc' := 42) dX12_text_41 rfl rfl rfl ?_
        refine gf_13_size (pc' := 45) dX12_text_42 rfl fl_X12_215 ?_
        have g54 := ixi_23 w52.1
        refine gz_icmp_ge (tgt := 115) (pc' := 48) dX12_text_45 rfl (by decide) (fun c55 => ?_) (fun c55 => ?_)
        · have kk := hk_52
          have hf := hf_52
          refine go_aload_n (i := 0) (pc' := 116) dX12_text_115 rfl rfl rfl ?_
          refine gf_13_size (pc' := 119) dX12_text_116 rfl fl_X12_215 ?_
          have g56 := ixi_23 w52.1
          refine go_topz (fun y57 h57 e57 => ?_)
          refine go_istore_n (i := 2) (pc' := 120) dX12_text_119 rfl rfl (by decide) ?_
          have yn : y57 = σ.1 23 := Eq.trans (by assumption) kk.1
          have yi := congrArg Int32.toInt yn
          refine go_aload_n (i := 0) (pc' := 121) dX12_text_120 rfl rfl rfl ?_
          refine go_iconst (v := 0) (pc' := 122) dX12_text_121 rfl (by decide) ?_
          refine pf_13_size (pc' := 125) dX12_text_122 rfl fl_X12_215 ?_
          refine go_gen (P := fun s => WMt σ s ∧ s.1 23 = (0 : Int32) ∧ s.1 26 = σ52.1 26 ∧ s.2 119 = σ52.2 119 ∧ s.2 109 = σ52.2 109 ∧ s.2 110 = σ52.2 110) ⟨⟨ixs_23 w52.1 (by omega) (by omega), Ag_setI w52.2 (by decide)⟩, ⟨setI_same _ _ _, rfl, rfl, rfl, rfl⟩⟩ (fun σ58 z58 => ?_)
          obtain ⟨w58, g58⟩ := z58
          have gz := g58
          have f26 := congrArg Int32.toInt gz.2.1
          refine go_aload_n (i := 0) (pc' := 126) dX12_text_125 rfl rfl rfl ?_
          refine gf_13_faultKind (pc' := 129) dX12_text_126 rfl fl_X12_236 ?_
          refine gz_if_le (tgt := 140) (pc' := 132) dX12_text_129 rfl (by decide) (fun c59 => ?_) (fun c59 => ?_)
          · refine go_aload_n (i := 0) (pc' := 141) dX12_text_140 rfl rfl rfl ?_
            refine gf_13_length (pc' := 144) dX12_text_141 rfl fl_X12_50 ?_
            refine go_iload_n (i := 1) (pc' := 145) dX12_text_144 rfl rfl rfl ?_
            refine go_iload_n (i := 2) (pc' := 146) dX12_text_145 rfl rfl rfl ?_
            refine go_iast (pc' := 147) dX12_text_146 rfl (by decide) (by decide) rfl (vin_of (n := 12) (by omega) (by omega)) ?_
            refine go_gen (P := fun s => WMt σ s ∧ s.1 23 = σ58.1 23 ∧ s.2 119 = σ58.2 119 ∧ s.2 109 = upd (σ58.2 109) (a).toNatClampNeg y57 ∧ s.2 110 = σ58.2 110) ⟨⟨ixt_109 w58.1 (by omega) (by omega), Ag_setA w58.2 (by decide)⟩, ⟨rfl, setA_ne (a := 119) _ 109 _ _ (by decide), setA_same _ _ _ _, setA_ne (a := 110) _ 109 _ _ (by decide)⟩⟩ (fun σ60 z60 => ?_)
            obtain ⟨w60, g60⟩ := z60
            have gl := g60
            refine go_iconst (v := 0) (pc' := 148) dX12_text_147 rfl (by decide) ?_
            refine go_istore_n (i := 3) (pc' := 149) dX12_text_148 rfl rfl (by decide) ?_
            have loop149_61 : ∀ (dd61 : Nat) (σ61 : ST) (x3_61 : Int32), WMt σ σ61 → (0 ≤ (x3_61).toInt ∧ (x3_61).toInt ≤ (y57).toInt) → (σ61.1 23 = 0) → (σ61.2 119 = σ.2 119) → (σ61.2 109 = upd (σ.2 109) (a).toNatClampNeg (σ.1 23)) → (∀ j : Nat, (j : Int) < (x3_61).toInt → σ61.2 110 (160 * (a).toNatClampNeg + j) = σ.2 119 j) → (∀ q : Nat, q < 160 * (a).toNatClampNeg ∨ 160 * (a).toNatClampNeg + 160 ≤ q → σ61.2 110 q = σ.2 110 q) → (160 - (x3_61).toInt).toNat = dd61 → Go F L RX12 cX12_text 4 rm_X12_text (some .int) (RI F L (fun _ σ2 => sM_text σ a σ2)) σ61 149 [(0, .ref (L.2.1 13)), (1, .int a), (2, .int y57), (3, .int x3_61)] [] := by
              intro dd61
              induction dd61 using Nat.strongRecOn with
              | _ dd61 ih61 =>
                intro σ61 x3_61 w61 h_61 hz_61 ht_61 hl_61 hc_61 ho_61 hm_61
                refine go_iload_n (i := 3) (pc' := 150) dX12_text_149 rfl rfl rfl ?_
                refine go_iload_n (i := 2) (pc' := 151) dX12_text_150 rfl rfl rfl ?_
                refine gz_icmp_ge (tgt := 178) (pc' := 154) dX12_text_151 rfl (by decide) (fun c62 => ?_) (fun c62 => ?_)
                · refine go_iload_n (i := 2) (pc' := 179) dX12_text_178 rfl rfl rfl ?_
                  exact go_iret dX12_text_179 rfl (Or.inr ⟨by omega, w61, TV_new tv (by omega) (by omega) (hf (by omega)) hl_61 (fun j hj => hc_61 j (by omega)) ho_61 (fun l hl => ixa_109 ix l hl), hz_61⟩)
                refine go_aload_n (i := 0) (pc' := 155) dX12_text_154 rfl rfl rfl ?_
                refine gf_13_texts (pc' := 158) dX12_text_155 rfl fl_X12_53 ?_
                refine go_sipush (v := 160) (pc' := 161) dX12_text_158 rfl (by decide) ?_
                refine go_iload_n (i := 1) (pc' := 162) dX12_text_161 rfl rfl rfl ?_
                refine gz_imulc (n := 160) (pc' := 163) dX12_text_162 rfl (by decide) (by omega) (fun v63 h63 e63 => ?_)
                refine go_iload_n (i := 3) (pc' := 164) dX12_text_163 rfl rfl rfl ?_
                refine gz_iadd (pc' := 165) dX12_text_164 rfl (by omega) (fun v64 h64 e64 => ?_)
                have ck3 := cnat (x := x3_61) (by omega)
                have ca := cnat (x := a) (by omega)
                have ez : (v64).toNatClampNeg = 160 * (a).toNatClampNeg + (x3_61).toNatClampNeg := by have cz := cnat (x := v64) (by omega); omega
                refine go_aload_n (i := 0) (pc' := 166) dX12_text_165 rfl rfl rfl ?_
                refine gf_13_tape (pc' := 169) dX12_text_166 rfl fl_X12_80 ?_
                refine go_iload_n (i := 3) (pc' := 170) dX12_text_169 rfl rfl rfl ?_
                refine go_iald (pc' := 171) dX12_text_170 rfl (by decide) (by decide) rfl (vin_of (n := 160) (by omega) (by omega)) ?_
                refine go_rngA (ixa_119 w61.1) (vinlt (vin_of (n := 160) (by omega) (by omega))) (fun g65 => ?_)
                refine go_iast (pc' := 172) dX12_text_171 rfl (by decide) (by decide) rfl (vin_of (n := 1920) (by omega) (by omega)) ?_
                refine go_gen (P := fun s => WMt σ s ∧ s.1 23 = σ61.1 23 ∧ s.2 119 = σ61.2 119 ∧ s.2 109 = σ61.2 109 ∧ s.2 110 = upd (σ61.2 110) (v64).toNatClampNeg (σ61.2 119 (x3_61).toNatClampNeg)) ⟨⟨ixt_110 w61.1 (by omega) (by omega), Ag_setA w61.2 (by decide)⟩, ⟨rfl, setA_ne (a := 119) _ 110 _ _ (by decide), setA_ne (a := 109) _ 110 _ _ (by decide), setA_same _ _ _ _⟩⟩ (fun σ66 z66 => ?_)
                obtain ⟨w66, g66⟩ := z66
                have gc := g66
                refine gz_iinc (c := 1) (pc' := 175) dX12_text_172 rfl rfl (by decide) (by decide) (by decide) (by omega) (fun v67 h67 e67 => ?_)
                refine go_goto (tgt := 149) dX12_text_175 (by decide) ?_
                exact go_lv (lv' := [(0, .ref (L.2.1 13)), (1, .int a), (2, .int y57), (3, .int v67)]) rfl (ih61 _ (by omega) σ66 v67 w66 (by omega) (gc.1.trans hz_61) (gc.2.1.trans ht_61) (gc.2.2.1.trans hl_61) (cp_step hc_61 (by rw [← ez]; exact gc.2.2.2) (by rw [ht_61]) (by omega) (by omega)) (ot_step ho_61 gc.2.2.2 (by omega) (by omega)) rfl)
            exact go_lv (lv' := [(0, .ref (L.2.1 13)), (1, .int a), (2, .int y57), (3, .int (0 : Int32))]) rfl (loop149_61 _ σ60 (0 : Int32) w60 (by omega) (gl.1.trans gz.1) (gl.2.1.trans (gz.2.2.1.trans kk.2.1)) (by rw [gl.2.2.1, gz.2.2.2.1, kk.2.2.1, yn]) (fun j hj => by exfalso; omega) (fun q _ => by rw [gl.2.2.2, gz.2.2.2.2, kk.2.2.2]) rfl)
          refine go_bipush (v := (-20)) (pc' := 134) dX12_text_132 rfl (by decide) ?_
          refine go_aload_n (i := 0) (pc' := 135) dX12_text_134 rfl rfl rfl ?_
          refine gf_13_faultKind (pc' := 138) dX12_text_135 rfl fl_X12_236 ?_
          refine go_isub (pc' := 139) dX12_text_138 rfl ?_
          exact go_iret dX12_text_139 rfl (Or.inr ⟨by omega, w58, TV_e (gz.2.2.2.1.trans kk.2.2.1) (gz.2.2.2.2.trans kk.2.2.2) tv, gz.1⟩)
        refine go_aload_n (i := 0) (pc' := 49) dX12_text_48 rfl rfl rfl ?_
        refine gf_13_faultKind (pc' := 52) dX12_text_49 rfl fl_X12_236 ?_
        refine gz_if_ne (tgt := 115) (pc' := 55) dX12_text_52 rfl (by decide) (fun c68 => ?_) (fun c68 => ?_)
        · have kk := hk_52
          have hf := hf_52
          refine go_aload_n (i := 0) (pc' := 116) dX12_text_115 rfl rfl rfl ?_
          refine gf_13_size (pc' := 119) dX12_text_116 rfl fl_X12_215 ?_
          have g69 := ixi_23 w52.1
          refine go_topz (fun y70 h70 e70 => ?_)
          refine go_istore_n (i := 2) (pc' := 120) dX12_text_119 rfl rfl (by decide) ?_
          have yn : y70 = σ.1 23 := Eq.trans (by assumption) kk.1
          have yi := congrArg Int32.toInt yn
          refine go_aload_n (i := 0) (pc' := 121) dX12_text_120 rfl rfl rfl ?_
          refine go_iconst (v := 0) (pc' := 122) dX12_text_121 rfl (by decide) ?_
          refine pf_13_size (pc' := 125) dX12_text_122 rfl fl_X12_215 ?_
          refine go_gen (P := fun s => WMt σ s ∧ s.1 23 = (0 : Int32) ∧ s.1 26 = σ52.1 26 ∧ s.2 119 = σ52.2 119 ∧ s.2 109 = σ52.2 109 ∧ s.2 110 = σ52.2 110) ⟨⟨ixs_23 w52.1 (by omega) (by omega), Ag_setI w52.2 (by decide)⟩, ⟨setI_same _ _ _, rfl, rfl, rfl, rfl⟩⟩ (fun σ71 z71 => ?_)
          obtain ⟨w71, g71⟩ := z71
          have gz := g71
          have f26 := congrArg Int32.toInt gz.2.1
          refine go_aload_n (i := 0) (pc' := 126) dX12_text_125 rfl rfl rfl ?_
          refine gf_13_faultKind (pc' := 129) dX12_text_126 rfl fl_X12_236 ?_
          refine gz_if_le (tgt := 140) (pc' := 132) dX12_text_129 rfl (by decide) (fun c72 => ?_) (fun c72 => ?_)
          · refine go_aload_n (i := 0) (pc' := 141) dX12_text_140 rfl rfl rfl ?_
            refine gf_13_length (pc' := 144) dX12_text_141 rfl fl_X12_50 ?_
            refine go_iload_n (i := 1) (pc' := 145) dX12_text_144 rfl rfl rfl ?_
            refine go_iload_n (i := 2) (pc' := 146) dX12_text_145 rfl rfl rfl ?_
            refine go_iast (pc' := 147) dX12_text_146 rfl (by decide) (by decide) rfl (vin_of (n := 12) (by omega) (by omega)) ?_
            refine go_gen (P := fun s => WMt σ s ∧ s.1 23 = σ71.1 23 ∧ s.2 119 = σ71.2 119 ∧ s.2 109 = upd (σ71.2 109) (a).toNatClampNeg y70 ∧ s.2 110 = σ71.2 110) ⟨⟨ixt_109 w71.1 (by omega) (by omega), Ag_setA w71.2 (by decide)⟩, ⟨rfl, setA_ne (a := 119) _ 109 _ _ (by decide), setA_same _ _ _ _, setA_ne (a := 110) _ 109 _ _ (by decide)⟩⟩ (fun σ73 z73 => ?_)
            obtain ⟨w73, g73⟩ := z73
            have gl := g73
            refine go_iconst (v := 0) (pc' := 148) dX12_text_147 rfl (by decide) ?_
            refine go_istore_n (i := 3) (pc' := 149) dX12_text_148 rfl rfl (by decide) ?_
            have loop149_74 : ∀ (dd74 : Nat) (σ74 : ST) (x3_74 : Int32), WMt σ σ74 → (0 ≤ (x3_74).toInt ∧ (x3_74).toInt ≤ (y70).toInt) → (σ74.1 23 = 0) → (σ74.2 119 = σ.2 119) → (σ74.2 109 = upd (σ.2 109) (a).toNatClampNeg (σ.1 23)) → (∀ j : Nat, (j : Int) < (x3_74).toInt → σ74.2 110 (160 * (a).toNatClampNeg + j) = σ.2 119 j) → (∀ q : Nat, q < 160 * (a).toNatClampNeg ∨ 160 * (a).toNatClampNeg + 160 ≤ q → σ74.2 110 q = σ.2 110 q) → (160 - (x3_74).toInt).toNat = dd74 → Go F L RX12 cX12_text 4 rm_X12_text (some .int) (RI F L (fun _ σ2 => sM_text σ a σ2)) σ74 149 [(0, .ref (L.2.1 13)), (1, .int a), (2, .int y70), (3, .int x3_74)] [] := by
              intro dd74
              induction dd74 using Nat.strongRecOn with
              | _ dd74 ih74 =>
                intro σ74 x3_74 w74 h_74 hz_74 ht_74 hl_74 hc_74 ho_74 hm_74
                refine go_iload_n (i := 3) (pc' := 150) dX12_text_149 rfl rfl rfl ?_
                refine go_iload_n (i := 2) (pc' := 151) dX12_text_150 rfl rfl rfl ?_
                refine gz_icmp_ge (tgt := 178) (pc' := 154) dX12_text_151 rfl (by decide) (fun c75 => ?_) (fun c75 => ?_)
                · refine go_iload_n (i := 2) (pc' := 179) dX12_text_178 rfl rfl rfl ?_
                  exact go_iret dX12_text_179 rfl (Or.inr ⟨by omega, w74, TV_new tv (by omega) (by omega) (hf (by omega)) hl_74 (fun j hj => hc_74 j (by omega)) ho_74 (fun l hl => ixa_109 ix l hl), hz_74⟩)
                refine go_aload_n (i := 0) (pc' := 155) dX12_text_154 rfl rfl rfl ?_
                refine gf_13_texts (pc' := 158) dX12_text_155 rfl fl_X12_53 ?_
                refine go_sipush (v := 160) (pc' := 161) dX12_text_158 rfl (by decide) ?_
                refine go_iload_n (i := 1) (pc' := 162) dX12_text_161 rfl rfl rfl ?_
                refine gz_imulc (n := 160) (pc' := 163) dX12_text_162 rfl (by decide) (by omega) (fun v76 h76 e76 => ?_)
                refine go_iload_n (i := 3) (pc' := 164) dX12_text_163 rfl rfl rfl ?_
                refine gz_iadd (pc' := 165) dX12_text_164 rfl (by omega) (fun v77 h77 e77 => ?_)
                have ck3 := cnat (x := x3_74) (by omega)
                have ca := cnat (x := a) (by omega)
                have ez : (v77).toNatClampNeg = 160 * (a).toNatClampNeg + (x3_74).toNatClampNeg := by have cz := cnat (x := v77) (by omega); omega
                refine go_aload_n (i := 0) (pc' := 166) dX12_text_165 rfl rfl rfl ?_
                refine gf_13_tape (pc' := 169) dX12_text_166 rfl fl_X12_80 ?_
                refine go_iload_n (i := 3) (pc' := 170) dX12_text_169 rfl rfl rfl ?_
                refine go_iald (pc' := 171) dX12_text_170 rfl (by decide) (by decide) rfl (vin_of (n := 160) (by omega) (by omega)) ?_
                refine go_rngA (ixa_119 w74.1) (vinlt (vin_of (n := 160) (by omega) (by omega))) (fun g78 => ?_)
                refine go_iast (pc' := 172) dX12_text_171 rfl (by decide) (by decide) rfl (vin_of (n := 1920) (by omega) (by omega)) ?_
                refine go_gen (P := fun s => WMt σ s ∧ s.1 23 = σ74.1 23 ∧ s.2 119 = σ74.2 119 ∧ s.2 109 = σ74.2 109 ∧ s.2 110 = upd (σ74.2 110) (v77).toNatClampNeg (σ74.2 119 (x3_74).toNatClampNeg)) ⟨⟨ixt_110 w74.1 (by omega) (by omega), Ag_setA w74.2 (by decide)⟩, ⟨rfl, setA_ne (a := 119) _ 110 _ _ (by decide), setA_ne (a := 109) _ 110 _ _ (by decide), setA_same _ _ _ _⟩⟩ (fun σ79 z79 => ?_)
                obtain ⟨w79, g79⟩ := z79
                have gc := g79
                refine gz_iinc (c := 1) (pc' := 175) dX12_text_172 rfl rfl (by decide) (by decide) (by decide) (by omega) (fun v80 h80 e80 => ?_)
                refine go_goto (tgt := 149) dX12_text_175 (by decide) ?_
                exact go_lv (lv' := [(0, .ref (L.2.1 13)), (1, .int a), (2, .int y70), (3, .int v80)]) rfl (ih74 _ (by omega) σ79 v80 w79 (by omega) (gc.1.trans hz_74) (gc.2.1.trans ht_74) (gc.2.2.1.trans hl_74) (cp_step hc_74 (by rw [← ez]; exact gc.2.2.2) (by rw [ht_74]) (by omega) (by omega)) (ot_step ho_74 gc.2.2.2 (by omega) (by omega)) rfl)
            exact go_lv (lv' := [(0, .ref (L.2.1 13)), (1, .int a), (2, .int y70), (3, .int (0 : Int32))]) rfl (loop149_74 _ σ73 (0 : Int32) w73 (by omega) (gl.1.trans gz.1) (gl.2.1.trans (gz.2.2.1.trans kk.2.1)) (by rw [gl.2.2.1, gz.2.2.2.1, kk.2.2.1, yn]) (fun j hj => by exfalso; omega) (fun q _ => by rw [gl.2.2.2, gz.2.2.2.2, kk.2.2.2]) rfl)
          refine go_bipush (v := (-20)) (pc' := 134) dX12_text_132 rfl (by decide) ?_
          refine go_aload_n (i := 0) (pc' := 135) dX12_text_134 rfl rfl rfl ?_
          refine gf_13_faultKind (pc' := 138) dX12_text_135 rfl fl_X12_236 ?_
          refine go_isub (pc' := 139) dX12_text_138 rfl ?_
          exact go_iret dX12_text_139 rfl (Or.inr ⟨by omega, w71, TV_e (gz.2.2.2.1.trans kk.2.2.1) (gz.2.2.2.2.trans kk.2.2.2) tv, gz.1⟩)
        refine go_aload_n (i := 0) (pc' := 56) dX12_text_55 rfl rfl rfl ?_
        refine gf_13_tape (pc' := 59) dX12_text_56 rfl fl_X12_80 ?_
        refine go_iload_n (i := 2) (pc' := 60) dX12_text_59 rfl rfl rfl ?_
        refine go_iald (pc' := 61) dX12_text_60 rfl (by decide) (by decide) rfl (vin_of (n := 160) (by omega) (by omega)) ?_
        refine go_rngA (ixa_119 w52.1) (vinlt (vin_of (n := 160) (by omega) (by omega))) (fun g81 => ?_)
        refine go_bipush (v := 123) (pc' := 63) dX12_text_61 rfl (by decide) ?_
        refine gz_icmp_ne (tgt := 109) (pc' := 66) dX12_text_63 rfl (by decide) (fun c82 => ?_) (fun c82 => ?_)
        · refine gz_iinc (c := 1) (pc' := 112) dX12_text_109 rfl rfl (by decide) (by decide) (by decide) (by omega) (fun v83 h83 e83 => ?_)
          refine go_goto (tgt := 38) dX12_text_112 (by decide) ?_
          exact go_lv (lv' := [(0, .ref (L.2.1 13)), (1, .int a), (2, .int v83)]) rfl (ih52 _ (by omega) σ52 v83 w52 (by omega) kk (by first | exact hf_52 | exact (fun q => by exfalso; omega)) rfl)
        refine go_aload_n (i := 0) (pc' := 67) dX12_text_66 rfl rfl rfl ?_
        refine gf_13_tape (pc' := 70) dX12_text_67 rfl fl_X12_80 ?_
        refine go_iload_n (i := 2) (pc' := 71) dX12_text_70 rfl rfl rfl ?_
        refine go_iconst (v := 1) (pc' := 72) dX12_text_71 rfl (by decide) ?_
        refine gz_iadd (pc' := 73) dX12_text_72 rfl (by omega) (fun v84 h84 e84 => ?_)
        refine go_iald (pc' := 74) dX12_text_73 rfl (by decide) (by decide) rfl (vin_of (n := 160) (by omega) (by omega)) ?_
        refine go_rngA (ixa_119 w52.1) (vinlt (vin_of (n := 160) (by omega) (by omega))) (fun g85 => ?_)
        refine go_bipush (v := 110) (pc' := 76) dX12_text_74 rfl (by decide) ?_
        refine gz_icmp_ne (tgt := 109) (pc' := 79) dX12_text_76 rfl (by decide) (fun c86 => ?_) (fun c86 => ?_)
        · refine gz_iinc (c := 1) (pc' := 112) dX12_text_109 rfl rfl (by decide) (by decide) (by decide) (by omega) (fun v87 h87 e87 => ?_)
          refine go_goto (tgt := 38) dX12_text_112 (by decide) ?_
          exact go_lv (lv' := [(0, .ref (L.2.1 13)), (1, .int a), (2, .int v87)]) rfl (ih52 _ (by omega) σ52 v87 w52 (by omega) kk (by first | exact hf_52 | exact (fun q => by exfalso; omega)) rfl)
        refine go_aload_n (i := 0) (pc' := 80) dX12_text_79 rfl rfl rfl ?_
        refine gf_13_tape (pc' := 83) dX12_text_80 rfl fl_X12_80 ?_
        refine go_iload_n (i := 2) (pc' := 84) dX12_text_83 rfl rfl rfl ?_
        refine go_iconst (v := 2) (pc' := 85) dX12_text_84 rfl (by decide) ?_
        refine gz_iadd (pc' := 86) dX12_text_85 rfl (by omega) (fun v88 h88 e88 => ?_)
        refine go_csi (pc' := 89) ls_X12_243 (c_numberAt_119 _ _ _ _ (by omega) w52.1) rfl rfl (Nat.le_of_ble_eq_true rfl) ⟨Nat.le_of_ble_eq_true rfl, Nat.le_of_ble_eq_true rfl⟩ ⟨rfl, rfl⟩ dX12_text_86 rfl (fun r89 σ89 h89 => ?_)
        have h89 := h89.symm
        subst h89
        refine go_aload_n (i := 0) (pc' := 90) dX12_text_89 rfl rfl rfl ?_
        refine gf_13_letters (pc' := 93) dX12_text_90 rfl fl_X12_142 ?_
        have g90 := ixi_20 w52.1
        refine gz_icmp_ge (tgt := 99) (pc' := 96) dX12_text_93 rfl (by decide) (fun c91 => ?_) (fun c91 => ?_)
        · refine go_aload_n (i := 0) (pc' := 100) dX12_text_99 rfl rfl rfl ?_
          refine go_iconst (v := 2) (pc' := 101) dX12_text_100 rfl (by decide) ?_
          refine pf_13_faultKind (pc' := 104) dX12_text_101 rfl fl_X12_236 ?_
          refine go_gen (P := fun s => WMt σ s ∧ KP σ52 s ∧ s.1 26 = (2 : Int32)) ⟨⟨ixs_n w52.1 (by decide), Ag_setI w52.2 (by decide)⟩, ⟨⟨rfl, rfl, rfl, rfl⟩, setI_same _ _ _⟩⟩ (fun σ92 z92 => ?_)
          obtain ⟨w92, g92⟩ := z92
          have kk := KP_trans kk g92.1
          have f26 := congrArg Int32.toInt g92.2
          refine go_aload_n (i := 0) (pc' := 105) dX12_text_104 rfl rfl rfl ?_
          refine go_iload_n (i := 2) (pc' := 106) dX12_text_105 rfl rfl rfl ?_
          refine pf_13_faultAt (pc' := 109) dX12_text_106 rfl fl_X12_92 ?_
          refine go_gen (P := fun s => WMt σ s ∧ KP σ92 s ∧ s.1 26 = σ92.1 26) ⟨⟨ixs_n w92.1 (by decide), Ag_setI w92.2 (by decide)⟩, ⟨⟨rfl, rfl, rfl, rfl⟩, rfl⟩⟩ (fun σ93 z93 => ?_)
          obtain ⟨w93, g93⟩ := z93
          have kk := KP_trans kk g93.1
          have f26b := congrArg Int32.toInt g93.2
          refine gz_iinc (c := 1) (pc' := 112) dX12_text_109 rfl rfl (by decide) (by decide) (by decide) (by omega) (fun v94 h94 e94 => ?_)
          refine go_goto (tgt := 38) dX12_text_112 (by decide) ?_
          exact go_lv (lv' := [(0, .ref (L.2.1 13)), (1, .int a), (2, .int v94)]) rfl (ih52 _ (by omega) σ93 v94 w93 (by omega) kk (by first | exact hf_52 | exact (fun q => by exfalso; omega)) rfl)
        refine go_goto (tgt := 109) dX12_text_96 (by decide) ?_
        refine gz_iinc (c := 1) (pc' := 112) dX12_text_109 rfl rfl (by decide) (by decide) (by decide) (by omega) (fun v95 h95 e95 => ?_)
        refine go_goto (tgt := 38) dX12_text_112 (by decide) ?_
        exact go_lv (lv' := [(0, .ref (L.2.1 13)), (1, .int a), (2, .int v95)]) rfl (ih52 _ (by omega) σ52 v95 w52 (by omega) kk (by first | exact hf_52 | exact (fun q => by exfalso; omega)) rfl)
    exact go_lv (lv' := [(0, .ref (L.2.1 13)), (1, .int a), (2, .int (0 : Int32))]) rfl (loop38_52 _ σ51 (0 : Int32) w51 (by omega) kk (by first | exact (fun _ => tk_neg (by omega)) | exact (fun q => by exfalso; omega)) rfl)
  refine go_bipush (v := (-2)) (pc' := 10) dX12_text_8 rfl (by decide) ?_
  exact go_iret dX12_text_10 rfl (Or.inl ⟨by omega, rfl⟩)
