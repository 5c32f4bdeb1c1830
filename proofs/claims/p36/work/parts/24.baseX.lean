def sX_padd (σ : ST) (n q : Int32) (r : Int32) (σ2 : ST) : Prop := ((10 ≤ (σ.1 2).toInt) ∧ r = -4 ∧ σ2 = σ) ∨ (((σ.1 2).toInt < 10) ∧ r = σ.1 2 ∧ σ2 = setI (setA (setA (setA (setA (setA σ 19 (σ.1 2).toNatClampNeg n) 20 (σ.1 2).toNatClampNeg q) 21 (σ.1 2).toNatClampNeg 0) 22 (σ.1 2).toNatClampNeg 9999) 23 (σ.1 2).toNatClampNeg 0) 2 (σ.1 2 + 1))
def sX_person (σ : ST) (n q : Int32) (r : Int32) (σ2 : ST) : Prop := (((1 ≤ n.toInt ∧ n.toInt ≤ 99) ∧ (0 ≤ q.toInt ∧ q.toInt < 6)) ∧ sX_padd σ n q r σ2) ∨ (¬ ((1 ≤ n.toInt ∧ n.toInt ≤ 99) ∧ (0 ≤ q.toInt ∧ q.toInt < 6)) ∧ r = -2 ∧ σ2 = σ)
def sX_lived (σ : ST) (p a b : Int32) (r : Int32) (σ2 : ST) : Prop := ((((0 ≤ p.toInt ∧ p.toInt < (σ.1 2).toInt) ∧ (0 ≤ a.toInt ∧ a.toInt ≤ 9999) ∧ (0 ≤ b.toInt ∧ b.toInt ≤ 9999))) ∧ r = 1 ∧ σ2 = setA (setA σ 21 (p).toNatClampNeg a) 22 (p).toNatClampNeg b) ∨ ((¬ ((0 ≤ p.toInt ∧ p.toInt < (σ.1 2).toInt) ∧ (0 ≤ a.toInt ∧ a.toInt ≤ 9999) ∧ (0 ≤ b.toInt ∧ b.toInt ≤ 9999))) ∧ r = -2 ∧ σ2 = σ)
def sX_days (σ : ST) (m a b : Int32) (r : Int32) (σ2 : ST) : Prop := ((((0 ≤ m.toInt ∧ m.toInt < (σ.1 3).toInt) ∧ (0 ≤ a.toInt ∧ a.toInt ≤ 9999) ∧ (0 ≤ b.toInt ∧ b.toInt ≤ 9999) ∧ a.toInt ≤ b.toInt)) ∧ r = 1 ∧ σ2 = setA (setA σ 28 (m).toNatClampNeg a) 29 (m).toNatClampNeg b) ∨ ((¬ ((0 ≤ m.toInt ∧ m.toInt < (σ.1 3).toInt) ∧ (0 ≤ a.toInt ∧ a.toInt ≤ 9999) ∧ (0 ≤ b.toInt ∧ b.toInt ≤ 9999) ∧ a.toInt ≤ b.toInt)) ∧ r = -2 ∧ σ2 = σ)
def sX_week (σ : ST) (m a : Int32) (r : Int32) (σ2 : ST) : Prop := ((((0 ≤ m.toInt ∧ m.toInt < (σ.1 3).toInt) ∧ -1 ≤ a.toInt ∧ a.toInt < 7)) ∧ r = 1 ∧ σ2 = setA σ 30 (m).toNatClampNeg a) ∨ ((¬ ((0 ≤ m.toInt ∧ m.toInt < (σ.1 3).toInt) ∧ -1 ≤ a.toInt ∧ a.toInt < 7)) ∧ r = -2 ∧ σ2 = σ)
def sX_badd (σ : ST) (a b d : Int32) (r : Int32) (σ2 : ST) : Prop := ((20 ≤ (σ.1 4).toInt) ∧ r = -4 ∧ σ2 = σ) ∨ (((σ.1 4).toInt < 20) ∧ r = σ.1 4 + 1 ∧ σ2 = setI (setA (setA (setA σ 35 (σ.1 4).toNatClampNeg a) 36 (σ.1 4).toNatClampNeg b) 37 (σ.1 4).toNatClampNeg d) 4 (σ.1 4 + 1))
def sX_bound (σ : ST) (a b d : Int32) (r : Int32) (σ2 : ST) : Prop := (((0 ≤ a.toInt ∧ a.toInt < (σ.1 3).toInt) ∧ (0 ≤ b.toInt ∧ b.toInt < (σ.1 3).toInt) ∧ a.toInt ≠ b.toInt ∧ -500 ≤ d.toInt ∧ d.toInt ≤ 500) ∧ sX_badd σ a b d r σ2) ∨ (¬ ((0 ≤ a.toInt ∧ a.toInt < (σ.1 3).toInt) ∧ (0 ≤ b.toInt ∧ b.toInt < (σ.1 3).toInt) ∧ a.toInt ≠ b.toInt ∧ -500 ≤ d.toInt ∧ d.toInt ≤ 500) ∧ r = -2 ∧ σ2 = σ)
def sX_loose (σ : ST)  (r : Int32) (σ2 : ST) : Prop := (((σ.1 4).toInt = 0) ∧ r = -3 ∧ σ2 = σ) ∨ (((σ.1 4).toInt ≠ 0) ∧ r = σ.1 4 - 1 ∧ σ2 = setI σ 4 (σ.1 4 - 1))
def sX_found (σ : ST) (a b : Int32) (r : Int32) (σ2 : ST) : Prop := ((¬ ((0 ≤ a.toInt ∧ a.toInt < (σ.1 3).toInt) ∧ (0 ≤ b.toInt ∧ b.toInt < (σ.1 3).toInt) ∧ (σ.2 24 (a).toNatClampNeg).toInt = 4 ∧ (σ.2 24 (b).toNatClampNeg).toInt ≠ 4)) ∧ r = -2 ∧ σ2 = σ) ∨ ((((0 ≤ a.toInt ∧ a.toInt < (σ.1 3).toInt) ∧ (0 ≤ b.toInt ∧ b.toInt < (σ.1 3).toInt) ∧ (σ.2 24 (a).toNatClampNeg).toInt = 4 ∧ (σ.2 24 (b).toNatClampNeg).toInt ≠ 4) ∧ (σ.2 31 (a).toNatClampNeg).toInt ≠ -1) ∧ r = -3 ∧ σ2 = σ) ∨ ((((0 ≤ a.toInt ∧ a.toInt < (σ.1 3).toInt) ∧ (0 ≤ b.toInt ∧ b.toInt < (σ.1 3).toInt) ∧ (σ.2 24 (a).toNatClampNeg).toInt = 4 ∧ (σ.2 24 (b).toNatClampNeg).toInt ≠ 4) ∧ (σ.2 31 (a).toNatClampNeg).toInt = -1) ∧ r = 1 ∧ σ2 = setA σ 31 (a).toNatClampNeg b)
def sX_lose (σ : ST) (a : Int32) (r : Int32) (σ2 : ST) : Prop := ((¬ (0 ≤ a.toInt ∧ a.toInt < (σ.1 3).toInt)) ∧ r = -2 ∧ σ2 = σ) ∨ (((0 ≤ a.toInt ∧ a.toInt < (σ.1 3).toInt) ∧ (σ.2 31 (a).toNatClampNeg).toInt = -1) ∧ r = -3 ∧ σ2 = σ) ∨ (((0 ≤ a.toInt ∧ a.toInt < (σ.1 3).toInt) ∧ (σ.2 31 (a).toNatClampNeg).toInt ≠ -1) ∧ r = 1 ∧ σ2 = setA σ 31 (a).toNatClampNeg (-1))
def sX_post (σ : ST) (a b u v : Int32) (r : Int32) (σ2 : ST) : Prop := ((((0 ≤ a.toInt ∧ a.toInt < 6) ∧ (0 ≤ b.toInt ∧ b.toInt < 6) ∧ (0 ≤ u.toInt ∧ u.toInt ≤ 400) ∧ (0 ≤ v.toInt ∧ v.toInt ≤ 400) ∧ u.toInt ≤ v.toInt)) ∧ r = 1 ∧ σ2 = setA (setA σ (80 + (a).toNatClampNeg) (b).toNatClampNeg u) (86 + (a).toNatClampNeg) (b).toNatClampNeg v) ∨ ((¬ ((0 ≤ a.toInt ∧ a.toInt < 6) ∧ (0 ≤ b.toInt ∧ b.toInt < 6) ∧ (0 ≤ u.toInt ∧ u.toInt ≤ 400) ∧ (0 ≤ v.toInt ∧ v.toInt ≤ 400) ∧ u.toInt ≤ v.toInt)) ∧ r = -2 ∧ σ2 = σ)
def sX_ladd (σ : ST) (k a b q : Int32) (r : Int32) (σ2 : ST) : Prop := ((12 ≤ (σ.1 3).toInt) ∧ r = -4 ∧ σ2 = σ) ∨ (((σ.1 3).toInt < 12) ∧ r = σ.1 3 ∧ σ2 = setI (setA (setA (setA (setA (setA (setA (setA (setA (setA σ 24 (σ.1 3).toNatClampNeg k) 25 (σ.1 3).toNatClampNeg a) 26 (σ.1 3).toNatClampNeg b) 27 (σ.1 3).toNatClampNeg q) 28 (σ.1 3).toNatClampNeg 0) 29 (σ.1 3).toNatClampNeg 9999) 30 (σ.1 3).toNatClampNeg (-1)) 31 (σ.1 3).toNatClampNeg (-1)) 32 (σ.1 3).toNatClampNeg 0) 3 (σ.1 3 + 1))
def sX_letter (σ : ST) (k a b q : Int32) (r : Int32) (σ2 : ST) : Prop := (((0 ≤ k.toInt ∧ k.toInt < 6) ∧ (0 ≤ a.toInt ∧ a.toInt < (σ.1 2).toInt) ∧ (0 ≤ b.toInt ∧ b.toInt < (σ.1 2).toInt) ∧ (0 ≤ q.toInt ∧ q.toInt < 6)) ∧ sX_ladd σ k a b q r σ2) ∨ (¬ ((0 ≤ k.toInt ∧ k.toInt < 6) ∧ (0 ≤ a.toInt ∧ a.toInt < (σ.1 2).toInt) ∧ (0 ≤ b.toInt ∧ b.toInt < (σ.1 2).toInt) ∧ (0 ≤ q.toInt ∧ q.toInt < 6)) ∧ r = -2 ∧ σ2 = σ)
def sX_cell (σ : ST) (t i v : Int32) (r : Int32) (σ2 : ST) : Prop := ((¬ (0 ≤ t.toInt ∧ t.toInt < 4)) ∧ r = -2 ∧ σ2 = σ) ∨ (((0 ≤ t.toInt ∧ t.toInt < 4) ∧ (σ.2 55 (t).toNatClampNeg).toInt = -1) ∧ r = -11 ∧ σ2 = σ) ∨ (((0 ≤ t.toInt ∧ t.toInt < 4) ∧ (σ.2 55 (t).toNatClampNeg).toInt ≠ -1 ∧ ¬ (0 ≤ i.toInt ∧ i.toInt < (σ.2 55 (t).toNatClampNeg).toInt)) ∧ r = -12 ∧ σ2 = σ) ∨ (((0 ≤ t.toInt ∧ t.toInt < 4) ∧ (σ.2 55 (t).toNatClampNeg).toInt ≠ -1 ∧ 0 ≤ i.toInt ∧ i.toInt < (σ.2 55 (t).toNatClampNeg).toInt) ∧ r = 1 ∧ σ2 = setA σ (92 + (t).toNatClampNeg) (i).toNatClampNeg v.toInt8.toInt32.toInt8.toInt32)
set_option maxHeartbeats 4000000 in
set_option maxRecDepth 100000 in
theorem e_X4_add (l : Launch) (L : WL) (σ : ST) (n q : Int32) (ix : IV σ) : CtI l L yX4_add cX4_add 3 (some .int) rm_X4_add [.ref (L.2.1 1), .int n, .int q] σ (fun r σ2 => sX_padd σ n q r σ2) := by
  refine ctI_go (own := RX4) (by decide) rfl (Nat.le_of_ble_eq_true rfl) (fun F hF => ?_)
  subst hF
  have nm4 : (-4 : Int32).toInt = -4 := by decide
  have n0 : (0 : Int32).toInt = 0 := by decide
  have n1 : (1 : Int32).toInt = 1 := by decide
  have n10 : (10 : Int32).toInt = 10 := by decide
  have n9999 : (9999 : Int32).toInt = 9999 := by decide
  have w0 : WX σ σ := WX_rfl ix
  refine go_aload_n (i := 0) (pc' := 1) dX4_add_0 rfl rfl rfl ?_
  refine gf_1_size (pc' := 4) dX4_add_1 rfl fl_X4_27 ?_
  have g1 := ixi_2 ix
  refine go_bipush (v := 10) (pc' := 6) dX4_add_4 rfl (by decide) ?_
  refine gz_icmp_lt (tgt := 12) (pc' := 9) dX4_add_6 rfl (by decide) (fun c2 => ?_) (fun c2 => ?_)
  · refine go_aload_n (i := 0) (pc' := 13) dX4_add_12 rfl rfl rfl ?_
    refine gf_1_names (pc' := 16) dX4_add_13 rfl fl_X4_11 ?_
    refine go_aload_n (i := 0) (pc' := 17) dX4_add_16 rfl rfl rfl ?_
    refine gf_1_size (pc' := 20) dX4_add_17 rfl fl_X4_27 ?_
    have g3 := ixi_2 ix
    refine go_iload_n (i := 1) (pc' := 21) dX4_add_20 rfl rfl rfl ?_
    refine go_iast (pc' := 22) dX4_add_21 rfl (by decide) (by decide) rfl (vin_of (n := 10) (by omega) (by omega)) ?_
    refine go_aload_n (i := 0) (pc' := 23) dX4_add_22 rfl rfl rfl ?_
    refine gf_1_places (pc' := 26) dX4_add_23 rfl fl_X4_15 ?_
    refine go_aload_n (i := 0) (pc' := 27) dX4_add_26 rfl rfl rfl ?_
    refine gf_1_size (pc' := 30) dX4_add_27 rfl fl_X4_27 ?_
    refine go_topq (y := (σ.1 2)) rfl ?_
    have g4 := ixi_2 ix
    refine go_iload_n (i := 2) (pc' := 31) dX4_add_30 rfl rfl rfl ?_
    refine go_iast (pc' := 32) dX4_add_31 rfl (by decide) (by decide) rfl (vin_of (n := 10) (by omega) (by omega)) ?_
    refine go_aload_n (i := 0) (pc' := 33) dX4_add_32 rfl rfl rfl ?_
    refine gf_1_firsts (pc' := 36) dX4_add_33 rfl fl_X4_18 ?_
    refine go_aload_n (i := 0) (pc' := 37) dX4_add_36 rfl rfl rfl ?_
    refine gf_1_size (pc' := 40) dX4_add_37 rfl fl_X4_27 ?_
    refine go_topq (y := (σ.1 2)) rfl ?_
    have g5 := ixi_2 ix
    refine go_iconst (v := 0) (pc' := 41) dX4_add_40 rfl (by decide) ?_
    refine go_iast (pc' := 42) dX4_add_41 rfl (by decide) (by decide) rfl (vin_of (n := 10) (by omega) (by omega)) ?_
    refine go_aload_n (i := 0) (pc' := 43) dX4_add_42 rfl rfl rfl ?_
    refine gf_1_lasts (pc' := 46) dX4_add_43 rfl fl_X4_21 ?_
    refine go_aload_n (i := 0) (pc' := 47) dX4_add_46 rfl rfl rfl ?_
    refine gf_1_size (pc' := 50) dX4_add_47 rfl fl_X4_27 ?_
    refine go_topq (y := (σ.1 2)) rfl ?_
    have g6 := ixi_2 ix
    refine go_sipush (v := 9999) (pc' := 53) dX4_add_50 rfl (by decide) ?_
    refine go_iast (pc' := 54) dX4_add_53 rfl (by decide) (by decide) rfl (vin_of (n := 10) (by omega) (by omega)) ?_
    refine go_aload_n (i := 0) (pc' := 55) dX4_add_54 rfl rfl rfl ?_
    refine gf_1_known (pc' := 58) dX4_add_55 rfl fl_X4_24 ?_
    refine go_aload_n (i := 0) (pc' := 59) dX4_add_58 rfl rfl rfl ?_
    refine gf_1_size (pc' := 62) dX4_add_59 rfl fl_X4_27 ?_
    refine go_topq (y := (σ.1 2)) rfl ?_
    have g7 := ixi_2 ix
    refine go_iconst (v := 0) (pc' := 63) dX4_add_62 rfl (by decide) ?_
    refine go_iast (pc' := 64) dX4_add_63 rfl (by decide) (by decide) rfl (vin_of (n := 10) (by omega) (by omega)) ?_
    refine go_aload_n (i := 0) (pc' := 65) dX4_add_64 rfl rfl rfl ?_
    refine go_dup (pc' := 66) dX4_add_65 rfl rfl ?_
    refine gf_1_size (pc' := 69) dX4_add_66 rfl fl_X4_27 ?_
    refine go_topq (y := (σ.1 2)) rfl ?_
    have g8 := ixi_2 ix
    refine go_iconst (v := 1) (pc' := 70) dX4_add_69 rfl (by decide) ?_
    refine go_iadd (pc' := 71) dX4_add_70 rfl ?_
    refine pf_1_size (pc' := 74) dX4_add_71 rfl fl_X4_27 ?_
    refine go_aload_n (i := 0) (pc' := 75) dX4_add_74 rfl rfl rfl ?_
    refine gf_1_size (pc' := 78) dX4_add_75 rfl fl_X4_27 ?_
    refine go_topq (y := ((σ.1 2) + (1 : Int32))) rfl ?_
    refine go_iconst (v := 1) (pc' := 79) dX4_add_78 rfl (by decide) ?_
    refine go_isub (pc' := 80) dX4_add_79 rfl ?_
    exact go_iret dX4_add_80 rfl (Or.inr (⟨by omega, by first | rfl | omega | (exact Int32.add_sub_cancel _ _), rfl⟩))
  refine go_bipush (v := (-4)) (pc' := 11) dX4_add_9 rfl (by decide) ?_
  exact go_iret dX4_add_11 rfl (Or.inl ⟨by omega, by first | rfl | omega | (exact Int32.add_sub_cancel _ _), rfl⟩)
set_option maxHeartbeats 4000000 in
set_option maxRecDepth 100000 in
theorem e_X11_person (l : Launch) (L : WL) (σ : ST) (n q : Int32) (ix : IV σ) : CtI l L yX11_person cX11_person 3 (some .int) rm_X11_person [.ref (L.2.1 0), .int n, .int q] σ (fun r σ2 => sX_person σ n q r σ2) := by
  refine ctI_go (own := RX11) (by decide) rfl (Nat.le_of_ble_eq_true rfl) (fun F hF => ?_)
  subst hF
  have nm2 : (-2 : Int32).toInt = -2 := by decide
  have w0 : WX σ σ := WX_rfl ix
  refine go_iload_n (i := 1) (pc' := 1) dX11_person_0 rfl rfl rfl ?_
  refine go_csi (pc' := 4) ls_X11_96 (c_X11_isName _ _ _ _) rfl rfl (Nat.le_of_ble_eq_true rfl) ⟨Nat.le_of_ble_eq_true rfl, Nat.le_of_ble_eq_true rfl⟩ ⟨rfl, rfl⟩ dX11_person_1 rfl (fun r1 σ1 h1 => ?_)
  obtain ⟨e1, h1⟩ := h1
  have e1 := e1.symm
  subst e1
  refine go_eqB (tgt := 14) (pc' := 7) h1 dX11_person_4 rfl (by decide) (fun c2 => ?_) (fun c2 => ?_)
  · refine go_bipush (v := (-2)) (pc' := 16) dX11_person_14 rfl (by decide) ?_
    exact go_iret dX11_person_16 rfl (Or.inr ⟨by omega, rfl, rfl⟩)
  refine go_iload_n (i := 2) (pc' := 8) dX11_person_7 rfl rfl rfl ?_
  refine go_csi (pc' := 11) ls_X11_100 (c_X11_isPlace _ _ _ _) rfl rfl (Nat.le_of_ble_eq_true rfl) ⟨Nat.le_of_ble_eq_true rfl, Nat.le_of_ble_eq_true rfl⟩ ⟨rfl, rfl⟩ dX11_person_8 rfl (fun r3 σ3 h3 => ?_)
  obtain ⟨e3, h3⟩ := h3
  have e3 := e3.symm
  subst e3
  refine go_neB (tgt := 17) (pc' := 14) h3 dX11_person_11 rfl (by decide) (fun c4 => ?_) (fun c4 => ?_)
  · refine go_aload_n (i := 0) (pc' := 18) dX11_person_17 rfl rfl rfl ?_
    refine gf_0_people (pc' := 21) dX11_person_18 rfl fl_X11_10 ?_
    refine go_iload_n (i := 1) (pc' := 22) dX11_person_21 rfl rfl rfl ?_
    refine go_iload_n (i := 2) (pc' := 23) dX11_person_22 rfl rfl rfl ?_
    refine go_cvi (pc' := 26) lk_X11_103 (e_X4_add _ _ _ _ _ ix) rfl rfl (Nat.le_of_ble_eq_true rfl) (by decide) rfl rfl rfl ⟨Nat.le_of_ble_eq_true rfl, Nat.le_of_ble_eq_true rfl⟩ ⟨rfl, rfl⟩ dX11_person_23 rfl (fun r5 σ5 h5 => ?_)
    exact go_iret dX11_person_26 rfl (Or.inl ⟨by omega, h5⟩)
  refine go_bipush (v := (-2)) (pc' := 16) dX11_person_14 rfl (by decide) ?_
  exact go_iret dX11_person_16 rfl (Or.inr ⟨by omega, rfl, rfl⟩)
set_option maxHeartbeats 4000000 in
set_option maxRecDepth 100000 in
theorem e_X11_lived (l : Launch) (L : WL) (σ : ST) (p a b : Int32) (ix : IV σ) : CtI l L yX11_lived cX11_lived 4 (some .int) rm_X11_lived [.ref (L.2.1 0), .int p, .int a, .int b] σ (fun r σ2 => sX_lived σ p a b r σ2) := by
  refine ctI_go (own := RX11) (by decide) rfl (Nat.le_of_ble_eq_true rfl) (fun F hF => ?_)
  subst hF
  have nm2 : (-2 : Int32).toInt = -2 := by decide
  have n1 : (1 : Int32).toInt = 1 := by decide
  have w0 : WX σ σ := WX_rfl ix
  have gl := ixi_3 ix
  have gp := ixi_2 ix
  refine go_aload_n (i := 0) (pc' := 1) dX11_lived_0 rfl rfl rfl ?_
  refine gf_0_people (pc' := 4) dX11_lived_1 rfl fl_X11_10 ?_
  refine go_iload_n (i := 1) (pc' := 5) dX11_lived_4 rfl rfl rfl ?_
  refine go_cvi (pc' := 8) lk_X11_107 (c_X4_has _ _ _ _) rfl rfl (Nat.le_of_ble_eq_true rfl) (by decide) rfl rfl rfl ⟨Nat.le_of_ble_eq_true rfl, Nat.le_of_ble_eq_true rfl⟩ ⟨rfl, rfl⟩ dX11_lived_5 rfl (fun r1 σ1 h1 => ?_)
  obtain ⟨e1, h1⟩ := h1
  have e1 := e1.symm
  subst e1
  refine go_eqB (tgt := 25) (pc' := 11) h1 dX11_lived_8 rfl (by decide) (fun c2 => ?_) (fun c2 => ?_)
  · refine go_bipush (v := (-2)) (pc' := 27) dX11_lived_25 rfl (by decide) ?_
    exact go_iret dX11_lived_27 rfl (Or.inr (⟨by omega, by first | rfl | omega | (exact Int32.add_sub_cancel _ _), rfl⟩))
  refine go_iload_n (i := 2) (pc' := 12) dX11_lived_11 rfl rfl rfl ?_
  refine go_csi (pc' := 15) ls_X11_110 (c_X11_isDay _ _ _ _) rfl rfl (Nat.le_of_ble_eq_true rfl) ⟨Nat.le_of_ble_eq_true rfl, Nat.le_of_ble_eq_true rfl⟩ ⟨rfl, rfl⟩ dX11_lived_12 rfl (fun r3 σ3 h3 => ?_)
  obtain ⟨e3, h3⟩ := h3
  have e3 := e3.symm
  subst e3
  refine go_eqB (tgt := 25) (pc' := 18) h3 dX11_lived_15 rfl (by decide) (fun c4 => ?_) (fun c4 => ?_)
  · refine go_bipush (v := (-2)) (pc' := 27) dX11_lived_25 rfl (by decide) ?_
    exact go_iret dX11_lived_27 rfl (Or.inr (⟨by omega, by first | rfl | omega | (exact Int32.add_sub_cancel _ _), rfl⟩))
  refine go_iload_n (i := 3) (pc' := 19) dX11_lived_18 rfl rfl rfl ?_
  refine go_csi (pc' := 22) ls_X11_110 (c_X11_isDay _ _ _ _) rfl rfl (Nat.le_of_ble_eq_true rfl) ⟨Nat.le_of_ble_eq_true rfl, Nat.le_of_ble_eq_true rfl⟩ ⟨rfl, rfl⟩ dX11_lived_19 rfl (fun r5 σ5 h5 => ?_)
  obtain ⟨e5, h5⟩ := h5
  have e5 := e5.symm
  subst e5
  refine go_neB (tgt := 28) (pc' := 25) h5 dX11_lived_22 rfl (by decide) (fun c6 => ?_) (fun c6 => ?_)
  · refine go_aload_n (i := 0) (pc' := 29) dX11_lived_28 rfl rfl rfl ?_
    refine gf_0_people (pc' := 32) dX11_lived_29 rfl fl_X11_10 ?_
    refine gf_1_firsts (pc' := 35) dX11_lived_32 rfl fl_X11_113 ?_
    refine go_iload_n (i := 1) (pc' := 36) dX11_lived_35 rfl rfl rfl ?_
    refine go_iload_n (i := 2) (pc' := 37) dX11_lived_36 rfl rfl rfl ?_
    refine go_iast (pc' := 38) dX11_lived_37 rfl (by decide) (by decide) rfl (vin_of (n := 10) (by omega) (by omega)) ?_
    refine go_aload_n (i := 0) (pc' := 39) dX11_lived_38 rfl rfl rfl ?_
    refine gf_0_people (pc' := 42) dX11_lived_39 rfl fl_X11_10 ?_
    refine gf_1_lasts (pc' := 45) dX11_lived_42 rfl fl_X11_117 ?_
    refine go_iload_n (i := 1) (pc' := 46) dX11_lived_45 rfl rfl rfl ?_
    refine go_iload_n (i := 3) (pc' := 47) dX11_lived_46 rfl rfl rfl ?_
    refine go_iast (pc' := 48) dX11_lived_47 rfl (by decide) (by decide) rfl (vin_of (n := 10) (by omega) (by omega)) ?_
    refine go_iconst (v := 1) (pc' := 49) dX11_lived_48 rfl (by decide) ?_
    exact go_iret dX11_lived_49 rfl (Or.inl ⟨by omega, by first | rfl | omega | (exact Int32.add_sub_cancel _ _), rfl⟩)
  refine go_bipush (v := (-2)) (pc' := 27) dX11_lived_25 rfl (by decide) ?_
  exact go_iret dX11_lived_27 rfl (Or.inr (⟨by omega, by first | rfl | omega | (exact Int32.add_sub_cancel _ _), rfl⟩))
set_option maxHeartbeats 4000000 in
set_option maxRecDepth 100000 in
theorem e_X11_days (l : Launch) (L : WL) (σ : ST) (m a b : Int32) (ix : IV σ) : CtI l L yX11_days cX11_days 4 (some .int) rm_X11_days [.ref (L.2.1 0), .int m, .int a, .int b] σ (fun r σ2 => sX_days σ m a b r σ2) := by
  refine ctI_go (own := RX11) (by decide) rfl (Nat.le_of_ble_eq_true rfl) (fun F hF => ?_)
  subst hF
  have nm2 : (-2 : Int32).toInt = -2 := by decide
  have n1 : (1 : Int32).toInt = 1 := by decide
  have w0 : WX σ σ := WX_rfl ix
  have gl := ixi_3 ix
  have gp := ixi_2 ix
  refine go_aload_n (i := 0) (pc' := 1) dX11_days_0 rfl rfl rfl ?_
  refine gf_0_letters (pc' := 4) dX11_days_1 rfl fl_X11_19 ?_
  refine go_iload_n (i := 1) (pc' := 5) dX11_days_4 rfl rfl rfl ?_
  refine go_cvi (pc' := 8) lk_X11_130 (c_X2_has _ _ _ _) rfl rfl (Nat.le_of_ble_eq_true rfl) (by decide) rfl rfl rfl ⟨Nat.le_of_ble_eq_true rfl, Nat.le_of_ble_eq_true rfl⟩ ⟨rfl, rfl⟩ dX11_days_5 rfl (fun r1 σ1 h1 => ?_)
  obtain ⟨e1, h1⟩ := h1
  have e1 := e1.symm
  subst e1
  refine go_eqB (tgt := 30) (pc' := 11) h1 dX11_days_8 rfl (by decide) (fun c2 => ?_) (fun c2 => ?_)
  · refine go_bipush (v := (-2)) (pc' := 32) dX11_days_30 rfl (by decide) ?_
    exact go_iret dX11_days_32 rfl (Or.inr (⟨by omega, by first | rfl | omega | (exact Int32.add_sub_cancel _ _), rfl⟩))
  refine go_iload_n (i := 2) (pc' := 12) dX11_days_11 rfl rfl rfl ?_
  refine go_csi (pc' := 15) ls_X11_110 (c_X11_isDay _ _ _ _) rfl rfl (Nat.le_of_ble_eq_true rfl) ⟨Nat.le_of_ble_eq_true rfl, Nat.le_of_ble_eq_true rfl⟩ ⟨rfl, rfl⟩ dX11_days_12 rfl (fun r3 σ3 h3 => ?_)
  obtain ⟨e3, h3⟩ := h3
  have e3 := e3.symm
  subst e3
  refine go_eqB (tgt := 30) (pc' := 18) h3 dX11_days_15 rfl (by decide) (fun c4 => ?_) (fun c4 => ?_)
  · refine go_bipush (v := (-2)) (pc' := 32) dX11_days_30 rfl (by decide) ?_
    exact go_iret dX11_days_32 rfl (Or.inr (⟨by omega, by first | rfl | omega | (exact Int32.add_sub_cancel _ _), rfl⟩))
  refine go_iload_n (i := 3) (pc' := 19) dX11_days_18 rfl rfl rfl ?_
  refine go_csi (pc' := 22) ls_X11_110 (c_X11_isDay _ _ _ _) rfl rfl (Nat.le_of_ble_eq_true rfl) ⟨Nat.le_of_ble_eq_true rfl, Nat.le_of_ble_eq_true rfl⟩ ⟨rfl, rfl⟩ dX11_days_19 rfl (fun r5 σ5 h5 => ?_)
  obtain ⟨e5, h5⟩ := h5
  have e5 := e5.symm
  subst e5
  refine go_eqB (tgt := 30) (pc' := 25) h5 dX11_days_22 rfl (by decide) (fun c6 => ?_) (fun c6 => ?_)
  · refine go_bipush (v := (-2)) (pc' := 32) dX11_days_30 rfl (by decide) ?_
    exact go_iret dX11_days_32 rfl (Or.inr (⟨by omega, by first | rfl | omega | (exact Int32.add_sub_cancel _ _), rfl⟩))
  refine go_iload_n (i := 2) (pc' := 26) dX11_days_25 rfl rfl rfl ?_
  refine go_iload_n (i := 3) (pc' := 27) dX11_days_26 rfl rfl rfl ?_
  refine gz_icmp_le (tgt := 33) (pc' := 30) dX11_days_27 rfl (by decide) (fun c7 => ?_) (fun c7 => ?_)
  · refine go_aload_n (i := 0) (pc' := 34) dX11_days_33 rfl rfl rfl ?_
    refine gf_0_letters (pc' := 37) dX11_days_34 rfl fl_X11_19 ?_
    refine gf_2_leasts (pc' := 40) dX11_days_37 rfl fl_X11_143 ?_
    refine go_iload_n (i := 1) (pc' := 41) dX11_days_40 rfl rfl rfl ?_
    refine go_iload_n (i := 2) (pc' := 42) dX11_days_41 rfl rfl rfl ?_
    refine go_iast (pc' := 43) dX11_days_42 rfl (by decide) (by decide) rfl (vin_of (n := 12) (by omega) (by omega)) ?_
    refine go_aload_n (i := 0) (pc' := 44) dX11_days_43 rfl rfl rfl ?_
    refine gf_0_letters (pc' := 47) dX11_days_44 rfl fl_X11_19 ?_
    refine gf_2_greatests (pc' := 50) dX11_days_47 rfl fl_X11_146 ?_
    refine go_iload_n (i := 1) (pc' := 51) dX11_days_50 rfl rfl rfl ?_
    refine go_iload_n (i := 3) (pc' := 52) dX11_days_51 rfl rfl rfl ?_
    refine go_iast (pc' := 53) dX11_days_52 rfl (by decide) (by decide) rfl (vin_of (n := 12) (by omega) (by omega)) ?_
    refine go_iconst (v := 1) (pc' := 54) dX11_days_53 rfl (by decide) ?_
    exact go_iret dX11_days_54 rfl (Or.inl ⟨by omega, by first | rfl | omega | (exact Int32.add_sub_cancel _ _), rfl⟩)
  refine go_bipush (v := (-2)) (pc' := 32) dX11_days_30 rfl (by decide) ?_
  exact go_iret dX11_days_32 rfl (Or.inr (⟨by omega, by first | rfl | omega | (exact Int32.add_sub_cancel _ _), rfl⟩))
set_option maxHeartbeats 4000000 in
set_option maxRecDepth 100000 in
theorem e_X11_week (l : Launch) (L : WL) (σ : ST) (m a : Int32) (ix : IV σ) : CtI l L yX11_week cX11_week 3 (some .int) rm_X11_week [.ref (L.2.1 0), .int m, .int a] σ (fun r σ2 => sX_week σ m a r σ2) := by
  refine ctI_go (own := RX11) (by decide) rfl (Nat.le_of_ble_eq_true rfl) (fun F hF => ?_)
  subst hF
  have nm2 : (-2 : Int32).toInt = -2 := by decide
  have nm1 : (-1 : Int32).toInt = -1 := by decide
  have n1 : (1 : Int32).toInt = 1 := by decide
  have n7 : (7 : Int32).toInt = 7 := by decide
  have w0 : WX σ σ := WX_rfl ix
  have gl := ixi_3 ix
  have gp := ixi_2 ix
  refine go_aload_n (i := 0) (pc' := 1) dX11_week_0 rfl rfl rfl ?_
  refine gf_0_letters (pc' := 4) dX11_week_1 rfl fl_X11_19 ?_
  refine go_iload_n (i := 1) (pc' := 5) dX11_week_4 rfl rfl rfl ?_
  refine go_cvi (pc' := 8) lk_X11_130 (c_X2_has _ _ _ _) rfl rfl (Nat.le_of_ble_eq_true rfl) (by decide) rfl rfl rfl ⟨Nat.le_of_ble_eq_true rfl, Nat.le_of_ble_eq_true rfl⟩ ⟨rfl, rfl⟩ dX11_week_5 rfl (fun r1 σ1 h1 => ?_)
  obtain ⟨e1, h1⟩ := h1
  have e1 := e1.symm
  subst e1
  refine go_eqB (tgt := 22) (pc' := 11) h1 dX11_week_8 rfl (by decide) (fun c2 => ?_) (fun c2 => ?_)
  · refine go_bipush (v := (-2)) (pc' := 24) dX11_week_22 rfl (by decide) ?_
    exact go_iret dX11_week_24 rfl (Or.inr (⟨by omega, by first | rfl | omega | (exact Int32.add_sub_cancel _ _), rfl⟩))
  refine go_iload_n (i := 2) (pc' := 12) dX11_week_11 rfl rfl rfl ?_
  refine go_iconst (v := (-1)) (pc' := 13) dX11_week_12 rfl (by decide) ?_
  refine gz_icmp_lt (tgt := 22) (pc' := 16) dX11_week_13 rfl (by decide) (fun c3 => ?_) (fun c3 => ?_)
  · refine go_bipush (v := (-2)) (pc' := 24) dX11_week_22 rfl (by decide) ?_
    exact go_iret dX11_week_24 rfl (Or.inr (⟨by omega, by first | rfl | omega | (exact Int32.add_sub_cancel _ _), rfl⟩))
  refine go_iload_n (i := 2) (pc' := 17) dX11_week_16 rfl rfl rfl ?_
  refine go_bipush (v := 7) (pc' := 19) dX11_week_17 rfl (by decide) ?_
  refine gz_icmp_lt (tgt := 25) (pc' := 22) dX11_week_19 rfl (by decide) (fun c4 => ?_) (fun c4 => ?_)
  · refine go_aload_n (i := 0) (pc' := 26) dX11_week_25 rfl rfl rfl ?_
    refine gf_0_letters (pc' := 29) dX11_week_26 rfl fl_X11_19 ?_
    refine gf_2_weekdays (pc' := 32) dX11_week_29 rfl fl_X11_149 ?_
    refine go_iload_n (i := 1) (pc' := 33) dX11_week_32 rfl rfl rfl ?_
    refine go_iload_n (i := 2) (pc' := 34) dX11_week_33 rfl rfl rfl ?_
    refine go_iast (pc' := 35) dX11_week_34 rfl (by decide) (by decide) rfl (vin_of (n := 12) (by omega) (by omega)) ?_
    refine go_iconst (v := 1) (pc' := 36) dX11_week_35 rfl (by decide) ?_
    exact go_iret dX11_week_36 rfl (Or.inl ⟨by omega, by first | rfl | omega | (exact Int32.add_sub_cancel _ _), rfl⟩)
  refine go_bipush (v := (-2)) (pc' := 24) dX11_week_22 rfl (by decide) ?_
  exact go_iret dX11_week_24 rfl (Or.inr (⟨by omega, by first | rfl | omega | (exact Int32.add_sub_cancel _ _), rfl⟩))
set_option maxHeartbeats 4000000 in
set_option maxRecDepth 100000 in
theorem e_X0_add (l : Launch) (L : WL) (σ : ST) (a b d : Int32) (ix : IV σ) : CtI l L yX0_add cX0_add 4 (some .int) rm_X0_add [.ref (L.2.1 3), .int a, .int b, .int d] σ (fun r σ2 => sX_badd σ a b d r σ2) := by
  refine ctI_go (own := RX0) (by decide) rfl (Nat.le_of_ble_eq_true rfl) (fun F hF => ?_)
  subst hF
  have nm4 : (-4 : Int32).toInt = -4 := by decide
  have n1 : (1 : Int32).toInt = 1 := by decide
  have n20 : (20 : Int32).toInt = 20 := by decide
  have w0 : WX σ σ := WX_rfl ix
  refine go_aload_n (i := 0) (pc' := 1) dX0_add_0 rfl rfl rfl ?_
  refine gf_3_size (pc' := 4) dX0_add_1 rfl fl_X0_20 ?_
  have g1 := ixi_4 ix
  refine go_bipush (v := 20) (pc' := 6) dX0_add_4 rfl (by decide) ?_
  refine gz_icmp_lt (tgt := 12) (pc' := 9) dX0_add_6 rfl (by decide) (fun c2 => ?_) (fun c2 => ?_)
  · refine go_aload_n (i := 0) (pc' := 13) dX0_add_12 rfl rfl rfl ?_
    refine gf_3_froms (pc' := 16) dX0_add_13 rfl fl_X0_24 ?_
    refine go_aload_n (i := 0) (pc' := 17) dX0_add_16 rfl rfl rfl ?_
    refine gf_3_size (pc' := 20) dX0_add_17 rfl fl_X0_20 ?_
    have g3 := ixi_4 ix
    refine go_iload_n (i := 1) (pc' := 21) dX0_add_20 rfl rfl rfl ?_
    refine go_iast (pc' := 22) dX0_add_21 rfl (by decide) (by decide) rfl (vin_of (n := 20) (by omega) (by omega)) ?_
    refine go_aload_n (i := 0) (pc' := 23) dX0_add_22 rfl rfl rfl ?_
    refine gf_3_tos (pc' := 26) dX0_add_23 rfl fl_X0_27 ?_
    refine go_aload_n (i := 0) (pc' := 27) dX0_add_26 rfl rfl rfl ?_
    refine gf_3_size (pc' := 30) dX0_add_27 rfl fl_X0_20 ?_
    refine go_topq (y := (σ.1 4)) rfl ?_
    have g4 := ixi_4 ix
    refine go_iload_n (i := 2) (pc' := 31) dX0_add_30 rfl rfl rfl ?_
    refine go_iast (pc' := 32) dX0_add_31 rfl (by decide) (by decide) rfl (vin_of (n := 20) (by omega) (by omega)) ?_
    refine go_aload_n (i := 0) (pc' := 33) dX0_add_32 rfl rfl rfl ?_
    refine gf_3_shifts (pc' := 36) dX0_add_33 rfl fl_X0_30 ?_
    refine go_aload_n (i := 0) (pc' := 37) dX0_add_36 rfl rfl rfl ?_
    refine gf_3_size (pc' := 40) dX0_add_37 rfl fl_X0_20 ?_
    refine go_topq (y := (σ.1 4)) rfl ?_
    have g5 := ixi_4 ix
    refine go_iload_n (i := 3) (pc' := 41) dX0_add_40 rfl rfl rfl ?_
    refine go_iast (pc' := 42) dX0_add_41 rfl (by decide) (by decide) rfl (vin_of (n := 20) (by omega) (by omega)) ?_
    refine go_aload_n (i := 0) (pc' := 43) dX0_add_42 rfl rfl rfl ?_
    refine go_dup (pc' := 44) dX0_add_43 rfl rfl ?_
    refine gf_3_size (pc' := 47) dX0_add_44 rfl fl_X0_20 ?_
    refine go_topq (y := (σ.1 4)) rfl ?_
    have g6 := ixi_4 ix
    refine go_iconst (v := 1) (pc' := 48) dX0_add_47 rfl (by decide) ?_
    refine go_iadd (pc' := 49) dX0_add_48 rfl ?_
    refine pf_3_size (pc' := 52) dX0_add_49 rfl fl_X0_20 ?_
    refine go_aload_n (i := 0) (pc' := 53) dX0_add_52 rfl rfl rfl ?_
    refine gf_3_size (pc' := 56) dX0_add_53 rfl fl_X0_20 ?_
    refine go_topq (y := ((σ.1 4) + (1 : Int32))) rfl ?_
    exact go_iret dX0_add_56 rfl (Or.inr (⟨by omega, by first | rfl | omega | (exact Int32.add_sub_cancel _ _), rfl⟩))
  refine go_bipush (v := (-4)) (pc' := 11) dX0_add_9 rfl (by decide) ?_
  exact go_iret dX0_add_11 rfl (Or.inl ⟨by omega, by first | rfl | omega | (exact Int32.add_sub_cancel _ _), rfl⟩)
set_option maxHeartbeats 4000000 in
set_option maxRecDepth 100000 in
theorem e_X11_bound (l : Launch) (L : WL) (σ : ST) (a b d : Int32) (ix : IV σ) : CtI l L yX11_bound cX11_bound 4 (some .int) rm_X11_bound [.ref (L.2.1 0), .int a, .int b, .int d] σ (fun r σ2 => sX_bound σ a b d r σ2) := by
  refine ctI_go (own := RX11) (by decide) rfl (Nat.le_of_ble_eq_true rfl) (fun F hF => ?_)
  subst hF
  have nm2 : (-2 : Int32).toInt = -2 := by decide
  have w0 : WX σ σ := WX_rfl ix
  refine go_aload_n (i := 0) (pc' := 1) dX11_bound_0 rfl rfl rfl ?_
  refine gf_0_letters (pc' := 4) dX11_bound_1 rfl fl_X11_19 ?_
  refine go_iload_n (i := 1) (pc' := 5) dX11_bound_4 rfl rfl rfl ?_
  refine go_cvi (pc' := 8) lk_X11_130 (c_X2_has _ _ _ _) rfl rfl (Nat.le_of_ble_eq_true rfl) (by decide) rfl rfl rfl ⟨Nat.le_of_ble_eq_true rfl, Nat.le_of_ble_eq_true rfl⟩ ⟨rfl, rfl⟩ dX11_bound_5 rfl (fun r1 σ1 h1 => ?_)
  obtain ⟨e1, h1⟩ := h1
  have e1 := e1.symm
  subst e1
  refine go_eqB (tgt := 34) (pc' := 11) h1 dX11_bound_8 rfl (by decide) (fun c2 => ?_) (fun c2 => ?_)
  · refine go_bipush (v := (-2)) (pc' := 36) dX11_bound_34 rfl (by decide) ?_
    exact go_iret dX11_bound_36 rfl (Or.inr ⟨by omega, rfl, rfl⟩)
  refine go_aload_n (i := 0) (pc' := 12) dX11_bound_11 rfl rfl rfl ?_
  refine gf_0_letters (pc' := 15) dX11_bound_12 rfl fl_X11_19 ?_
  refine go_iload_n (i := 2) (pc' := 16) dX11_bound_15 rfl rfl rfl ?_
  refine go_cvi (pc' := 19) lk_X11_130 (c_X2_has _ _ _ _) rfl rfl (Nat.le_of_ble_eq_true rfl) (by decide) rfl rfl rfl ⟨Nat.le_of_ble_eq_true rfl, Nat.le_of_ble_eq_true rfl⟩ ⟨rfl, rfl⟩ dX11_bound_16 rfl (fun r3 σ3 h3 => ?_)
  obtain ⟨e3, h3⟩ := h3
  have e3 := e3.symm
  subst e3
  refine go_eqB (tgt := 34) (pc' := 22) h3 dX11_bound_19 rfl (by decide) (fun c4 => ?_) (fun c4 => ?_)
  · refine go_bipush (v := (-2)) (pc' := 36) dX11_bound_34 rfl (by decide) ?_
    exact go_iret dX11_bound_36 rfl (Or.inr ⟨by omega, rfl, rfl⟩)
  refine go_iload_n (i := 1) (pc' := 23) dX11_bound_22 rfl rfl rfl ?_
  refine go_iload_n (i := 2) (pc' := 24) dX11_bound_23 rfl rfl rfl ?_
  refine gz_icmp_eq (tgt := 34) (pc' := 27) dX11_bound_24 rfl (by decide) (fun c5 => ?_) (fun c5 => ?_)
  · refine go_bipush (v := (-2)) (pc' := 36) dX11_bound_34 rfl (by decide) ?_
    exact go_iret dX11_bound_36 rfl (Or.inr ⟨by omega, rfl, rfl⟩)
  refine go_iload_n (i := 3) (pc' := 28) dX11_bound_27 rfl rfl rfl ?_
  refine go_csi (pc' := 31) ls_X11_158 (c_X0_isShift _ _ _ _) rfl rfl (Nat.le_of_ble_eq_true rfl) ⟨Nat.le_of_ble_eq_true rfl, Nat.le_of_ble_eq_true rfl⟩ ⟨rfl, rfl⟩ dX11_bound_28 rfl (fun r6 σ6 h6 => ?_)
  obtain ⟨e6, h6⟩ := h6
  have e6 := e6.symm
  subst e6
  refine go_neB (tgt := 37) (pc' := 34) h6 dX11_bound_31 rfl (by decide) (fun c7 => ?_) (fun c7 => ?_)
  · refine go_aload_n (i := 0) (pc' := 38) dX11_bound_37 rfl rfl rfl ?_
    refine gf_0_calendar (pc' := 41) dX11_bound_38 rfl fl_X11_26 ?_
    refine go_iload_n (i := 1) (pc' := 42) dX11_bound_41 rfl rfl rfl ?_
    refine go_iload_n (i := 2) (pc' := 43) dX11_bound_42 rfl rfl rfl ?_
    refine go_iload_n (i := 3) (pc' := 44) dX11_bound_43 rfl rfl rfl ?_
    refine go_cvi (pc' := 47) lk_X11_161 (e_X0_add _ _ _ _ _ _ ix) rfl rfl (Nat.le_of_ble_eq_true rfl) (by decide) rfl rfl rfl ⟨Nat.le_of_ble_eq_true rfl, Nat.le_of_ble_eq_true rfl⟩ ⟨rfl, rfl⟩ dX11_bound_44 rfl (fun r8 σ8 h8 => ?_)
    exact go_iret dX11_bound_47 rfl (Or.inl ⟨by omega, h8⟩)
  refine go_bipush (v := (-2)) (pc' := 36) dX11_bound_34 rfl (by decide) ?_
  exact go_iret dX11_bound_36 rfl (Or.inr ⟨by omega, rfl, rfl⟩)
set_option maxHeartbeats 4000000 in
set_option maxRecDepth 100000 in
theorem e_X0_removeLast (l : Launch) (L : WL) (σ : ST)  (ix : IV σ) : CtI l L yX0_removeLast cX0_removeLast 1 (some .int) rm_X0_removeLast [.ref (L.2.1 3)] σ (fun r σ2 => sX_loose σ r σ2) := by
  refine ctI_go (own := RX0) (by decide) rfl (Nat.le_of_ble_eq_true rfl) (fun F hF => ?_)
  subst hF
  have nm3 : (-3 : Int32).toInt = -3 := by decide
  have n1 : (1 : Int32).toInt = 1 := by decide
  have w0 : WX σ σ := WX_rfl ix
  refine go_aload_n (i := 0) (pc' := 1) dX0_removeLast_0 rfl rfl rfl ?_
  refine gf_3_size (pc' := 4) dX0_removeLast_1 rfl fl_X0_20 ?_
  have g1 := ixi_4 ix
  refine gz_if_ne (tgt := 10) (pc' := 7) dX0_removeLast_4 rfl (by decide) (fun c2 => ?_) (fun c2 => ?_)
  · refine go_aload_n (i := 0) (pc' := 11) dX0_removeLast_10 rfl rfl rfl ?_
    refine go_dup (pc' := 12) dX0_removeLast_11 rfl rfl ?_
    refine gf_3_size (pc' := 15) dX0_removeLast_12 rfl fl_X0_20 ?_
    have g3 := ixi_4 ix
    refine go_iconst (v := 1) (pc' := 16) dX0_removeLast_15 rfl (by decide) ?_
    refine go_isub (pc' := 17) dX0_removeLast_16 rfl ?_
    refine pf_3_size (pc' := 20) dX0_removeLast_17 rfl fl_X0_20 ?_
    refine go_aload_n (i := 0) (pc' := 21) dX0_removeLast_20 rfl rfl rfl ?_
    refine gf_3_size (pc' := 24) dX0_removeLast_21 rfl fl_X0_20 ?_
    refine go_topq (y := ((σ.1 4) - (1 : Int32))) rfl ?_
    exact go_iret dX0_removeLast_24 rfl (Or.inr (⟨by omega, by first | rfl | omega | (exact Int32.add_sub_cancel _ _), rfl⟩))
  refine go_bipush (v := (-3)) (pc' := 9) dX0_removeLast_7 rfl (by decide) ?_
  exact go_iret dX0_removeLast_9 rfl (Or.inl ⟨by omega, by first | rfl | omega | (exact Int32.add_sub_cancel _ _), rfl⟩)
set_option maxHeartbeats 4000000 in
set_option maxRecDepth 100000 in
theorem e_X11_loose (l : Launch) (L : WL) (σ : ST)  (ix : IV σ) : CtI l L yX11_loose cX11_loose 1 (some .int) rm_X11_loose [.ref (L.2.1 0)] σ (fun r σ2 => sX_loose σ r σ2) := by
  refine ctI_go (own := RX11) (by decide) rfl (Nat.le_of_ble_eq_true rfl) (fun F hF => ?_)
  subst hF
  have w0 : WX σ σ := WX_rfl ix
  refine go_aload_n (i := 0) (pc' := 1) dX11_loose_0 rfl rfl rfl ?_
  refine gf_0_calendar (pc' := 4) dX11_loose_1 rfl fl_X11_26 ?_
  refine go_cvi (pc' := 7) lk_X11_164 (e_X0_removeLast _ _ _ ix) rfl rfl (Nat.le_of_ble_eq_true rfl) (by decide) rfl rfl rfl ⟨Nat.le_of_ble_eq_true rfl, Nat.le_of_ble_eq_true rfl⟩ ⟨rfl, rfl⟩ dX11_loose_4 rfl (fun r1 σ1 h1 => ?_)
  exact go_iret dX11_loose_7 rfl (h1)
set_option maxHeartbeats 4000000 in
set_option maxRecDepth 100000 in
theorem e_X11_found (l : Launch) (L : WL) (σ : ST) (a b : Int32) (ix : IV σ) : CtI l L yX11_found cX11_found 3 (some .int) rm_X11_found [.ref (L.2.1 0), .int a, .int b] σ (fun r σ2 => sX_found σ a b r σ2) := by
  refine ctI_go (own := RX11) (by decide) rfl (Nat.le_of_ble_eq_true rfl) (fun F hF => ?_)
  subst hF
  have nm3 : (-3 : Int32).toInt = -3 := by decide
  have nm2 : (-2 : Int32).toInt = -2 := by decide
  have nm1 : (-1 : Int32).toInt = -1 := by decide
  have n1 : (1 : Int32).toInt = 1 := by decide
  have w0 : WX σ σ := WX_rfl ix
  have gl := ixi_3 ix
  have gp := ixi_2 ix
  refine go_aload_n (i := 0) (pc' := 1) dX11_found_0 rfl rfl rfl ?_
  refine gf_0_letters (pc' := 4) dX11_found_1 rfl fl_X11_19 ?_
  refine go_iload_n (i := 1) (pc' := 5) dX11_found_4 rfl rfl rfl ?_
  refine go_cvi (pc' := 8) lk_X11_130 (c_X2_has _ _ _ _) rfl rfl (Nat.le_of_ble_eq_true rfl) (by decide) rfl rfl rfl ⟨Nat.le_of_ble_eq_true rfl, Nat.le_of_ble_eq_true rfl⟩ ⟨rfl, rfl⟩ dX11_found_5 rfl (fun r1 σ1 h1 => ?_)
  obtain ⟨e1, h1⟩ := h1
  have e1 := e1.symm
  subst e1
  refine go_eqB (tgt := 44) (pc' := 11) h1 dX11_found_8 rfl (by decide) (fun c2 => ?_) (fun c2 => ?_)
  · refine go_bipush (v := (-2)) (pc' := 46) dX11_found_44 rfl (by decide) ?_
    exact go_iret dX11_found_46 rfl (Or.inl ⟨by omega, by first | rfl | omega | (exact Int32.add_sub_cancel _ _), rfl⟩)
  refine go_aload_n (i := 0) (pc' := 12) dX11_found_11 rfl rfl rfl ?_
  refine gf_0_letters (pc' := 15) dX11_found_12 rfl fl_X11_19 ?_
  refine go_iload_n (i := 2) (pc' := 16) dX11_found_15 rfl rfl rfl ?_
  refine go_cvi (pc' := 19) lk_X11_130 (c_X2_has _ _ _ _) rfl rfl (Nat.le_of_ble_eq_true rfl) (by decide) rfl rfl rfl ⟨Nat.le_of_ble_eq_true rfl, Nat.le_of_ble_eq_true rfl⟩ ⟨rfl, rfl⟩ dX11_found_16 rfl (fun r3 σ3 h3 => ?_)
  obtain ⟨e3, h3⟩ := h3
  have e3 := e3.symm
  subst e3
  refine go_eqB (tgt := 44) (pc' := 22) h3 dX11_found_19 rfl (by decide) (fun c4 => ?_) (fun c4 => ?_)
  · refine go_bipush (v := (-2)) (pc' := 46) dX11_found_44 rfl (by decide) ?_
    exact go_iret dX11_found_46 rfl (Or.inl ⟨by omega, by first | rfl | omega | (exact Int32.add_sub_cancel _ _), rfl⟩)
  refine go_aload_n (i := 0) (pc' := 23) dX11_found_22 rfl rfl rfl ?_
  refine gf_0_letters (pc' := 26) dX11_found_23 rfl fl_X11_19 ?_
  refine go_iload_n (i := 1) (pc' := 27) dX11_found_26 rfl rfl rfl ?_
  refine go_cvi (pc' := 30) lk_X11_168 (c_X2_isLost _ _ _ _ (by omega) ix) rfl rfl (Nat.le_of_ble_eq_true rfl) (by decide) rfl rfl rfl ⟨Nat.le_of_ble_eq_true rfl, Nat.le_of_ble_eq_true rfl⟩ ⟨rfl, rfl⟩ dX11_found_27 rfl (fun r5 σ5 h5 => ?_)
  obtain ⟨e5, h5⟩ := h5
  have e5 := e5.symm
  subst e5
  refine go_eqB (tgt := 44) (pc' := 33) h5 dX11_found_30 rfl (by decide) (fun c6 => ?_) (fun c6 => ?_)
  · refine go_bipush (v := (-2)) (pc' := 46) dX11_found_44 rfl (by decide) ?_
    exact go_iret dX11_found_46 rfl (Or.inl ⟨by omega, by first | rfl | omega | (exact Int32.add_sub_cancel _ _), rfl⟩)
  refine go_aload_n (i := 0) (pc' := 34) dX11_found_33 rfl rfl rfl ?_
  refine gf_0_letters (pc' := 37) dX11_found_34 rfl fl_X11_19 ?_
  refine go_iload_n (i := 2) (pc' := 38) dX11_found_37 rfl rfl rfl ?_
  refine go_cvi (pc' := 41) lk_X11_168 (c_X2_isLost _ _ _ _ (by omega) ix) rfl rfl (Nat.le_of_ble_eq_true rfl) (by decide) rfl rfl rfl ⟨Nat.le_of_ble_eq_true rfl, Nat.le_of_ble_eq_true rfl⟩ ⟨rfl, rfl⟩ dX11_found_38 rfl (fun r7 σ7 h7 => ?_)
  obtain ⟨e7, h7⟩ := h7
  have e7 := e7.symm
  subst e7
  refine go_eqB (tgt := 47) (pc' := 44) h7 dX11_found_41 rfl (by decide) (fun c8 => ?_) (fun c8 => ?_)
  · refine go_aload_n (i := 0) (pc' := 48) dX11_found_47 rfl rfl rfl ?_
    refine gf_0_letters (pc' := 51) dX11_found_48 rfl fl_X11_19 ?_
    refine gf_2_founds (pc' := 54) dX11_found_51 rfl fl_X11_152 ?_
    refine go_iload_n (i := 1) (pc' := 55) dX11_found_54 rfl rfl rfl ?_
    refine go_iald (pc' := 56) dX11_found_55 rfl (by decide) (by decide) rfl (vin_of (n := 12) (by omega) (by omega)) ?_
    have g9 := ixa_31 ix (a).toNatClampNeg (vinlt (show vp_in a 12 from (vin_of (n := 12) (by omega) (by omega))))
    refine go_iconst (v := (-1)) (pc' := 57) dX11_found_56 rfl (by decide) ?_
    refine gz_icmp_eq (tgt := 63) (pc' := 60) dX11_found_57 rfl (by decide) (fun c10 => ?_) (fun c10 => ?_)
    · refine go_aload_n (i := 0) (pc' := 64) dX11_found_63 rfl rfl rfl ?_
      refine gf_0_letters (pc' := 67) dX11_found_64 rfl fl_X11_19 ?_
      refine gf_2_founds (pc' := 70) dX11_found_67 rfl fl_X11_152 ?_
      refine go_iload_n (i := 1) (pc' := 71) dX11_found_70 rfl rfl rfl ?_
      refine go_iload_n (i := 2) (pc' := 72) dX11_found_71 rfl rfl rfl ?_
      refine go_iast (pc' := 73) dX11_found_72 rfl (by decide) (by decide) rfl (vin_of (n := 12) (by omega) (by omega)) ?_
      refine go_iconst (v := 1) (pc' := 74) dX11_found_73 rfl (by decide) ?_
      exact go_iret dX11_found_74 rfl (Or.inr (Or.inr (⟨by omega, by first | rfl | omega | (exact Int32.add_sub_cancel _ _), rfl⟩)))
    refine go_bipush (v := (-3)) (pc' := 62) dX11_found_60 rfl (by decide) ?_
    exact go_iret dX11_found_62 rfl (Or.inr (Or.inl ⟨by omega, by first | rfl | omega | (exact Int32.add_sub_cancel _ _), rfl⟩))
  refine go_bipush (v := (-2)) (pc' := 46) dX11_found_44 rfl (by decide) ?_
  exact go_iret dX11_found_46 rfl (Or.inl ⟨by omega, by first | rfl | omega | (exact Int32.add_sub_cancel _ _), rfl⟩)
set_option maxHeartbeats 4000000 in
set_option maxRecDepth 100000 in
theorem e_X11_lose (l : Launch) (L : WL) (σ : ST) (a : Int32) (ix : IV σ) : CtI l L yX11_lose cX11_lose 2 (some .int) rm_X11_lose [.ref (L.2.1 0), .int a] σ (fun r σ2 => sX_lose σ a r σ2) := by
  refine ctI_go (own := RX11) (by decide) rfl (Nat.le_of_ble_eq_true rfl) (fun F hF => ?_)
  subst hF
  have nm3 : (-3 : Int32).toInt = -3 := by decide
  have nm2 : (-2 : Int32).toInt = -2 := by decide
  have nm1 : (-1 : Int32).toInt = -1 := by decide
  have n1 : (1 : Int32).toInt = 1 := by decide
  have w0 : WX σ σ := WX_rfl ix
  have gl := ixi_3 ix
  have gp := ixi_2 ix
  refine go_aload_n (i := 0) (pc' := 1) dX11_lose_0 rfl rfl rfl ?_
  refine gf_0_letters (pc' := 4) dX11_lose_1 rfl fl_X11_19 ?_
  refine go_iload_n (i := 1) (pc' := 5) dX11_lose_4 rfl rfl rfl ?_
  refine go_cvi (pc' := 8) lk_X11_130 (c_X2_has _ _ _ _) rfl rfl (Nat.le_of_ble_eq_true rfl) (by decide) rfl rfl rfl ⟨Nat.le_of_ble_eq_true rfl, Nat.le_of_ble_eq_true rfl⟩ ⟨rfl, rfl⟩ dX11_lose_5 rfl (fun r1 σ1 h1 => ?_)
  obtain ⟨e1, h1⟩ := h1
  have e1 := e1.symm
  subst e1
  refine go_neB (tgt := 14) (pc' := 11) h1 dX11_lose_8 rfl (by decide) (fun c2 => ?_) (fun c2 => ?_)
  · refine go_aload_n (i := 0) (pc' := 15) dX11_lose_14 rfl rfl rfl ?_
    refine gf_0_letters (pc' := 18) dX11_lose_15 rfl fl_X11_19 ?_
    refine gf_2_founds (pc' := 21) dX11_lose_18 rfl fl_X11_152 ?_
    refine go_iload_n (i := 1) (pc' := 22) dX11_lose_21 rfl rfl rfl ?_
    refine go_iald (pc' := 23) dX11_lose_22 rfl (by decide) (by decide) rfl (vin_of (n := 12) (by omega) (by omega)) ?_
    have g3 := ixa_31 ix (a).toNatClampNeg (vinlt (show vp_in a 12 from (vin_of (n := 12) (by omega) (by omega))))
    refine go_iconst (v := (-1)) (pc' := 24) dX11_lose_23 rfl (by decide) ?_
    refine gz_icmp_ne (tgt := 30) (pc' := 27) dX11_lose_24 rfl (by decide) (fun c4 => ?_) (fun c4 => ?_)
    · refine go_aload_n (i := 0) (pc' := 31) dX11_lose_30 rfl rfl rfl ?_
      refine gf_0_letters (pc' := 34) dX11_lose_31 rfl fl_X11_19 ?_
      refine gf_2_founds (pc' := 37) dX11_lose_34 rfl fl_X11_152 ?_
      refine go_iload_n (i := 1) (pc' := 38) dX11_lose_37 rfl rfl rfl ?_
      refine go_iconst (v := (-1)) (pc' := 39) dX11_lose_38 rfl (by decide) ?_
      refine go_iast (pc' := 40) dX11_lose_39 rfl (by decide) (by decide) rfl (vin_of (n := 12) (by omega) (by omega)) ?_
      refine go_iconst (v := 1) (pc' := 41) dX11_lose_40 rfl (by decide) ?_
      exact go_iret dX11_lose_41 rfl (Or.inr (Or.inr (⟨by omega, by first | rfl | omega | (exact Int32.add_sub_cancel _ _), rfl⟩)))
    refine go_bipush (v := (-3)) (pc' := 29) dX11_lose_27 rfl (by decide) ?_
    exact go_iret dX11_lose_29 rfl (Or.inr (Or.inl ⟨by omega, by first | rfl | omega | (exact Int32.add_sub_cancel _ _), rfl⟩))
  refine go_bipush (v := (-2)) (pc' := 13) dX11_lose_11 rfl (by decide) ?_
  exact go_iret dX11_lose_13 rfl (Or.inl ⟨by omega, by first | rfl | omega | (exact Int32.add_sub_cancel _ _), rfl⟩)
set_option maxHeartbeats 4000000 in
set_option maxRecDepth 100000 in
theorem e_X11_post (l : Launch) (L : WL) (σ : ST) (a b u v : Int32) (ix : IV σ) : CtI l L yX11_post cX11_post 5 (some .int) rm_X11_post [.ref (L.2.1 0), .int a, .int b, .int u, .int v] σ (fun r σ2 => sX_post σ a b u v r σ2) := by
  refine ctI_go (own := RX11) (by decide) rfl (Nat.le_of_ble_eq_true rfl) (fun F hF => ?_)
  subst hF
  have nm2 : (-2 : Int32).toInt = -2 := by decide
  have n1 : (1 : Int32).toInt = 1 := by decide
  have w0 : WX σ σ := WX_rfl ix
  refine go_iload_n (i := 1) (pc' := 1) dX11_post_0 rfl rfl rfl ?_
  refine go_csi (pc' := 4) ls_X11_100 (c_X11_isPlace _ _ _ _) rfl rfl (Nat.le_of_ble_eq_true rfl) ⟨Nat.le_of_ble_eq_true rfl, Nat.le_of_ble_eq_true rfl⟩ ⟨rfl, rfl⟩ dX11_post_1 rfl (fun r1 σ1 h1 => ?_)
  obtain ⟨e1, h1⟩ := h1
  have e1 := e1.symm
  subst e1
  refine go_eqB (tgt := 35) (pc' := 7) h1 dX11_post_4 rfl (by decide) (fun c2 => ?_) (fun c2 => ?_)
  · refine go_bipush (v := (-2)) (pc' := 37) dX11_post_35 rfl (by decide) ?_
    exact go_iret dX11_post_37 rfl (Or.inr (⟨by omega, by first | rfl | omega | (exact Int32.add_sub_cancel _ _), rfl⟩))
  refine go_iload_n (i := 2) (pc' := 8) dX11_post_7 rfl rfl rfl ?_
  refine go_csi (pc' := 11) ls_X11_100 (c_X11_isPlace _ _ _ _) rfl rfl (Nat.le_of_ble_eq_true rfl) ⟨Nat.le_of_ble_eq_true rfl, Nat.le_of_ble_eq_true rfl⟩ ⟨rfl, rfl⟩ dX11_post_8 rfl (fun r3 σ3 h3 => ?_)
  obtain ⟨e3, h3⟩ := h3
  have e3 := e3.symm
  subst e3
  refine go_eqB (tgt := 35) (pc' := 14) h3 dX11_post_11 rfl (by decide) (fun c4 => ?_) (fun c4 => ?_)
  · refine go_bipush (v := (-2)) (pc' := 37) dX11_post_35 rfl (by decide) ?_
    exact go_iret dX11_post_37 rfl (Or.inr (⟨by omega, by first | rfl | omega | (exact Int32.add_sub_cancel _ _), rfl⟩))
  refine go_iload_n (i := 3) (pc' := 15) dX11_post_14 rfl rfl rfl ?_
  refine go_csi (pc' := 18) ls_X11_196 (c_X5_isTime _ _ _ _) rfl rfl (Nat.le_of_ble_eq_true rfl) ⟨Nat.le_of_ble_eq_true rfl, Nat.le_of_ble_eq_true rfl⟩ ⟨rfl, rfl⟩ dX11_post_15 rfl (fun r5 σ5 h5 => ?_)
  obtain ⟨e5, h5⟩ := h5
  have e5 := e5.symm
  subst e5
  refine go_eqB (tgt := 35) (pc' := 21) h5 dX11_post_18 rfl (by decide) (fun c6 => ?_) (fun c6 => ?_)
  · refine go_bipush (v := (-2)) (pc' := 37) dX11_post_35 rfl (by decide) ?_
    exact go_iret dX11_post_37 rfl (Or.inr (⟨by omega, by first | rfl | omega | (exact Int32.add_sub_cancel _ _), rfl⟩))
  refine go_iload (pc' := 23) dX11_post_21 rfl rfl ?_
  refine go_csi (pc' := 26) ls_X11_196 (c_X5_isTime _ _ _ _) rfl rfl (Nat.le_of_ble_eq_true rfl) ⟨Nat.le_of_ble_eq_true rfl, Nat.le_of_ble_eq_true rfl⟩ ⟨rfl, rfl⟩ dX11_post_23 rfl (fun r7 σ7 h7 => ?_)
  obtain ⟨e7, h7⟩ := h7
  have e7 := e7.symm
  subst e7
  refine go_eqB (tgt := 35) (pc' := 29) h7 dX11_post_26 rfl (by decide) (fun c8 => ?_) (fun c8 => ?_)
  · refine go_bipush (v := (-2)) (pc' := 37) dX11_post_35 rfl (by decide) ?_
    exact go_iret dX11_post_37 rfl (Or.inr (⟨by omega, by first | rfl | omega | (exact Int32.add_sub_cancel _ _), rfl⟩))
  refine go_iload_n (i := 3) (pc' := 30) dX11_post_29 rfl rfl rfl ?_
  refine go_iload (pc' := 32) dX11_post_30 rfl rfl ?_
  refine gz_icmp_le (tgt := 38) (pc' := 35) dX11_post_32 rfl (by decide) (fun c9 => ?_) (fun c9 => ?_)
  · refine go_aload_n (i := 0) (pc' := 39) dX11_post_38 rfl rfl rfl ?_
    refine gf_0_posts (pc' := 42) dX11_post_39 rfl fl_X11_33 ?_
    refine gf_4_leasts (pc' := 45) dX11_post_42 rfl fl_X11_199 ?_
    refine go_iload_n (i := 1) (pc' := 46) dX11_post_45 rfl rfl rfl ?_
    have p10 : (a).toNatClampNeg < 6 := vinlt (vin_of (n := 6) (by omega) (by omega))
    refine go_aald (b := 80) (pc' := 47) dX11_post_46 rfl (by decide) (by decide) ⟨_, rfl⟩ (vin_of (n := 6) (by omega) (by omega)) rfl ?_
    refine go_iload_n (i := 2) (pc' := 48) dX11_post_47 rfl rfl rfl ?_
    refine go_iload_n (i := 3) (pc' := 49) dX11_post_48 rfl rfl rfl ?_
    refine go_iast (pc' := 50) dX11_post_49 rfl (by omega) (by omega) (rowt_80 p10) (by rw [rowl_80 p10]; exact (vin_of (n := 6) (by omega) (by omega))) ?_
    refine go_aload_n (i := 0) (pc' := 51) dX11_post_50 rfl rfl rfl ?_
    refine gf_0_posts (pc' := 54) dX11_post_51 rfl fl_X11_33 ?_
    refine gf_4_mosts (pc' := 57) dX11_post_54 rfl fl_X11_202 ?_
    refine go_iload_n (i := 1) (pc' := 58) dX11_post_57 rfl rfl rfl ?_
    have p11 : (a).toNatClampNeg < 6 := vinlt (vin_of (n := 6) (by omega) (by omega))
    refine go_aald (b := 86) (pc' := 59) dX11_post_58 rfl (by decide) (by decide) ⟨_, rfl⟩ (vin_of (n := 6) (by omega) (by omega)) rfl ?_
    refine go_iload_n (i := 2) (pc' := 60) dX11_post_59 rfl rfl rfl ?_
    refine go_iload (pc' := 62) dX11_post_60 rfl rfl ?_
    refine go_iast (pc' := 63) dX11_post_62 rfl (by omega) (by omega) (rowt_86 p11) (by rw [rowl_86 p11]; exact (vin_of (n := 6) (by omega) (by omega))) ?_
    refine go_iconst (v := 1) (pc' := 64) dX11_post_63 rfl (by decide) ?_
    exact go_iret dX11_post_64 rfl (Or.inl ⟨by omega, by first | rfl | omega | (exact Int32.add_sub_cancel _ _), rfl⟩)
  refine go_bipush (v := (-2)) (pc' := 37) dX11_post_35 rfl (by decide) ?_
  exact go_iret dX11_post_37 rfl (Or.inr (⟨by omega, by first | rfl | omega | (exact Int32.add_sub_cancel _ _), rfl⟩))
set_option maxHeartbeats 4000000 in
set_option maxRecDepth 100000 in
theorem e_X2_add (l : Launch) (L : WL) (σ : ST) (k a b q : Int32) (ix : IV σ) : CtI l L yX2_add cX2_add 5 (some .int) rm_X2_add [.ref (L.2.1 2), .int k, .int a, .int b, .int q] σ (fun r σ2 => sX_ladd σ k a b q r σ2) := by
  refine ctI_go (own := RX2) (by decide) rfl (Nat.le_of_ble_eq_true rfl) (fun F hF => ?_)
  subst hF
  have nm4 : (-4 : Int32).toInt = -4 := by decide
  have nm1 : (-1 : Int32).toInt = -1 := by decide
  have n0 : (0 : Int32).toInt = 0 := by decide
  have n1 : (1 : Int32).toInt = 1 := by decide
  have n12 : (12 : Int32).toInt = 12 := by decide
  have n9999 : (9999 : Int32).toInt = 9999 := by decide
  have w0 : WX σ σ := WX_rfl ix
  refine go_aload_n (i := 0) (pc' := 1) dX2_add_0 rfl rfl rfl ?_
  refine gf_2_size (pc' := 4) dX2_add_1 rfl fl_X2_44 ?_
  have g1 := ixi_3 ix
  refine go_bipush (v := 12) (pc' := 6) dX2_add_4 rfl (by decide) ?_
  refine gz_icmp_lt (tgt := 12) (pc' := 9) dX2_add_6 rfl (by decide) (fun c2 => ?_) (fun c2 => ?_)
  · refine go_aload_n (i := 0) (pc' := 13) dX2_add_12 rfl rfl rfl ?_
    refine gf_2_kinds (pc' := 16) dX2_add_13 rfl fl_X2_11 ?_
    refine go_aload_n (i := 0) (pc' := 17) dX2_add_16 rfl rfl rfl ?_
    refine gf_2_size (pc' := 20) dX2_add_17 rfl fl_X2_44 ?_
    have g3 := ixi_3 ix
    refine go_iload_n (i := 1) (pc' := 21) dX2_add_20 rfl rfl rfl ?_
    refine go_iast (pc' := 22) dX2_add_21 rfl (by decide) (by decide) rfl (vin_of (n := 12) (by omega) (by omega)) ?_
    refine go_aload_n (i := 0) (pc' := 23) dX2_add_22 rfl rfl rfl ?_
    refine gf_2_writers (pc' := 26) dX2_add_23 rfl fl_X2_15 ?_
    refine go_aload_n (i := 0) (pc' := 27) dX2_add_26 rfl rfl rfl ?_
    refine gf_2_size (pc' := 30) dX2_add_27 rfl fl_X2_44 ?_
    refine go_topq (y := (σ.1 3)) rfl ?_
    have g4 := ixi_3 ix
    refine go_iload_n (i := 2) (pc' := 31) dX2_add_30 rfl rfl rfl ?_
    refine go_iast (pc' := 32) dX2_add_31 rfl (by decide) (by decide) rfl (vin_of (n := 12) (by omega) (by omega)) ?_
    refine go_aload_n (i := 0) (pc' := 33) dX2_add_32 rfl rfl rfl ?_
    refine gf_2_readers (pc' := 36) dX2_add_33 rfl fl_X2_18 ?_
    refine go_aload_n (i := 0) (pc' := 37) dX2_add_36 rfl rfl rfl ?_
    refine gf_2_size (pc' := 40) dX2_add_37 rfl fl_X2_44 ?_
    refine go_topq (y := (σ.1 3)) rfl ?_
    have g5 := ixi_3 ix
    refine go_iload_n (i := 3) (pc' := 41) dX2_add_40 rfl rfl rfl ?_
    refine go_iast (pc' := 42) dX2_add_41 rfl (by decide) (by decide) rfl (vin_of (n := 12) (by omega) (by omega)) ?_
    refine go_aload_n (i := 0) (pc' := 43) dX2_add_42 rfl rfl rfl ?_
    refine gf_2_places (pc' := 46) dX2_add_43 rfl fl_X2_21 ?_
    refine go_aload_n (i := 0) (pc' := 47) dX2_add_46 rfl rfl rfl ?_
    refine gf_2_size (pc' := 50) dX2_add_47 rfl fl_X2_44 ?_
    refine go_topq (y := (σ.1 3)) rfl ?_
    have g6 := ixi_3 ix
    refine go_iload (pc' := 52) dX2_add_50 rfl rfl ?_
    refine go_iast (pc' := 53) dX2_add_52 rfl (by decide) (by decide) rfl (vin_of (n := 12) (by omega) (by omega)) ?_
    refine go_aload_n (i := 0) (pc' := 54) dX2_add_53 rfl rfl rfl ?_
    refine gf_2_leasts (pc' := 57) dX2_add_54 rfl fl_X2_24 ?_
    refine go_aload_n (i := 0) (pc' := 58) dX2_add_57 rfl rfl rfl ?_
    refine gf_2_size (pc' := 61) dX2_add_58 rfl fl_X2_44 ?_
    refine go_topq (y := (σ.1 3)) rfl ?_
    have g7 := ixi_3 ix
    refine go_iconst (v := 0) (pc' := 62) dX2_add_61 rfl (by decide) ?_
    refine go_iast (pc' := 63) dX2_add_62 rfl (by decide) (by decide) rfl (vin_of (n := 12) (by omega) (by omega)) ?_
    refine go_aload_n (i := 0) (pc' := 64) dX2_add_63 rfl rfl rfl ?_
    refine gf_2_greatests (pc' := 67) dX2_add_64 rfl fl_X2_27 ?_
    refine go_aload_n (i := 0) (pc' := 68) dX2_add_67 rfl rfl rfl ?_
    refine gf_2_size (pc' := 71) dX2_add_68 rfl fl_X2_44 ?_
    refine go_topq (y := (σ.1 3)) rfl ?_
    have g8 := ixi_3 ix
    refine go_sipush (v := 9999) (pc' := 74) dX2_add_71 rfl (by decide) ?_
    refine go_iast (pc' := 75) dX2_add_74 rfl (by decide) (by decide) rfl (vin_of (n := 12) (by omega) (by omega)) ?_
    refine go_aload_n (i := 0) (pc' := 76) dX2_add_75 rfl rfl rfl ?_
    refine gf_2_weekdays (pc' := 79) dX2_add_76 rfl fl_X2_30 ?_
    refine go_aload_n (i := 0) (pc' := 80) dX2_add_79 rfl rfl rfl ?_
    refine gf_2_size (pc' := 83) dX2_add_80 rfl fl_X2_44 ?_
    refine go_topq (y := (σ.1 3)) rfl ?_
    have g9 := ixi_3 ix
    refine go_iconst (v := (-1)) (pc' := 84) dX2_add_83 rfl (by decide) ?_
    refine go_iast (pc' := 85) dX2_add_84 rfl (by decide) (by decide) rfl (vin_of (n := 12) (by omega) (by omega)) ?_
    refine go_aload_n (i := 0) (pc' := 86) dX2_add_85 rfl rfl rfl ?_
    refine gf_2_founds (pc' := 89) dX2_add_86 rfl fl_X2_33 ?_
    refine go_aload_n (i := 0) (pc' := 90) dX2_add_89 rfl rfl rfl ?_
    refine gf_2_size (pc' := 93) dX2_add_90 rfl fl_X2_44 ?_
    refine go_topq (y := (σ.1 3)) rfl ?_
    have g10 := ixi_3 ix
    refine go_iconst (v := (-1)) (pc' := 94) dX2_add_93 rfl (by decide) ?_
    refine go_iast (pc' := 95) dX2_add_94 rfl (by decide) (by decide) rfl (vin_of (n := 12) (by omega) (by omega)) ?_
    refine go_aload_n (i := 0) (pc' := 96) dX2_add_95 rfl rfl rfl ?_
    refine gf_2_sizes (pc' := 99) dX2_add_96 rfl fl_X2_36 ?_
    refine go_aload_n (i := 0) (pc' := 100) dX2_add_99 rfl rfl rfl ?_
    refine gf_2_size (pc' := 103) dX2_add_100 rfl fl_X2_44 ?_
    refine go_topq (y := (σ.1 3)) rfl ?_
    have g11 := ixi_3 ix
    refine go_iconst (v := 0) (pc' := 104) dX2_add_103 rfl (by decide) ?_
    refine go_iast (pc' := 105) dX2_add_104 rfl (by decide) (by decide) rfl (vin_of (n := 12) (by omega) (by omega)) ?_
    refine go_aload_n (i := 0) (pc' := 106) dX2_add_105 rfl rfl rfl ?_
    refine go_dup (pc' := 107) dX2_add_106 rfl rfl ?_
    refine gf_2_size (pc' := 110) dX2_add_107 rfl fl_X2_44 ?_
    refine go_topq (y := (σ.1 3)) rfl ?_
    have g12 := ixi_3 ix
    refine go_iconst (v := 1) (pc' := 111) dX2_add_110 rfl (by decide) ?_
    refine go_iadd (pc' := 112) dX2_add_111 rfl ?_
    refine pf_2_size (pc' := 115) dX2_add_112 rfl fl_X2_44 ?_
    refine go_aload_n (i := 0) (pc' := 116) dX2_add_115 rfl rfl rfl ?_
    refine gf_2_size (pc' := 119) dX2_add_116 rfl fl_X2_44 ?_
    refine go_topq (y := ((σ.1 3) + (1 : Int32))) rfl ?_
    refine go_iconst (v := 1) (pc' := 120) dX2_add_119 rfl (by decide) ?_
    refine go_isub (pc' := 121) dX2_add_120 rfl ?_
    exact go_iret dX2_add_121 rfl (Or.inr (⟨by omega, by first | rfl | omega | (exact Int32.add_sub_cancel _ _), rfl⟩))
  refine go_bipush (v := (-4)) (pc' := 11) dX2_add_9 rfl (by decide) ?_
  exact go_iret dX2_add_11 rfl (Or.inl ⟨by omega, by first | rfl | omega | (exact Int32.add_sub_cancel _ _), rfl⟩)
set_option maxHeartbeats 4000000 in
set_option maxRecDepth 100000 in
theorem e_X11_letter (l : Launch) (L : WL) (σ : ST) (k a b q : Int32) (ix : IV σ) : CtI l L yX11_letter cX11_letter 5 (some .int) rm_X11_letter [.ref (L.2.1 0), .int k, .int a, .int b, .int q] σ (fun r σ2 => sX_letter σ k a b q r σ2) := by
  refine ctI_go (own := RX11) (by decide) rfl (Nat.le_of_ble_eq_true rfl) (fun F hF => ?_)
  subst hF
  have nm2 : (-2 : Int32).toInt = -2 := by decide
  have w0 : WX σ σ := WX_rfl ix
  refine go_iload_n (i := 1) (pc' := 1) dX11_letter_0 rfl rfl rfl ?_
  refine go_csi (pc' := 4) ls_X11_124 (c_X2_isKind _ _ _ _) rfl rfl (Nat.le_of_ble_eq_true rfl) ⟨Nat.le_of_ble_eq_true rfl, Nat.le_of_ble_eq_true rfl⟩ ⟨rfl, rfl⟩ dX11_letter_1 rfl (fun r1 σ1 h1 => ?_)
  obtain ⟨e1, h1⟩ := h1
  have e1 := e1.symm
  subst e1
  refine go_eqB (tgt := 37) (pc' := 7) h1 dX11_letter_4 rfl (by decide) (fun c2 => ?_) (fun c2 => ?_)
  · refine go_bipush (v := (-2)) (pc' := 39) dX11_letter_37 rfl (by decide) ?_
    exact go_iret dX11_letter_39 rfl (Or.inr ⟨by omega, rfl, rfl⟩)
  refine go_aload_n (i := 0) (pc' := 8) dX11_letter_7 rfl rfl rfl ?_
  refine gf_0_people (pc' := 11) dX11_letter_8 rfl fl_X11_10 ?_
  refine go_iload_n (i := 2) (pc' := 12) dX11_letter_11 rfl rfl rfl ?_
  refine go_cvi (pc' := 15) lk_X11_107 (c_X4_has _ _ _ _) rfl rfl (Nat.le_of_ble_eq_true rfl) (by decide) rfl rfl rfl ⟨Nat.le_of_ble_eq_true rfl, Nat.le_of_ble_eq_true rfl⟩ ⟨rfl, rfl⟩ dX11_letter_12 rfl (fun r3 σ3 h3 => ?_)
  obtain ⟨e3, h3⟩ := h3
  have e3 := e3.symm
  subst e3
  refine go_eqB (tgt := 37) (pc' := 18) h3 dX11_letter_15 rfl (by decide) (fun c4 => ?_) (fun c4 => ?_)
  · refine go_bipush (v := (-2)) (pc' := 39) dX11_letter_37 rfl (by decide) ?_
    exact go_iret dX11_letter_39 rfl (Or.inr ⟨by omega, rfl, rfl⟩)
  refine go_aload_n (i := 0) (pc' := 19) dX11_letter_18 rfl rfl rfl ?_
  refine gf_0_people (pc' := 22) dX11_letter_19 rfl fl_X11_10 ?_
  refine go_iload_n (i := 3) (pc' := 23) dX11_letter_22 rfl rfl rfl ?_
  refine go_cvi (pc' := 26) lk_X11_107 (c_X4_has _ _ _ _) rfl rfl (Nat.le_of_ble_eq_true rfl) (by decide) rfl rfl rfl ⟨Nat.le_of_ble_eq_true rfl, Nat.le_of_ble_eq_true rfl⟩ ⟨rfl, rfl⟩ dX11_letter_23 rfl (fun r5 σ5 h5 => ?_)
  obtain ⟨e5, h5⟩ := h5
  have e5 := e5.symm
  subst e5
  refine go_eqB (tgt := 37) (pc' := 29) h5 dX11_letter_26 rfl (by decide) (fun c6 => ?_) (fun c6 => ?_)
  · refine go_bipush (v := (-2)) (pc' := 39) dX11_letter_37 rfl (by decide) ?_
    exact go_iret dX11_letter_39 rfl (Or.inr ⟨by omega, rfl, rfl⟩)
  refine go_iload (pc' := 31) dX11_letter_29 rfl rfl ?_
  refine go_csi (pc' := 34) ls_X11_100 (c_X11_isPlace _ _ _ _) rfl rfl (Nat.le_of_ble_eq_true rfl) ⟨Nat.le_of_ble_eq_true rfl, Nat.le_of_ble_eq_true rfl⟩ ⟨rfl, rfl⟩ dX11_letter_31 rfl (fun r7 σ7 h7 => ?_)
  obtain ⟨e7, h7⟩ := h7
  have e7 := e7.symm
  subst e7
  refine go_neB (tgt := 40) (pc' := 37) h7 dX11_letter_34 rfl (by decide) (fun c8 => ?_) (fun c8 => ?_)
  · refine go_aload_n (i := 0) (pc' := 41) dX11_letter_40 rfl rfl rfl ?_
    refine gf_0_letters (pc' := 44) dX11_letter_41 rfl fl_X11_19 ?_
    refine go_iload_n (i := 1) (pc' := 45) dX11_letter_44 rfl rfl rfl ?_
    refine go_iload_n (i := 2) (pc' := 46) dX11_letter_45 rfl rfl rfl ?_
    refine go_iload_n (i := 3) (pc' := 47) dX11_letter_46 rfl rfl rfl ?_
    refine go_iload (pc' := 49) dX11_letter_47 rfl rfl ?_
    refine go_cvi (pc' := 52) lk_X11_127 (e_X2_add _ _ _ _ _ _ _ ix) rfl rfl (Nat.le_of_ble_eq_true rfl) (by decide) rfl rfl rfl ⟨Nat.le_of_ble_eq_true rfl, Nat.le_of_ble_eq_true rfl⟩ ⟨rfl, rfl⟩ dX11_letter_49 rfl (fun r9 σ9 h9 => ?_)
    exact go_iret dX11_letter_52 rfl (Or.inl ⟨by omega, h9⟩)
  refine go_bipush (v := (-2)) (pc' := 39) dX11_letter_37 rfl (by decide) ?_
  exact go_iret dX11_letter_39 rfl (Or.inr ⟨by omega, rfl, rfl⟩)
set_option maxHeartbeats 4000000 in
set_option maxRecDepth 100000 in
theorem e_X9_hasCell (l : Launch) (L : WL) (σ : ST) (t i : Int32) (ht : 0 ≤ t.toInt ∧ t.toInt < 4) (ix : IV σ) : CtI l L yX9_hasCell cX9_hasCell 3 (some .boolean) rm_X9_hasCell [.ref (L.2.1 12), .int t, .int i] σ (fun r σ2 => σ2 = σ ∧ bq (0 ≤ i.toInt ∧ i.toInt < (σ.2 55 (t).toNatClampNeg).toInt) r) := by
  refine ctI_go (own := RX9) (by decide) rfl (Nat.le_of_ble_eq_true rfl) (fun F hF => ?_)
  subst hF
  have n0 : (0 : Int32).toInt = 0 := by decide
  have n1 : (1 : Int32).toInt = 1 := by decide
  have w0 : WX σ σ := WX_rfl ix
  refine go_iload_n (i := 2) (pc' := 1) dX9_hasCell_0 rfl rfl rfl ?_
  refine gz_if_lt (tgt := 18) (pc' := 4) dX9_hasCell_1 rfl (by decide) (fun c1 => ?_) (fun c1 => ?_)
  · refine go_iconst (v := 0) (pc' := 19) dX9_hasCell_18 rfl (by decide) ?_
    exact go_zret dX9_hasCell_19 rfl rfl (⟨rfl, by first | exact bq_t (by omega) | exact bq_f (by omega)⟩)
  refine go_iload_n (i := 2) (pc' := 5) dX9_hasCell_4 rfl rfl rfl ?_
  refine go_aload_n (i := 0) (pc' := 6) dX9_hasCell_5 rfl rfl rfl ?_
  refine gf_12_sizes (pc' := 9) dX9_hasCell_6 rfl fl_X9_16 ?_
  refine go_iload_n (i := 1) (pc' := 10) dX9_hasCell_9 rfl rfl rfl ?_
  refine go_iald (pc' := 11) dX9_hasCell_10 rfl (by decide) (by decide) rfl (vin_of (n := 4) (by omega) (by omega)) ?_
  have g2 := ixa_55 ix (t).toNatClampNeg (vinlt (show vp_in t 4 from (vin_of (n := 4) (by omega) (by omega))))
  refine gz_icmp_ge (tgt := 18) (pc' := 14) dX9_hasCell_11 rfl (by decide) (fun c3 => ?_) (fun c3 => ?_)
  · refine go_iconst (v := 0) (pc' := 19) dX9_hasCell_18 rfl (by decide) ?_
    exact go_zret dX9_hasCell_19 rfl rfl (⟨rfl, by first | exact bq_t (by omega) | exact bq_f (by omega)⟩)
  refine go_iconst (v := 1) (pc' := 15) dX9_hasCell_14 rfl (by decide) ?_
  refine go_goto (tgt := 19) dX9_hasCell_15 (by decide) ?_
  exact go_zret dX9_hasCell_19 rfl rfl (⟨rfl, by first | exact bq_t (by omega) | exact bq_f (by omega)⟩)
set_option maxHeartbeats 4000000 in
set_option maxRecDepth 100000 in
theorem e_X11_cell (l : Launch) (L : WL) (σ : ST) (t i v : Int32) (ix : IV σ) : CtI l L yX11_cell cX11_cell 4 (some .int) rm_X11_cell [.ref (L.2.1 0), .int t, .int i, .int v] σ (fun r σ2 => sX_cell σ t i v r σ2) := by
  refine ctI_go (own := RX11) (by decide) rfl (Nat.le_of_ble_eq_true rfl) (fun F hF => ?_)
  subst hF
  have nm12 : (-12 : Int32).toInt = -12 := by decide
  have nm11 : (-11 : Int32).toInt = -11 := by decide
  have nm2 : (-2 : Int32).toInt = -2 := by decide
  have nm1 : (-1 : Int32).toInt = -1 := by decide
  have n1 : (1 : Int32).toInt = 1 := by decide
  have w0 : WX σ σ := WX_rfl ix
  refine go_iload_n (i := 1) (pc' := 1) dX11_cell_0 rfl rfl rfl ?_
  refine go_csi (pc' := 4) ls_X11_298 (c_X9_has _ _ _ _) rfl rfl (Nat.le_of_ble_eq_true rfl) ⟨Nat.le_of_ble_eq_true rfl, Nat.le_of_ble_eq_true rfl⟩ ⟨rfl, rfl⟩ dX11_cell_1 rfl (fun r1 σ1 h1 => ?_)
  obtain ⟨e1, h1⟩ := h1
  have e1 := e1.symm
  subst e1
  refine go_neB (tgt := 10) (pc' := 7) h1 dX11_cell_4 rfl (by decide) (fun c2 => ?_) (fun c2 => ?_)
  · refine go_aload_n (i := 0) (pc' := 11) dX11_cell_10 rfl rfl rfl ?_
    refine gf_0_trays (pc' := 14) dX11_cell_11 rfl fl_X11_85 ?_
    refine gf_12_sizes (pc' := 17) dX11_cell_14 rfl fl_X11_303 ?_
    refine go_iload_n (i := 1) (pc' := 18) dX11_cell_17 rfl rfl rfl ?_
    refine go_iald (pc' := 19) dX11_cell_18 rfl (by decide) (by decide) rfl (vin_of (n := 4) (by omega) (by omega)) ?_
    have g3 := ixa_55 ix (t).toNatClampNeg (vinlt (show vp_in t 4 from (vin_of (n := 4) (by omega) (by omega))))
    refine go_iconst (v := (-1)) (pc' := 20) dX11_cell_19 rfl (by decide) ?_
    refine gz_icmp_ne (tgt := 26) (pc' := 23) dX11_cell_20 rfl (by decide) (fun c4 => ?_) (fun c4 => ?_)
    · refine go_aload_n (i := 0) (pc' := 27) dX11_cell_26 rfl rfl rfl ?_
      refine gf_0_trays (pc' := 30) dX11_cell_27 rfl fl_X11_85 ?_
      refine go_iload_n (i := 1) (pc' := 31) dX11_cell_30 rfl rfl rfl ?_
      refine go_iload_n (i := 2) (pc' := 32) dX11_cell_31 rfl rfl rfl ?_
      refine go_cvi (pc' := 35) lk_X11_304 (e_X9_hasCell _ _ _ _ _ (by omega) ix) rfl rfl (Nat.le_of_ble_eq_true rfl) (by decide) rfl rfl rfl ⟨Nat.le_of_ble_eq_true rfl, Nat.le_of_ble_eq_true rfl⟩ ⟨rfl, rfl⟩ dX11_cell_32 rfl (fun r5 σ5 h5 => ?_)
      obtain ⟨e5, h5⟩ := h5
      have e5 := e5.symm
      subst e5
      refine go_neB (tgt := 41) (pc' := 38) h5 dX11_cell_35 rfl (by decide) (fun c6 => ?_) (fun c6 => ?_)
      · refine go_aload_n (i := 0) (pc' := 42) dX11_cell_41 rfl rfl rfl ?_
        refine gf_0_trays (pc' := 45) dX11_cell_42 rfl fl_X11_85 ?_
        refine gf_12_rows (pc' := 48) dX11_cell_45 rfl fl_X11_307 ?_
        refine go_iload_n (i := 1) (pc' := 49) dX11_cell_48 rfl rfl rfl ?_
        have p7 : (t).toNatClampNeg < 4 := vinlt (vin_of (n := 4) (by omega) (by omega))
        refine go_aald (b := 92) (pc' := 50) dX11_cell_49 rfl (by decide) (by decide) ⟨_, rfl⟩ (vin_of (n := 4) (by omega) (by omega)) rfl ?_
        refine go_iload_n (i := 2) (pc' := 51) dX11_cell_50 rfl rfl rfl ?_
        refine go_iload_n (i := 3) (pc' := 52) dX11_cell_51 rfl rfl rfl ?_
        refine go_i2b (pc' := 53) dX11_cell_52 rfl ?_
        refine go_bast (pc' := 54) dX11_cell_53 rfl (by omega) (by omega) (rowt_92 p7) (by rw [rowl_92 p7]; exact (vin_of (n := 60) (by omega) (by omega))) ?_
        refine go_iconst (v := 1) (pc' := 55) dX11_cell_54 rfl (by decide) ?_
        exact go_iret dX11_cell_55 rfl (Or.inr (Or.inr (Or.inr (⟨by omega, by first | rfl | omega | (exact Int32.add_sub_cancel _ _), rfl⟩))))
      refine go_bipush (v := (-12)) (pc' := 40) dX11_cell_38 rfl (by decide) ?_
      exact go_iret dX11_cell_40 rfl (Or.inr (Or.inr (Or.inl ⟨by omega, by first | rfl | omega | (exact Int32.add_sub_cancel _ _), rfl⟩)))
    refine go_bipush (v := (-11)) (pc' := 25) dX11_cell_23 rfl (by decide) ?_
    exact go_iret dX11_cell_25 rfl (Or.inr (Or.inl ⟨by omega, by first | rfl | omega | (exact Int32.add_sub_cancel _ _), rfl⟩))
  refine go_bipush (v := (-2)) (pc' := 9) dX11_cell_7 rfl (by decide) ?_
  exact go_iret dX11_cell_9 rfl (Or.inl ⟨by omega, by first | rfl | omega | (exact Int32.add_sub_cancel _ _), rfl⟩)
