def sX_open (σ : ST)  (r : Int32) (σ2 : ST) : Prop := ((4 ≤ (σ.1 7).toInt) ∧ r = 2 ∧ σ2 = setI σ 12 0) ∨ (((σ.1 7).toInt < 4) ∧ r = 2 ∧ σ2 = setI (setI (setA σ 44 (σ.1 7).toNatClampNeg (σ.1 8)) 7 (σ.1 7 + 1)) 12 0)
def sX_tText (σ : ST) (s p : Int32) (r : Int32) (σ2 : ST) : Prop := ((plainP s.toInt) ∧ r = 0 ∧ σ2 = σ) ∨ ((s.toInt = 125 ∧ 0 < (σ.1 7).toInt) ∧ r = 3 ∧ σ2 = setI (setI σ 7 (σ.1 7 - 1)) 8 (σ.2 44 (σ.1 7 - 1).toNatClampNeg)) ∨ ((s.toInt = 123 ∧ (σ.1 7).toInt < 4) ∧ r = 1 ∧ σ2 = setI (setI σ 10 p) 12 1) ∨ ((¬ plainP s.toInt ∧ ¬ (s.toInt = 125 ∧ 0 < (σ.1 7).toInt) ∧ ¬ (s.toInt = 123 ∧ (σ.1 7).toInt < 4)) ∧ r = 5 ∧ σ2 = setI σ 11 p)
def sX_tSort (σ : ST) (s p : Int32) (r : Int32) (σ2 : ST) : Prop := (¬ sortP s.toInt ∧ r = 5 ∧ σ2 = setI σ 11 p) ∨ (sortP s.toInt ∧ (∃ i : Nat, (i : Int) < (σ.1 7).toInt ∧ (σ.2 44 i).toInt = s.toInt) ∧ r = 5 ∧ σ2 = setI σ 11 (σ.1 10)) ∨ (sortP s.toInt ∧ ¬ (∃ i : Nat, (i : Int) < (σ.1 7).toInt ∧ (σ.2 44 i).toInt = s.toInt) ∧ (s.toInt = 115 ∨ s.toInt = 110) ∧ r = 1 ∧ σ2 = setI (setI (setI (setI σ 8 s) 9 0) 13 0) 12 2) ∨ (sortP s.toInt ∧ ¬ (∃ i : Nat, (i : Int) < (σ.1 7).toInt ∧ (σ.2 44 i).toInt = s.toInt) ∧ ¬ (s.toInt = 115 ∨ s.toInt = 110) ∧ sX_open (setI σ 8 s) r σ2)
def sX_tNum (σ : ST) (s p : Int32) (r : Int32) (σ2 : ST) : Prop := ((digP s.toInt ∧ (σ.1 13).toInt < 4) ∧ r = 1 ∧ σ2 = setI (setI σ 9 (σ.1 9 * 10 + s - 48)) 13 (σ.1 13 + 1)) ∨ (¬ (digP s.toInt ∧ (σ.1 13).toInt < 4) ∧ ((σ.1 13).toInt = 0 ∨ s.toInt ≠ (if (σ.1 8).toInt = 115 then (58 : Int) else 125)) ∧ r = 5 ∧ σ2 = setI σ 11 p) ∨ (¬ (digP s.toInt ∧ (σ.1 13).toInt < 4) ∧ (σ.1 13).toInt ≠ 0 ∧ (σ.1 8).toInt = 115 ∧ s.toInt = 58 ∧ sX_open σ r σ2) ∨ (¬ (digP s.toInt ∧ (σ.1 13).toInt < 4) ∧ (σ.1 13).toInt ≠ 0 ∧ (σ.1 8).toInt ≠ 115 ∧ s.toInt = 125 ∧ r = 4 ∧ σ2 = setI σ 12 0)
def sX_take (σ : ST) (s p : Int32) (r : Int32) (σ2 : ST) : Prop := (σ.1 12 = 1 ∧ sX_tSort σ s p r σ2) ∨ (σ.1 12 = 2 ∧ sX_tNum σ s p r σ2) ∨ (¬ σ.1 12 = 1 ∧ ¬ σ.1 12 = 2 ∧ sX_tText σ s p r σ2)
set_option maxHeartbeats 4000000 in
set_option maxRecDepth 100000 in
theorem e_X3_openMark (l : Launch) (L : WL) (σ : ST)  (ix : IV σ) : CtI l L yX3_openMark cX3_openMark 1 (some .int) rm_X3_openMark [.ref (L.2.1 7)] σ (fun r σ2 => sX_open σ r σ2) := by
  refine ctI_go (own := RX3) (by decide) rfl (Nat.le_of_ble_eq_true rfl) (fun F hF => ?_)
  subst hF
  have n0 : (0 : Int32).toInt = 0 := by decide
  have n1 : (1 : Int32).toInt = 1 := by decide
  have n2 : (2 : Int32).toInt = 2 := by decide
  have n4 : (4 : Int32).toInt = 4 := by decide
  have w0 : WX σ σ := WX_rfl ix
  refine go_aload_n (i := 0) (pc' := 1) dX3_openMark_0 rfl rfl rfl ?_
  refine gf_7_depth (pc' := 4) dX3_openMark_1 rfl fl_X3_7 ?_
  have g1 := ixi_7 ix
  refine go_iconst (v := 4) (pc' := 5) dX3_openMark_4 rfl (by decide) ?_
  refine gz_icmp_ge (tgt := 31) (pc' := 8) dX3_openMark_5 rfl (by decide) (fun c2 => ?_) (fun c2 => ?_)
  · refine go_aload_n (i := 0) (pc' := 32) dX3_openMark_31 rfl rfl rfl ?_
    refine go_iconst (v := 0) (pc' := 33) dX3_openMark_32 rfl (by decide) ?_
    refine pf_7_state (pc' := 36) dX3_openMark_33 rfl fl_X3_29 ?_
    refine go_iconst (v := 2) (pc' := 37) dX3_openMark_36 rfl (by decide) ?_
    exact go_iret dX3_openMark_37 rfl (by first | exact Or.inl ⟨by omega, by first | rfl | omega | (exact Int32.add_sub_cancel _ _), rfl⟩ | exact Or.inr (⟨by omega, by first | rfl | omega | (exact Int32.add_sub_cancel _ _), rfl⟩))
  refine go_aload_n (i := 0) (pc' := 9) dX3_openMark_8 rfl rfl rfl ?_
  refine gf_7_open (pc' := 12) dX3_openMark_9 rfl fl_X3_25 ?_
  refine go_aload_n (i := 0) (pc' := 13) dX3_openMark_12 rfl rfl rfl ?_
  refine gf_7_depth (pc' := 16) dX3_openMark_13 rfl fl_X3_7 ?_
  have g3 := ixi_7 ix
  refine go_aload_n (i := 0) (pc' := 17) dX3_openMark_16 rfl rfl rfl ?_
  refine gf_7_sort (pc' := 20) dX3_openMark_17 rfl fl_X3_13 ?_
  refine go_iast (pc' := 21) dX3_openMark_20 rfl (by decide) (by decide) rfl (vin_of (n := 4) (by omega) (by omega)) ?_
  refine go_aload_n (i := 0) (pc' := 22) dX3_openMark_21 rfl rfl rfl ?_
  refine go_dup (pc' := 23) dX3_openMark_22 rfl rfl ?_
  refine gf_7_depth (pc' := 26) dX3_openMark_23 rfl fl_X3_7 ?_
  refine go_topq (y := (σ.1 7)) rfl ?_
  have g4 := ixi_7 ix
  refine go_iconst (v := 1) (pc' := 27) dX3_openMark_26 rfl (by decide) ?_
  refine go_iadd (pc' := 28) dX3_openMark_27 rfl ?_
  refine pf_7_depth (pc' := 31) dX3_openMark_28 rfl fl_X3_7 ?_
  refine go_aload_n (i := 0) (pc' := 32) dX3_openMark_31 rfl rfl rfl ?_
  refine go_iconst (v := 0) (pc' := 33) dX3_openMark_32 rfl (by decide) ?_
  refine pf_7_state (pc' := 36) dX3_openMark_33 rfl fl_X3_29 ?_
  refine go_iconst (v := 2) (pc' := 37) dX3_openMark_36 rfl (by decide) ?_
  exact go_iret dX3_openMark_37 rfl (by first | exact Or.inl ⟨by omega, by first | rfl | omega | (exact Int32.add_sub_cancel _ _), rfl⟩ | exact Or.inr (⟨by omega, by first | rfl | omega | (exact Int32.add_sub_cancel _ _), rfl⟩))
set_option maxHeartbeats 4000000 in
set_option maxRecDepth 100000 in
theorem e_X3_stopAt (l : Launch) (L : WL) (σ : ST) (p : Int32) (ix : IV σ) : CtI l L yX3_stopAt cX3_stopAt 2 (some .int) rm_X3_stopAt [.ref (L.2.1 7), .int p] σ (fun r σ2 => r = 5 ∧ σ2 = setI σ 11 p) := by
  refine ctI_go (own := RX3) (by decide) rfl (Nat.le_of_ble_eq_true rfl) (fun F hF => ?_)
  subst hF
  have n5 : (5 : Int32).toInt = 5 := by decide
  have w0 : WX σ σ := WX_rfl ix
  refine go_aload_n (i := 0) (pc' := 1) dX3_stopAt_0 rfl rfl rfl ?_
  refine go_iload_n (i := 1) (pc' := 2) dX3_stopAt_1 rfl rfl rfl ?_
  refine pf_7_wrongAt (pc' := 5) dX3_stopAt_2 rfl fl_X3_22 ?_
  refine go_iconst (v := 5) (pc' := 6) dX3_stopAt_5 rfl (by decide) ?_
  exact go_iret dX3_stopAt_6 rfl (⟨rfl, rfl⟩)
set_option maxHeartbeats 4000000 in
set_option maxRecDepth 100000 in
theorem e_X3_isOpen (l : Launch) (L : WL) (σ : ST) (s : Int32) (ix : IV σ) : CtI l L yX3_isOpen cX3_isOpen 3 (some .boolean) rm_X3_isOpen [.ref (L.2.1 7), .int s] σ (fun r σ2 => σ2 = σ ∧ bq (∃ i : Nat, (i : Int) < (σ.1 7).toInt ∧ (σ.2 44 i).toInt = s.toInt) r) := by
  refine ctI_go (own := RX3) (by decide) rfl (Nat.le_of_ble_eq_true rfl) (fun F hF => ?_)
  subst hF
  have n0 : (0 : Int32).toInt = 0 := by decide
  have n1 : (1 : Int32).toInt = 1 := by decide
  have w0 : WX σ σ := WX_rfl ix
  refine go_iconst (v := 0) (pc' := 1) dX3_isOpen_0 rfl (by decide) ?_
  refine go_istore_n (i := 2) (pc' := 2) dX3_isOpen_1 rfl rfl (by decide) ?_
  have loop2_1 : ∀ (dd1 : Nat) (x2_1 : Int32), (0 ≤ (x2_1).toInt ∧ (x2_1).toInt ≤ (σ.1 7).toInt) → (∀ i : Nat, (i : Int) < (x2_1).toInt → ¬ (σ.2 44 i).toInt = s.toInt) → (4 - (x2_1).toInt).toNat = dd1 → Go F L RX3 cX3_isOpen 3 rm_X3_isOpen (some .boolean) (RI F L (fun r σ2 => σ2 = σ ∧ bq (∃ i : Nat, (i : Int) < (σ.1 7).toInt ∧ (σ.2 44 i).toInt = s.toInt) r)) σ 2 [(0, .ref (L.2.1 7)), (1, .int s), (2, .int x2_1)] [] := by
    intro dd1
    induction dd1 using Nat.strongRecOn with
    | _ dd1 ih1 =>
      intro x2_1 h_1 hn_1 hm_1
      refine go_iload_n (i := 2) (pc' := 3) dX3_isOpen_2 rfl rfl rfl ?_
      refine go_aload_n (i := 0) (pc' := 4) dX3_isOpen_3 rfl rfl rfl ?_
      refine gf_7_depth (pc' := 7) dX3_isOpen_4 rfl fl_X3_7 ?_
      have g2 := ixi_7 w0.1
      refine gz_icmp_ge (tgt := 28) (pc' := 10) dX3_isOpen_7 rfl (by decide) (fun c3 => ?_) (fun c3 => ?_)
      · refine go_iconst (v := 0) (pc' := 29) dX3_isOpen_28 rfl (by decide) ?_
        exact go_zret dX3_isOpen_29 rfl rfl (⟨rfl, bq_f (fun ⟨i, q1, q2⟩ => hn_1 i (by omega) q2)⟩)
      refine go_aload_n (i := 0) (pc' := 11) dX3_isOpen_10 rfl rfl rfl ?_
      refine gf_7_open (pc' := 14) dX3_isOpen_11 rfl fl_X3_25 ?_
      refine go_iload_n (i := 2) (pc' := 15) dX3_isOpen_14 rfl rfl rfl ?_
      refine go_iald (pc' := 16) dX3_isOpen_15 rfl (by decide) (by decide) rfl (vin_of (n := 4) (by omega) (by omega)) ?_
      refine go_iload_n (i := 1) (pc' := 17) dX3_isOpen_16 rfl rfl rfl ?_
      refine gz_icmp_ne (tgt := 22) (pc' := 20) dX3_isOpen_17 rfl (by decide) (fun c4 => ?_) (fun c4 => ?_)
      · refine gz_iinc (c := 1) (pc' := 25) dX3_isOpen_22 rfl rfl (by decide) (by decide) (by decide) (by omega) (fun v5 h5 e5 => ?_)
        refine go_goto (tgt := 2) dX3_isOpen_25 (by decide) ?_
        exact go_lv (lv' := [(0, .ref (L.2.1 7)), (1, .int s), (2, .int v5)]) rfl (ih1 _ (by omega)  v5 (by omega) (all_step hn_1 (by omega) (by omega) c4) rfl)
      refine go_iconst (v := 1) (pc' := 21) dX3_isOpen_20 rfl (by decide) ?_
      exact go_zret dX3_isOpen_21 rfl rfl (⟨rfl, bq_t ⟨(x2_1).toNatClampNeg, by have z := cnat (x := x2_1) (by omega); omega, c4⟩⟩)
  exact go_lv (lv' := [(0, .ref (L.2.1 7)), (1, .int s), (2, .int (0 : Int32))]) rfl (loop2_1 _  (0 : Int32) (by have := ixi_7 ix; omega) (fun i hi => by exfalso; omega) rfl)
set_option maxHeartbeats 4000000 in
set_option maxRecDepth 100000 in
theorem e_X3_isSort (l : Launch) (L : WL) (σ : ST) (s : Int32) : CtI l L yX3_isSort cX3_isSort 1 (some .boolean) rm_X3_isSort [.int s] σ (fun r σ2 => σ2 = σ ∧ bq (sortP s.toInt) r) := by
  refine ctI_go (own := RX3) (by decide) rfl (Nat.le_of_ble_eq_true rfl) (fun F hF => ?_)
  subst hF
  have n0 : (0 : Int32).toInt = 0 := by decide
  have n1 : (1 : Int32).toInt = 1 := by decide
  have n97 : (97 : Int32).toInt = 97 := by decide
  have n100 : (100 : Int32).toInt = 100 := by decide
  have n104 : (104 : Int32).toInt = 104 := by decide
  have n110 : (110 : Int32).toInt = 110 := by decide
  have n115 : (115 : Int32).toInt = 115 := by decide
  have n117 : (117 : Int32).toInt = 117 := by decide
  refine go_iload_n (i := 0) (pc' := 1) dX3_isSort_0 rfl rfl rfl ?_
  refine go_bipush (v := 100) (pc' := 3) dX3_isSort_1 rfl (by decide) ?_
  refine gz_icmp_eq (tgt := 36) (pc' := 6) dX3_isSort_3 rfl (by decide) (fun c1 => ?_) (fun c1 => ?_)
  · refine go_iconst (v := 1) (pc' := 37) dX3_isSort_36 rfl (by decide) ?_
    refine go_goto (tgt := 41) dX3_isSort_37 (by decide) ?_
    exact go_zret dX3_isSort_41 rfl rfl (⟨rfl, by first | exact bq_t (by omega) | exact bq_f (by omega)⟩)
  refine go_iload_n (i := 0) (pc' := 7) dX3_isSort_6 rfl rfl rfl ?_
  refine go_bipush (v := 97) (pc' := 9) dX3_isSort_7 rfl (by decide) ?_
  refine gz_icmp_eq (tgt := 36) (pc' := 12) dX3_isSort_9 rfl (by decide) (fun c2 => ?_) (fun c2 => ?_)
  · refine go_iconst (v := 1) (pc' := 37) dX3_isSort_36 rfl (by decide) ?_
    refine go_goto (tgt := 41) dX3_isSort_37 (by decide) ?_
    exact go_zret dX3_isSort_41 rfl rfl (⟨rfl, by first | exact bq_t (by omega) | exact bq_f (by omega)⟩)
  refine go_iload_n (i := 0) (pc' := 13) dX3_isSort_12 rfl rfl rfl ?_
  refine go_bipush (v := 117) (pc' := 15) dX3_isSort_13 rfl (by decide) ?_
  refine gz_icmp_eq (tgt := 36) (pc' := 18) dX3_isSort_15 rfl (by decide) (fun c3 => ?_) (fun c3 => ?_)
  · refine go_iconst (v := 1) (pc' := 37) dX3_isSort_36 rfl (by decide) ?_
    refine go_goto (tgt := 41) dX3_isSort_37 (by decide) ?_
    exact go_zret dX3_isSort_41 rfl rfl (⟨rfl, by first | exact bq_t (by omega) | exact bq_f (by omega)⟩)
  refine go_iload_n (i := 0) (pc' := 19) dX3_isSort_18 rfl rfl rfl ?_
  refine go_bipush (v := 104) (pc' := 21) dX3_isSort_19 rfl (by decide) ?_
  refine gz_icmp_eq (tgt := 36) (pc' := 24) dX3_isSort_21 rfl (by decide) (fun c4 => ?_) (fun c4 => ?_)
  · refine go_iconst (v := 1) (pc' := 37) dX3_isSort_36 rfl (by decide) ?_
    refine go_goto (tgt := 41) dX3_isSort_37 (by decide) ?_
    exact go_zret dX3_isSort_41 rfl rfl (⟨rfl, by first | exact bq_t (by omega) | exact bq_f (by omega)⟩)
  refine go_iload_n (i := 0) (pc' := 25) dX3_isSort_24 rfl rfl rfl ?_
  refine go_bipush (v := 115) (pc' := 27) dX3_isSort_25 rfl (by decide) ?_
  refine gz_icmp_eq (tgt := 36) (pc' := 30) dX3_isSort_27 rfl (by decide) (fun c5 => ?_) (fun c5 => ?_)
  · refine go_iconst (v := 1) (pc' := 37) dX3_isSort_36 rfl (by decide) ?_
    refine go_goto (tgt := 41) dX3_isSort_37 (by decide) ?_
    exact go_zret dX3_isSort_41 rfl rfl (⟨rfl, by first | exact bq_t (by omega) | exact bq_f (by omega)⟩)
  refine go_iload_n (i := 0) (pc' := 31) dX3_isSort_30 rfl rfl rfl ?_
  refine go_bipush (v := 110) (pc' := 33) dX3_isSort_31 rfl (by decide) ?_
  refine gz_icmp_ne (tgt := 40) (pc' := 36) dX3_isSort_33 rfl (by decide) (fun c6 => ?_) (fun c6 => ?_)
  · refine go_iconst (v := 0) (pc' := 41) dX3_isSort_40 rfl (by decide) ?_
    exact go_zret dX3_isSort_41 rfl rfl (⟨rfl, by first | exact bq_t (by omega) | exact bq_f (by omega)⟩)
  refine go_iconst (v := 1) (pc' := 37) dX3_isSort_36 rfl (by decide) ?_
  refine go_goto (tgt := 41) dX3_isSort_37 (by decide) ?_
  exact go_zret dX3_isSort_41 rfl rfl (⟨rfl, by first | exact bq_t (by omega) | exact bq_f (by omega)⟩)
set_option maxHeartbeats 4000000 in
set_option maxRecDepth 100000 in
theorem e_X3_takeText (l : Launch) (L : WL) (σ : ST) (s p : Int32) (ix : IV σ) : CtI l L yX3_takeText cX3_takeText 3 (some .int) rm_X3_takeText [.ref (L.2.1 7), .int s, .int p] σ (fun r σ2 => sX_tText σ s p r σ2) := by
  refine ctI_go (own := RX3) (by decide) rfl (Nat.le_of_ble_eq_true rfl) (fun F hF => ?_)
  subst hF
  have n0 : (0 : Int32).toInt = 0 := by decide
  have n1 : (1 : Int32).toInt = 1 := by decide
  have n3 : (3 : Int32).toInt = 3 := by decide
  have n4 : (4 : Int32).toInt = 4 := by decide
  have n32 : (32 : Int32).toInt = 32 := by decide
  have n46 : (46 : Int32).toInt = 46 := by decide
  have n123 : (123 : Int32).toInt = 123 := by decide
  have n125 : (125 : Int32).toInt = 125 := by decide
  have w0 : WX σ σ := WX_rfl ix
  have u7 := ixi_7 ix
  refine go_iload_n (i := 1) (pc' := 1) dX3_takeText_0 rfl rfl rfl ?_
  refine go_csi (pc' := 4) ls_X3_45 (c_X3_isLetter _ _ _ _) rfl rfl (Nat.le_of_ble_eq_true rfl) ⟨Nat.le_of_ble_eq_true rfl, Nat.le_of_ble_eq_true rfl⟩ ⟨rfl, rfl⟩ dX3_takeText_1 rfl (fun r1 σ1 h1 => ?_)
  obtain ⟨e1, h1⟩ := h1
  have e1 := e1.symm
  subst e1
  refine go_neB (tgt := 19) (pc' := 7) h1 dX3_takeText_4 rfl (by decide) (fun c2 => ?_) (fun c2 => ?_)
  · refine go_iconst (v := 0) (pc' := 20) dX3_takeText_19 rfl (by decide) ?_
    exact go_iret dX3_takeText_20 rfl (Or.inl ⟨by omega, rfl, rfl⟩)
  refine go_iload_n (i := 1) (pc' := 8) dX3_takeText_7 rfl rfl rfl ?_
  refine go_bipush (v := 32) (pc' := 10) dX3_takeText_8 rfl (by decide) ?_
  refine gz_icmp_eq (tgt := 19) (pc' := 13) dX3_takeText_10 rfl (by decide) (fun c3 => ?_) (fun c3 => ?_)
  · refine go_iconst (v := 0) (pc' := 20) dX3_takeText_19 rfl (by decide) ?_
    exact go_iret dX3_takeText_20 rfl (Or.inl ⟨by omega, rfl, rfl⟩)
  refine go_iload_n (i := 1) (pc' := 14) dX3_takeText_13 rfl rfl rfl ?_
  refine go_bipush (v := 46) (pc' := 16) dX3_takeText_14 rfl (by decide) ?_
  refine gz_icmp_ne (tgt := 21) (pc' := 19) dX3_takeText_16 rfl (by decide) (fun c4 => ?_) (fun c4 => ?_)
  · refine go_iload_n (i := 1) (pc' := 22) dX3_takeText_21 rfl rfl rfl ?_
    refine go_bipush (v := 125) (pc' := 24) dX3_takeText_22 rfl (by decide) ?_
    refine gz_icmp_ne (tgt := 59) (pc' := 27) dX3_takeText_24 rfl (by decide) (fun c5 => ?_) (fun c5 => ?_)
    · refine go_iload_n (i := 1) (pc' := 60) dX3_takeText_59 rfl rfl rfl ?_
      refine go_bipush (v := 123) (pc' := 62) dX3_takeText_60 rfl (by decide) ?_
      refine gz_icmp_ne (tgt := 85) (pc' := 65) dX3_takeText_62 rfl (by decide) (fun c6 => ?_) (fun c6 => ?_)
      · refine go_aload_n (i := 0) (pc' := 86) dX3_takeText_85 rfl rfl rfl ?_
        refine go_iload_n (i := 2) (pc' := 87) dX3_takeText_86 rfl rfl rfl ?_
        refine go_cvi (pc' := 90) lk_X3_49 (e_X3_stopAt _ _ _ _ ix) rfl rfl (Nat.le_of_ble_eq_true rfl) (by decide) rfl rfl rfl ⟨Nat.le_of_ble_eq_true rfl, Nat.le_of_ble_eq_true rfl⟩ ⟨rfl, rfl⟩ dX3_takeText_87 rfl (fun r7 σ7 h7 => ?_)
        exact go_iret dX3_takeText_90 rfl (Or.inr (Or.inr (Or.inr (⟨by omega, h7.1, h7.2⟩))))
      refine go_aload_n (i := 0) (pc' := 66) dX3_takeText_65 rfl rfl rfl ?_
      refine gf_7_depth (pc' := 69) dX3_takeText_66 rfl fl_X3_7 ?_
      have g8 := ixi_7 ix
      refine go_iconst (v := 4) (pc' := 70) dX3_takeText_69 rfl (by decide) ?_
      refine gz_icmp_ge (tgt := 85) (pc' := 73) dX3_takeText_70 rfl (by decide) (fun c9 => ?_) (fun c9 => ?_)
      · refine go_aload_n (i := 0) (pc' := 86) dX3_takeText_85 rfl rfl rfl ?_
        refine go_iload_n (i := 2) (pc' := 87) dX3_takeText_86 rfl rfl rfl ?_
        refine go_cvi (pc' := 90) lk_X3_49 (e_X3_stopAt _ _ _ _ ix) rfl rfl (Nat.le_of_ble_eq_true rfl) (by decide) rfl rfl rfl ⟨Nat.le_of_ble_eq_true rfl, Nat.le_of_ble_eq_true rfl⟩ ⟨rfl, rfl⟩ dX3_takeText_87 rfl (fun r10 σ10 h10 => ?_)
        exact go_iret dX3_takeText_90 rfl (Or.inr (Or.inr (Or.inr (⟨by omega, h10.1, h10.2⟩))))
      refine go_aload_n (i := 0) (pc' := 74) dX3_takeText_73 rfl rfl rfl ?_
      refine go_iload_n (i := 2) (pc' := 75) dX3_takeText_74 rfl rfl rfl ?_
      refine pf_7_markAt (pc' := 78) dX3_takeText_75 rfl fl_X3_19 ?_
      refine go_aload_n (i := 0) (pc' := 79) dX3_takeText_78 rfl rfl rfl ?_
      refine go_iconst (v := 1) (pc' := 80) dX3_takeText_79 rfl (by decide) ?_
      refine pf_7_state (pc' := 83) dX3_takeText_80 rfl fl_X3_29 ?_
      refine go_iconst (v := 1) (pc' := 84) dX3_takeText_83 rfl (by decide) ?_
      exact go_iret dX3_takeText_84 rfl (Or.inr (Or.inr (Or.inl ⟨by omega, rfl, rfl⟩)))
    refine go_aload_n (i := 0) (pc' := 28) dX3_takeText_27 rfl rfl rfl ?_
    refine gf_7_depth (pc' := 31) dX3_takeText_28 rfl fl_X3_7 ?_
    have g11 := ixi_7 ix
    refine gz_if_le (tgt := 59) (pc' := 34) dX3_takeText_31 rfl (by decide) (fun c12 => ?_) (fun c12 => ?_)
    · refine go_iload_n (i := 1) (pc' := 60) dX3_takeText_59 rfl rfl rfl ?_
      refine go_bipush (v := 123) (pc' := 62) dX3_takeText_60 rfl (by decide) ?_
      refine gz_icmp_ne (tgt := 85) (pc' := 65) dX3_takeText_62 rfl (by decide) (fun c13 => ?_) (fun c13 => ?_)
      · refine go_aload_n (i := 0) (pc' := 86) dX3_takeText_85 rfl rfl rfl ?_
        refine go_iload_n (i := 2) (pc' := 87) dX3_takeText_86 rfl rfl rfl ?_
        refine go_cvi (pc' := 90) lk_X3_49 (e_X3_stopAt _ _ _ _ ix) rfl rfl (Nat.le_of_ble_eq_true rfl) (by decide) rfl rfl rfl ⟨Nat.le_of_ble_eq_true rfl, Nat.le_of_ble_eq_true rfl⟩ ⟨rfl, rfl⟩ dX3_takeText_87 rfl (fun r14 σ14 h14 => ?_)
        exact go_iret dX3_takeText_90 rfl (Or.inr (Or.inr (Or.inr (⟨by omega, h14.1, h14.2⟩))))
      refine go_aload_n (i := 0) (pc' := 66) dX3_takeText_65 rfl rfl rfl ?_
      refine gf_7_depth (pc' := 69) dX3_takeText_66 rfl fl_X3_7 ?_
      have g15 := ixi_7 ix
      refine go_iconst (v := 4) (pc' := 70) dX3_takeText_69 rfl (by decide) ?_
      refine gz_icmp_ge (tgt := 85) (pc' := 73) dX3_takeText_70 rfl (by decide) (fun c16 => ?_) (fun c16 => ?_)
      · refine go_aload_n (i := 0) (pc' := 86) dX3_takeText_85 rfl rfl rfl ?_
        refine go_iload_n (i := 2) (pc' := 87) dX3_takeText_86 rfl rfl rfl ?_
        refine go_cvi (pc' := 90) lk_X3_49 (e_X3_stopAt _ _ _ _ ix) rfl rfl (Nat.le_of_ble_eq_true rfl) (by decide) rfl rfl rfl ⟨Nat.le_of_ble_eq_true rfl, Nat.le_of_ble_eq_true rfl⟩ ⟨rfl, rfl⟩ dX3_takeText_87 rfl (fun r17 σ17 h17 => ?_)
        exact go_iret dX3_takeText_90 rfl (Or.inr (Or.inr (Or.inr (⟨by omega, h17.1, h17.2⟩))))
      refine go_aload_n (i := 0) (pc' := 74) dX3_takeText_73 rfl rfl rfl ?_
      refine go_iload_n (i := 2) (pc' := 75) dX3_takeText_74 rfl rfl rfl ?_
      refine pf_7_markAt (pc' := 78) dX3_takeText_75 rfl fl_X3_19 ?_
      refine go_aload_n (i := 0) (pc' := 79) dX3_takeText_78 rfl rfl rfl ?_
      refine go_iconst (v := 1) (pc' := 80) dX3_takeText_79 rfl (by decide) ?_
      refine pf_7_state (pc' := 83) dX3_takeText_80 rfl fl_X3_29 ?_
      refine go_iconst (v := 1) (pc' := 84) dX3_takeText_83 rfl (by decide) ?_
      exact go_iret dX3_takeText_84 rfl (Or.inr (Or.inr (Or.inl ⟨by omega, rfl, rfl⟩)))
    refine go_aload_n (i := 0) (pc' := 35) dX3_takeText_34 rfl rfl rfl ?_
    refine go_dup (pc' := 36) dX3_takeText_35 rfl rfl ?_
    refine gf_7_depth (pc' := 39) dX3_takeText_36 rfl fl_X3_7 ?_
    have g18 := ixi_7 ix
    refine go_iconst (v := 1) (pc' := 40) dX3_takeText_39 rfl (by decide) ?_
    refine go_isub (pc' := 41) dX3_takeText_40 rfl ?_
    have e40 := dec1 (x := σ.1 7) (by omega)
    refine pf_7_depth (pc' := 44) dX3_takeText_41 rfl fl_X3_7 ?_
    refine go_aload_n (i := 0) (pc' := 45) dX3_takeText_44 rfl rfl rfl ?_
    refine go_aload_n (i := 0) (pc' := 46) dX3_takeText_45 rfl rfl rfl ?_
    refine gf_7_open (pc' := 49) dX3_takeText_46 rfl fl_X3_25 ?_
    refine go_aload_n (i := 0) (pc' := 50) dX3_takeText_49 rfl rfl rfl ?_
    refine gf_7_depth (pc' := 53) dX3_takeText_50 rfl fl_X3_7 ?_
    refine go_topq (y := ((σ.1 7) - (1 : Int32))) rfl ?_
    refine go_iald (pc' := 54) dX3_takeText_53 rfl (by decide) (by decide) rfl (vin_of (n := 4) (by omega) (by omega)) ?_
    refine go_topq (y := (σ.2 44 (((σ.1 7) - (1 : Int32))).toNatClampNeg)) rfl ?_
    refine pf_7_sort (pc' := 57) dX3_takeText_54 rfl fl_X3_13 ?_
    refine go_iconst (v := 3) (pc' := 58) dX3_takeText_57 rfl (by decide) ?_
    exact go_iret dX3_takeText_58 rfl (Or.inr (Or.inl ⟨by omega, rfl, rfl⟩))
  refine go_iconst (v := 0) (pc' := 20) dX3_takeText_19 rfl (by decide) ?_
  exact go_iret dX3_takeText_20 rfl (Or.inl ⟨by omega, rfl, rfl⟩)
set_option maxHeartbeats 4000000 in
set_option maxRecDepth 100000 in
theorem e_X3_takeSort (l : Launch) (L : WL) (σ : ST) (s p : Int32) (ix : IV σ) : CtI l L yX3_takeSort cX3_takeSort 3 (some .int) rm_X3_takeSort [.ref (L.2.1 7), .int s, .int p] σ (fun r σ2 => sX_tSort σ s p r σ2) := by
  refine ctI_go (own := RX3) (by decide) rfl (Nat.le_of_ble_eq_true rfl) (fun F hF => ?_)
  subst hF
  have n0 : (0 : Int32).toInt = 0 := by decide
  have n1 : (1 : Int32).toInt = 1 := by decide
  have n2 : (2 : Int32).toInt = 2 := by decide
  have n110 : (110 : Int32).toInt = 110 := by decide
  have n115 : (115 : Int32).toInt = 115 := by decide
  have w0 : WX σ σ := WX_rfl ix
  refine go_iload_n (i := 1) (pc' := 1) dX3_takeSort_0 rfl rfl rfl ?_
  refine go_csi (pc' := 4) ls_X3_53 (e_X3_isSort _ _ _ _) rfl rfl (Nat.le_of_ble_eq_true rfl) ⟨Nat.le_of_ble_eq_true rfl, Nat.le_of_ble_eq_true rfl⟩ ⟨rfl, rfl⟩ dX3_takeSort_1 rfl (fun r1 σ1 h1 => ?_)
  obtain ⟨e1, h1⟩ := h1
  have e1 := e1.symm
  subst e1
  refine go_neB (tgt := 13) (pc' := 7) h1 dX3_takeSort_4 rfl (by decide) (fun c2 => ?_) (fun c2 => ?_)
  · have hs1 := c2
    refine go_aload_n (i := 0) (pc' := 14) dX3_takeSort_13 rfl rfl rfl ?_
    refine go_iload_n (i := 1) (pc' := 15) dX3_takeSort_14 rfl rfl rfl ?_
    refine go_cvi (pc' := 18) lk_X3_56 (e_X3_isOpen _ _ _ _ ix) rfl rfl (Nat.le_of_ble_eq_true rfl) (by decide) rfl rfl rfl ⟨Nat.le_of_ble_eq_true rfl, Nat.le_of_ble_eq_true rfl⟩ ⟨rfl, rfl⟩ dX3_takeSort_15 rfl (fun r3 σ3 h3 => ?_)
    obtain ⟨e3, h3⟩ := h3
    have e3 := e3.symm
    subst e3
    refine go_eqB (tgt := 30) (pc' := 21) h3 dX3_takeSort_18 rfl (by decide) (fun c4 => ?_) (fun c4 => ?_)
    · have ho1 := c4
      refine go_aload_n (i := 0) (pc' := 31) dX3_takeSort_30 rfl rfl rfl ?_
      refine go_iload_n (i := 1) (pc' := 32) dX3_takeSort_31 rfl rfl rfl ?_
      refine pf_7_sort (pc' := 35) dX3_takeSort_32 rfl fl_X3_13 ?_
      refine go_iload_n (i := 1) (pc' := 36) dX3_takeSort_35 rfl rfl rfl ?_
      refine go_bipush (v := 115) (pc' := 38) dX3_takeSort_36 rfl (by decide) ?_
      refine gz_icmp_eq (tgt := 47) (pc' := 41) dX3_takeSort_38 rfl (by decide) (fun c5 => ?_) (fun c5 => ?_)
      · refine go_aload_n (i := 0) (pc' := 48) dX3_takeSort_47 rfl rfl rfl ?_
        refine go_iconst (v := 0) (pc' := 49) dX3_takeSort_48 rfl (by decide) ?_
        refine pf_7_number (pc' := 52) dX3_takeSort_49 rfl fl_X3_16 ?_
        refine go_aload_n (i := 0) (pc' := 53) dX3_takeSort_52 rfl rfl rfl ?_
        refine go_iconst (v := 0) (pc' := 54) dX3_takeSort_53 rfl (by decide) ?_
        refine pf_7_digits (pc' := 57) dX3_takeSort_54 rfl fl_X3_32 ?_
        refine go_aload_n (i := 0) (pc' := 58) dX3_takeSort_57 rfl rfl rfl ?_
        refine go_iconst (v := 2) (pc' := 59) dX3_takeSort_58 rfl (by decide) ?_
        refine pf_7_state (pc' := 62) dX3_takeSort_59 rfl fl_X3_29 ?_
        refine go_iconst (v := 1) (pc' := 63) dX3_takeSort_62 rfl (by decide) ?_
        exact go_iret dX3_takeSort_63 rfl (Or.inr (Or.inr (Or.inl ⟨hs1, ho1, by omega, rfl, rfl⟩)))
      refine go_iload_n (i := 1) (pc' := 42) dX3_takeSort_41 rfl rfl rfl ?_
      refine go_bipush (v := 110) (pc' := 44) dX3_takeSort_42 rfl (by decide) ?_
      refine gz_icmp_ne (tgt := 64) (pc' := 47) dX3_takeSort_44 rfl (by decide) (fun c6 => ?_) (fun c6 => ?_)
      · refine go_aload_n (i := 0) (pc' := 65) dX3_takeSort_64 rfl rfl rfl ?_
        refine go_cvi (pc' := 68) lk_X3_59 (e_X3_openMark _ _ _ (ixs_n ix (by decide))) rfl rfl (Nat.le_of_ble_eq_true rfl) (by decide) rfl rfl rfl ⟨Nat.le_of_ble_eq_true rfl, Nat.le_of_ble_eq_true rfl⟩ ⟨rfl, rfl⟩ dX3_takeSort_65 rfl (fun r7 σ7 h7 => ?_)
        exact go_iret dX3_takeSort_68 rfl (Or.inr (Or.inr (Or.inr (⟨hs1, ho1, by omega, h7⟩))))
      refine go_aload_n (i := 0) (pc' := 48) dX3_takeSort_47 rfl rfl rfl ?_
      refine go_iconst (v := 0) (pc' := 49) dX3_takeSort_48 rfl (by decide) ?_
      refine pf_7_number (pc' := 52) dX3_takeSort_49 rfl fl_X3_16 ?_
      refine go_aload_n (i := 0) (pc' := 53) dX3_takeSort_52 rfl rfl rfl ?_
      refine go_iconst (v := 0) (pc' := 54) dX3_takeSort_53 rfl (by decide) ?_
      refine pf_7_digits (pc' := 57) dX3_takeSort_54 rfl fl_X3_32 ?_
      refine go_aload_n (i := 0) (pc' := 58) dX3_takeSort_57 rfl rfl rfl ?_
      refine go_iconst (v := 2) (pc' := 59) dX3_takeSort_58 rfl (by decide) ?_
      refine pf_7_state (pc' := 62) dX3_takeSort_59 rfl fl_X3_29 ?_
      refine go_iconst (v := 1) (pc' := 63) dX3_takeSort_62 rfl (by decide) ?_
      exact go_iret dX3_takeSort_63 rfl (Or.inr (Or.inr (Or.inl ⟨hs1, ho1, by omega, rfl, rfl⟩)))
    have ho1 := c4
    refine go_aload_n (i := 0) (pc' := 22) dX3_takeSort_21 rfl rfl rfl ?_
    refine go_aload_n (i := 0) (pc' := 23) dX3_takeSort_22 rfl rfl rfl ?_
    refine gf_7_markAt (pc' := 26) dX3_takeSort_23 rfl fl_X3_19 ?_
    refine go_cvi (pc' := 29) lk_X3_49 (e_X3_stopAt _ _ _ _ ix) rfl rfl (Nat.le_of_ble_eq_true rfl) (by decide) rfl rfl rfl ⟨Nat.le_of_ble_eq_true rfl, Nat.le_of_ble_eq_true rfl⟩ ⟨rfl, rfl⟩ dX3_takeSort_26 rfl (fun r8 σ8 h8 => ?_)
    exact go_iret dX3_takeSort_29 rfl (Or.inr (Or.inl ⟨hs1, ho1, h8.1, h8.2⟩))
  refine go_aload_n (i := 0) (pc' := 8) dX3_takeSort_7 rfl rfl rfl ?_
  refine go_iload_n (i := 2) (pc' := 9) dX3_takeSort_8 rfl rfl rfl ?_
  refine go_cvi (pc' := 12) lk_X3_49 (e_X3_stopAt _ _ _ _ ix) rfl rfl (Nat.le_of_ble_eq_true rfl) (by decide) rfl rfl rfl ⟨Nat.le_of_ble_eq_true rfl, Nat.le_of_ble_eq_true rfl⟩ ⟨rfl, rfl⟩ dX3_takeSort_9 rfl (fun r9 σ9 h9 => ?_)
  exact go_iret dX3_takeSort_12 rfl (Or.inl ⟨c2, h9.1, h9.2⟩)
set_option maxHeartbeats 4000000 in
set_option maxRecDepth 100000 in
theorem e_X3_takeNumber (l : Launch) (L : WL) (σ : ST) (s p : Int32) (ix : IV σ) : CtI l L yX3_takeNumber cX3_takeNumber 3 (some .int) rm_X3_takeNumber [.ref (L.2.1 7), .int s, .int p] σ (fun r σ2 => sX_tNum σ s p r σ2) := by
  refine ctI_go (own := RX3) (by decide) rfl (Nat.le_of_ble_eq_true rfl) (fun F hF => ?_)
  subst hF
  have n0 : (0 : Int32).toInt = 0 := by decide
  have n1 : (1 : Int32).toInt = 1 := by decide
  have n4 : (4 : Int32).toInt = 4 := by decide
  have n10 : (10 : Int32).toInt = 10 := by decide
  have n48 : (48 : Int32).toInt = 48 := by decide
  have n57 : (57 : Int32).toInt = 57 := by decide
  have n58 : (58 : Int32).toInt = 58 := by decide
  have n115 : (115 : Int32).toInt = 115 := by decide
  have n125 : (125 : Int32).toInt = 125 := by decide
  have w0 : WX σ σ := WX_rfl ix
  refine go_iload_n (i := 1) (pc' := 1) dX3_takeNumber_0 rfl rfl rfl ?_
  refine go_bipush (v := 48) (pc' := 3) dX3_takeNumber_1 rfl (by decide) ?_
  refine gz_icmp_lt (tgt := 48) (pc' := 6) dX3_takeNumber_3 rfl (by decide) (fun c1 => ?_) (fun c1 => ?_)
  · refine go_aload_n (i := 0) (pc' := 49) dX3_takeNumber_48 rfl rfl rfl ?_
    refine gf_7_digits (pc' := 52) dX3_takeNumber_49 rfl fl_X3_32 ?_
    refine gz_if_eq (tgt := 75) (pc' := 55) dX3_takeNumber_52 rfl (by decide) (fun c2 => ?_) (fun c2 => ?_)
    · refine go_aload_n (i := 0) (pc' := 76) dX3_takeNumber_75 rfl rfl rfl ?_
      refine go_iload_n (i := 2) (pc' := 77) dX3_takeNumber_76 rfl rfl rfl ?_
      refine go_cvi (pc' := 80) lk_X3_49 (e_X3_stopAt _ _ _ _ ix) rfl rfl (Nat.le_of_ble_eq_true rfl) (by decide) rfl rfl rfl ⟨Nat.le_of_ble_eq_true rfl, Nat.le_of_ble_eq_true rfl⟩ ⟨rfl, rfl⟩ dX3_takeNumber_77 rfl (fun r3 σ3 h3 => ?_)
      exact go_iret dX3_takeNumber_80 rfl (Or.inr (Or.inl ⟨by omega, by first | exact Or.inl (by omega) | exact Or.inr (by split <;> omega), h3.1, h3.2⟩))
    refine go_iload_n (i := 1) (pc' := 56) dX3_takeNumber_55 rfl rfl rfl ?_
    refine go_aload_n (i := 0) (pc' := 57) dX3_takeNumber_56 rfl rfl rfl ?_
    refine gf_7_sort (pc' := 60) dX3_takeNumber_57 rfl fl_X3_13 ?_
    refine go_bipush (v := 115) (pc' := 62) dX3_takeNumber_60 rfl (by decide) ?_
    refine gz_icmp_ne (tgt := 70) (pc' := 65) dX3_takeNumber_62 rfl (by decide) (fun c4 => ?_) (fun c4 => ?_)
    · refine go_bipush (v := 125) (pc' := 72) dX3_takeNumber_70 rfl (by decide) ?_
      refine gz_icmp_eq (tgt := 81) (pc' := 75) dX3_takeNumber_72 rfl (by decide) (fun c5 => ?_) (fun c5 => ?_)
      · refine go_aload_n (i := 0) (pc' := 82) dX3_takeNumber_81 rfl rfl rfl ?_
        refine gf_7_sort (pc' := 85) dX3_takeNumber_82 rfl fl_X3_13 ?_
        refine go_bipush (v := 115) (pc' := 87) dX3_takeNumber_85 rfl (by decide) ?_
        refine gz_icmp_ne (tgt := 95) (pc' := 90) dX3_takeNumber_87 rfl (by decide) (fun c6 => ?_) (fun c6 => ?_)
        · refine go_aload_n (i := 0) (pc' := 96) dX3_takeNumber_95 rfl rfl rfl ?_
          refine go_iconst (v := 0) (pc' := 97) dX3_takeNumber_96 rfl (by decide) ?_
          refine pf_7_state (pc' := 100) dX3_takeNumber_97 rfl fl_X3_29 ?_
          refine go_iconst (v := 4) (pc' := 101) dX3_takeNumber_100 rfl (by decide) ?_
          exact go_iret dX3_takeNumber_101 rfl (Or.inr (Or.inr (Or.inr (⟨by omega, by omega, by omega, by omega, rfl, rfl⟩))))
        refine go_aload_n (i := 0) (pc' := 91) dX3_takeNumber_90 rfl rfl rfl ?_
        refine go_cvi (pc' := 94) lk_X3_59 (e_X3_openMark _ _ _ ix) rfl rfl (Nat.le_of_ble_eq_true rfl) (by decide) rfl rfl rfl ⟨Nat.le_of_ble_eq_true rfl, Nat.le_of_ble_eq_true rfl⟩ ⟨rfl, rfl⟩ dX3_takeNumber_91 rfl (fun r7 σ7 h7 => ?_)
        exact go_iret dX3_takeNumber_94 rfl (Or.inr (Or.inr (Or.inl ⟨by omega, by omega, by omega, by omega, h7⟩)))
      refine go_aload_n (i := 0) (pc' := 76) dX3_takeNumber_75 rfl rfl rfl ?_
      refine go_iload_n (i := 2) (pc' := 77) dX3_takeNumber_76 rfl rfl rfl ?_
      refine go_cvi (pc' := 80) lk_X3_49 (e_X3_stopAt _ _ _ _ ix) rfl rfl (Nat.le_of_ble_eq_true rfl) (by decide) rfl rfl rfl ⟨Nat.le_of_ble_eq_true rfl, Nat.le_of_ble_eq_true rfl⟩ ⟨rfl, rfl⟩ dX3_takeNumber_77 rfl (fun r8 σ8 h8 => ?_)
      exact go_iret dX3_takeNumber_80 rfl (Or.inr (Or.inl ⟨by omega, by first | exact Or.inl (by omega) | exact Or.inr (by split <;> omega), h8.1, h8.2⟩))
    refine go_bipush (v := 58) (pc' := 67) dX3_takeNumber_65 rfl (by decide) ?_
    refine go_goto (tgt := 72) dX3_takeNumber_67 (by decide) ?_
    refine gz_icmp_eq (tgt := 81) (pc' := 75) dX3_takeNumber_72 rfl (by decide) (fun c9 => ?_) (fun c9 => ?_)
    · refine go_aload_n (i := 0) (pc' := 82) dX3_takeNumber_81 rfl rfl rfl ?_
      refine gf_7_sort (pc' := 85) dX3_takeNumber_82 rfl fl_X3_13 ?_
      refine go_bipush (v := 115) (pc' := 87) dX3_takeNumber_85 rfl (by decide) ?_
      refine gz_icmp_ne (tgt := 95) (pc' := 90) dX3_takeNumber_87 rfl (by decide) (fun c10 => ?_) (fun c10 => ?_)
      · refine go_aload_n (i := 0) (pc' := 96) dX3_takeNumber_95 rfl rfl rfl ?_
        refine go_iconst (v := 0) (pc' := 97) dX3_takeNumber_96 rfl (by decide) ?_
        refine pf_7_state (pc' := 100) dX3_takeNumber_97 rfl fl_X3_29 ?_
        refine go_iconst (v := 4) (pc' := 101) dX3_takeNumber_100 rfl (by decide) ?_
        exact go_iret dX3_takeNumber_101 rfl (Or.inr (Or.inr (Or.inr (⟨by omega, by omega, by omega, by omega, rfl, rfl⟩))))
      refine go_aload_n (i := 0) (pc' := 91) dX3_takeNumber_90 rfl rfl rfl ?_
      refine go_cvi (pc' := 94) lk_X3_59 (e_X3_openMark _ _ _ ix) rfl rfl (Nat.le_of_ble_eq_true rfl) (by decide) rfl rfl rfl ⟨Nat.le_of_ble_eq_true rfl, Nat.le_of_ble_eq_true rfl⟩ ⟨rfl, rfl⟩ dX3_takeNumber_91 rfl (fun r11 σ11 h11 => ?_)
      exact go_iret dX3_takeNumber_94 rfl (Or.inr (Or.inr (Or.inl ⟨by omega, by omega, by omega, by omega, h11⟩)))
    refine go_aload_n (i := 0) (pc' := 76) dX3_takeNumber_75 rfl rfl rfl ?_
    refine go_iload_n (i := 2) (pc' := 77) dX3_takeNumber_76 rfl rfl rfl ?_
    refine go_cvi (pc' := 80) lk_X3_49 (e_X3_stopAt _ _ _ _ ix) rfl rfl (Nat.le_of_ble_eq_true rfl) (by decide) rfl rfl rfl ⟨Nat.le_of_ble_eq_true rfl, Nat.le_of_ble_eq_true rfl⟩ ⟨rfl, rfl⟩ dX3_takeNumber_77 rfl (fun r12 σ12 h12 => ?_)
    exact go_iret dX3_takeNumber_80 rfl (Or.inr (Or.inl ⟨by omega, by first | exact Or.inl (by omega) | exact Or.inr (by split <;> omega), h12.1, h12.2⟩))
  refine go_iload_n (i := 1) (pc' := 7) dX3_takeNumber_6 rfl rfl rfl ?_
  refine go_bipush (v := 57) (pc' := 9) dX3_takeNumber_7 rfl (by decide) ?_
  refine gz_icmp_gt (tgt := 48) (pc' := 12) dX3_takeNumber_9 rfl (by decide) (fun c13 => ?_) (fun c13 => ?_)
  · refine go_aload_n (i := 0) (pc' := 49) dX3_takeNumber_48 rfl rfl rfl ?_
    refine gf_7_digits (pc' := 52) dX3_takeNumber_49 rfl fl_X3_32 ?_
    refine gz_if_eq (tgt := 75) (pc' := 55) dX3_takeNumber_52 rfl (by decide) (fun c14 => ?_) (fun c14 => ?_)
    · refine go_aload_n (i := 0) (pc' := 76) dX3_takeNumber_75 rfl rfl rfl ?_
      refine go_iload_n (i := 2) (pc' := 77) dX3_takeNumber_76 rfl rfl rfl ?_
      refine go_cvi (pc' := 80) lk_X3_49 (e_X3_stopAt _ _ _ _ ix) rfl rfl (Nat.le_of_ble_eq_true rfl) (by decide) rfl rfl rfl ⟨Nat.le_of_ble_eq_true rfl, Nat.le_of_ble_eq_true rfl⟩ ⟨rfl, rfl⟩ dX3_takeNumber_77 rfl (fun r15 σ15 h15 => ?_)
      exact go_iret dX3_takeNumber_80 rfl (Or.inr (Or.inl ⟨by omega, by first | exact Or.inl (by omega) | exact Or.inr (by split <;> omega), h15.1, h15.2⟩))
    refine go_iload_n (i := 1) (pc' := 56) dX3_takeNumber_55 rfl rfl rfl ?_
    refine go_aload_n (i := 0) (pc' := 57) dX3_takeNumber_56 rfl rfl rfl ?_
    refine gf_7_sort (pc' := 60) dX3_takeNumber_57 rfl fl_X3_13 ?_
    refine go_bipush (v := 115) (pc' := 62) dX3_takeNumber_60 rfl (by decide) ?_
    refine gz_icmp_ne (tgt := 70) (pc' := 65) dX3_takeNumber_62 rfl (by decide) (fun c16 => ?_) (fun c16 => ?_)
    · refine go_bipush (v := 125) (pc' := 72) dX3_takeNumber_70 rfl (by decide) ?_
      refine gz_icmp_eq (tgt := 81) (pc' := 75) dX3_takeNumber_72 rfl (by decide) (fun c17 => ?_) (fun c17 => ?_)
      · refine go_aload_n (i := 0) (pc' := 82) dX3_takeNumber_81 rfl rfl rfl ?_
        refine gf_7_sort (pc' := 85) dX3_takeNumber_82 rfl fl_X3_13 ?_
        refine go_bipush (v := 115) (pc' := 87) dX3_takeNumber_85 rfl (by decide) ?_
        refine gz_icmp_ne (tgt := 95) (pc' := 90) dX3_takeNumber_87 rfl (by decide) (fun c18 => ?_) (fun c18 => ?_)
        · refine go_aload_n (i := 0) (pc' := 96) dX3_takeNumber_95 rfl rfl rfl ?_
          refine go_iconst (v := 0) (pc' := 97) dX3_takeNumber_96 rfl (by decide) ?_
          refine pf_7_state (pc' := 100) dX3_takeNumber_97 rfl fl_X3_29 ?_
          refine go_iconst (v := 4) (pc' := 101) dX3_takeNumber_100 rfl (by decide) ?_
          exact go_iret dX3_takeNumber_101 rfl (Or.inr (Or.inr (Or.inr (⟨by omega, by omega, by omega, by omega, rfl, rfl⟩))))
        refine go_aload_n (i := 0) (pc' := 91) dX3_takeNumber_90 rfl rfl rfl ?_
        refine go_cvi (pc' := 94) lk_X3_59 (e_X3_openMark _ _ _ ix) rfl rfl (Nat.le_of_ble_eq_true rfl) (by decide) rfl rfl rfl ⟨Nat.le_of_ble_eq_true rfl, Nat.le_of_ble_eq_true rfl⟩ ⟨rfl, rfl⟩ dX3_takeNumber_91 rfl (fun r19 σ19 h19 => ?_)
        exact go_iret dX3_takeNumber_94 rfl (Or.inr (Or.inr (Or.inl ⟨by omega, by omega, by omega, by omega, h19⟩)))
      refine go_aload_n (i := 0) (pc' := 76) dX3_takeNumber_75 rfl rfl rfl ?_
      refine go_iload_n (i := 2) (pc' := 77) dX3_takeNumber_76 rfl rfl rfl ?_
      refine go_cvi (pc' := 80) lk_X3_49 (e_X3_stopAt _ _ _ _ ix) rfl rfl (Nat.le_of_ble_eq_true rfl) (by decide) rfl rfl rfl ⟨Nat.le_of_ble_eq_true rfl, Nat.le_of_ble_eq_true rfl⟩ ⟨rfl, rfl⟩ dX3_takeNumber_77 rfl (fun r20 σ20 h20 => ?_)
      exact go_iret dX3_takeNumber_80 rfl (Or.inr (Or.inl ⟨by omega, by first | exact Or.inl (by omega) | exact Or.inr (by split <;> omega), h20.1, h20.2⟩))
    refine go_bipush (v := 58) (pc' := 67) dX3_takeNumber_65 rfl (by decide) ?_
    refine go_goto (tgt := 72) dX3_takeNumber_67 (by decide) ?_
    refine gz_icmp_eq (tgt := 81) (pc' := 75) dX3_takeNumber_72 rfl (by decide) (fun c21 => ?_) (fun c21 => ?_)
    · refine go_aload_n (i := 0) (pc' := 82) dX3_takeNumber_81 rfl rfl rfl ?_
      refine gf_7_sort (pc' := 85) dX3_takeNumber_82 rfl fl_X3_13 ?_
      refine go_bipush (v := 115) (pc' := 87) dX3_takeNumber_85 rfl (by decide) ?_
      refine gz_icmp_ne (tgt := 95) (pc' := 90) dX3_takeNumber_87 rfl (by decide) (fun c22 => ?_) (fun c22 => ?_)
      · refine go_aload_n (i := 0) (pc' := 96) dX3_takeNumber_95 rfl rfl rfl ?_
        refine go_iconst (v := 0) (pc' := 97) dX3_takeNumber_96 rfl (by decide) ?_
        refine pf_7_state (pc' := 100) dX3_takeNumber_97 rfl fl_X3_29 ?_
        refine go_iconst (v := 4) (pc' := 101) dX3_takeNumber_100 rfl (by decide) ?_
        exact go_iret dX3_takeNumber_101 rfl (Or.inr (Or.inr (Or.inr (⟨by omega, by omega, by omega, by omega, rfl, rfl⟩))))
      refine go_aload_n (i := 0) (pc' := 91) dX3_takeNumber_90 rfl rfl rfl ?_
      refine go_cvi (pc' := 94) lk_X3_59 (e_X3_openMark _ _ _ ix) rfl rfl (Nat.le_of_ble_eq_true rfl) (by decide) rfl rfl rfl ⟨Nat.le_of_ble_eq_true rfl, Nat.le_of_ble_eq_true rfl⟩ ⟨rfl, rfl⟩ dX3_takeNumber_91 rfl (fun r23 σ23 h23 => ?_)
      exact go_iret dX3_takeNumber_94 rfl (Or.inr (Or.inr (Or.inl ⟨by omega, by omega, by omega, by omega, h23⟩)))
    refine go_aload_n (i := 0) (pc' := 76) dX3_takeNumber_75 rfl rfl rfl ?_
    refine go_iload_n (i := 2) (pc' := 77) dX3_takeNumber_76 rfl rfl rfl ?_
    refine go_cvi (pc' := 80) lk_X3_49 (e_X3_stopAt _ _ _ _ ix) rfl rfl (Nat.le_of_ble_eq_true rfl) (by decide) rfl rfl rfl ⟨Nat.le_of_ble_eq_true rfl, Nat.le_of_ble_eq_true rfl⟩ ⟨rfl, rfl⟩ dX3_takeNumber_77 rfl (fun r24 σ24 h24 => ?_)
    exact go_iret dX3_takeNumber_80 rfl (Or.inr (Or.inl ⟨by omega, by first | exact Or.inl (by omega) | exact Or.inr (by split <;> omega), h24.1, h24.2⟩))
  refine go_aload_n (i := 0) (pc' := 13) dX3_takeNumber_12 rfl rfl rfl ?_
  refine gf_7_digits (pc' := 16) dX3_takeNumber_13 rfl fl_X3_32 ?_
  refine go_iconst (v := 4) (pc' := 17) dX3_takeNumber_16 rfl (by decide) ?_
  refine gz_icmp_ge (tgt := 48) (pc' := 20) dX3_takeNumber_17 rfl (by decide) (fun c25 => ?_) (fun c25 => ?_)
  · refine go_aload_n (i := 0) (pc' := 49) dX3_takeNumber_48 rfl rfl rfl ?_
    refine gf_7_digits (pc' := 52) dX3_takeNumber_49 rfl fl_X3_32 ?_
    refine gz_if_eq (tgt := 75) (pc' := 55) dX3_takeNumber_52 rfl (by decide) (fun c26 => ?_) (fun c26 => ?_)
    · refine go_aload_n (i := 0) (pc' := 76) dX3_takeNumber_75 rfl rfl rfl ?_
      refine go_iload_n (i := 2) (pc' := 77) dX3_takeNumber_76 rfl rfl rfl ?_
      refine go_cvi (pc' := 80) lk_X3_49 (e_X3_stopAt _ _ _ _ ix) rfl rfl (Nat.le_of_ble_eq_true rfl) (by decide) rfl rfl rfl ⟨Nat.le_of_ble_eq_true rfl, Nat.le_of_ble_eq_true rfl⟩ ⟨rfl, rfl⟩ dX3_takeNumber_77 rfl (fun r27 σ27 h27 => ?_)
      exact go_iret dX3_takeNumber_80 rfl (Or.inr (Or.inl ⟨by omega, by first | exact Or.inl (by omega) | exact Or.inr (by split <;> omega), h27.1, h27.2⟩))
    refine go_iload_n (i := 1) (pc' := 56) dX3_takeNumber_55 rfl rfl rfl ?_
    refine go_aload_n (i := 0) (pc' := 57) dX3_takeNumber_56 rfl rfl rfl ?_
    refine gf_7_sort (pc' := 60) dX3_takeNumber_57 rfl fl_X3_13 ?_
    refine go_bipush (v := 115) (pc' := 62) dX3_takeNumber_60 rfl (by decide) ?_
    refine gz_icmp_ne (tgt := 70) (pc' := 65) dX3_takeNumber_62 rfl (by decide) (fun c28 => ?_) (fun c28 => ?_)
    · refine go_bipush (v := 125) (pc' := 72) dX3_takeNumber_70 rfl (by decide) ?_
      refine gz_icmp_eq (tgt := 81) (pc' := 75) dX3_takeNumber_72 rfl (by decide) (fun c29 => ?_) (fun c29 => ?_)
      · refine go_aload_n (i := 0) (pc' := 82) dX3_takeNumber_81 rfl rfl rfl ?_
        refine gf_7_sort (pc' := 85) dX3_takeNumber_82 rfl fl_X3_13 ?_
        refine go_bipush (v := 115) (pc' := 87) dX3_takeNumber_85 rfl (by decide) ?_
        refine gz_icmp_ne (tgt := 95) (pc' := 90) dX3_takeNumber_87 rfl (by decide) (fun c30 => ?_) (fun c30 => ?_)
        · refine go_aload_n (i := 0) (pc' := 96) dX3_takeNumber_95 rfl rfl rfl ?_
          refine go_iconst (v := 0) (pc' := 97) dX3_takeNumber_96 rfl (by decide) ?_
          refine pf_7_state (pc' := 100) dX3_takeNumber_97 rfl fl_X3_29 ?_
          refine go_iconst (v := 4) (pc' := 101) dX3_takeNumber_100 rfl (by decide) ?_
          exact go_iret dX3_takeNumber_101 rfl (Or.inr (Or.inr (Or.inr (⟨by omega, by omega, by omega, by omega, rfl, rfl⟩))))
        refine go_aload_n (i := 0) (pc' := 91) dX3_takeNumber_90 rfl rfl rfl ?_
        refine go_cvi (pc' := 94) lk_X3_59 (e_X3_openMark _ _ _ ix) rfl rfl (Nat.le_of_ble_eq_true rfl) (by decide) rfl rfl rfl ⟨Nat.le_of_ble_eq_true rfl, Nat.le_of_ble_eq_true rfl⟩ ⟨rfl, rfl⟩ dX3_takeNumber_91 rfl (fun r31 σ31 h31 => ?_)
        exact go_iret dX3_takeNumber_94 rfl (Or.inr (Or.inr (Or.inl ⟨by omega, by omega, by omega, by omega, h31⟩)))
      refine go_aload_n (i := 0) (pc' := 76) dX3_takeNumber_75 rfl rfl rfl ?_
      refine go_iload_n (i := 2) (pc' := 77) dX3_takeNumber_76 rfl rfl rfl ?_
      refine go_cvi (pc' := 80) lk_X3_49 (e_X3_stopAt _ _ _ _ ix) rfl rfl (Nat.le_of_ble_eq_true rfl) (by decide) rfl rfl rfl ⟨Nat.le_of_ble_eq_true rfl, Nat.le_of_ble_eq_true rfl⟩ ⟨rfl, rfl⟩ dX3_takeNumber_77 rfl (fun r32 σ32 h32 => ?_)
      exact go_iret dX3_takeNumber_80 rfl (Or.inr (Or.inl ⟨by omega, by first | exact Or.inl (by omega) | exact Or.inr (by split <;> omega), h32.1, h32.2⟩))
    refine go_bipush (v := 58) (pc' := 67) dX3_takeNumber_65 rfl (by decide) ?_
    refine go_goto (tgt := 72) dX3_takeNumber_67 (by decide) ?_
    refine gz_icmp_eq (tgt := 81) (pc' := 75) dX3_takeNumber_72 rfl (by decide) (fun c33 => ?_) (fun c33 => ?_)
    · refine go_aload_n (i := 0) (pc' := 82) dX3_takeNumber_81 rfl rfl rfl ?_
      refine gf_7_sort (pc' := 85) dX3_takeNumber_82 rfl fl_X3_13 ?_
      refine go_bipush (v := 115) (pc' := 87) dX3_takeNumber_85 rfl (by decide) ?_
      refine gz_icmp_ne (tgt := 95) (pc' := 90) dX3_takeNumber_87 rfl (by decide) (fun c34 => ?_) (fun c34 => ?_)
      · refine go_aload_n (i := 0) (pc' := 96) dX3_takeNumber_95 rfl rfl rfl ?_
        refine go_iconst (v := 0) (pc' := 97) dX3_takeNumber_96 rfl (by decide) ?_
        refine pf_7_state (pc' := 100) dX3_takeNumber_97 rfl fl_X3_29 ?_
        refine go_iconst (v := 4) (pc' := 101) dX3_takeNumber_100 rfl (by decide) ?_
        exact go_iret dX3_takeNumber_101 rfl (Or.inr (Or.inr (Or.inr (⟨by omega, by omega, by omega, by omega, rfl, rfl⟩))))
      refine go_aload_n (i := 0) (pc' := 91) dX3_takeNumber_90 rfl rfl rfl ?_
      refine go_cvi (pc' := 94) lk_X3_59 (e_X3_openMark _ _ _ ix) rfl rfl (Nat.le_of_ble_eq_true rfl) (by decide) rfl rfl rfl ⟨Nat.le_of_ble_eq_true rfl, Nat.le_of_ble_eq_true rfl⟩ ⟨rfl, rfl⟩ dX3_takeNumber_91 rfl (fun r35 σ35 h35 => ?_)
      exact go_iret dX3_takeNumber_94 rfl (Or.inr (Or.inr (Or.inl ⟨by omega, by omega, by omega, by omega, h35⟩)))
    refine go_aload_n (i := 0) (pc' := 76) dX3_takeNumber_75 rfl rfl rfl ?_
    refine go_iload_n (i := 2) (pc' := 77) dX3_takeNumber_76 rfl rfl rfl ?_
    refine go_cvi (pc' := 80) lk_X3_49 (e_X3_stopAt _ _ _ _ ix) rfl rfl (Nat.le_of_ble_eq_true rfl) (by decide) rfl rfl rfl ⟨Nat.le_of_ble_eq_true rfl, Nat.le_of_ble_eq_true rfl⟩ ⟨rfl, rfl⟩ dX3_takeNumber_77 rfl (fun r36 σ36 h36 => ?_)
    exact go_iret dX3_takeNumber_80 rfl (Or.inr (Or.inl ⟨by omega, by first | exact Or.inl (by omega) | exact Or.inr (by split <;> omega), h36.1, h36.2⟩))
  refine go_aload_n (i := 0) (pc' := 21) dX3_takeNumber_20 rfl rfl rfl ?_
  refine go_aload_n (i := 0) (pc' := 22) dX3_takeNumber_21 rfl rfl rfl ?_
  refine gf_7_number (pc' := 25) dX3_takeNumber_22 rfl fl_X3_16 ?_
  refine go_bipush (v := 10) (pc' := 27) dX3_takeNumber_25 rfl (by decide) ?_
  refine go_imul (pc' := 28) dX3_takeNumber_27 rfl ?_
  refine go_iload_n (i := 1) (pc' := 29) dX3_takeNumber_28 rfl rfl rfl ?_
  refine go_iadd (pc' := 30) dX3_takeNumber_29 rfl ?_
  refine go_bipush (v := 48) (pc' := 32) dX3_takeNumber_30 rfl (by decide) ?_
  refine go_isub (pc' := 33) dX3_takeNumber_32 rfl ?_
  refine pf_7_number (pc' := 36) dX3_takeNumber_33 rfl fl_X3_16 ?_
  refine go_aload_n (i := 0) (pc' := 37) dX3_takeNumber_36 rfl rfl rfl ?_
  refine go_dup (pc' := 38) dX3_takeNumber_37 rfl rfl ?_
  refine gf_7_digits (pc' := 41) dX3_takeNumber_38 rfl fl_X3_32 ?_
  refine go_topq (y := (σ.1 13)) rfl ?_
  refine go_iconst (v := 1) (pc' := 42) dX3_takeNumber_41 rfl (by decide) ?_
  refine go_iadd (pc' := 43) dX3_takeNumber_42 rfl ?_
  refine pf_7_digits (pc' := 46) dX3_takeNumber_43 rfl fl_X3_32 ?_
  refine go_iconst (v := 1) (pc' := 47) dX3_takeNumber_46 rfl (by decide) ?_
  exact go_iret dX3_takeNumber_47 rfl (Or.inl ⟨by omega, rfl, rfl⟩)
set_option maxHeartbeats 4000000 in
set_option maxRecDepth 100000 in
theorem e_X3_take (l : Launch) (L : WL) (σ : ST) (s p : Int32) (ix : IV σ) : CtI l L yX3_take cX3_take 3 (some .int) rm_X3_take [.ref (L.2.1 7), .int s, .int p] σ (fun r σ2 => sX_take σ s p r σ2) := by
  refine ctI_go (own := RX3) (by decide) rfl (Nat.le_of_ble_eq_true rfl) (fun F hF => ?_)
  subst hF
  have w0 : WX σ σ := WX_rfl ix
  refine go_aload_n (i := 0) (pc' := 1) dX3_take_0 rfl rfl rfl ?_
  refine gf_7_state (pc' := 4) dX3_take_1 rfl fl_X3_29 ?_
  by_cases z1 : (σ.1 12) = 1
  · refine go_lookup (off := 28) (tgt := 32) dX3_take_4 (by decide) (by rw [z1]; decide) (by decide) ?_
    refine go_aload_n (i := 0) (pc' := 33) dX3_take_32 rfl rfl rfl ?_
    refine go_iload_n (i := 1) (pc' := 34) dX3_take_33 rfl rfl rfl ?_
    refine go_iload_n (i := 2) (pc' := 35) dX3_take_34 rfl rfl rfl ?_
    refine go_cvi (pc' := 38) lk_X3_35 (e_X3_takeSort _ _ _ _ _ ix) rfl rfl (Nat.le_of_ble_eq_true rfl) (by decide) rfl rfl rfl ⟨Nat.le_of_ble_eq_true rfl, Nat.le_of_ble_eq_true rfl⟩ ⟨rfl, rfl⟩ dX3_take_35 rfl (fun r1 σ1 h1 => ?_)
    exact go_iret dX3_take_38 rfl (Or.inl ⟨z1, h1⟩)
  · by_cases z2 : (σ.1 12) = 2
    · refine go_lookup (off := 35) (tgt := 39) dX3_take_4 (by decide) (by rw [z2]; decide) (by decide) ?_
      refine go_aload_n (i := 0) (pc' := 40) dX3_take_39 rfl rfl rfl ?_
      refine go_iload_n (i := 1) (pc' := 41) dX3_take_40 rfl rfl rfl ?_
      refine go_iload_n (i := 2) (pc' := 42) dX3_take_41 rfl rfl rfl ?_
      refine go_cvi (pc' := 45) lk_X3_39 (e_X3_takeNumber _ _ _ _ _ ix) rfl rfl (Nat.le_of_ble_eq_true rfl) (by decide) rfl rfl rfl ⟨Nat.le_of_ble_eq_true rfl, Nat.le_of_ble_eq_true rfl⟩ ⟨rfl, rfl⟩ dX3_take_42 rfl (fun r2 σ2 h2 => ?_)
      exact go_iret dX3_take_45 rfl (Or.inr (Or.inl ⟨z2, h2⟩))
    · refine go_lookup (off := 42) (tgt := 46) dX3_take_4 (by decide) (lk12_n z1 z2) (by decide) ?_
      refine go_aload_n (i := 0) (pc' := 47) dX3_take_46 rfl rfl rfl ?_
      refine go_iload_n (i := 1) (pc' := 48) dX3_take_47 rfl rfl rfl ?_
      refine go_iload_n (i := 2) (pc' := 49) dX3_take_48 rfl rfl rfl ?_
      refine go_cvi (pc' := 52) lk_X3_42 (e_X3_takeText _ _ _ _ _ ix) rfl rfl (Nat.le_of_ble_eq_true rfl) (by decide) rfl rfl rfl ⟨Nat.le_of_ble_eq_true rfl, Nat.le_of_ble_eq_true rfl⟩ ⟨rfl, rfl⟩ dX3_take_49 rfl (fun r3 σ3 h3 => ?_)
      exact go_iret dX3_take_52 rfl (Or.inr (Or.inr ⟨z1, z2, h3⟩))
/-- the value of j digits -/
def nval (t : Nat → Int) (p : Nat) : Nat → Int
  | 0 => 0
  | j + 1 => nval t p j * 10 + t (p + j) - 48
theorem nval_rng {t : Nat → Int} {p j : Nat} (h : ∀ i : Nat, i < j → digP (t (p + i))) (hj : j ≤ 4) : 0 ≤ nval t p j ∧ nval t p j ≤ 9999 ∧ (j = 3 → nval t p j ≤ 999) ∧ (j = 2 → nval t p j ≤ 99) ∧ (j = 1 → nval t p j ≤ 9) ∧ (j = 0 → nval t p j = 0) := by
  rcases (show j = 0 ∨ j = 1 ∨ j = 2 ∨ j = 3 ∨ j = 4 by omega) with rfl | rfl | rfl | rfl | rfl
  · simp [nval]
  · have h0 := h 0 (by omega)
    simp only [nval]
    omega
  · have h0 := h 0 (by omega)
    have h1 := h 1 (by omega)
    simp only [nval]
    omega
  · have h0 := h 0 (by omega)
    have h1 := h 1 (by omega)
    have h2 := h 2 (by omega)
    simp only [nval]
    omega
  · have h0 := h 0 (by omega)
    have h1 := h 1 (by omega)
    have h2 := h 2 (by omega)
    have h3 := h 3 (by omega)
    simp only [nval]
    omega
/-- so many digits, and no more -/
theorem dcnt_is {t : Nat → Int} {n p j k : Nat} (h : ∀ i : Nat, i < j → p + i < n ∧ digP (t (p + i))) (hj : j ≤ k) (hs : j = k ∨ ¬ (p + j < n ∧ digP (t (p + j)))) : dcnt t n k p = j := by
  induction k generalizing p j with
  | zero =>
    have : j = 0 := by omega
    rw [this]
    rfl
  | succ k ih =>
    unfold dcnt
    cases j with
    | zero =>
      exact if_neg (show ¬ (p < n ∧ digP (t p)) from hs.elim (fun q => by omega) (fun q => q))
    | succ j =>
      rw [if_pos (show p < n ∧ digP (t p) from h 0 (by omega))]
      have := ih (p := p + 1) (j := j) (fun i hi => by rw [show p + 1 + i = p + (i + 1) by omega]; exact h (i + 1) (by omega)) (by omega) (by rw [show p + 1 + j = p + (j + 1) by omega]; omega)
      rw [this]
/-- where the class's reader stands at i: in a text, behind a head, or in a number; q: where the reference's stands -/
def AUT (T : Nat → Int) (n i q : Nat) (s : ST) : Prop := HK T n q (s.1 7).toNatClampNeg (s.2 44) ∧ ((s.1 12 = 0 ∧ q = i) ∨ ((T q = 123 ∧ q < n ∧ (s.1 7).toInt < 4 ∧ (s.1 10).toInt = (q : Int)) ∧ ((s.1 12 = 1 ∧ i = q + 1) ∨ (s.1 12 = 2 ∧ q + 1 < n ∧ sortP (T (q + 1)) ∧ ¬ (∃ k : Nat, k < (s.1 7).toNatClampNeg ∧ (s.2 44 k).toInt = T (q + 1)) ∧ (s.1 8).toInt = T (q + 1) ∧ (T (q + 1) = 115 ∨ T (q + 1) = 110) ∧ ∃ g : Nat, (s.1 13).toInt = (g : Int) ∧ g ≤ 4 ∧ i = q + 2 + g ∧ (∀ k : Nat, k < g → q + 2 + k < n ∧ digP (T (q + 2 + k))) ∧ (s.1 9).toInt = nval T (q + 2) g))))
theorem nx_num {T : Nat → Int} {n q g : Nat} {e : Int} (hT : (T (q + 1) = 115 ∧ e = 58) ∨ (T (q + 1) = 110 ∧ e = 125)) (hg : g ≤ 4) (hd : ∀ k : Nat, k < g → q + 2 + k < n ∧ digP (T (q + 2 + k))) (hs : g = 4 ∨ ¬ (q + 2 + g < n ∧ digP (T (q + 2 + g)))) : dcnt T n 4 (q + 2) = g ∧ nxF T n q = if 0 < g ∧ q + 2 + g < n ∧ T (q + 2 + g) = e then ((q + 2 + g + 1 : Nat) : Int) else -1 - ((q + 2 + g : Nat) : Int) := by
  have d := dcnt_is (t := T) (n := n) (p := q + 2) (j := g) (k := 4) hd hg hs
  refine ⟨d, ?_⟩
  unfold nxF
  rcases hT with ⟨h1, h2⟩ | ⟨h1, h2⟩
  · rw [if_pos h1]
    unfold digsF
    rw [d, h2]
  · rw [if_neg (by omega), if_pos h1]
    unfold digsF
    rw [d, h2]
theorem nx_two {T : Nat → Int} {n q : Nat} (h : T (q + 1) ≠ 115) (h2 : T (q + 1) ≠ 110) : nxF T n q = ((q + 2 : Nat) : Int) := by
  unfold nxF
  rw [if_neg h, if_neg h2]
set_option maxHeartbeats 2000000 in
theorem AUT_take {T : Nat → Int} {n i q : Nat} {s s2 : ST} {sg p r : Int32} (iv : IV s) (h : AUT T n i q s) (hi : i < n) (hs : sg.toInt = T i) (hp : p.toInt = (i : Int)) (ht : sX_take s sg p r s2) : (r.toInt = 5 ∧ (s2.1 11).toInt = tk T n 200 0 0 (fun _ => 0) ∧ 0 ≤ (s2.1 11).toInt) ∨ (r.toInt ≠ 5 ∧ ∃ q2 : Nat, q ≤ q2 ∧ AUT T n (i + 1) q2 s2 ∧ (∀ k : Nat, q < k → k < q2 → T k ≠ 123) ∧ (T q = 123 → T (q + 1) = 110 → q < q2 → r.toInt = 4) ∧ (r.toInt = 4 → q2 = i + 1 ∧ T q = 123 ∧ T (q + 1) = 110 ∧ q + 1 < n ∧ (s2.1 9).toInt = nval T (q + 2) (dcnt T n 4 (q + 2)) ∧ (s2.1 10).toInt = (q : Int))) := by
  have v0 : (0 : Int32).toInt = 0 := by decide
  have v1 : (1 : Int32).toInt = 1 := by decide
  have v2 : (2 : Int32).toInt = 2 := by decide
  have v3 : (3 : Int32).toInt = 3 := by decide
  have v4 : (4 : Int32).toInt = 4 := by decide
  have v5 : (5 : Int32).toInt = 5 := by decide
  have v10 : (10 : Int32).toInt = 10 := by decide
  have v48 : (48 : Int32).toInt = 48 := by decide
  have u7 := ixi_7 iv
  have c7 := cnat (x := s.1 7) u7.1
  obtain ⟨hk, hm⟩ := h
  rcases hm with ⟨m0, rfl⟩ | ⟨⟨tq, qn, dl, mk⟩, ⟨m1, e1⟩ | ⟨m2, qn1, so, no, sq, sk, g, g1, g2, g3, g4, g5⟩⟩
  · have ht : sX_tText s sg p r s2 := by
      rcases ht with ⟨z, -⟩ | ⟨z, -⟩ | ⟨-, -, z⟩
      · rw [m0] at z
        exact absurd z (by decide)
      · rw [m0] at z
        exact absurd z (by decide)
      · exact z
    rcases ht with ⟨c, e, f⟩ | ⟨c, e, f⟩ | ⟨c, e, f⟩ | ⟨c, e, f⟩
    · subst f
      subst e
      rw [hs] at c
      refine Or.inr ⟨by rw [v0]; decide, q + 1, by omega, ⟨HK_pl hk hi (by omega) (by omega) c rfl, Or.inl ⟨m0, rfl⟩⟩, fun k h1 h2 => by omega, fun h1 => by omega, fun h1 => by omega⟩
    · have d1 := dec1 (x := s.1 7) (by omega)
      have cd := cnat (x := s.1 7 - 1) (by omega)
      subst f
      subst e
      refine Or.inr ⟨by rw [v3]; decide, q + 1, by omega, ⟨HK_cl hk hi (by omega) (show (s.1 7).toNatClampNeg = (s.1 7 - 1).toNatClampNeg + 1 by omega) rfl, Or.inl ⟨m0, rfl⟩⟩, fun k h1 h2 => by omega, fun h1 => by omega, fun h1 => by omega⟩
    · subst f
      subst e
      refine Or.inr ⟨by rw [v1]; decide, q, by omega, ⟨hk, Or.inr ⟨⟨by omega, hi, c.2, hp⟩, Or.inl ⟨rfl, rfl⟩⟩⟩, fun k h1 h2 => by omega, fun h1 h2 h3 => by omega, fun h1 => by omega⟩
    · subst f
      subst e
      refine Or.inl ⟨v5, ?_, show 0 ≤ p.toInt by omega⟩
      show p.toInt = _
      rw [hp]
      by_cases c1 : T q = 125
      · rw [HK_cl0 hk hi c1 (by omega)]
      · by_cases c2 : T q = 123
        · rw [HK_4 hk hi c2 (by omega)]
        · rw [HK_bad hk hi c1 c2 (by rw [← hs]; exact c.1)]
  · have ht : sX_tSort s sg p r s2 := by
      rcases ht with ⟨-, z⟩ | ⟨z, -⟩ | ⟨z, -⟩
      · exact z
      · rw [m1] at z
        exact absurd z (by decide)
      · exact absurd m1 z
    subst e1
    have opq : (∃ k : Nat, (k : Int) < (s.1 7).toInt ∧ (s.2 44 k).toInt = sg.toInt) ↔ ∃ k : Nat, k < (s.1 7).toNatClampNeg ∧ (s.2 44 k).toInt = T (q + 1) := by
      constructor
      · rintro ⟨k, h1, h2⟩
        exact ⟨k, by omega, by rw [← hs]; exact h2⟩
      · rintro ⟨k, h1, h2⟩
        exact ⟨k, by omega, by rw [hs]; exact h2⟩
    rcases ht with ⟨c, e, f⟩ | ⟨c, o, e, f⟩ | ⟨c, o, sn, e, f⟩ | ⟨c, o, sn, z⟩
    · subst f
      subst e
      rw [hs] at c
      refine Or.inl ⟨v5, ?_, show 0 ≤ p.toInt by omega⟩
      show p.toInt = _
      rw [hp, HK_sort hk qn tq (by omega) (Or.inr c)]
      omega
    · subst f
      subst e
      rw [hs] at c
      refine Or.inl ⟨v5, ?_, show 0 ≤ (s.1 10).toInt by omega⟩
      show (s.1 10).toInt = _
      rw [mk, HK_open hk qn tq (by omega) (by omega) c (opq.mp o)]
    · subst f
      subst e
      rw [hs] at c sn
      refine Or.inr ⟨by rw [v1]; decide, q, by omega, ⟨hk, Or.inr ⟨⟨tq, qn, dl, mk⟩, Or.inr ⟨rfl, hi, c, fun z => o (opq.mpr z), hs, sn, 0, v0, by omega, rfl, fun k hk0 => absurd hk0 (Nat.not_lt_zero _), v0⟩⟩⟩, fun k h1 h2 => by omega, fun h1 h2 h3 => by omega, fun h1 => by omega⟩
    · rw [hs] at c sn
      have x := HK_nx hk qn tq (by omega) (by omega) c (fun z => o (opq.mpr z))
      rcases z with ⟨c4, -, -⟩ | ⟨c4, e, f⟩
      · exfalso
        have c4' : 4 ≤ (s.1 7).toInt := c4
        omega
      · have i1 := inc1 (x := s.1 7) (by omega)
        have ci := cnat (x := s.1 7 + 1) (by omega)
        subst f
        subst e
        refine Or.inr ⟨by rw [v2]; decide, q + 2, by omega, ⟨?_, Or.inl ⟨rfl, rfl⟩⟩, fun k h1 h2 => ?_, fun h1 h2 h3 => by omega, fun h1 => by omega⟩
        · have y := x.2.2 (q + 2) sg (by rw [nx_two (by omega) (by omega)]) (by omega) (by omega) hs
          show HK T n (q + 2) (s.1 7 + 1).toNatClampNeg (upd (s.2 44) (s.1 7).toNatClampNeg sg)
          rw [show (s.1 7 + 1).toNatClampNeg = (s.1 7).toNatClampNeg + 1 by omega]
          exact y
        · rw [show k = q + 1 by omega]
          omega
  · have ht : sX_tNum s sg p r s2 := by
      rcases ht with ⟨z, -⟩ | ⟨-, z⟩ | ⟨-, z, -⟩
      · rw [m2] at z
        exact absurd z (by decide)
      · exact z
      · exact absurd m2 z
    have x := HK_nx hk qn tq (by omega) (by omega) so no
    have noM : ∀ k : Nat, q < k → k < i → T k ≠ 123 := fun k h1 h2 => by
      by_cases z : k = q + 1
      · rw [z]
        omega
      · have w := (g4 (k - (q + 2)) (by omega)).2
        rw [show q + 2 + (k - (q + 2)) = k by omega] at w
        omega
    rcases ht with ⟨c, e, f⟩ | ⟨c, o, e, f⟩ | ⟨c, o, s5, s8, z⟩ | ⟨c, o, s5, s8, e, f⟩
    · have rg := nval_rng (t := T) (p := q + 2) (j := g) (fun k hk0 => (g4 k hk0).2) g2
      have w1 : (s.1 9 * 10).toInt = (s.1 9).toInt * 10 := by rw [i32_mul (by rw [v10]; omega) (by rw [v10]; omega), v10]
      have w2 : (s.1 9 * 10 + sg).toInt = (s.1 9).toInt * 10 + sg.toInt := by rw [i32_add (by rw [w1]; omega) (by rw [w1]; omega), w1]
      have w3 : (s.1 9 * 10 + sg - 48).toInt = (s.1 9).toInt * 10 + sg.toInt - 48 := by rw [i32_sub (by rw [w2, v48]; omega) (by rw [w2, v48]; omega), w2, v48]
      have w4 := inc1 (x := s.1 13) (by omega)
      subst f
      subst e
      refine Or.inr ⟨by rw [v1]; decide, q, by omega, ⟨hk, Or.inr ⟨⟨tq, qn, dl, mk⟩, Or.inr ⟨m2, qn1, so, no, sq, sk, g + 1, ?_, by omega, by omega, fun k hk0 => ?_, ?_⟩⟩⟩, fun k h1 h2 => by omega, fun h1 h2 h3 => by omega, fun h1 => by omega⟩
      · show (s.1 13 + 1).toInt = _
        omega
      · by_cases z : k < g
        · exact g4 k z
        · rw [show k = g by omega, ← g3]
          exact ⟨hi, by rw [← hs]; exact c.1⟩
      · show (s.1 9 * 10 + sg - 48).toInt = nval T (q + 2) g * 10 + T (q + 2 + g) - 48
        rw [w3, g5, hs, g3]
    · have hcn := nx_num (n := n) (e := if (s.1 8).toInt = 115 then (58 : Int) else 125) (sk.elim (fun z => Or.inl ⟨z, if_pos (by omega)⟩) (fun z => Or.inr ⟨z, if_neg (by omega)⟩)) g2 g4 (by rw [← g3, ← hs]; omega)
      have ng : nxF T n q = -1 - ((q + 2 + g : Nat) : Int) := by
        rw [hcn.2]
        refine if_neg (fun z => ?_)
        rw [← g3, ← hs] at z
        rcases o with o | o
        · omega
        · exact o z.2.2
      subst f
      subst e
      refine Or.inl ⟨v5, ?_, show 0 ≤ p.toInt by omega⟩
      show p.toInt = _
      rw [hp, x.1 (by omega), ng]
      omega
    · have hcn := nx_num (n := n) (e := 58) (Or.inl ⟨by omega, rfl⟩) g2 g4 (by rw [← g3, ← hs]; omega)
      have ng : nxF T n q = ((q + 2 + g + 1 : Nat) : Int) := by
        rw [hcn.2]
        exact if_pos ⟨by omega, by omega, by rw [← g3, ← hs]; exact s8⟩
      rcases z with ⟨c4, -, -⟩ | ⟨c4, e, f⟩
      · exfalso
        omega
      · have i1 := inc1 (x := s.1 7) (by omega)
        have ci := cnat (x := s.1 7 + 1) (by omega)
        subst f
        subst e
        refine Or.inr ⟨by rw [v2]; decide, i + 1, by omega, ⟨?_, Or.inl ⟨rfl, rfl⟩⟩, fun k h1 h2 => ?_, fun h1 h2 h3 => by omega, fun h1 => by omega⟩
        · have y := x.2.2 (i + 1) (s.1 8) (by omega) (by omega) (by omega) sq
          show HK T n (i + 1) (s.1 7 + 1).toNatClampNeg (upd (s.2 44) (s.1 7).toNatClampNeg (s.1 8))
          rw [show (s.1 7 + 1).toNatClampNeg = (s.1 7).toNatClampNeg + 1 by omega]
          exact y
        · by_cases z : k = i
          · rw [z]
            omega
          · exact noM k h1 (by omega)
    · have hcn := nx_num (n := n) (e := 125) (Or.inr ⟨by omega, rfl⟩) g2 g4 (by rw [← g3, ← hs]; omega)
      have ng : nxF T n q = ((q + 2 + g + 1 : Nat) : Int) := by
        rw [hcn.2]
        exact if_pos ⟨by omega, by omega, by rw [← g3, ← hs]; exact s8⟩
      subst f
      subst e
      refine Or.inr ⟨by rw [v4]; decide, i + 1, by omega, ⟨x.2.1 (i + 1) (by omega) (by omega) (by omega), Or.inl ⟨rfl, rfl⟩⟩, fun k h1 h2 => ?_, fun h1 h2 h3 => v4, fun h1 => ⟨rfl, tq, by omega, qn1, by rw [hcn.1]; exact g5, mk⟩⟩
      by_cases z : k = i
      · rw [z]
        omega
      · exact noM k h1 (by omega)
theorem AUT_end {T : Nat → Int} {n q : Nat} {s : ST} (h : AUT T n n q s) : (s.1 12 = 0 → tk T n 200 0 0 (fun _ => 0) = if (s.1 7).toNatClampNeg = 0 then -1 else (n : Int)) ∧ (¬ s.1 12 = 0 → tk T n 200 0 0 (fun _ => 0) = (n : Int)) := by
  obtain ⟨hk, hm⟩ := h
  rcases hm with ⟨m0, rfl⟩ | ⟨⟨tq, qn, dl, mk⟩, ⟨m1, e1⟩ | ⟨m2, qn1, so, no, sq, sk, g, g1, g2, g3, g4, g5⟩⟩
  · exact ⟨fun _ => HK_end hk rfl, fun z => absurd m0 z⟩
  · refine ⟨fun z => absurd (m1.symm.trans z) (by decide), fun _ => ?_⟩
    have c7 : (s.1 7).toNatClampNeg = (s.1 7).toInt.toNat := rfl
    rw [HK_sort hk qn tq (by omega) (Or.inl e1.symm)]
    omega
  · refine ⟨fun z => absurd (m2.symm.trans z) (by decide), fun _ => ?_⟩
    have c7 : (s.1 7).toNatClampNeg = (s.1 7).toInt.toNat := rfl
    have x := HK_nx hk qn tq (by omega) (by omega) so no
    have hcn := nx_num (n := n) (e := if T (q + 1) = 115 then (58 : Int) else 125) (sk.elim (fun z => Or.inl ⟨z, if_pos z⟩) (fun z => Or.inr ⟨z, if_neg (by omega)⟩)) g2 g4 (Or.inr (by omega))
    have ng : nxF T n q = -1 - ((q + 2 + g : Nat) : Int) := by
      rw [hcn.2]
      exact if_neg (by omega)
    rw [x.1 (by omega), ng]
    omega
