set_option maxHeartbeats 4000000 in
set_option maxRecDepth 100000 in
theorem c_X4_has (l : Launch) (L : WL) (σ : ST) (x : Int32) : CtI l L yX4_has cX4_has 2 (some .boolean) rm_X4_has [.ref (L.2.1 1), .int x] σ (fun r σ2 => σ2 = σ ∧ bq (0 ≤ x.toInt ∧ x.toInt < (σ.1 2).toInt) r) := by
  refine ctI_go (own := RX4) (by decide) rfl (Nat.le_of_ble_eq_true rfl) (fun F hF => ?_)
  subst hF
  refine go_iload_n (i := 1) (pc' := 1) dX4_has_0 rfl rfl rfl ?_
  refine go_if_lt (tgt := 16) (pc' := 4) dX4_has_1 rfl (by decide) (fun c_1 => ?_) (fun c_1 => ?_)
  · refine go_iconst (v := 0) (pc' := 17) dX4_has_16 rfl (by decide) ?_
    exact go_zret dX4_has_17 rfl rfl ⟨rfl, by first | exact bq_t (by (try simp only [Int32.lt_iff_toInt_lt, Int32.le_iff_toInt_le, ← Int32.toInt_inj, ge_iff_le, gt_iff_lt, ne_eq, Int32.reduceToInt] at *); omega) | exact bq_f (by (try simp only [Int32.lt_iff_toInt_lt, Int32.le_iff_toInt_le, ← Int32.toInt_inj, ge_iff_le, gt_iff_lt, ne_eq, Int32.reduceToInt] at *); omega)⟩
  refine go_iload_n (i := 1) (pc' := 5) dX4_has_4 rfl rfl rfl ?_
  refine go_aload_n (i := 0) (pc' := 6) dX4_has_5 rfl rfl rfl ?_
  refine gf_1_size (pc' := 9) dX4_has_6 rfl fl_X4_27 ?_
  refine go_icmp_ge (tgt := 16) (pc' := 12) dX4_has_9 rfl (by decide) (fun c_9 => ?_) (fun c_9 => ?_)
  · refine go_iconst (v := 0) (pc' := 17) dX4_has_16 rfl (by decide) ?_
    exact go_zret dX4_has_17 rfl rfl ⟨rfl, by first | exact bq_t (by (try simp only [Int32.lt_iff_toInt_lt, Int32.le_iff_toInt_le, ← Int32.toInt_inj, ge_iff_le, gt_iff_lt, ne_eq, Int32.reduceToInt] at *); omega) | exact bq_f (by (try simp only [Int32.lt_iff_toInt_lt, Int32.le_iff_toInt_le, ← Int32.toInt_inj, ge_iff_le, gt_iff_lt, ne_eq, Int32.reduceToInt] at *); omega)⟩
  refine go_iconst (v := 1) (pc' := 13) dX4_has_12 rfl (by decide) ?_
  refine go_goto (tgt := 17) dX4_has_13 (by decide) ?_
  exact go_zret dX4_has_17 rfl rfl ⟨rfl, by first | exact bq_t (by (try simp only [Int32.lt_iff_toInt_lt, Int32.le_iff_toInt_le, ← Int32.toInt_inj, ge_iff_le, gt_iff_lt, ne_eq, Int32.reduceToInt] at *); omega) | exact bq_f (by (try simp only [Int32.lt_iff_toInt_lt, Int32.le_iff_toInt_le, ← Int32.toInt_inj, ge_iff_le, gt_iff_lt, ne_eq, Int32.reduceToInt] at *); omega)⟩
set_option maxHeartbeats 4000000 in
set_option maxRecDepth 100000 in
theorem c_X2_has (l : Launch) (L : WL) (σ : ST) (x : Int32) : CtI l L yX2_has cX2_has 2 (some .boolean) rm_X2_has [.ref (L.2.1 2), .int x] σ (fun r σ2 => σ2 = σ ∧ bq (0 ≤ x.toInt ∧ x.toInt < (σ.1 3).toInt) r) := by
  refine ctI_go (own := RX2) (by decide) rfl (Nat.le_of_ble_eq_true rfl) (fun F hF => ?_)
  subst hF
  refine go_iload_n (i := 1) (pc' := 1) dX2_has_0 rfl rfl rfl ?_
  refine go_if_lt (tgt := 16) (pc' := 4) dX2_has_1 rfl (by decide) (fun c_1 => ?_) (fun c_1 => ?_)
  · refine go_iconst (v := 0) (pc' := 17) dX2_has_16 rfl (by decide) ?_
    exact go_zret dX2_has_17 rfl rfl ⟨rfl, by first | exact bq_t (by (try simp only [Int32.lt_iff_toInt_lt, Int32.le_iff_toInt_le, ← Int32.toInt_inj, ge_iff_le, gt_iff_lt, ne_eq, Int32.reduceToInt] at *); omega) | exact bq_f (by (try simp only [Int32.lt_iff_toInt_lt, Int32.le_iff_toInt_le, ← Int32.toInt_inj, ge_iff_le, gt_iff_lt, ne_eq, Int32.reduceToInt] at *); omega)⟩
  refine go_iload_n (i := 1) (pc' := 5) dX2_has_4 rfl rfl rfl ?_
  refine go_aload_n (i := 0) (pc' := 6) dX2_has_5 rfl rfl rfl ?_
  refine gf_2_size (pc' := 9) dX2_has_6 rfl fl_X2_44 ?_
  refine go_icmp_ge (tgt := 16) (pc' := 12) dX2_has_9 rfl (by decide) (fun c_9 => ?_) (fun c_9 => ?_)
  · refine go_iconst (v := 0) (pc' := 17) dX2_has_16 rfl (by decide) ?_
    exact go_zret dX2_has_17 rfl rfl ⟨rfl, by first | exact bq_t (by (try simp only [Int32.lt_iff_toInt_lt, Int32.le_iff_toInt_le, ← Int32.toInt_inj, ge_iff_le, gt_iff_lt, ne_eq, Int32.reduceToInt] at *); omega) | exact bq_f (by (try simp only [Int32.lt_iff_toInt_lt, Int32.le_iff_toInt_le, ← Int32.toInt_inj, ge_iff_le, gt_iff_lt, ne_eq, Int32.reduceToInt] at *); omega)⟩
  refine go_iconst (v := 1) (pc' := 13) dX2_has_12 rfl (by decide) ?_
  refine go_goto (tgt := 17) dX2_has_13 (by decide) ?_
  exact go_zret dX2_has_17 rfl rfl ⟨rfl, by first | exact bq_t (by (try simp only [Int32.lt_iff_toInt_lt, Int32.le_iff_toInt_le, ← Int32.toInt_inj, ge_iff_le, gt_iff_lt, ne_eq, Int32.reduceToInt] at *); omega) | exact bq_f (by (try simp only [Int32.lt_iff_toInt_lt, Int32.le_iff_toInt_le, ← Int32.toInt_inj, ge_iff_le, gt_iff_lt, ne_eq, Int32.reduceToInt] at *); omega)⟩
set_option maxHeartbeats 4000000 in
set_option maxRecDepth 100000 in
theorem c_X9_has (l : Launch) (L : WL) (σ : ST) (x : Int32) : CtI l L yX9_has cX9_has 1 (some .boolean) rm_X9_has [.int x] σ (fun r σ2 => σ2 = σ ∧ bq (0 ≤ x.toInt ∧ x.toInt < 4) r) := by
  refine ctI_go (own := RX9) (by decide) rfl (Nat.le_of_ble_eq_true rfl) (fun F hF => ?_)
  subst hF
  refine go_iload_n (i := 0) (pc' := 1) dX9_has_0 rfl rfl rfl ?_
  refine go_if_lt (tgt := 13) (pc' := 4) dX9_has_1 rfl (by decide) (fun c_1 => ?_) (fun c_1 => ?_)
  · refine go_iconst (v := 0) (pc' := 14) dX9_has_13 rfl (by decide) ?_
    exact go_zret dX9_has_14 rfl rfl ⟨rfl, by first | exact bq_t (by (try simp only [Int32.lt_iff_toInt_lt, Int32.le_iff_toInt_le, ← Int32.toInt_inj, ge_iff_le, gt_iff_lt, ne_eq, Int32.reduceToInt] at *); omega) | exact bq_f (by (try simp only [Int32.lt_iff_toInt_lt, Int32.le_iff_toInt_le, ← Int32.toInt_inj, ge_iff_le, gt_iff_lt, ne_eq, Int32.reduceToInt] at *); omega)⟩
  refine go_iload_n (i := 0) (pc' := 5) dX9_has_4 rfl rfl rfl ?_
  refine go_iconst (v := 4) (pc' := 6) dX9_has_5 rfl (by decide) ?_
  refine go_icmp_ge (tgt := 13) (pc' := 9) dX9_has_6 rfl (by decide) (fun c_6 => ?_) (fun c_6 => ?_)
  · refine go_iconst (v := 0) (pc' := 14) dX9_has_13 rfl (by decide) ?_
    exact go_zret dX9_has_14 rfl rfl ⟨rfl, by first | exact bq_t (by (try simp only [Int32.lt_iff_toInt_lt, Int32.le_iff_toInt_le, ← Int32.toInt_inj, ge_iff_le, gt_iff_lt, ne_eq, Int32.reduceToInt] at *); omega) | exact bq_f (by (try simp only [Int32.lt_iff_toInt_lt, Int32.le_iff_toInt_le, ← Int32.toInt_inj, ge_iff_le, gt_iff_lt, ne_eq, Int32.reduceToInt] at *); omega)⟩
  refine go_iconst (v := 1) (pc' := 10) dX9_has_9 rfl (by decide) ?_
  refine go_goto (tgt := 14) dX9_has_10 (by decide) ?_
  exact go_zret dX9_has_14 rfl rfl ⟨rfl, by first | exact bq_t (by (try simp only [Int32.lt_iff_toInt_lt, Int32.le_iff_toInt_le, ← Int32.toInt_inj, ge_iff_le, gt_iff_lt, ne_eq, Int32.reduceToInt] at *); omega) | exact bq_f (by (try simp only [Int32.lt_iff_toInt_lt, Int32.le_iff_toInt_le, ← Int32.toInt_inj, ge_iff_le, gt_iff_lt, ne_eq, Int32.reduceToInt] at *); omega)⟩
set_option maxHeartbeats 4000000 in
set_option maxRecDepth 100000 in
theorem c_X11_isDay (l : Launch) (L : WL) (σ : ST) (x : Int32) : CtI l L yX11_isDay cX11_isDay 1 (some .boolean) rm_X11_isDay [.int x] σ (fun r σ2 => σ2 = σ ∧ bq (0 ≤ x.toInt ∧ x.toInt ≤ 9999) r) := by
  refine ctI_go (own := RX11) (by decide) rfl (Nat.le_of_ble_eq_true rfl) (fun F hF => ?_)
  subst hF
  refine go_iload_n (i := 0) (pc' := 1) dX11_isDay_0 rfl rfl rfl ?_
  refine go_if_lt (tgt := 15) (pc' := 4) dX11_isDay_1 rfl (by decide) (fun c_1 => ?_) (fun c_1 => ?_)
  · refine go_iconst (v := 0) (pc' := 16) dX11_isDay_15 rfl (by decide) ?_
    exact go_zret dX11_isDay_16 rfl rfl ⟨rfl, by first | exact bq_t (by (try simp only [Int32.lt_iff_toInt_lt, Int32.le_iff_toInt_le, ← Int32.toInt_inj, ge_iff_le, gt_iff_lt, ne_eq, Int32.reduceToInt] at *); omega) | exact bq_f (by (try simp only [Int32.lt_iff_toInt_lt, Int32.le_iff_toInt_le, ← Int32.toInt_inj, ge_iff_le, gt_iff_lt, ne_eq, Int32.reduceToInt] at *); omega)⟩
  refine go_iload_n (i := 0) (pc' := 5) dX11_isDay_4 rfl rfl rfl ?_
  refine go_sipush (v := 9999) (pc' := 8) dX11_isDay_5 rfl (by decide) ?_
  refine go_icmp_gt (tgt := 15) (pc' := 11) dX11_isDay_8 rfl (by decide) (fun c_8 => ?_) (fun c_8 => ?_)
  · refine go_iconst (v := 0) (pc' := 16) dX11_isDay_15 rfl (by decide) ?_
    exact go_zret dX11_isDay_16 rfl rfl ⟨rfl, by first | exact bq_t (by (try simp only [Int32.lt_iff_toInt_lt, Int32.le_iff_toInt_le, ← Int32.toInt_inj, ge_iff_le, gt_iff_lt, ne_eq, Int32.reduceToInt] at *); omega) | exact bq_f (by (try simp only [Int32.lt_iff_toInt_lt, Int32.le_iff_toInt_le, ← Int32.toInt_inj, ge_iff_le, gt_iff_lt, ne_eq, Int32.reduceToInt] at *); omega)⟩
  refine go_iconst (v := 1) (pc' := 12) dX11_isDay_11 rfl (by decide) ?_
  refine go_goto (tgt := 16) dX11_isDay_12 (by decide) ?_
  exact go_zret dX11_isDay_16 rfl rfl ⟨rfl, by first | exact bq_t (by (try simp only [Int32.lt_iff_toInt_lt, Int32.le_iff_toInt_le, ← Int32.toInt_inj, ge_iff_le, gt_iff_lt, ne_eq, Int32.reduceToInt] at *); omega) | exact bq_f (by (try simp only [Int32.lt_iff_toInt_lt, Int32.le_iff_toInt_le, ← Int32.toInt_inj, ge_iff_le, gt_iff_lt, ne_eq, Int32.reduceToInt] at *); omega)⟩
set_option maxHeartbeats 4000000 in
set_option maxRecDepth 100000 in
theorem c_X11_isName (l : Launch) (L : WL) (σ : ST) (x : Int32) : CtI l L yX11_isName cX11_isName 1 (some .boolean) rm_X11_isName [.int x] σ (fun r σ2 => σ2 = σ ∧ bq (1 ≤ x.toInt ∧ x.toInt ≤ 99) r) := by
  refine ctI_go (own := RX11) (by decide) rfl (Nat.le_of_ble_eq_true rfl) (fun F hF => ?_)
  subst hF
  refine go_iload_n (i := 0) (pc' := 1) dX11_isName_0 rfl rfl rfl ?_
  refine go_iconst (v := 1) (pc' := 2) dX11_isName_1 rfl (by decide) ?_
  refine go_icmp_lt (tgt := 15) (pc' := 5) dX11_isName_2 rfl (by decide) (fun c_2 => ?_) (fun c_2 => ?_)
  · refine go_iconst (v := 0) (pc' := 16) dX11_isName_15 rfl (by decide) ?_
    exact go_zret dX11_isName_16 rfl rfl ⟨rfl, by first | exact bq_t (by (try simp only [Int32.lt_iff_toInt_lt, Int32.le_iff_toInt_le, ← Int32.toInt_inj, ge_iff_le, gt_iff_lt, ne_eq, Int32.reduceToInt] at *); omega) | exact bq_f (by (try simp only [Int32.lt_iff_toInt_lt, Int32.le_iff_toInt_le, ← Int32.toInt_inj, ge_iff_le, gt_iff_lt, ne_eq, Int32.reduceToInt] at *); omega)⟩
  refine go_iload_n (i := 0) (pc' := 6) dX11_isName_5 rfl rfl rfl ?_
  refine go_bipush (v := 99) (pc' := 8) dX11_isName_6 rfl (by decide) ?_
  refine go_icmp_gt (tgt := 15) (pc' := 11) dX11_isName_8 rfl (by decide) (fun c_8 => ?_) (fun c_8 => ?_)
  · refine go_iconst (v := 0) (pc' := 16) dX11_isName_15 rfl (by decide) ?_
    exact go_zret dX11_isName_16 rfl rfl ⟨rfl, by first | exact bq_t (by (try simp only [Int32.lt_iff_toInt_lt, Int32.le_iff_toInt_le, ← Int32.toInt_inj, ge_iff_le, gt_iff_lt, ne_eq, Int32.reduceToInt] at *); omega) | exact bq_f (by (try simp only [Int32.lt_iff_toInt_lt, Int32.le_iff_toInt_le, ← Int32.toInt_inj, ge_iff_le, gt_iff_lt, ne_eq, Int32.reduceToInt] at *); omega)⟩
  refine go_iconst (v := 1) (pc' := 12) dX11_isName_11 rfl (by decide) ?_
  refine go_goto (tgt := 16) dX11_isName_12 (by decide) ?_
  exact go_zret dX11_isName_16 rfl rfl ⟨rfl, by first | exact bq_t (by (try simp only [Int32.lt_iff_toInt_lt, Int32.le_iff_toInt_le, ← Int32.toInt_inj, ge_iff_le, gt_iff_lt, ne_eq, Int32.reduceToInt] at *); omega) | exact bq_f (by (try simp only [Int32.lt_iff_toInt_lt, Int32.le_iff_toInt_le, ← Int32.toInt_inj, ge_iff_le, gt_iff_lt, ne_eq, Int32.reduceToInt] at *); omega)⟩
set_option maxHeartbeats 4000000 in
set_option maxRecDepth 100000 in
theorem c_X11_isPlace (l : Launch) (L : WL) (σ : ST) (x : Int32) : CtI l L yX11_isPlace cX11_isPlace 1 (some .boolean) rm_X11_isPlace [.int x] σ (fun r σ2 => σ2 = σ ∧ bq (0 ≤ x.toInt ∧ x.toInt < 6) r) := by
  refine ctI_go (own := RX11) (by decide) rfl (Nat.le_of_ble_eq_true rfl) (fun F hF => ?_)
  subst hF
  refine go_iload_n (i := 0) (pc' := 1) dX11_isPlace_0 rfl rfl rfl ?_
  refine go_if_lt (tgt := 14) (pc' := 4) dX11_isPlace_1 rfl (by decide) (fun c_1 => ?_) (fun c_1 => ?_)
  · refine go_iconst (v := 0) (pc' := 15) dX11_isPlace_14 rfl (by decide) ?_
    exact go_zret dX11_isPlace_15 rfl rfl ⟨rfl, by first | exact bq_t (by (try simp only [Int32.lt_iff_toInt_lt, Int32.le_iff_toInt_le, ← Int32.toInt_inj, ge_iff_le, gt_iff_lt, ne_eq, Int32.reduceToInt] at *); omega) | exact bq_f (by (try simp only [Int32.lt_iff_toInt_lt, Int32.le_iff_toInt_le, ← Int32.toInt_inj, ge_iff_le, gt_iff_lt, ne_eq, Int32.reduceToInt] at *); omega)⟩
  refine go_iload_n (i := 0) (pc' := 5) dX11_isPlace_4 rfl rfl rfl ?_
  refine go_bipush (v := 6) (pc' := 7) dX11_isPlace_5 rfl (by decide) ?_
  refine go_icmp_ge (tgt := 14) (pc' := 10) dX11_isPlace_7 rfl (by decide) (fun c_7 => ?_) (fun c_7 => ?_)
  · refine go_iconst (v := 0) (pc' := 15) dX11_isPlace_14 rfl (by decide) ?_
    exact go_zret dX11_isPlace_15 rfl rfl ⟨rfl, by first | exact bq_t (by (try simp only [Int32.lt_iff_toInt_lt, Int32.le_iff_toInt_le, ← Int32.toInt_inj, ge_iff_le, gt_iff_lt, ne_eq, Int32.reduceToInt] at *); omega) | exact bq_f (by (try simp only [Int32.lt_iff_toInt_lt, Int32.le_iff_toInt_le, ← Int32.toInt_inj, ge_iff_le, gt_iff_lt, ne_eq, Int32.reduceToInt] at *); omega)⟩
  refine go_iconst (v := 1) (pc' := 11) dX11_isPlace_10 rfl (by decide) ?_
  refine go_goto (tgt := 15) dX11_isPlace_11 (by decide) ?_
  exact go_zret dX11_isPlace_15 rfl rfl ⟨rfl, by first | exact bq_t (by (try simp only [Int32.lt_iff_toInt_lt, Int32.le_iff_toInt_le, ← Int32.toInt_inj, ge_iff_le, gt_iff_lt, ne_eq, Int32.reduceToInt] at *); omega) | exact bq_f (by (try simp only [Int32.lt_iff_toInt_lt, Int32.le_iff_toInt_le, ← Int32.toInt_inj, ge_iff_le, gt_iff_lt, ne_eq, Int32.reduceToInt] at *); omega)⟩
set_option maxHeartbeats 4000000 in
set_option maxRecDepth 100000 in
theorem c_X2_isKind (l : Launch) (L : WL) (σ : ST) (x : Int32) : CtI l L yX2_isKind cX2_isKind 1 (some .boolean) rm_X2_isKind [.int x] σ (fun r σ2 => σ2 = σ ∧ bq (0 ≤ x.toInt ∧ x.toInt < 6) r) := by
  refine ctI_go (own := RX2) (by decide) rfl (Nat.le_of_ble_eq_true rfl) (fun F hF => ?_)
  subst hF
  refine go_iload_n (i := 0) (pc' := 1) dX2_isKind_0 rfl rfl rfl ?_
  refine go_if_lt (tgt := 14) (pc' := 4) dX2_isKind_1 rfl (by decide) (fun c_1 => ?_) (fun c_1 => ?_)
  · refine go_iconst (v := 0) (pc' := 15) dX2_isKind_14 rfl (by decide) ?_
    exact go_zret dX2_isKind_15 rfl rfl ⟨rfl, by first | exact bq_t (by (try simp only [Int32.lt_iff_toInt_lt, Int32.le_iff_toInt_le, ← Int32.toInt_inj, ge_iff_le, gt_iff_lt, ne_eq, Int32.reduceToInt] at *); omega) | exact bq_f (by (try simp only [Int32.lt_iff_toInt_lt, Int32.le_iff_toInt_le, ← Int32.toInt_inj, ge_iff_le, gt_iff_lt, ne_eq, Int32.reduceToInt] at *); omega)⟩
  refine go_iload_n (i := 0) (pc' := 5) dX2_isKind_4 rfl rfl rfl ?_
  refine go_bipush (v := 6) (pc' := 7) dX2_isKind_5 rfl (by decide) ?_
  refine go_icmp_ge (tgt := 14) (pc' := 10) dX2_isKind_7 rfl (by decide) (fun c_7 => ?_) (fun c_7 => ?_)
  · refine go_iconst (v := 0) (pc' := 15) dX2_isKind_14 rfl (by decide) ?_
    exact go_zret dX2_isKind_15 rfl rfl ⟨rfl, by first | exact bq_t (by (try simp only [Int32.lt_iff_toInt_lt, Int32.le_iff_toInt_le, ← Int32.toInt_inj, ge_iff_le, gt_iff_lt, ne_eq, Int32.reduceToInt] at *); omega) | exact bq_f (by (try simp only [Int32.lt_iff_toInt_lt, Int32.le_iff_toInt_le, ← Int32.toInt_inj, ge_iff_le, gt_iff_lt, ne_eq, Int32.reduceToInt] at *); omega)⟩
  refine go_iconst (v := 1) (pc' := 11) dX2_isKind_10 rfl (by decide) ?_
  refine go_goto (tgt := 15) dX2_isKind_11 (by decide) ?_
  exact go_zret dX2_isKind_15 rfl rfl ⟨rfl, by first | exact bq_t (by (try simp only [Int32.lt_iff_toInt_lt, Int32.le_iff_toInt_le, ← Int32.toInt_inj, ge_iff_le, gt_iff_lt, ne_eq, Int32.reduceToInt] at *); omega) | exact bq_f (by (try simp only [Int32.lt_iff_toInt_lt, Int32.le_iff_toInt_le, ← Int32.toInt_inj, ge_iff_le, gt_iff_lt, ne_eq, Int32.reduceToInt] at *); omega)⟩
set_option maxHeartbeats 4000000 in
set_option maxRecDepth 100000 in
theorem c_X5_isTime (l : Launch) (L : WL) (σ : ST) (x : Int32) : CtI l L yX5_isTime cX5_isTime 1 (some .boolean) rm_X5_isTime [.int x] σ (fun r σ2 => σ2 = σ ∧ bq (0 ≤ x.toInt ∧ x.toInt ≤ 400) r) := by
  refine ctI_go (own := RX5) (by decide) rfl (Nat.le_of_ble_eq_true rfl) (fun F hF => ?_)
  subst hF
  refine go_iload_n (i := 0) (pc' := 1) dX5_isTime_0 rfl rfl rfl ?_
  refine go_if_lt (tgt := 15) (pc' := 4) dX5_isTime_1 rfl (by decide) (fun c_1 => ?_) (fun c_1 => ?_)
  · refine go_iconst (v := 0) (pc' := 16) dX5_isTime_15 rfl (by decide) ?_
    exact go_zret dX5_isTime_16 rfl rfl ⟨rfl, by first | exact bq_t (by (try simp only [Int32.lt_iff_toInt_lt, Int32.le_iff_toInt_le, ← Int32.toInt_inj, ge_iff_le, gt_iff_lt, ne_eq, Int32.reduceToInt] at *); omega) | exact bq_f (by (try simp only [Int32.lt_iff_toInt_lt, Int32.le_iff_toInt_le, ← Int32.toInt_inj, ge_iff_le, gt_iff_lt, ne_eq, Int32.reduceToInt] at *); omega)⟩
  refine go_iload_n (i := 0) (pc' := 5) dX5_isTime_4 rfl rfl rfl ?_
  refine go_sipush (v := 400) (pc' := 8) dX5_isTime_5 rfl (by decide) ?_
  refine go_icmp_gt (tgt := 15) (pc' := 11) dX5_isTime_8 rfl (by decide) (fun c_8 => ?_) (fun c_8 => ?_)
  · refine go_iconst (v := 0) (pc' := 16) dX5_isTime_15 rfl (by decide) ?_
    exact go_zret dX5_isTime_16 rfl rfl ⟨rfl, by first | exact bq_t (by (try simp only [Int32.lt_iff_toInt_lt, Int32.le_iff_toInt_le, ← Int32.toInt_inj, ge_iff_le, gt_iff_lt, ne_eq, Int32.reduceToInt] at *); omega) | exact bq_f (by (try simp only [Int32.lt_iff_toInt_lt, Int32.le_iff_toInt_le, ← Int32.toInt_inj, ge_iff_le, gt_iff_lt, ne_eq, Int32.reduceToInt] at *); omega)⟩
  refine go_iconst (v := 1) (pc' := 12) dX5_isTime_11 rfl (by decide) ?_
  refine go_goto (tgt := 16) dX5_isTime_12 (by decide) ?_
  exact go_zret dX5_isTime_16 rfl rfl ⟨rfl, by first | exact bq_t (by (try simp only [Int32.lt_iff_toInt_lt, Int32.le_iff_toInt_le, ← Int32.toInt_inj, ge_iff_le, gt_iff_lt, ne_eq, Int32.reduceToInt] at *); omega) | exact bq_f (by (try simp only [Int32.lt_iff_toInt_lt, Int32.le_iff_toInt_le, ← Int32.toInt_inj, ge_iff_le, gt_iff_lt, ne_eq, Int32.reduceToInt] at *); omega)⟩
set_option maxHeartbeats 4000000 in
set_option maxRecDepth 100000 in
theorem c_X0_isShift (l : Launch) (L : WL) (σ : ST) (x : Int32) : CtI l L yX0_isShift cX0_isShift 1 (some .boolean) rm_X0_isShift [.int x] σ (fun r σ2 => σ2 = σ ∧ bq (-500 ≤ x.toInt ∧ x.toInt ≤ 500) r) := by
  refine ctI_go (own := RX0) (by decide) rfl (Nat.le_of_ble_eq_true rfl) (fun F hF => ?_)
  subst hF
  refine go_iload_n (i := 0) (pc' := 1) dX0_isShift_0 rfl rfl rfl ?_
  refine go_sipush (v := (-500)) (pc' := 4) dX0_isShift_1 rfl (by decide) ?_
  refine go_icmp_lt (tgt := 18) (pc' := 7) dX0_isShift_4 rfl (by decide) (fun c_4 => ?_) (fun c_4 => ?_)
  · refine go_iconst (v := 0) (pc' := 19) dX0_isShift_18 rfl (by decide) ?_
    exact go_zret dX0_isShift_19 rfl rfl ⟨rfl, by first | exact bq_t (by (try simp only [Int32.lt_iff_toInt_lt, Int32.le_iff_toInt_le, ← Int32.toInt_inj, ge_iff_le, gt_iff_lt, ne_eq, Int32.reduceToInt] at *); omega) | exact bq_f (by (try simp only [Int32.lt_iff_toInt_lt, Int32.le_iff_toInt_le, ← Int32.toInt_inj, ge_iff_le, gt_iff_lt, ne_eq, Int32.reduceToInt] at *); omega)⟩
  refine go_iload_n (i := 0) (pc' := 8) dX0_isShift_7 rfl rfl rfl ?_
  refine go_sipush (v := 500) (pc' := 11) dX0_isShift_8 rfl (by decide) ?_
  refine go_icmp_gt (tgt := 18) (pc' := 14) dX0_isShift_11 rfl (by decide) (fun c_11 => ?_) (fun c_11 => ?_)
  · refine go_iconst (v := 0) (pc' := 19) dX0_isShift_18 rfl (by decide) ?_
    exact go_zret dX0_isShift_19 rfl rfl ⟨rfl, by first | exact bq_t (by (try simp only [Int32.lt_iff_toInt_lt, Int32.le_iff_toInt_le, ← Int32.toInt_inj, ge_iff_le, gt_iff_lt, ne_eq, Int32.reduceToInt] at *); omega) | exact bq_f (by (try simp only [Int32.lt_iff_toInt_lt, Int32.le_iff_toInt_le, ← Int32.toInt_inj, ge_iff_le, gt_iff_lt, ne_eq, Int32.reduceToInt] at *); omega)⟩
  refine go_iconst (v := 1) (pc' := 15) dX0_isShift_14 rfl (by decide) ?_
  refine go_goto (tgt := 19) dX0_isShift_15 (by decide) ?_
  exact go_zret dX0_isShift_19 rfl rfl ⟨rfl, by first | exact bq_t (by (try simp only [Int32.lt_iff_toInt_lt, Int32.le_iff_toInt_le, ← Int32.toInt_inj, ge_iff_le, gt_iff_lt, ne_eq, Int32.reduceToInt] at *); omega) | exact bq_f (by (try simp only [Int32.lt_iff_toInt_lt, Int32.le_iff_toInt_le, ← Int32.toInt_inj, ge_iff_le, gt_iff_lt, ne_eq, Int32.reduceToInt] at *); omega)⟩
set_option maxHeartbeats 4000000 in
set_option maxRecDepth 100000 in
theorem c_X11_isReading (l : Launch) (L : WL) (σ : ST) (x d w : Int32) : CtI l L yX11_isReading cX11_isReading 4 (some .boolean) rm_X11_isReading [.ref (L.2.1 0), .int x, .int d, .int w] σ (fun r σ2 => σ2 = σ ∧ bq ((0 ≤ x.toInt ∧ x.toInt < (σ.1 2).toInt) ∧ (0 ≤ d.toInt ∧ d.toInt ≤ 9999) ∧ (w.toInt = 0 ∨ w.toInt = 1)) r) := by
  refine ctI_go (own := RX11) (by decide) rfl (Nat.le_of_ble_eq_true rfl) (fun F hF => ?_)
  subst hF
  refine go_aload_n (i := 0) (pc' := 1) dX11_isReading_0 rfl rfl rfl ?_
  refine gf_0_people (pc' := 4) dX11_isReading_1 rfl fl_X11_10 ?_
  refine go_iload_n (i := 1) (pc' := 5) dX11_isReading_4 rfl rfl rfl ?_
  refine go_cvi (pc' := 8) lk_X11_107 (c_X4_has _ _ _ _) rfl rfl (Nat.le_of_ble_eq_true rfl) (by decide) rfl rfl rfl ⟨Nat.le_of_ble_eq_true rfl, Nat.le_of_ble_eq_true rfl⟩ ⟨rfl, rfl⟩ dX11_isReading_5 rfl (fun r_5 σ_5 h_5 => ?_)
  obtain ⟨e_5, h_5⟩ := h_5
  have e_5 := e_5.symm
  subst e_5
  refine go_eqB (tgt := 31) (pc' := 11) h_5 dX11_isReading_8 rfl (by decide) (fun c_8 => ?_) (fun c_8 => ?_)
  · refine go_iconst (v := 0) (pc' := 32) dX11_isReading_31 rfl (by decide) ?_
    exact go_zret dX11_isReading_32 rfl rfl ⟨rfl, by first | exact bq_t (by (try simp only [Int32.lt_iff_toInt_lt, Int32.le_iff_toInt_le, ← Int32.toInt_inj, ge_iff_le, gt_iff_lt, ne_eq, Int32.reduceToInt] at *); omega) | exact bq_f (by (try simp only [Int32.lt_iff_toInt_lt, Int32.le_iff_toInt_le, ← Int32.toInt_inj, ge_iff_le, gt_iff_lt, ne_eq, Int32.reduceToInt] at *); omega)⟩
  refine go_iload_n (i := 2) (pc' := 12) dX11_isReading_11 rfl rfl rfl ?_
  refine go_csi (pc' := 15) ls_X11_110 (c_X11_isDay _ _ _ _) rfl rfl (Nat.le_of_ble_eq_true rfl) ⟨Nat.le_of_ble_eq_true rfl, Nat.le_of_ble_eq_true rfl⟩ ⟨rfl, rfl⟩ dX11_isReading_12 rfl (fun r_12 σ_12 h_12 => ?_)
  obtain ⟨e_12, h_12⟩ := h_12
  have e_12 := e_12.symm
  subst e_12
  refine go_eqB (tgt := 31) (pc' := 18) h_12 dX11_isReading_15 rfl (by decide) (fun c_15 => ?_) (fun c_15 => ?_)
  · refine go_iconst (v := 0) (pc' := 32) dX11_isReading_31 rfl (by decide) ?_
    exact go_zret dX11_isReading_32 rfl rfl ⟨rfl, by first | exact bq_t (by (try simp only [Int32.lt_iff_toInt_lt, Int32.le_iff_toInt_le, ← Int32.toInt_inj, ge_iff_le, gt_iff_lt, ne_eq, Int32.reduceToInt] at *); omega) | exact bq_f (by (try simp only [Int32.lt_iff_toInt_lt, Int32.le_iff_toInt_le, ← Int32.toInt_inj, ge_iff_le, gt_iff_lt, ne_eq, Int32.reduceToInt] at *); omega)⟩
  refine go_iload_n (i := 3) (pc' := 19) dX11_isReading_18 rfl rfl rfl ?_
  refine go_if_eq (tgt := 27) (pc' := 22) dX11_isReading_19 rfl (by decide) (fun c_19 => ?_) (fun c_19 => ?_)
  · refine go_iconst (v := 1) (pc' := 28) dX11_isReading_27 rfl (by decide) ?_
    refine go_goto (tgt := 32) dX11_isReading_28 (by decide) ?_
    exact go_zret dX11_isReading_32 rfl rfl ⟨rfl, by first | exact bq_t (by (try simp only [Int32.lt_iff_toInt_lt, Int32.le_iff_toInt_le, ← Int32.toInt_inj, ge_iff_le, gt_iff_lt, ne_eq, Int32.reduceToInt] at *); omega) | exact bq_f (by (try simp only [Int32.lt_iff_toInt_lt, Int32.le_iff_toInt_le, ← Int32.toInt_inj, ge_iff_le, gt_iff_lt, ne_eq, Int32.reduceToInt] at *); omega)⟩
  refine go_iload_n (i := 3) (pc' := 23) dX11_isReading_22 rfl rfl rfl ?_
  refine go_iconst (v := 1) (pc' := 24) dX11_isReading_23 rfl (by decide) ?_
  refine go_icmp_ne (tgt := 31) (pc' := 27) dX11_isReading_24 rfl (by decide) (fun c_24 => ?_) (fun c_24 => ?_)
  · refine go_iconst (v := 0) (pc' := 32) dX11_isReading_31 rfl (by decide) ?_
    exact go_zret dX11_isReading_32 rfl rfl ⟨rfl, by first | exact bq_t (by (try simp only [Int32.lt_iff_toInt_lt, Int32.le_iff_toInt_le, ← Int32.toInt_inj, ge_iff_le, gt_iff_lt, ne_eq, Int32.reduceToInt] at *); omega) | exact bq_f (by (try simp only [Int32.lt_iff_toInt_lt, Int32.le_iff_toInt_le, ← Int32.toInt_inj, ge_iff_le, gt_iff_lt, ne_eq, Int32.reduceToInt] at *); omega)⟩
  refine go_iconst (v := 1) (pc' := 28) dX11_isReading_27 rfl (by decide) ?_
  refine go_goto (tgt := 32) dX11_isReading_28 (by decide) ?_
  exact go_zret dX11_isReading_32 rfl rfl ⟨rfl, by first | exact bq_t (by (try simp only [Int32.lt_iff_toInt_lt, Int32.le_iff_toInt_le, ← Int32.toInt_inj, ge_iff_le, gt_iff_lt, ne_eq, Int32.reduceToInt] at *); omega) | exact bq_f (by (try simp only [Int32.lt_iff_toInt_lt, Int32.le_iff_toInt_le, ← Int32.toInt_inj, ge_iff_le, gt_iff_lt, ne_eq, Int32.reduceToInt] at *); omega)⟩
set_option maxHeartbeats 4000000 in
set_option maxRecDepth 100000 in
theorem c_X11_isPrinting (l : Launch) (L : WL) (σ : ST) (x d w : Int32) : CtI l L yX11_isPrinting cX11_isPrinting 4 (some .boolean) rm_X11_isPrinting [.ref (L.2.1 0), .int x, .int d, .int w] σ (fun r σ2 => σ2 = σ ∧ bq ((0 ≤ x.toInt ∧ x.toInt < (σ.1 3).toInt) ∧ (0 ≤ d.toInt ∧ d.toInt ≤ 9999) ∧ (w.toInt = 0 ∨ w.toInt = 1)) r) := by
  refine ctI_go (own := RX11) (by decide) rfl (Nat.le_of_ble_eq_true rfl) (fun F hF => ?_)
  subst hF
  refine go_aload_n (i := 0) (pc' := 1) dX11_isPrinting_0 rfl rfl rfl ?_
  refine gf_0_letters (pc' := 4) dX11_isPrinting_1 rfl fl_X11_19 ?_
  refine go_iload_n (i := 1) (pc' := 5) dX11_isPrinting_4 rfl rfl rfl ?_
  refine go_cvi (pc' := 8) lk_X11_130 (c_X2_has _ _ _ _) rfl rfl (Nat.le_of_ble_eq_true rfl) (by decide) rfl rfl rfl ⟨Nat.le_of_ble_eq_true rfl, Nat.le_of_ble_eq_true rfl⟩ ⟨rfl, rfl⟩ dX11_isPrinting_5 rfl (fun r_5 σ_5 h_5 => ?_)
  obtain ⟨e_5, h_5⟩ := h_5
  have e_5 := e_5.symm
  subst e_5
  refine go_eqB (tgt := 31) (pc' := 11) h_5 dX11_isPrinting_8 rfl (by decide) (fun c_8 => ?_) (fun c_8 => ?_)
  · refine go_iconst (v := 0) (pc' := 32) dX11_isPrinting_31 rfl (by decide) ?_
    exact go_zret dX11_isPrinting_32 rfl rfl ⟨rfl, by first | exact bq_t (by (try simp only [Int32.lt_iff_toInt_lt, Int32.le_iff_toInt_le, ← Int32.toInt_inj, ge_iff_le, gt_iff_lt, ne_eq, Int32.reduceToInt] at *); omega) | exact bq_f (by (try simp only [Int32.lt_iff_toInt_lt, Int32.le_iff_toInt_le, ← Int32.toInt_inj, ge_iff_le, gt_iff_lt, ne_eq, Int32.reduceToInt] at *); omega)⟩
  refine go_iload_n (i := 2) (pc' := 12) dX11_isPrinting_11 rfl rfl rfl ?_
  refine go_csi (pc' := 15) ls_X11_110 (c_X11_isDay _ _ _ _) rfl rfl (Nat.le_of_ble_eq_true rfl) ⟨Nat.le_of_ble_eq_true rfl, Nat.le_of_ble_eq_true rfl⟩ ⟨rfl, rfl⟩ dX11_isPrinting_12 rfl (fun r_12 σ_12 h_12 => ?_)
  obtain ⟨e_12, h_12⟩ := h_12
  have e_12 := e_12.symm
  subst e_12
  refine go_eqB (tgt := 31) (pc' := 18) h_12 dX11_isPrinting_15 rfl (by decide) (fun c_15 => ?_) (fun c_15 => ?_)
  · refine go_iconst (v := 0) (pc' := 32) dX11_isPrinting_31 rfl (by decide) ?_
    exact go_zret dX11_isPrinting_32 rfl rfl ⟨rfl, by first | exact bq_t (by (try simp only [Int32.lt_iff_toInt_lt, Int32.le_iff_toInt_le, ← Int32.toInt_inj, ge_iff_le, gt_iff_lt, ne_eq, Int32.reduceToInt] at *); omega) | exact bq_f (by (try simp only [Int32.lt_iff_toInt_lt, Int32.le_iff_toInt_le, ← Int32.toInt_inj, ge_iff_le, gt_iff_lt, ne_eq, Int32.reduceToInt] at *); omega)⟩
  refine go_iload_n (i := 3) (pc' := 19) dX11_isPrinting_18 rfl rfl rfl ?_
  refine go_if_eq (tgt := 27) (pc' := 22) dX11_isPrinting_19 rfl (by decide) (fun c_19 => ?_) (fun c_19 => ?_)
  · refine go_iconst (v := 1) (pc' := 28) dX11_isPrinting_27 rfl (by decide) ?_
    refine go_goto (tgt := 32) dX11_isPrinting_28 (by decide) ?_
    exact go_zret dX11_isPrinting_32 rfl rfl ⟨rfl, by first | exact bq_t (by (try simp only [Int32.lt_iff_toInt_lt, Int32.le_iff_toInt_le, ← Int32.toInt_inj, ge_iff_le, gt_iff_lt, ne_eq, Int32.reduceToInt] at *); omega) | exact bq_f (by (try simp only [Int32.lt_iff_toInt_lt, Int32.le_iff_toInt_le, ← Int32.toInt_inj, ge_iff_le, gt_iff_lt, ne_eq, Int32.reduceToInt] at *); omega)⟩
  refine go_iload_n (i := 3) (pc' := 23) dX11_isPrinting_22 rfl rfl rfl ?_
  refine go_iconst (v := 1) (pc' := 24) dX11_isPrinting_23 rfl (by decide) ?_
  refine go_icmp_ne (tgt := 31) (pc' := 27) dX11_isPrinting_24 rfl (by decide) (fun c_24 => ?_) (fun c_24 => ?_)
  · refine go_iconst (v := 0) (pc' := 32) dX11_isPrinting_31 rfl (by decide) ?_
    exact go_zret dX11_isPrinting_32 rfl rfl ⟨rfl, by first | exact bq_t (by (try simp only [Int32.lt_iff_toInt_lt, Int32.le_iff_toInt_le, ← Int32.toInt_inj, ge_iff_le, gt_iff_lt, ne_eq, Int32.reduceToInt] at *); omega) | exact bq_f (by (try simp only [Int32.lt_iff_toInt_lt, Int32.le_iff_toInt_le, ← Int32.toInt_inj, ge_iff_le, gt_iff_lt, ne_eq, Int32.reduceToInt] at *); omega)⟩
  refine go_iconst (v := 1) (pc' := 28) dX11_isPrinting_27 rfl (by decide) ?_
  refine go_goto (tgt := 32) dX11_isPrinting_28 (by decide) ?_
  exact go_zret dX11_isPrinting_32 rfl rfl ⟨rfl, by first | exact bq_t (by (try simp only [Int32.lt_iff_toInt_lt, Int32.le_iff_toInt_le, ← Int32.toInt_inj, ge_iff_le, gt_iff_lt, ne_eq, Int32.reduceToInt] at *); omega) | exact bq_f (by (try simp only [Int32.lt_iff_toInt_lt, Int32.le_iff_toInt_le, ← Int32.toInt_inj, ge_iff_le, gt_iff_lt, ne_eq, Int32.reduceToInt] at *); omega)⟩
set_option maxHeartbeats 4000000 in
set_option maxRecDepth 100000 in
theorem c_X12_isIn (l : Launch) (L : WL) (σ : ST) (x n : Int32) : CtI l L yX12_isIn cX12_isIn 2 (some .boolean) rm_X12_isIn [.int x, .int n] σ (fun r σ2 => σ2 = σ ∧ bq (0 ≤ x.toInt ∧ x.toInt < n.toInt) r) := by
  refine ctI_go (own := RX12) (by decide) rfl (Nat.le_of_ble_eq_true rfl) (fun F hF => ?_)
  subst hF
  refine go_iload_n (i := 0) (pc' := 1) dX12_isIn_0 rfl rfl rfl ?_
  refine go_if_lt (tgt := 13) (pc' := 4) dX12_isIn_1 rfl (by decide) (fun c_1 => ?_) (fun c_1 => ?_)
  · refine go_iconst (v := 0) (pc' := 14) dX12_isIn_13 rfl (by decide) ?_
    exact go_zret dX12_isIn_14 rfl rfl ⟨rfl, by first | exact bq_t (by (try simp only [Int32.lt_iff_toInt_lt, Int32.le_iff_toInt_le, ← Int32.toInt_inj, ge_iff_le, gt_iff_lt, ne_eq, Int32.reduceToInt] at *); omega) | exact bq_f (by (try simp only [Int32.lt_iff_toInt_lt, Int32.le_iff_toInt_le, ← Int32.toInt_inj, ge_iff_le, gt_iff_lt, ne_eq, Int32.reduceToInt] at *); omega)⟩
  refine go_iload_n (i := 0) (pc' := 5) dX12_isIn_4 rfl rfl rfl ?_
  refine go_iload_n (i := 1) (pc' := 6) dX12_isIn_5 rfl rfl rfl ?_
  refine go_icmp_ge (tgt := 13) (pc' := 9) dX12_isIn_6 rfl (by decide) (fun c_6 => ?_) (fun c_6 => ?_)
  · refine go_iconst (v := 0) (pc' := 14) dX12_isIn_13 rfl (by decide) ?_
    exact go_zret dX12_isIn_14 rfl rfl ⟨rfl, by first | exact bq_t (by (try simp only [Int32.lt_iff_toInt_lt, Int32.le_iff_toInt_le, ← Int32.toInt_inj, ge_iff_le, gt_iff_lt, ne_eq, Int32.reduceToInt] at *); omega) | exact bq_f (by (try simp only [Int32.lt_iff_toInt_lt, Int32.le_iff_toInt_le, ← Int32.toInt_inj, ge_iff_le, gt_iff_lt, ne_eq, Int32.reduceToInt] at *); omega)⟩
  refine go_iconst (v := 1) (pc' := 10) dX12_isIn_9 rfl (by decide) ?_
  refine go_goto (tgt := 14) dX12_isIn_10 (by decide) ?_
  exact go_zret dX12_isIn_14 rfl rfl ⟨rfl, by first | exact bq_t (by (try simp only [Int32.lt_iff_toInt_lt, Int32.le_iff_toInt_le, ← Int32.toInt_inj, ge_iff_le, gt_iff_lt, ne_eq, Int32.reduceToInt] at *); omega) | exact bq_f (by (try simp only [Int32.lt_iff_toInt_lt, Int32.le_iff_toInt_le, ← Int32.toInt_inj, ge_iff_le, gt_iff_lt, ne_eq, Int32.reduceToInt] at *); omega)⟩
set_option maxHeartbeats 4000000 in
set_option maxRecDepth 100000 in
theorem c_X12_isPerson (l : Launch) (L : WL) (σ : ST) (x : Int32) : CtI l L yX12_isPerson cX12_isPerson 2 (some .boolean) rm_X12_isPerson [.ref (L.2.1 13), .int x] σ (fun r σ2 => σ2 = σ ∧ bq (0 ≤ x.toInt ∧ x.toInt < (σ.1 19).toInt) r) := by
  refine ctI_go (own := RX12) (by decide) rfl (Nat.le_of_ble_eq_true rfl) (fun F hF => ?_)
  subst hF
  refine go_iload_n (i := 1) (pc' := 1) dX12_isPerson_0 rfl rfl rfl ?_
  refine go_aload_n (i := 0) (pc' := 2) dX12_isPerson_1 rfl rfl rfl ?_
  refine gf_13_persons (pc' := 5) dX12_isPerson_2 rfl fl_X12_139 ?_
  refine go_csi (pc' := 8) ls_X12_135 (c_X12_isIn _ _ _ _ _) rfl rfl (Nat.le_of_ble_eq_true rfl) ⟨Nat.le_of_ble_eq_true rfl, Nat.le_of_ble_eq_true rfl⟩ ⟨rfl, rfl⟩ dX12_isPerson_5 rfl (fun r_5 σ_5 h_5 => ?_)
  obtain ⟨e_5, h_5⟩ := h_5
  have e_5 := e_5.symm
  subst e_5
  exact go_zret dX12_isPerson_8 rfl (bq_n h_5) ⟨rfl, h_5⟩
set_option maxHeartbeats 4000000 in
set_option maxRecDepth 100000 in
theorem c_X12_isLetter (l : Launch) (L : WL) (σ : ST) (x : Int32) : CtI l L yX12_isLetter cX12_isLetter 2 (some .boolean) rm_X12_isLetter [.ref (L.2.1 13), .int x] σ (fun r σ2 => σ2 = σ ∧ bq (0 ≤ x.toInt ∧ x.toInt < (σ.1 20).toInt) r) := by
  refine ctI_go (own := RX12) (by decide) rfl (Nat.le_of_ble_eq_true rfl) (fun F hF => ?_)
  subst hF
  refine go_iload_n (i := 1) (pc' := 1) dX12_isLetter_0 rfl rfl rfl ?_
  refine go_aload_n (i := 0) (pc' := 2) dX12_isLetter_1 rfl rfl rfl ?_
  refine gf_13_letters (pc' := 5) dX12_isLetter_2 rfl fl_X12_142 ?_
  refine go_csi (pc' := 8) ls_X12_135 (c_X12_isIn _ _ _ _ _) rfl rfl (Nat.le_of_ble_eq_true rfl) ⟨Nat.le_of_ble_eq_true rfl, Nat.le_of_ble_eq_true rfl⟩ ⟨rfl, rfl⟩ dX12_isLetter_5 rfl (fun r_5 σ_5 h_5 => ?_)
  obtain ⟨e_5, h_5⟩ := h_5
  have e_5 := e_5.symm
  subst e_5
  exact go_zret dX12_isLetter_8 rfl (bq_n h_5) ⟨rfl, h_5⟩
set_option maxHeartbeats 4000000 in
set_option maxRecDepth 100000 in
theorem c_X12_isDay (l : Launch) (L : WL) (σ : ST) (x : Int32) : CtI l L yX12_isDay cX12_isDay 1 (some .boolean) rm_X12_isDay [.int x] σ (fun r σ2 => σ2 = σ ∧ bq (0 ≤ x.toInt ∧ x.toInt ≤ 9999) r) := by
  refine ctI_go (own := RX12) (by decide) rfl (Nat.le_of_ble_eq_true rfl) (fun F hF => ?_)
  subst hF
  refine go_iload_n (i := 0) (pc' := 1) dX12_isDay_0 rfl rfl rfl ?_
  refine go_sipush (v := 10000) (pc' := 4) dX12_isDay_1 rfl (by decide) ?_
  refine go_csi (pc' := 7) ls_X12_135 (c_X12_isIn _ _ _ _ _) rfl rfl (Nat.le_of_ble_eq_true rfl) ⟨Nat.le_of_ble_eq_true rfl, Nat.le_of_ble_eq_true rfl⟩ ⟨rfl, rfl⟩ dX12_isDay_4 rfl (fun r_4 σ_4 h_4 => ?_)
  obtain ⟨e_4, h_4⟩ := h_4
  have e_4 := e_4.symm
  subst e_4
  exact go_zret dX12_isDay_7 rfl (bq_n h_4) ⟨rfl, bq_c (by rw [show (10000 : Int32).toInt = 10000 by decide]; omega) h_4⟩
