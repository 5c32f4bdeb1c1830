/-! ===== the constructors ===== -/
/-- addresses, array kinds, rows, rows, contents -/
abbrev CS : Type := (Nat → Nat) × (Nat → ClassId) × (Nat → Nat) × (Nat → Nat) × (Nat → Nat → Int32)
def wf_X4_init (h0 : Nat) (u : CS) : va_W := [(h0, .inr (4, [.ref (u.1 0), .ref (u.1 1), .ref (u.1 2), .ref (u.1 3), .ref (u.1 4), .int 0])), ((u.1 0), .inl ((u.2.1 0), 10, .inl (fun _ => 0))), ((u.1 1), .inl ((u.2.1 1), 10, .inl (fun _ => 0))), ((u.1 2), .inl ((u.2.1 2), 10, .inl (fun _ => 0))), ((u.1 3), .inl ((u.2.1 3), 10, .inl (fun _ => 0))), ((u.1 4), .inl ((u.2.1 4), 10, .inl (fun _ => 0)))]
def tf_X4_init (u : CS) : List (ClassId × FieldType) := [((u.2.1 0), .int), ((u.2.1 1), .int), ((u.2.1 2), .int), ((u.2.1 3), .int), ((u.2.1 4), .int)]
abbrev rmc_X4_init : Room := { frames := 1, cells := 5, slots := 50, locals := 12 }
set_option maxHeartbeats 4000000 in
set_option maxRecDepth 100000 in
theorem i_X4_init (l : Launch) (D : va_G) (h0 : Nat) : CtC l D yX4_init cX4_init 1 rmc_X4_init 5 50 (fun _ => True) h0 4 [.null, .null, .null, .null, .null, .int 0] (wf_X4_init h0) tf_X4_init := by
  refine ctC_go (own := RX4) (by decide) rfl rfl (Nat.le_of_ble_eq_true rfl) (fun F hF hex => ?_)
  subst hF
  refine gc_aload_n (i := 0) (pc' := 1) dX4_init_0 rfl rfl rfl ?_
  refine gc_objInit (pc' := 4) dX4_init_1 rfl ml_X4_3 (Nat.le_of_ble_eq_true rfl) (Nat.le_of_ble_eq_true rfl) ?_
  refine gc_aload_n (i := 0) (pc' := 5) dX4_init_4 rfl rfl rfl ?_
  refine gc_bipush (v := 10) (pc' := 7) dX4_init_5 rfl (by decide) ?_
  refine gc_newF (C := RX4) (T := TX4) (N := 6) (ci := 4) (kf := 0) (ty := .int) (N9 := 10) (a0 := (10, .inl (fun _ => 0))) (pc' := 9) (pc2 := 12) dX4_init_7 rfl ac_int rfl (fun _ => rfl) (by decide) (by decide) (Nat.le_of_ble_eq_true rfl) (Nat.le_of_ble_eq_true rfl) (Nat.le_of_ble_eq_true rfl) inlX4 tyX4 tyX4_ok nmX4 rfl dX4_init_9 rfl fl_X4_11 (by decide) rfl rfl (by decide) rfl (Nat.le_of_ble_eq_true rfl) (fun q_7 c_7 => ?_)
  refine gc_aload_n (i := 0) (pc' := 13) dX4_init_12 rfl rfl rfl ?_
  refine gc_bipush (v := 10) (pc' := 15) dX4_init_13 rfl (by decide) ?_
  refine gc_newF (C := RX4) (T := TX4) (N := 6) (ci := 4) (kf := 1) (ty := .int) (N9 := 10) (a0 := (10, .inl (fun _ => 0))) (pc' := 17) (pc2 := 20) dX4_init_15 rfl ac_int rfl (fun _ => rfl) (by decide) (by decide) (Nat.le_of_ble_eq_true rfl) (Nat.le_of_ble_eq_true rfl) (Nat.le_of_ble_eq_true rfl) inlX4 tyX4 tyX4_ok nmX4 rfl dX4_init_17 rfl fl_X4_15 (by decide) rfl rfl (by decide) rfl (Nat.le_of_ble_eq_true rfl) (fun q_15 c_15 => ?_)
  refine gc_aload_n (i := 0) (pc' := 21) dX4_init_20 rfl rfl rfl ?_
  refine gc_bipush (v := 10) (pc' := 23) dX4_init_21 rfl (by decide) ?_
  refine gc_newF (C := RX4) (T := TX4) (N := 6) (ci := 4) (kf := 2) (ty := .int) (N9 := 10) (a0 := (10, .inl (fun _ => 0))) (pc' := 25) (pc2 := 28) dX4_init_23 rfl ac_int rfl (fun _ => rfl) (by decide) (by decide) (Nat.le_of_ble_eq_true rfl) (Nat.le_of_ble_eq_true rfl) (Nat.le_of_ble_eq_true rfl) inlX4 tyX4 tyX4_ok nmX4 rfl dX4_init_25 rfl fl_X4_18 (by decide) rfl rfl (by decide) rfl (Nat.le_of_ble_eq_true rfl) (fun q_23 c_23 => ?_)
  refine gc_aload_n (i := 0) (pc' := 29) dX4_init_28 rfl rfl rfl ?_
  refine gc_bipush (v := 10) (pc' := 31) dX4_init_29 rfl (by decide) ?_
  refine gc_newF (C := RX4) (T := TX4) (N := 6) (ci := 4) (kf := 3) (ty := .int) (N9 := 10) (a0 := (10, .inl (fun _ => 0))) (pc' := 33) (pc2 := 36) dX4_init_31 rfl ac_int rfl (fun _ => rfl) (by decide) (by decide) (Nat.le_of_ble_eq_true rfl) (Nat.le_of_ble_eq_true rfl) (Nat.le_of_ble_eq_true rfl) inlX4 tyX4 tyX4_ok nmX4 rfl dX4_init_33 rfl fl_X4_21 (by decide) rfl rfl (by decide) rfl (Nat.le_of_ble_eq_true rfl) (fun q_31 c_31 => ?_)
  refine gc_aload_n (i := 0) (pc' := 37) dX4_init_36 rfl rfl rfl ?_
  refine gc_bipush (v := 10) (pc' := 39) dX4_init_37 rfl (by decide) ?_
  refine gc_newF (C := RX4) (T := TX4) (N := 6) (ci := 4) (kf := 4) (ty := .int) (N9 := 10) (a0 := (10, .inl (fun _ => 0))) (pc' := 41) (pc2 := 44) dX4_init_39 rfl ac_int rfl (fun _ => rfl) (by decide) (by decide) (Nat.le_of_ble_eq_true rfl) (Nat.le_of_ble_eq_true rfl) (Nat.le_of_ble_eq_true rfl) inlX4 tyX4 tyX4_ok nmX4 rfl dX4_init_41 rfl fl_X4_24 (by decide) rfl rfl (by decide) rfl (Nat.le_of_ble_eq_true rfl) (fun q_39 c_39 => ?_)
  refine gc_aload_n (i := 0) (pc' := 45) dX4_init_44 rfl rfl rfl ?_
  refine gc_iconst (v := 0) (pc' := 46) dX4_init_45 rfl (by decide) ?_
  refine gc_put0 (C := RX4) (T := TX4) (N := 6) (ci := 4) (kf := 5) (ty := .int) (pc' := 49) inlX4 tyX4 tyX4_ok nmX4 rfl dX4_init_46 rfl fl_X4_27 (by decide) rfl rfl rfl rfl (Nat.le_of_ble_eq_true rfl) ?_
  exact gc_vret ((fun k => [q_7, q_15, q_23, q_31, q_39].getD k 0, fun k => [c_7, c_15, c_23, c_31, c_39].getD k 0, (fun _ => 0), (fun _ => 0), (fun _ _ => 0)) : CS) dX4_init_49 rfl rfl ⟨[0, 1, 2, 3, 4], rfl⟩ rfl rfl
def wf_X1_init (h0 : Nat) (u : CS) : va_W := [(h0, .inr (1, [.ref (u.1 0), .int 0, .ref (u.1 1), .ref (u.1 2)])), ((u.1 0), .inl ((u.2.1 0), 10, .inl (fun _ => 0))), ((u.1 1), .inl ((u.2.1 1), 10, .inl (fun _ => 0))), ((u.1 2), .inl ((u.2.1 2), 10, .inl (fun _ => 0)))]
def tf_X1_init (u : CS) : List (ClassId × FieldType) := [((u.2.1 0), .int), ((u.2.1 1), .int), ((u.2.1 2), .int)]
abbrev rmc_X1_init : Room := { frames := 1, cells := 3, slots := 30, locals := 12 }
set_option maxHeartbeats 4000000 in
set_option maxRecDepth 100000 in
theorem i_X1_init (l : Launch) (D : va_G) (h0 : Nat) : CtC l D yX1_init cX1_init 1 rmc_X1_init 3 30 (fun _ => True) h0 1 [.null, .int 0, .null, .null] (wf_X1_init h0) tf_X1_init := by
  refine ctC_go (own := RX1) (by decide) rfl rfl (Nat.le_of_ble_eq_true rfl) (fun F hF hex => ?_)
  subst hF
  refine gc_aload_n (i := 0) (pc' := 1) dX1_init_0 rfl rfl rfl ?_
  refine gc_objInit (pc' := 4) dX1_init_1 rfl ml_X1_3 (Nat.le_of_ble_eq_true rfl) (Nat.le_of_ble_eq_true rfl) ?_
  refine gc_aload_n (i := 0) (pc' := 5) dX1_init_4 rfl rfl rfl ?_
  refine gc_bipush (v := 10) (pc' := 7) dX1_init_5 rfl (by decide) ?_
  refine gc_newF (C := RX1) (T := TX1) (N := 4) (ci := 1) (kf := 0) (ty := .int) (N9 := 10) (a0 := (10, .inl (fun _ => 0))) (pc' := 9) (pc2 := 12) dX1_init_7 rfl ac_int rfl (fun _ => rfl) (by decide) (by decide) (Nat.le_of_ble_eq_true rfl) (Nat.le_of_ble_eq_true rfl) (Nat.le_of_ble_eq_true rfl) inlX1 tyX1 tyX1_ok nmX1 rfl dX1_init_9 rfl fl_X1_11 (by decide) rfl rfl (by decide) rfl (Nat.le_of_ble_eq_true rfl) (fun q_7 c_7 => ?_)
  refine gc_aload_n (i := 0) (pc' := 13) dX1_init_12 rfl rfl rfl ?_
  refine gc_iconst (v := 0) (pc' := 14) dX1_init_13 rfl (by decide) ?_
  refine gc_put0 (C := RX1) (T := TX1) (N := 4) (ci := 1) (kf := 1) (ty := .int) (pc' := 17) inlX1 tyX1 tyX1_ok nmX1 rfl dX1_init_14 rfl fl_X1_15 (by decide) rfl rfl rfl rfl (Nat.le_of_ble_eq_true rfl) ?_
  refine gc_aload_n (i := 0) (pc' := 18) dX1_init_17 rfl rfl rfl ?_
  refine gc_bipush (v := 10) (pc' := 20) dX1_init_18 rfl (by decide) ?_
  refine gc_newF (C := RX1) (T := TX1) (N := 4) (ci := 1) (kf := 2) (ty := .int) (N9 := 10) (a0 := (10, .inl (fun _ => 0))) (pc' := 22) (pc2 := 25) dX1_init_20 rfl ac_int rfl (fun _ => rfl) (by decide) (by decide) (Nat.le_of_ble_eq_true rfl) (Nat.le_of_ble_eq_true rfl) (Nat.le_of_ble_eq_true rfl) inlX1 tyX1 tyX1_ok nmX1 rfl dX1_init_22 rfl fl_X1_19 (by decide) rfl rfl (by decide) rfl (Nat.le_of_ble_eq_true rfl) (fun q_20 c_20 => ?_)
  refine gc_aload_n (i := 0) (pc' := 26) dX1_init_25 rfl rfl rfl ?_
  refine gc_bipush (v := 10) (pc' := 28) dX1_init_26 rfl (by decide) ?_
  refine gc_newF (C := RX1) (T := TX1) (N := 4) (ci := 1) (kf := 3) (ty := .int) (N9 := 10) (a0 := (10, .inl (fun _ => 0))) (pc' := 30) (pc2 := 33) dX1_init_28 rfl ac_int rfl (fun _ => rfl) (by decide) (by decide) (Nat.le_of_ble_eq_true rfl) (Nat.le_of_ble_eq_true rfl) (Nat.le_of_ble_eq_true rfl) inlX1 tyX1 tyX1_ok nmX1 rfl dX1_init_30 rfl fl_X1_22 (by decide) rfl rfl (by decide) rfl (Nat.le_of_ble_eq_true rfl) (fun q_28 c_28 => ?_)
  exact gc_vret ((fun k => [q_7, q_20, q_28].getD k 0, fun k => [c_7, c_20, c_28].getD k 0, (fun _ => 0), (fun _ => 0), (fun _ _ => 0)) : CS) dX1_init_33 rfl rfl ⟨[0, 1, 2], rfl⟩ rfl rfl
def wf_X8_init (h0 : Nat) (u : CS) : va_W := [(h0, .inr (8, [.ref (u.1 0), .int 0])), ((u.1 0), .inl ((u.2.1 0), 160, .inl (fun _ => 0)))]
def tf_X8_init (u : CS) : List (ClassId × FieldType) := [((u.2.1 0), .byte)]
abbrev rmc_X8_init : Room := { frames := 1, cells := 1, slots := 160, locals := 12 }
set_option maxHeartbeats 4000000 in
set_option maxRecDepth 100000 in
theorem i_X8_init (l : Launch) (D : va_G) (h0 : Nat) : CtC l D yX8_init cX8_init 1 rmc_X8_init 1 160 (fun _ => True) h0 8 [.null, .int 0] (wf_X8_init h0) tf_X8_init := by
  refine ctC_go (own := RX8) (by decide) rfl rfl (Nat.le_of_ble_eq_true rfl) (fun F hF hex => ?_)
  subst hF
  refine gc_aload_n (i := 0) (pc' := 1) dX8_init_0 rfl rfl rfl ?_
  refine gc_objInit (pc' := 4) dX8_init_1 rfl ml_X8_3 (Nat.le_of_ble_eq_true rfl) (Nat.le_of_ble_eq_true rfl) ?_
  refine gc_aload_n (i := 0) (pc' := 5) dX8_init_4 rfl rfl rfl ?_
  refine gc_sipush (v := 160) (pc' := 8) dX8_init_5 rfl (by decide) ?_
  refine gc_newF (C := RX8) (T := TX8) (N := 2) (ci := 8) (kf := 0) (ty := .byte) (N9 := 160) (a0 := (160, .inl (fun _ => 0))) (pc' := 10) (pc2 := 13) dX8_init_8 rfl ac_byte rfl (fun _ => rfl) (by decide) (by decide) (Nat.le_of_ble_eq_true rfl) (Nat.le_of_ble_eq_true rfl) (Nat.le_of_ble_eq_true rfl) inlX8 tyX8 tyX8_ok nmX8 rfl dX8_init_10 rfl fl_X8_9 (by decide) rfl rfl (by decide) rfl (Nat.le_of_ble_eq_true rfl) (fun q_8 c_8 => ?_)
  refine gc_aload_n (i := 0) (pc' := 14) dX8_init_13 rfl rfl rfl ?_
  refine gc_iconst (v := 0) (pc' := 15) dX8_init_14 rfl (by decide) ?_
  refine gc_put0 (C := RX8) (T := TX8) (N := 2) (ci := 8) (kf := 1) (ty := .int) (pc' := 18) inlX8 tyX8 tyX8_ok nmX8 rfl dX8_init_15 rfl fl_X8_15 (by decide) rfl rfl rfl rfl (Nat.le_of_ble_eq_true rfl) ?_
  exact gc_vret ((fun k => [q_8].getD k 0, fun k => [c_8].getD k 0, (fun _ => 0), (fun _ => 0), (fun _ _ => 0)) : CS) dX8_init_18 rfl rfl ⟨[0], rfl⟩ rfl rfl
def wf_X3_init (h0 : Nat) (u : CS) : va_W := [(h0, .inr (3, [.int 0, .int 0, .int 0, .int 0, .int 0, .ref (u.1 0), .int 0, .int 0])), ((u.1 0), .inl ((u.2.1 0), 4, .inl (fun _ => 0)))]
def tf_X3_init (u : CS) : List (ClassId × FieldType) := [((u.2.1 0), .int)]
abbrev rmc_X3_init : Room := { frames := 1, cells := 1, slots := 4, locals := 12 }
set_option maxHeartbeats 4000000 in
set_option maxRecDepth 100000 in
theorem i_X3_init (l : Launch) (D : va_G) (h0 : Nat) : CtC l D yX3_init cX3_init 1 rmc_X3_init 1 4 (fun _ => True) h0 3 [.int 0, .int 0, .int 0, .int 0, .int 0, .null, .int 0, .int 0] (wf_X3_init h0) tf_X3_init := by
  refine ctC_go (own := RX3) (by decide) rfl rfl (Nat.le_of_ble_eq_true rfl) (fun F hF hex => ?_)
  subst hF
  refine gc_aload_n (i := 0) (pc' := 1) dX3_init_0 rfl rfl rfl ?_
  refine gc_objInit (pc' := 4) dX3_init_1 rfl ml_X3_1 (Nat.le_of_ble_eq_true rfl) (Nat.le_of_ble_eq_true rfl) ?_
  refine gc_aload_n (i := 0) (pc' := 5) dX3_init_4 rfl rfl rfl ?_
  refine gc_iconst (v := 0) (pc' := 6) dX3_init_5 rfl (by decide) ?_
  refine gc_put0 (C := RX3) (T := TX3) (N := 8) (ci := 3) (kf := 0) (ty := .int) (pc' := 9) inlX3 tyX3 tyX3_ok nmX3 rfl dX3_init_6 rfl fl_X3_7 (by decide) rfl rfl rfl rfl (Nat.le_of_ble_eq_true rfl) ?_
  refine gc_aload_n (i := 0) (pc' := 10) dX3_init_9 rfl rfl rfl ?_
  refine gc_iconst (v := 0) (pc' := 11) dX3_init_10 rfl (by decide) ?_
  refine gc_put0 (C := RX3) (T := TX3) (N := 8) (ci := 3) (kf := 1) (ty := .int) (pc' := 14) inlX3 tyX3 tyX3_ok nmX3 rfl dX3_init_11 rfl fl_X3_13 (by decide) rfl rfl rfl rfl (Nat.le_of_ble_eq_true rfl) ?_
  refine gc_aload_n (i := 0) (pc' := 15) dX3_init_14 rfl rfl rfl ?_
  refine gc_iconst (v := 0) (pc' := 16) dX3_init_15 rfl (by decide) ?_
  refine gc_put0 (C := RX3) (T := TX3) (N := 8) (ci := 3) (kf := 2) (ty := .int) (pc' := 19) inlX3 tyX3 tyX3_ok nmX3 rfl dX3_init_16 rfl fl_X3_16 (by decide) rfl rfl rfl rfl (Nat.le_of_ble_eq_true rfl) ?_
  refine gc_aload_n (i := 0) (pc' := 20) dX3_init_19 rfl rfl rfl ?_
  refine gc_iconst (v := 0) (pc' := 21) dX3_init_20 rfl (by decide) ?_
  refine gc_put0 (C := RX3) (T := TX3) (N := 8) (ci := 3) (kf := 3) (ty := .int) (pc' := 24) inlX3 tyX3 tyX3_ok nmX3 rfl dX3_init_21 rfl fl_X3_19 (by decide) rfl rfl rfl rfl (Nat.le_of_ble_eq_true rfl) ?_
  refine gc_aload_n (i := 0) (pc' := 25) dX3_init_24 rfl rfl rfl ?_
  refine gc_iconst (v := 0) (pc' := 26) dX3_init_25 rfl (by decide) ?_
  refine gc_put0 (C := RX3) (T := TX3) (N := 8) (ci := 3) (kf := 4) (ty := .int) (pc' := 29) inlX3 tyX3 tyX3_ok nmX3 rfl dX3_init_26 rfl fl_X3_22 (by decide) rfl rfl rfl rfl (Nat.le_of_ble_eq_true rfl) ?_
  refine gc_aload_n (i := 0) (pc' := 30) dX3_init_29 rfl rfl rfl ?_
  refine gc_iconst (v := 4) (pc' := 31) dX3_init_30 rfl (by decide) ?_
  refine gc_newF (C := RX3) (T := TX3) (N := 8) (ci := 3) (kf := 5) (ty := .int) (N9 := 4) (a0 := (4, .inl (fun _ => 0))) (pc' := 33) (pc2 := 36) dX3_init_31 rfl ac_int rfl (fun _ => rfl) (by decide) (by decide) (Nat.le_of_ble_eq_true rfl) (Nat.le_of_ble_eq_true rfl) (Nat.le_of_ble_eq_true rfl) inlX3 tyX3 tyX3_ok nmX3 rfl dX3_init_33 rfl fl_X3_25 (by decide) rfl rfl (by decide) rfl (Nat.le_of_ble_eq_true rfl) (fun q_31 c_31 => ?_)
  refine gc_aload_n (i := 0) (pc' := 37) dX3_init_36 rfl rfl rfl ?_
  refine gc_iconst (v := 0) (pc' := 38) dX3_init_37 rfl (by decide) ?_
  refine gc_put0 (C := RX3) (T := TX3) (N := 8) (ci := 3) (kf := 6) (ty := .int) (pc' := 41) inlX3 tyX3 tyX3_ok nmX3 rfl dX3_init_38 rfl fl_X3_29 (by decide) rfl rfl rfl rfl (Nat.le_of_ble_eq_true rfl) ?_
  refine gc_aload_n (i := 0) (pc' := 42) dX3_init_41 rfl rfl rfl ?_
  refine gc_iconst (v := 0) (pc' := 43) dX3_init_42 rfl (by decide) ?_
  refine gc_put0 (C := RX3) (T := TX3) (N := 8) (ci := 3) (kf := 7) (ty := .int) (pc' := 46) inlX3 tyX3 tyX3_ok nmX3 rfl dX3_init_43 rfl fl_X3_32 (by decide) rfl rfl rfl rfl (Nat.le_of_ble_eq_true rfl) ?_
  exact gc_vret ((fun k => [q_31].getD k 0, fun k => [c_31].getD k 0, (fun _ => 0), (fun _ => 0), (fun _ _ => 0)) : CS) dX3_init_46 rfl rfl ⟨[0], rfl⟩ rfl rfl
def wf_X6_init (h0 : Nat) (u : CS) : va_W := [(h0, .inr (6, [.ref (u.1 0), .int 0])), ((u.1 0), .inl ((u.2.1 0), 160, .inl (fun _ => 0)))]
def tf_X6_init (u : CS) : List (ClassId × FieldType) := [((u.2.1 0), .byte)]
abbrev rmc_X6_init : Room := { frames := 1, cells := 1, slots := 160, locals := 12 }
set_option maxHeartbeats 4000000 in
set_option maxRecDepth 100000 in
theorem i_X6_init (l : Launch) (D : va_G) (h0 : Nat) : CtC l D yX6_init cX6_init 1 rmc_X6_init 1 160 (fun _ => True) h0 6 [.null, .int 0] (wf_X6_init h0) tf_X6_init := by
  refine ctC_go (own := RX6) (by decide) rfl rfl (Nat.le_of_ble_eq_true rfl) (fun F hF hex => ?_)
  subst hF
  refine gc_aload_n (i := 0) (pc' := 1) dX6_init_0 rfl rfl rfl ?_
  refine gc_objInit (pc' := 4) dX6_init_1 rfl ml_X6_3 (Nat.le_of_ble_eq_true rfl) (Nat.le_of_ble_eq_true rfl) ?_
  refine gc_aload_n (i := 0) (pc' := 5) dX6_init_4 rfl rfl rfl ?_
  refine gc_sipush (v := 160) (pc' := 8) dX6_init_5 rfl (by decide) ?_
  refine gc_newF (C := RX6) (T := TX6) (N := 2) (ci := 6) (kf := 0) (ty := .byte) (N9 := 160) (a0 := (160, .inl (fun _ => 0))) (pc' := 10) (pc2 := 13) dX6_init_8 rfl ac_byte rfl (fun _ => rfl) (by decide) (by decide) (Nat.le_of_ble_eq_true rfl) (Nat.le_of_ble_eq_true rfl) (Nat.le_of_ble_eq_true rfl) inlX6 tyX6 tyX6_ok nmX6 rfl dX6_init_10 rfl fl_X6_9 (by decide) rfl rfl (by decide) rfl (Nat.le_of_ble_eq_true rfl) (fun q_8 c_8 => ?_)
  refine gc_aload_n (i := 0) (pc' := 14) dX6_init_13 rfl rfl rfl ?_
  refine gc_iconst (v := 0) (pc' := 15) dX6_init_14 rfl (by decide) ?_
  refine gc_put0 (C := RX6) (T := TX6) (N := 2) (ci := 6) (kf := 1) (ty := .int) (pc' := 18) inlX6 tyX6 tyX6_ok nmX6 rfl dX6_init_15 rfl fl_X6_15 (by decide) rfl rfl rfl rfl (Nat.le_of_ble_eq_true rfl) ?_
  exact gc_vret ((fun k => [q_8].getD k 0, fun k => [c_8].getD k 0, (fun _ => 0), (fun _ => 0), (fun _ _ => 0)) : CS) dX6_init_18 rfl rfl ⟨[0], rfl⟩ rfl rfl
def wf_X10_init (h0 : Nat) (u : CS) : va_W := [(h0, .inr (10, [.int 0, .ref (u.1 0), .ref (u.1 1), .ref (u.1 2), .ref (u.1 3)])), ((u.1 0), .inl ((u.2.1 0), 160, .inl (fun _ => 0))), ((u.1 1), .inl ((u.2.1 1), 80, .inl (fun _ => 0))), ((u.1 2), .inl ((u.2.1 2), 80, .inl (fun _ => 0))), ((u.1 3), .inl ((u.2.1 3), 81, .inl (fun _ => 0)))]
def tf_X10_init (u : CS) : List (ClassId × FieldType) := [((u.2.1 0), .byte), ((u.2.1 1), .int), ((u.2.1 2), .int), ((u.2.1 3), .int)]
abbrev rmc_X10_init : Room := { frames := 1, cells := 4, slots := 401, locals := 12 }
set_option maxHeartbeats 4000000 in
set_option maxRecDepth 100000 in
theorem i_X10_init (l : Launch) (D : va_G) (h0 : Nat) : CtC l D yX10_init cX10_init 1 rmc_X10_init 4 401 (fun _ => True) h0 10 [.int 0, .null, .null, .null, .null] (wf_X10_init h0) tf_X10_init := by
  refine ctC_go (own := RX10) (by decide) rfl rfl (Nat.le_of_ble_eq_true rfl) (fun F hF hex => ?_)
  subst hF
  refine gc_aload_n (i := 0) (pc' := 1) dX10_init_0 rfl rfl rfl ?_
  refine gc_objInit (pc' := 4) dX10_init_1 rfl ml_X10_3 (Nat.le_of_ble_eq_true rfl) (Nat.le_of_ble_eq_true rfl) ?_
  refine gc_aload_n (i := 0) (pc' := 5) dX10_init_4 rfl rfl rfl ?_
  refine gc_iconst (v := 0) (pc' := 6) dX10_init_5 rfl (by decide) ?_
  refine gc_put0 (C := RX10) (T := TX10) (N := 5) (ci := 10) (kf := 0) (ty := .int) (pc' := 9) inlX10 tyX10 tyX10_ok nmX10 rfl dX10_init_6 rfl fl_X10_9 (by decide) rfl rfl rfl rfl (Nat.le_of_ble_eq_true rfl) ?_
  refine gc_aload_n (i := 0) (pc' := 10) dX10_init_9 rfl rfl rfl ?_
  refine gc_sipush (v := 160) (pc' := 13) dX10_init_10 rfl (by decide) ?_
  refine gc_newF (C := RX10) (T := TX10) (N := 5) (ci := 10) (kf := 1) (ty := .byte) (N9 := 160) (a0 := (160, .inl (fun _ => 0))) (pc' := 15) (pc2 := 18) dX10_init_13 rfl ac_byte rfl (fun _ => rfl) (by decide) (by decide) (Nat.le_of_ble_eq_true rfl) (Nat.le_of_ble_eq_true rfl) (Nat.le_of_ble_eq_true rfl) inlX10 tyX10 tyX10_ok nmX10 rfl dX10_init_15 rfl fl_X10_15 (by decide) rfl rfl (by decide) rfl (Nat.le_of_ble_eq_true rfl) (fun q_13 c_13 => ?_)
  refine gc_aload_n (i := 0) (pc' := 19) dX10_init_18 rfl rfl rfl ?_
  refine gc_bipush (v := 80) (pc' := 21) dX10_init_19 rfl (by decide) ?_
  refine gc_newF (C := RX10) (T := TX10) (N := 5) (ci := 10) (kf := 2) (ty := .int) (N9 := 80) (a0 := (80, .inl (fun _ => 0))) (pc' := 23) (pc2 := 26) dX10_init_21 rfl ac_int rfl (fun _ => rfl) (by decide) (by decide) (Nat.le_of_ble_eq_true rfl) (Nat.le_of_ble_eq_true rfl) (Nat.le_of_ble_eq_true rfl) inlX10 tyX10 tyX10_ok nmX10 rfl dX10_init_23 rfl fl_X10_19 (by decide) rfl rfl (by decide) rfl (Nat.le_of_ble_eq_true rfl) (fun q_21 c_21 => ?_)
  refine gc_aload_n (i := 0) (pc' := 27) dX10_init_26 rfl rfl rfl ?_
  refine gc_bipush (v := 80) (pc' := 29) dX10_init_27 rfl (by decide) ?_
  refine gc_newF (C := RX10) (T := TX10) (N := 5) (ci := 10) (kf := 3) (ty := .int) (N9 := 80) (a0 := (80, .inl (fun _ => 0))) (pc' := 31) (pc2 := 34) dX10_init_29 rfl ac_int rfl (fun _ => rfl) (by decide) (by decide) (Nat.le_of_ble_eq_true rfl) (Nat.le_of_ble_eq_true rfl) (Nat.le_of_ble_eq_true rfl) inlX10 tyX10 tyX10_ok nmX10 rfl dX10_init_31 rfl fl_X10_23 (by decide) rfl rfl (by decide) rfl (Nat.le_of_ble_eq_true rfl) (fun q_29 c_29 => ?_)
  refine gc_aload_n (i := 0) (pc' := 35) dX10_init_34 rfl rfl rfl ?_
  refine gc_bipush (v := 81) (pc' := 37) dX10_init_35 rfl (by decide) ?_
  refine gc_newF (C := RX10) (T := TX10) (N := 5) (ci := 10) (kf := 4) (ty := .int) (N9 := 81) (a0 := (81, .inl (fun _ => 0))) (pc' := 39) (pc2 := 42) dX10_init_37 rfl ac_int rfl (fun _ => rfl) (by decide) (by decide) (Nat.le_of_ble_eq_true rfl) (Nat.le_of_ble_eq_true rfl) (Nat.le_of_ble_eq_true rfl) inlX10 tyX10 tyX10_ok nmX10 rfl dX10_init_39 rfl fl_X10_26 (by decide) rfl rfl (by decide) rfl (Nat.le_of_ble_eq_true rfl) (fun q_37 c_37 => ?_)
  exact gc_vret ((fun k => [q_13, q_21, q_29, q_37].getD k 0, fun k => [c_13, c_21, c_29, c_37].getD k 0, (fun _ => 0), (fun _ => 0), (fun _ _ => 0)) : CS) dX10_init_42 rfl rfl ⟨[0, 1, 2, 3], rfl⟩ rfl rfl
def wf_X7_init (h0 : Nat) (u : CS) : va_W := [(h0, .inr (7, [.ref (u.1 0), .int 0, .int 0])), ((u.1 0), .inl ((u.2.1 0), 8, .inl (fun _ => 0)))]
def tf_X7_init (u : CS) : List (ClassId × FieldType) := [((u.2.1 0), .int)]
abbrev rmc_X7_init : Room := { frames := 1, cells := 1, slots := 8, locals := 12 }
set_option maxHeartbeats 4000000 in
set_option maxRecDepth 100000 in
theorem i_X7_init (l : Launch) (D : va_G) (h0 : Nat) : CtC l D yX7_init cX7_init 1 rmc_X7_init 1 8 (fun _ => True) h0 7 [.null, .int 0, .int 0] (wf_X7_init h0) tf_X7_init := by
  refine ctC_go (own := RX7) (by decide) rfl rfl (Nat.le_of_ble_eq_true rfl) (fun F hF hex => ?_)
  subst hF
  refine gc_aload_n (i := 0) (pc' := 1) dX7_init_0 rfl rfl rfl ?_
  refine gc_objInit (pc' := 4) dX7_init_1 rfl ml_X7_1 (Nat.le_of_ble_eq_true rfl) (Nat.le_of_ble_eq_true rfl) ?_
  refine gc_aload_n (i := 0) (pc' := 5) dX7_init_4 rfl rfl rfl ?_
  refine gc_bipush (v := 8) (pc' := 7) dX7_init_5 rfl (by decide) ?_
  refine gc_newF (C := RX7) (T := TX7) (N := 3) (ci := 7) (kf := 0) (ty := .int) (N9 := 8) (a0 := (8, .inl (fun _ => 0))) (pc' := 9) (pc2 := 12) dX7_init_7 rfl ac_int rfl (fun _ => rfl) (by decide) (by decide) (Nat.le_of_ble_eq_true rfl) (Nat.le_of_ble_eq_true rfl) (Nat.le_of_ble_eq_true rfl) inlX7 tyX7 tyX7_ok nmX7 rfl dX7_init_9 rfl fl_X7_9 (by decide) rfl rfl (by decide) rfl (Nat.le_of_ble_eq_true rfl) (fun q_7 c_7 => ?_)
  refine gc_aload_n (i := 0) (pc' := 13) dX7_init_12 rfl rfl rfl ?_
  refine gc_iconst (v := 0) (pc' := 14) dX7_init_13 rfl (by decide) ?_
  refine gc_put0 (C := RX7) (T := TX7) (N := 3) (ci := 7) (kf := 1) (ty := .int) (pc' := 17) inlX7 tyX7 tyX7_ok nmX7 rfl dX7_init_14 rfl fl_X7_13 (by decide) rfl rfl rfl rfl (Nat.le_of_ble_eq_true rfl) ?_
  refine gc_aload_n (i := 0) (pc' := 18) dX7_init_17 rfl rfl rfl ?_
  refine gc_iconst (v := 0) (pc' := 19) dX7_init_18 rfl (by decide) ?_
  refine gc_put0 (C := RX7) (T := TX7) (N := 3) (ci := 7) (kf := 2) (ty := .int) (pc' := 22) inlX7 tyX7 tyX7_ok nmX7 rfl dX7_init_19 rfl fl_X7_17 (by decide) rfl rfl rfl rfl (Nat.le_of_ble_eq_true rfl) ?_
  exact gc_vret ((fun k => [q_7].getD k 0, fun k => [c_7].getD k 0, (fun _ => 0), (fun _ => 0), (fun _ _ => 0)) : CS) dX7_init_22 rfl rfl ⟨[0], rfl⟩ rfl rfl
def wf_X2_init (h0 : Nat) (u : CS) : va_W := [(h0, .inr (2, [.ref (u.1 0), .ref (u.1 1), .ref (u.1 2), .ref (u.1 3), .ref (u.1 4), .ref (u.1 5), .ref (u.1 6), .ref (u.1 7), .ref (u.1 8), .ref (u.1 9), .int 0])), ((u.1 0), .inl ((u.2.1 0), 12, .inl (fun _ => 0))), ((u.1 1), .inl ((u.2.1 1), 12, .inl (fun _ => 0))), ((u.1 2), .inl ((u.2.1 2), 12, .inl (fun _ => 0))), ((u.1 3), .inl ((u.2.1 3), 12, .inl (fun _ => 0))), ((u.1 4), .inl ((u.2.1 4), 12, .inl (fun _ => 0))), ((u.1 5), .inl ((u.2.1 5), 12, .inl (fun _ => 0))), ((u.1 6), .inl ((u.2.1 6), 12, .inl (fun _ => 0))), ((u.1 7), .inl ((u.2.1 7), 12, .inl (fun _ => 0))), ((u.1 8), .inl ((u.2.1 8), 12, .inl (fun _ => 0))), ((u.1 9), .inl ((u.2.1 10), 12, .inr (.inr (.inr (.inr (fun i => if i < 12 then some (u.2.2.1 i) else none))))))] ++ (List.range 12).map (fun i => (u.2.2.1 i, .inl ((u.2.1 9), 160, .inl (fun _ => 0))))
def tf_X2_init (u : CS) : List (ClassId × FieldType) := [((u.2.1 0), .int), ((u.2.1 1), .int), ((u.2.1 2), .int), ((u.2.1 3), .int), ((u.2.1 4), .int), ((u.2.1 5), .int), ((u.2.1 6), .int), ((u.2.1 7), .int), ((u.2.1 8), .int), ((u.2.1 9), .byte), ((u.2.1 10), .array .byte)]
abbrev rmc_X2_init : Room := { frames := 1, cells := 22, slots := 2040, locals := 12 }
set_option maxHeartbeats 4000000 in
set_option maxRecDepth 100000 in
theorem i_X2_init (l : Launch) (D : va_G) (h0 : Nat) : CtC l D yX2_init cX2_init 1 rmc_X2_init 22 2040 (va_AOA .byte) h0 2 [.null, .null, .null, .null, .null, .null, .null, .null, .null, .null, .int 0] (wf_X2_init h0) tf_X2_init := by
  refine ctC_go (own := RX2) (by decide) rfl rfl (Nat.le_of_ble_eq_true rfl) (fun F hF hex => ?_)
  subst hF
  refine gc_aload_n (i := 0) (pc' := 1) dX2_init_0 rfl rfl rfl ?_
  refine gc_objInit (pc' := 4) dX2_init_1 rfl ml_X2_3 (Nat.le_of_ble_eq_true rfl) (Nat.le_of_ble_eq_true rfl) ?_
  refine gc_aload_n (i := 0) (pc' := 5) dX2_init_4 rfl rfl rfl ?_
  refine gc_bipush (v := 12) (pc' := 7) dX2_init_5 rfl (by decide) ?_
  refine gc_newF (C := RX2) (T := TX2) (N := 11) (ci := 2) (kf := 0) (ty := .int) (N9 := 12) (a0 := (12, .inl (fun _ => 0))) (pc' := 9) (pc2 := 12) dX2_init_7 rfl ac_int rfl (fun _ => rfl) (by decide) (by decide) (Nat.le_of_ble_eq_true rfl) (Nat.le_of_ble_eq_true rfl) (Nat.le_of_ble_eq_true rfl) inlX2 tyX2 tyX2_ok nmX2 rfl dX2_init_9 rfl fl_X2_11 (by decide) rfl rfl (by decide) rfl (Nat.le_of_ble_eq_true rfl) (fun q_7 c_7 => ?_)
  refine gc_aload_n (i := 0) (pc' := 13) dX2_init_12 rfl rfl rfl ?_
  refine gc_bipush (v := 12) (pc' := 15) dX2_init_13 rfl (by decide) ?_
  refine gc_newF (C := RX2) (T := TX2) (N := 11) (ci := 2) (kf := 1) (ty := .int) (N9 := 12) (a0 := (12, .inl (fun _ => 0))) (pc' := 17) (pc2 := 20) dX2_init_15 rfl ac_int rfl (fun _ => rfl) (by decide) (by decide) (Nat.le_of_ble_eq_true rfl) (Nat.le_of_ble_eq_true rfl) (Nat.le_of_ble_eq_true rfl) inlX2 tyX2 tyX2_ok nmX2 rfl dX2_init_17 rfl fl_X2_15 (by decide) rfl rfl (by decide) rfl (Nat.le_of_ble_eq_true rfl) (fun q_15 c_15 => ?_)
  refine gc_aload_n (i := 0) (pc' := 21) dX2_init_20 rfl rfl rfl ?_
  refine gc_bipush (v := 12) (pc' := 23) dX2_init_21 rfl (by decide) ?_
  refine gc_newF (C := RX2) (T := TX2) (N := 11) (ci := 2) (kf := 2) (ty := .int) (N9 := 12) (a0 := (12, .inl (fun _ => 0))) (pc' := 25) (pc2 := 28) dX2_init_23 rfl ac_int rfl (fun _ => rfl) (by decide) (by decide) (Nat.le_of_ble_eq_true rfl) (Nat.le_of_ble_eq_true rfl) (Nat.le_of_ble_eq_true rfl) inlX2 tyX2 tyX2_ok nmX2 rfl dX2_init_25 rfl fl_X2_18 (by decide) rfl rfl (by decide) rfl (Nat.le_of_ble_eq_true rfl) (fun q_23 c_23 => ?_)
  refine gc_aload_n (i := 0) (pc' := 29) dX2_init_28 rfl rfl rfl ?_
  refine gc_bipush (v := 12) (pc' := 31) dX2_init_29 rfl (by decide) ?_
  refine gc_newF (C := RX2) (T := TX2) (N := 11) (ci := 2) (kf := 3) (ty := .int) (N9 := 12) (a0 := (12, .inl (fun _ => 0))) (pc' := 33) (pc2 := 36) dX2_init_31 rfl ac_int rfl (fun _ => rfl) (by decide) (by decide) (Nat.le_of_ble_eq_true rfl) (Nat.le_of_ble_eq_true rfl) (Nat.le_of_ble_eq_true rfl) inlX2 tyX2 tyX2_ok nmX2 rfl dX2_init_33 rfl fl_X2_21 (by decide) rfl rfl (by decide) rfl (Nat.le_of_ble_eq_true rfl) (fun q_31 c_31 => ?_)
  refine gc_aload_n (i := 0) (pc' := 37) dX2_init_36 rfl rfl rfl ?_
  refine gc_bipush (v := 12) (pc' := 39) dX2_init_37 rfl (by decide) ?_
  refine gc_newF (C := RX2) (T := TX2) (N := 11) (ci := 2) (kf := 4) (ty := .int) (N9 := 12) (a0 := (12, .inl (fun _ => 0))) (pc' := 41) (pc2 := 44) dX2_init_39 rfl ac_int rfl (fun _ => rfl) (by decide) (by decide) (Nat.le_of_ble_eq_true rfl) (Nat.le_of_ble_eq_true rfl) (Nat.le_of_ble_eq_true rfl) inlX2 tyX2 tyX2_ok nmX2 rfl dX2_init_41 rfl fl_X2_24 (by decide) rfl rfl (by decide) rfl (Nat.le_of_ble_eq_true rfl) (fun q_39 c_39 => ?_)
  refine gc_aload_n (i := 0) (pc' := 45) dX2_init_44 rfl rfl rfl ?_
  refine gc_bipush (v := 12) (pc' := 47) dX2_init_45 rfl (by decide) ?_
  refine gc_newF (C := RX2) (T := TX2) (N := 11) (ci := 2) (kf := 5) (ty := .int) (N9 := 12) (a0 := (12, .inl (fun _ => 0))) (pc' := 49) (pc2 := 52) dX2_init_47 rfl ac_int rfl (fun _ => rfl) (by decide) (by decide) (Nat.le_of_ble_eq_true rfl) (Nat.le_of_ble_eq_true rfl) (Nat.le_of_ble_eq_true rfl) inlX2 tyX2 tyX2_ok nmX2 rfl dX2_init_49 rfl fl_X2_27 (by decide) rfl rfl (by decide) rfl (Nat.le_of_ble_eq_true rfl) (fun q_47 c_47 => ?_)
  refine gc_aload_n (i := 0) (pc' := 53) dX2_init_52 rfl rfl rfl ?_
  refine gc_bipush (v := 12) (pc' := 55) dX2_init_53 rfl (by decide) ?_
  refine gc_newF (C := RX2) (T := TX2) (N := 11) (ci := 2) (kf := 6) (ty := .int) (N9 := 12) (a0 := (12, .inl (fun _ => 0))) (pc' := 57) (pc2 := 60) dX2_init_55 rfl ac_int rfl (fun _ => rfl) (by decide) (by decide) (Nat.le_of_ble_eq_true rfl) (Nat.le_of_ble_eq_true rfl) (Nat.le_of_ble_eq_true rfl) inlX2 tyX2 tyX2_ok nmX2 rfl dX2_init_57 rfl fl_X2_30 (by decide) rfl rfl (by decide) rfl (Nat.le_of_ble_eq_true rfl) (fun q_55 c_55 => ?_)
  refine gc_aload_n (i := 0) (pc' := 61) dX2_init_60 rfl rfl rfl ?_
  refine gc_bipush (v := 12) (pc' := 63) dX2_init_61 rfl (by decide) ?_
  refine gc_newF (C := RX2) (T := TX2) (N := 11) (ci := 2) (kf := 7) (ty := .int) (N9 := 12) (a0 := (12, .inl (fun _ => 0))) (pc' := 65) (pc2 := 68) dX2_init_63 rfl ac_int rfl (fun _ => rfl) (by decide) (by decide) (Nat.le_of_ble_eq_true rfl) (Nat.le_of_ble_eq_true rfl) (Nat.le_of_ble_eq_true rfl) inlX2 tyX2 tyX2_ok nmX2 rfl dX2_init_65 rfl fl_X2_33 (by decide) rfl rfl (by decide) rfl (Nat.le_of_ble_eq_true rfl) (fun q_63 c_63 => ?_)
  refine gc_aload_n (i := 0) (pc' := 69) dX2_init_68 rfl rfl rfl ?_
  refine gc_bipush (v := 12) (pc' := 71) dX2_init_69 rfl (by decide) ?_
  refine gc_newF (C := RX2) (T := TX2) (N := 11) (ci := 2) (kf := 8) (ty := .int) (N9 := 12) (a0 := (12, .inl (fun _ => 0))) (pc' := 73) (pc2 := 76) dX2_init_71 rfl ac_int rfl (fun _ => rfl) (by decide) (by decide) (Nat.le_of_ble_eq_true rfl) (Nat.le_of_ble_eq_true rfl) (Nat.le_of_ble_eq_true rfl) inlX2 tyX2 tyX2_ok nmX2 rfl dX2_init_73 rfl fl_X2_36 (by decide) rfl rfl (by decide) rfl (Nat.le_of_ble_eq_true rfl) (fun q_71 c_71 => ?_)
  refine gc_aload_n (i := 0) (pc' := 77) dX2_init_76 rfl rfl rfl ?_
  refine gc_bipush (v := 12) (pc' := 79) dX2_init_77 rfl (by decide) ?_
  refine gc_sipush (v := 160) (pc' := 82) dX2_init_79 rfl (by decide) ?_
  refine gc_mnaF (C := RX2) (T := TX2) (N := 11) (ci := 2) (kf := 9) (ty := .byte) (N9 := 12) (K := 160) (z := (160, .inl (fun _ => 0))) (pc' := 86) (pc2 := 89) dX2_init_82 rfl cl_X2_39 hex ac_byte ra_byte (by decide) (by decide) (by decide) (by decide) (Nat.le_of_ble_eq_true rfl) (Nat.le_of_ble_eq_true rfl) (Nat.le_of_ble_eq_true rfl) rfl rfl (Nat.le_of_ble_eq_true rfl) (Nat.le_of_ble_eq_true rfl) (fun _ => arrV_new _ _ _) inlX2 tyX2 tyX2_ok nmX2 rfl dX2_init_86 rfl fl_X2_41 (by decide) rfl rfl (by decide) rfl (Nat.le_of_ble_eq_true rfl) (fun q_82 r_82 c_82 y_82 => ?_)
  refine gc_aload_n (i := 0) (pc' := 90) dX2_init_89 rfl rfl rfl ?_
  refine gc_iconst (v := 0) (pc' := 91) dX2_init_90 rfl (by decide) ?_
  refine gc_put0 (C := RX2) (T := TX2) (N := 11) (ci := 2) (kf := 10) (ty := .int) (pc' := 94) inlX2 tyX2 tyX2_ok nmX2 rfl dX2_init_91 rfl fl_X2_44 (by decide) rfl rfl rfl rfl (Nat.le_of_ble_eq_true rfl) ?_
  exact gc_vret ((fun k => [q_7, q_15, q_23, q_31, q_39, q_47, q_55, q_63, q_71, q_82].getD k 0, fun k => [c_7, c_15, c_23, c_31, c_39, c_47, c_55, c_63, c_71, y_82, c_82].getD k 0, r_82, (fun _ => 0), (fun _ _ => 0)) : CS) dX2_init_94 rfl rfl ⟨[0, 1, 2, 3, 4, 5, 6, 7, 8, 9, 10], rfl⟩ rfl rfl
def wf_X0_init (h0 : Nat) (u : CS) : va_W := [(h0, .inr (0, [.ref (u.1 0), .ref (u.1 1), .int 0, .ref (u.1 2), .ref (u.1 3), .ref (u.1 4), .ref (u.1 5), .ref (u.1 6), .ref (u.1 7)])), ((u.1 0), .inl ((u.2.1 0), 12, .inl (fun _ => 0))), ((u.1 1), .inl ((u.2.1 1), 12, .inl (fun _ => 0))), ((u.1 2), .inl ((u.2.1 2), 20, .inl (fun _ => 0))), ((u.1 3), .inl ((u.2.1 3), 20, .inl (fun _ => 0))), ((u.1 4), .inl ((u.2.1 4), 20, .inl (fun _ => 0))), ((u.1 5), .inl ((u.2.1 5), 12, .inl (fun _ => 0))), ((u.1 6), .inl ((u.2.1 6), 12, .inl (fun _ => 0))), ((u.1 7), .inl ((u.2.1 8), 12, .inr (.inr (.inr (.inr (fun i => if i < 12 then some (u.2.2.1 i) else none))))))] ++ (List.range 12).map (fun i => (u.2.2.1 i, .inl ((u.2.1 7), 12, .inl (fun _ => 0))))
def tf_X0_init (u : CS) : List (ClassId × FieldType) := [((u.2.1 0), .int), ((u.2.1 1), .int), ((u.2.1 2), .int), ((u.2.1 3), .int), ((u.2.1 4), .int), ((u.2.1 5), .int), ((u.2.1 6), .int), ((u.2.1 7), .int), ((u.2.1 8), .array .int)]
abbrev rmc_X0_init : Room := { frames := 1, cells := 20, slots := 264, locals := 12 }
set_option maxHeartbeats 4000000 in
set_option maxRecDepth 100000 in
theorem i_X0_init (l : Launch) (D : va_G) (h0 : Nat) : CtC l D yX0_init cX0_init 1 rmc_X0_init 20 264 (va_AOA .int) h0 0 [.null, .null, .int 0, .null, .null, .null, .null, .null, .null] (wf_X0_init h0) tf_X0_init := by
  refine ctC_go (own := RX0) (by decide) rfl rfl (Nat.le_of_ble_eq_true rfl) (fun F hF hex => ?_)
  subst hF
  refine gc_aload_n (i := 0) (pc' := 1) dX0_init_0 rfl rfl rfl ?_
  refine gc_objInit (pc' := 4) dX0_init_1 rfl ml_X0_3 (Nat.le_of_ble_eq_true rfl) (Nat.le_of_ble_eq_true rfl) ?_
  refine gc_aload_n (i := 0) (pc' := 5) dX0_init_4 rfl rfl rfl ?_
  refine gc_bipush (v := 12) (pc' := 7) dX0_init_5 rfl (by decide) ?_
  refine gc_newF (C := RX0) (T := TX0) (N := 9) (ci := 0) (kf := 0) (ty := .int) (N9 := 12) (a0 := (12, .inl (fun _ => 0))) (pc' := 9) (pc2 := 12) dX0_init_7 rfl ac_int rfl (fun _ => rfl) (by decide) (by decide) (Nat.le_of_ble_eq_true rfl) (Nat.le_of_ble_eq_true rfl) (Nat.le_of_ble_eq_true rfl) inlX0 tyX0 tyX0_ok nmX0 rfl dX0_init_9 rfl fl_X0_11 (by decide) rfl rfl (by decide) rfl (Nat.le_of_ble_eq_true rfl) (fun q_7 c_7 => ?_)
  refine gc_aload_n (i := 0) (pc' := 13) dX0_init_12 rfl rfl rfl ?_
  refine gc_bipush (v := 12) (pc' := 15) dX0_init_13 rfl (by decide) ?_
  refine gc_newF (C := RX0) (T := TX0) (N := 9) (ci := 0) (kf := 1) (ty := .int) (N9 := 12) (a0 := (12, .inl (fun _ => 0))) (pc' := 17) (pc2 := 20) dX0_init_15 rfl ac_int rfl (fun _ => rfl) (by decide) (by decide) (Nat.le_of_ble_eq_true rfl) (Nat.le_of_ble_eq_true rfl) (Nat.le_of_ble_eq_true rfl) inlX0 tyX0 tyX0_ok nmX0 rfl dX0_init_17 rfl fl_X0_17 (by decide) rfl rfl (by decide) rfl (Nat.le_of_ble_eq_true rfl) (fun q_15 c_15 => ?_)
  refine gc_aload_n (i := 0) (pc' := 21) dX0_init_20 rfl rfl rfl ?_
  refine gc_iconst (v := 0) (pc' := 22) dX0_init_21 rfl (by decide) ?_
  refine gc_put0 (C := RX0) (T := TX0) (N := 9) (ci := 0) (kf := 2) (ty := .int) (pc' := 25) inlX0 tyX0 tyX0_ok nmX0 rfl dX0_init_22 rfl fl_X0_20 (by decide) rfl rfl rfl rfl (Nat.le_of_ble_eq_true rfl) ?_
  refine gc_aload_n (i := 0) (pc' := 26) dX0_init_25 rfl rfl rfl ?_
  refine gc_bipush (v := 20) (pc' := 28) dX0_init_26 rfl (by decide) ?_
  refine gc_newF (C := RX0) (T := TX0) (N := 9) (ci := 0) (kf := 3) (ty := .int) (N9 := 20) (a0 := (20, .inl (fun _ => 0))) (pc' := 30) (pc2 := 33) dX0_init_28 rfl ac_int rfl (fun _ => rfl) (by decide) (by decide) (Nat.le_of_ble_eq_true rfl) (Nat.le_of_ble_eq_true rfl) (Nat.le_of_ble_eq_true rfl) inlX0 tyX0 tyX0_ok nmX0 rfl dX0_init_30 rfl fl_X0_24 (by decide) rfl rfl (by decide) rfl (Nat.le_of_ble_eq_true rfl) (fun q_28 c_28 => ?_)
  refine gc_aload_n (i := 0) (pc' := 34) dX0_init_33 rfl rfl rfl ?_
  refine gc_bipush (v := 20) (pc' := 36) dX0_init_34 rfl (by decide) ?_
  refine gc_newF (C := RX0) (T := TX0) (N := 9) (ci := 0) (kf := 4) (ty := .int) (N9 := 20) (a0 := (20, .inl (fun _ => 0))) (pc' := 38) (pc2 := 41) dX0_init_36 rfl ac_int rfl (fun _ => rfl) (by decide) (by decide) (Nat.le_of_ble_eq_true rfl) (Nat.le_of_ble_eq_true rfl) (Nat.le_of_ble_eq_true rfl) inlX0 tyX0 tyX0_ok nmX0 rfl dX0_init_38 rfl fl_X0_27 (by decide) rfl rfl (by decide) rfl (Nat.le_of_ble_eq_true rfl) (fun q_36 c_36 => ?_)
  refine gc_aload_n (i := 0) (pc' := 42) dX0_init_41 rfl rfl rfl ?_
  refine gc_bipush (v := 20) (pc' := 44) dX0_init_42 rfl (by decide) ?_
  refine gc_newF (C := RX0) (T := TX0) (N := 9) (ci := 0) (kf := 5) (ty := .int) (N9 := 20) (a0 := (20, .inl (fun _ => 0))) (pc' := 46) (pc2 := 49) dX0_init_44 rfl ac_int rfl (fun _ => rfl) (by decide) (by decide) (Nat.le_of_ble_eq_true rfl) (Nat.le_of_ble_eq_true rfl) (Nat.le_of_ble_eq_true rfl) inlX0 tyX0 tyX0_ok nmX0 rfl dX0_init_46 rfl fl_X0_30 (by decide) rfl rfl (by decide) rfl (Nat.le_of_ble_eq_true rfl) (fun q_44 c_44 => ?_)
  refine gc_aload_n (i := 0) (pc' := 50) dX0_init_49 rfl rfl rfl ?_
  refine gc_bipush (v := 12) (pc' := 52) dX0_init_50 rfl (by decide) ?_
  refine gc_newF (C := RX0) (T := TX0) (N := 9) (ci := 0) (kf := 6) (ty := .int) (N9 := 12) (a0 := (12, .inl (fun _ => 0))) (pc' := 54) (pc2 := 57) dX0_init_52 rfl ac_int rfl (fun _ => rfl) (by decide) (by decide) (Nat.le_of_ble_eq_true rfl) (Nat.le_of_ble_eq_true rfl) (Nat.le_of_ble_eq_true rfl) inlX0 tyX0 tyX0_ok nmX0 rfl dX0_init_54 rfl fl_X0_33 (by decide) rfl rfl (by decide) rfl (Nat.le_of_ble_eq_true rfl) (fun q_52 c_52 => ?_)
  refine gc_aload_n (i := 0) (pc' := 58) dX0_init_57 rfl rfl rfl ?_
  refine gc_bipush (v := 12) (pc' := 60) dX0_init_58 rfl (by decide) ?_
  refine gc_newF (C := RX0) (T := TX0) (N := 9) (ci := 0) (kf := 7) (ty := .int) (N9 := 12) (a0 := (12, .inl (fun _ => 0))) (pc' := 62) (pc2 := 65) dX0_init_60 rfl ac_int rfl (fun _ => rfl) (by decide) (by decide) (Nat.le_of_ble_eq_true rfl) (Nat.le_of_ble_eq_true rfl) (Nat.le_of_ble_eq_true rfl) inlX0 tyX0 tyX0_ok nmX0 rfl dX0_init_62 rfl fl_X0_36 (by decide) rfl rfl (by decide) rfl (Nat.le_of_ble_eq_true rfl) (fun q_60 c_60 => ?_)
  refine gc_aload_n (i := 0) (pc' := 66) dX0_init_65 rfl rfl rfl ?_
  refine gc_bipush (v := 12) (pc' := 68) dX0_init_66 rfl (by decide) ?_
  refine gc_bipush (v := 12) (pc' := 70) dX0_init_68 rfl (by decide) ?_
  refine gc_mnaF (C := RX0) (T := TX0) (N := 9) (ci := 0) (kf := 8) (ty := .int) (N9 := 12) (K := 12) (z := (12, .inl (fun _ => 0))) (pc' := 74) (pc2 := 77) dX0_init_70 rfl cl_X0_39 hex ac_int ra_int (by decide) (by decide) (by decide) (by decide) (Nat.le_of_ble_eq_true rfl) (Nat.le_of_ble_eq_true rfl) (Nat.le_of_ble_eq_true rfl) rfl rfl (Nat.le_of_ble_eq_true rfl) (Nat.le_of_ble_eq_true rfl) (fun _ => arrV_new _ _ _) inlX0 tyX0 tyX0_ok nmX0 rfl dX0_init_74 rfl fl_X0_41 (by decide) rfl rfl (by decide) rfl (Nat.le_of_ble_eq_true rfl) (fun q_70 r_70 c_70 y_70 => ?_)
  exact gc_vret ((fun k => [q_7, q_15, q_28, q_36, q_44, q_52, q_60, q_70].getD k 0, fun k => [c_7, c_15, c_28, c_36, c_44, c_52, c_60, y_70, c_70].getD k 0, r_70, (fun _ => 0), (fun _ _ => 0)) : CS) dX0_init_77 rfl rfl ⟨[0, 1, 2, 3, 4, 5, 6, 7, 8], rfl⟩ rfl rfl
def wf_X9_init (h0 : Nat) (u : CS) : va_W := [(h0, .inr (9, [.ref (u.1 0), .ref (u.1 1)])), ((u.1 0), .inl ((u.2.1 1), 4, .inr (.inr (.inr (.inr (fun i => if i < 4 then some (u.2.2.1 i) else none))))))] ++ (List.range 4).map (fun i => (u.2.2.1 i, .inl ((u.2.1 0), 60, .inl (fun _ => 0)))) ++ [((u.1 1), .inl ((u.2.1 2), 4, .inl (upd (upd (upd (upd (fun _ => 0) 0 (-1)) 1 (-1)) 2 (-1)) 3 (-1))))]
def tf_X9_init (u : CS) : List (ClassId × FieldType) := [((u.2.1 0), .byte), ((u.2.1 1), .array .byte), ((u.2.1 2), .int)]
abbrev rmc_X9_init : Room := { frames := 1, cells := 6, slots := 248, locals := 12 }
set_option maxHeartbeats 4000000 in
set_option maxRecDepth 100000 in
theorem i_X9_init (l : Launch) (D : va_G) (h0 : Nat) : CtC l D yX9_init cX9_init 1 rmc_X9_init 6 248 (va_AOA .byte) h0 9 [.null, .null] (wf_X9_init h0) tf_X9_init := by
  refine ctC_go (own := RX9) (by decide) rfl rfl (Nat.le_of_ble_eq_true rfl) (fun F hF hex => ?_)
  subst hF
  refine gc_aload_n (i := 0) (pc' := 1) dX9_init_0 rfl rfl rfl ?_
  refine gc_objInit (pc' := 4) dX9_init_1 rfl ml_X9_3 (Nat.le_of_ble_eq_true rfl) (Nat.le_of_ble_eq_true rfl) ?_
  refine gc_aload_n (i := 0) (pc' := 5) dX9_init_4 rfl rfl rfl ?_
  refine gc_iconst (v := 4) (pc' := 6) dX9_init_5 rfl (by decide) ?_
  refine gc_bipush (v := 60) (pc' := 8) dX9_init_6 rfl (by decide) ?_
  refine gc_mnaF (C := RX9) (T := TX9) (N := 2) (ci := 9) (kf := 0) (ty := .byte) (N9 := 4) (K := 60) (z := (60, .inl (fun _ => 0))) (pc' := 12) (pc2 := 15) dX9_init_8 rfl cl_X9_11 hex ac_byte ra_byte (by decide) (by decide) (by decide) (by decide) (Nat.le_of_ble_eq_true rfl) (Nat.le_of_ble_eq_true rfl) (Nat.le_of_ble_eq_true rfl) rfl rfl (Nat.le_of_ble_eq_true rfl) (Nat.le_of_ble_eq_true rfl) (fun _ => arrV_new _ _ _) inlX9 tyX9 tyX9_ok nmX9 rfl dX9_init_12 rfl fl_X9_13 (by decide) rfl rfl (by decide) rfl (Nat.le_of_ble_eq_true rfl) (fun q_8 r_8 c_8 y_8 => ?_)
  refine gc_aload_n (i := 0) (pc' := 16) dX9_init_15 rfl rfl rfl ?_
  refine gc_iconst (v := 4) (pc' := 17) dX9_init_16 rfl (by decide) ?_
  refine gc_newa (ty := .int) (N := 4) (a0 := (4, .inl (fun _ => 0))) (pc' := 19) dX9_init_17 rfl ac_int rfl (fun _ => rfl) (by decide) (by decide) (Nat.le_of_ble_eq_true rfl) (Nat.le_of_ble_eq_true rfl) (Nat.le_of_ble_eq_true rfl) (fun q_17 c_17 => ?_)
  refine gc_dup (pc' := 20) dX9_init_19 rfl rfl ?_
  refine gc_iconst (v := 0) (pc' := 21) dX9_init_20 rfl (by decide) ?_
  refine gc_iconst (v := (-1)) (pc' := 22) dX9_init_21 rfl (by decide) ?_
  refine gc_iast (q0 := 6) (t0 := 2) (pc' := 23) dX9_init_22 rfl rfl rfl (vin_of (by decide) (by decide)) ?_
  refine gc_dup (pc' := 24) dX9_init_23 rfl rfl ?_
  refine gc_iconst (v := 1) (pc' := 25) dX9_init_24 rfl (by decide) ?_
  refine gc_iconst (v := (-1)) (pc' := 26) dX9_init_25 rfl (by decide) ?_
  refine gc_iast (q0 := 6) (t0 := 2) (pc' := 27) dX9_init_26 rfl rfl rfl (vin_of (by decide) (by decide)) ?_
  refine gc_dup (pc' := 28) dX9_init_27 rfl rfl ?_
  refine gc_iconst (v := 2) (pc' := 29) dX9_init_28 rfl (by decide) ?_
  refine gc_iconst (v := (-1)) (pc' := 30) dX9_init_29 rfl (by decide) ?_
  refine gc_iast (q0 := 6) (t0 := 2) (pc' := 31) dX9_init_30 rfl rfl rfl (vin_of (by decide) (by decide)) ?_
  refine gc_dup (pc' := 32) dX9_init_31 rfl rfl ?_
  refine gc_iconst (v := 3) (pc' := 33) dX9_init_32 rfl (by decide) ?_
  refine gc_iconst (v := (-1)) (pc' := 34) dX9_init_33 rfl (by decide) ?_
  refine gc_iast (q0 := 6) (t0 := 2) (pc' := 35) dX9_init_34 rfl rfl rfl (vin_of (by decide) (by decide)) ?_
  refine gc_putF (C := RX9) (T := TX9) (N := 2) (ci := 9) (kf := 1) (q0 := 0) (ty := .array .int) (pc' := 38) inlX9 tyX9 tyX9_ok nmX9 rfl dX9_init_35 rfl fl_X9_16 rfl (by decide) rfl rfl (by decide) rfl rfl rfl (Nat.le_of_ble_eq_true rfl) ?_
  refine gc_ws (ws' := ([(h0, .inr (9, [.ref q_8, .ref q_17])), (q_8, .inl (c_8, 4, .inr (.inr (.inr (.inr (fun i => if i < 4 then some (r_8 i) else none))))))] ++ (List.range 4).map (fun i => (r_8 i, .inl (y_8, 60, .inl (fun _ => 0)))) ++ [(q_17, .inl (c_17, 4, .inl (upd (upd (upd (upd (fun _ => 0) 0 (-1)) 1 (-1)) 2 (-1)) 3 (-1))))])) rfl ?_
  exact gc_vret ((fun k => [q_8, q_17].getD k 0, fun k => [y_8, c_8, c_17].getD k 0, r_8, (fun _ => 0), (fun _ _ => 0)) : CS) dX9_init_38 rfl rfl ⟨[0, 1, 2], rfl⟩ rfl rfl
def wf_X5_init (h0 : Nat) (u : CS) : va_W := [(h0, .inr (5, [.ref (u.1 0), .ref (u.1 1)])), (u.1 0, .inl (u.2.1 1, 6, .inr (.inr (.inr (.inr (fun i => if i < 6 then some (u.2.2.1 i) else none))))))] ++ (List.range 6).map (fun i => (u.2.2.1 i, .inl (u.2.1 0, 6, .inl (u.2.2.2.2 i)))) ++ [(u.1 1, .inl (u.2.1 3, 6, .inr (.inr (.inr (.inr (fun i => if i < 6 then some (u.2.2.2.1 i) else none))))))] ++ (List.range 6).map (fun i => (u.2.2.2.1 i, .inl (u.2.1 2, 6, .inl (u.2.2.2.2 (6 + i)))))
def tf_X5_init (u : CS) : List (ClassId × FieldType) := [((u.2.1 0), .int), ((u.2.1 1), .array .int), ((u.2.1 2), .int), ((u.2.1 3), .array .int)]
def cs_g (u : CS) (g : Nat → Nat → Int32) : CS := (u.1, u.2.1, u.2.2.1, u.2.2.2.1, g)
theorem po_get1 (h0 : Nat) (u : CS) (g : Nat → Nat → Int32) {j : Nat} (hj : j < 6) : (wf_X5_init h0 (cs_g u g))[2 + j]? = some (u.2.2.1 j, .inl (u.2.1 0, 6, .inl (g j))) := by
  rcases (show j = 0 ∨ j = 1 ∨ j = 2 ∨ j = 3 ∨ j = 4 ∨ j = 5 by omega) with rfl | rfl | rfl | rfl | rfl | rfl <;> rfl
theorem po_get2 (h0 : Nat) (u : CS) (g : Nat → Nat → Int32) {j : Nat} (hj : j < 6) : (wf_X5_init h0 (cs_g u g))[9 + j]? = some (u.2.2.2.1 j, .inl (u.2.1 2, 6, .inl (g (6 + j)))) := by
  rcases (show j = 0 ∨ j = 1 ∨ j = 2 ∨ j = 3 ∨ j = 4 ∨ j = 5 by omega) with rfl | rfl | rfl | rfl | rfl | rfl <;> rfl
theorem po_set1 (h0 : Nat) (u : CS) (g : Nat → Nat → Int32) {j : Nat} (hj : j < 6) (f : Nat → Int32) : (wf_X5_init h0 (cs_g u g)).set (2 + j) (u.2.2.1 j, .inl (u.2.1 0, 6, .inl f)) = wf_X5_init h0 (cs_g u (va_up g j f)) := by
  rcases (show j = 0 ∨ j = 1 ∨ j = 2 ∨ j = 3 ∨ j = 4 ∨ j = 5 by omega) with rfl | rfl | rfl | rfl | rfl | rfl <;> rfl
theorem po_set2 (h0 : Nat) (u : CS) (g : Nat → Nat → Int32) {j : Nat} (hj : j < 6) (f : Nat → Int32) : (wf_X5_init h0 (cs_g u g)).set (9 + j) (u.2.2.2.1 j, .inl (u.2.1 2, 6, .inl f)) = wf_X5_init h0 (cs_g u (va_up g (6 + j) f)) := by
  rcases (show j = 0 ∨ j = 1 ∨ j = 2 ∨ j = 3 ∨ j = 4 ∨ j = 5 by omega) with rfl | rfl | rfl | rfl | rfl | rfl <;> rfl
abbrev rmc_X5_init : Room := { frames := 1, cells := 14, slots := 84, locals := 12 }
set_option maxHeartbeats 4000000 in
set_option maxRecDepth 100000 in
theorem i_X5_init (l : Launch) (D : va_G) (h0 : Nat) : CtC l D yX5_init cX5_init 3 rmc_X5_init 14 84 (va_AOA .int) h0 5 [.null, .null] (wf_X5_init h0) tf_X5_init := by
  refine ctC_go (own := RX5) (by decide) rfl rfl (Nat.le_of_ble_eq_true rfl) (fun F hF hex => ?_)
  subst hF
  have loop : ∀ (u : CS) (da a : Nat), a + da = 6 → ∀ g : Nat → Nat → Int32, Gc F D RX5 cX5_init 3 rmc_X5_init none (RC F D 14 84 (wf_X5_init h0) tf_X5_init) (tf_X5_init u) (wf_X5_init h0 (cs_g u g)) 14 84 30 [(0, .ref h0), (1, .int (nI a))] [] := by
    intro u da
    induction da with
    | zero =>
      intro a ha g
      refine gc_iload_n (i := 1) (pc' := 31) dX5_init_30 rfl rfl rfl ?_
      refine gc_bipush (v := 6) (pc' := 33) dX5_init_31 rfl (by decide) ?_
      refine gc_icmp_ge (tgt := 93) (pc' := 36) dX5_init_33 rfl (by decide) (fun c_33 => ?_) (fun c_33 => absurd (by exact nI_le (a := 6) (by omega) (by omega)) c_33)
      exact gc_vret (cs_g u g) dX5_init_93 rfl rfl ⟨[0, 1, 2, 3], rfl⟩ rfl rfl
    | succ da iha =>
      intro a ha g
      refine gc_iload_n (i := 1) (pc' := 31) dX5_init_30 rfl rfl rfl ?_
      refine gc_bipush (v := 6) (pc' := 33) dX5_init_31 rfl (by decide) ?_
      refine gc_icmp_ge (tgt := 93) (pc' := 36) dX5_init_33 rfl (by decide) (fun c_33 => absurd c_33 (by exact nI_ge (b := 6) (by omega) (by omega))) (fun c_33 => ?_)
      refine gc_iconst (v := 0) (pc' := 37) dX5_init_36 rfl (by decide) ?_
      refine gc_istore_n (i := 2) (pc' := 38) dX5_init_37 rfl rfl (by decide) ?_
      have inner : ∀ (db b : Nat), b + db = 6 → ∀ g : Nat → Nat → Int32, Gc F D RX5 cX5_init 3 rmc_X5_init none (RC F D 14 84 (wf_X5_init h0) tf_X5_init) (tf_X5_init u) (wf_X5_init h0 (cs_g u g)) 14 84 38 [(0, .ref h0), (1, .int (nI a)), (2, .int (nI b))] [] := by
        intro db
        induction db with
        | zero =>
          intro b hb g
          refine gc_iload_n (i := 2) (pc' := 39) dX5_init_38 rfl rfl rfl ?_
          refine gc_bipush (v := 6) (pc' := 41) dX5_init_39 rfl (by decide) ?_
          refine gc_icmp_ge (tgt := 87) (pc' := 44) dX5_init_41 rfl (by decide) (fun c_41 => ?_) (fun c_41 => absurd (by exact nI_le (a := 6) (by omega) (by omega)) c_41)
          refine gc_iinc (c := 1) (pc' := 90) dX5_init_87 rfl rfl (by decide) (by decide) ?_
          refine gc_goto (tgt := 30) dX5_init_90 (by decide) ?_
          exact gc_lv (lv' := [(0, .ref h0), (1, .int (nI (a + 1)))]) (by rw [nI_succ]; rfl) (iha (a + 1) (by omega) g)
        | succ db ihb =>
          intro b hb g
          refine gc_iload_n (i := 2) (pc' := 39) dX5_init_38 rfl rfl rfl ?_
          refine gc_bipush (v := 6) (pc' := 41) dX5_init_39 rfl (by decide) ?_
          refine gc_icmp_ge (tgt := 87) (pc' := 44) dX5_init_41 rfl (by decide) (fun c_41 => absurd c_41 (by exact nI_ge (b := 6) (by omega) (by omega))) (fun c_41 => ?_)
          have ha6 : vp_in (nI a) 6 := vp_in_nI (by omega) (by decide)
          have hb6 : vp_in (nI b) 6 := vp_in_nI (by omega) (by decide)
          have hac : (nI a).toNatClampNeg = a := nI_clamp (by omega)
          have step2 : ∀ (g : Nat → Nat → Int32) (v : Int32), Gc F D RX5 cX5_init 3 rmc_X5_init none (RC F D 14 84 (wf_X5_init h0) tf_X5_init) (tf_X5_init u) (wf_X5_init h0 (cs_g u g)) 14 84 80 [(0, .ref h0), (1, .int (nI a)), (2, .int (nI b))] [.int v, .int (nI b), .ref (u.2.2.2.1 a)] := by
            intro g v
            refine gc_iast (q0 := 9 + a) (t0 := 2) (pc' := 81) dX5_init_80 rfl (po_get2 h0 u g (by omega)) rfl hb6 ?_
            refine gc_ws (po_set2 h0 u g (by omega) _) ?_
            refine gc_iinc (c := 1) (pc' := 84) dX5_init_81 rfl rfl (by decide) (by decide) ?_
            refine gc_goto (tgt := 38) dX5_init_84 (by decide) ?_
            exact gc_lv (lv' := [(0, .ref h0), (1, .int (nI a)), (2, .int (nI (b + 1)))]) (by rw [nI_succ]; rfl) (ihb (b + 1) (by omega) _)
          have step1 : ∀ (g : Nat → Nat → Int32) (v : Int32), Gc F D RX5 cX5_init 3 rmc_X5_init none (RC F D 14 84 (wf_X5_init h0) tf_X5_init) (tf_X5_init u) (wf_X5_init h0 (cs_g u g)) 14 84 61 [(0, .ref h0), (1, .int (nI a)), (2, .int (nI b))] [.int v, .int (nI b), .ref (u.2.2.1 a)] := by
            intro g v
            refine gc_iast (q0 := 2 + a) (t0 := 0) (pc' := 62) dX5_init_61 rfl (po_get1 h0 u g (by omega)) rfl hb6 ?_
            refine gc_ws (po_set1 h0 u g (by omega) _) ?_
            refine gc_aload_n (i := 0) (pc' := 63) dX5_init_62 rfl rfl rfl ?_
            refine gc_get (C := RX5) (T := TX5) (N := 2) (ci := 5) (kf := 1) (q0 := 0) (pc' := 66) inlX5 rfl dX5_init_63 rfl fl_X5_16 rfl (by decide) rfl rfl ?_
            refine gc_iload_n (i := 1) (pc' := 67) dX5_init_66 rfl rfl rfl ?_
            refine gc_aald (q0 := 8) (t0 := 3) (b := u.2.2.2.1 a) (pc' := 68) dX5_init_67 rfl rfl rfl ha6 (by rw [hac]; exact if_pos (by omega)) ?_
            refine gc_iload_n (i := 2) (pc' := 69) dX5_init_68 rfl rfl rfl ?_
            refine gc_iload_n (i := 1) (pc' := 70) dX5_init_69 rfl rfl rfl ?_
            refine gc_iload_n (i := 2) (pc' := 71) dX5_init_70 rfl rfl rfl ?_
            refine gc_icmp_ne (tgt := 78) (pc' := 74) dX5_init_71 rfl (by decide) (fun c_71 => ?_) (fun c_71 => ?_)
            · refine gc_bipush (v := 30) (pc' := 80) dX5_init_78 rfl (by decide) ?_
              exact step2 _ 30
            · refine gc_iconst (v := 2) (pc' := 75) dX5_init_74 rfl (by decide) ?_
              refine gc_goto (tgt := 80) dX5_init_75 (by decide) ?_
              exact step2 _ 2
          refine gc_aload_n (i := 0) (pc' := 45) dX5_init_44 rfl rfl rfl ?_
          refine gc_get (C := RX5) (T := TX5) (N := 2) (ci := 5) (kf := 0) (q0 := 0) (pc' := 48) inlX5 rfl dX5_init_45 rfl fl_X5_11 rfl (by decide) rfl rfl ?_
          refine gc_iload_n (i := 1) (pc' := 49) dX5_init_48 rfl rfl rfl ?_
          refine gc_aald (q0 := 1) (t0 := 1) (b := u.2.2.1 a) (pc' := 50) dX5_init_49 rfl rfl rfl ha6 (by rw [hac]; exact if_pos (by omega)) ?_
          refine gc_iload_n (i := 2) (pc' := 51) dX5_init_50 rfl rfl rfl ?_
          refine gc_iload_n (i := 1) (pc' := 52) dX5_init_51 rfl rfl rfl ?_
          refine gc_iload_n (i := 2) (pc' := 53) dX5_init_52 rfl rfl rfl ?_
          refine gc_icmp_ne (tgt := 60) (pc' := 56) dX5_init_53 rfl (by decide) (fun c_53 => ?_) (fun c_53 => ?_)
          · refine gc_iconst (v := 1) (pc' := 61) dX5_init_60 rfl (by decide) ?_
            exact step1 g 1
          · refine gc_iconst (v := 0) (pc' := 57) dX5_init_56 rfl (by decide) ?_
            refine gc_goto (tgt := 61) dX5_init_57 (by decide) ?_
            exact step1 g 0
      exact gc_lv (lv' := [(0, .ref h0), (1, .int (nI a)), (2, .int (nI 0))]) rfl (inner 6 0 (by omega) g)
  refine gc_aload_n (i := 0) (pc' := 1) dX5_init_0 rfl rfl rfl ?_
  refine gc_objInit (pc' := 4) dX5_init_1 rfl ml_X5_3 (Nat.le_of_ble_eq_true rfl) (Nat.le_of_ble_eq_true rfl) ?_
  refine gc_aload_n (i := 0) (pc' := 5) dX5_init_4 rfl rfl rfl ?_
  refine gc_bipush (v := 6) (pc' := 7) dX5_init_5 rfl (by decide) ?_
  refine gc_bipush (v := 6) (pc' := 9) dX5_init_7 rfl (by decide) ?_
  refine gc_mnaF (C := RX5) (T := TX5) (N := 2) (ci := 5) (kf := 0) (ty := .int) (N9 := 6) (K := 6) (z := (6, .inl (fun _ => 0))) (pc' := 13) (pc2 := 16) dX5_init_9 rfl cl_X5_9 hex ac_int ra_int (by decide) (by decide) (by decide) (by decide) (Nat.le_of_ble_eq_true rfl) (Nat.le_of_ble_eq_true rfl) (Nat.le_of_ble_eq_true rfl) rfl rfl (Nat.le_of_ble_eq_true rfl) (Nat.le_of_ble_eq_true rfl) (fun _ => arrV_new _ _ _) inlX5 tyX5 tyX5_ok nmX5 rfl dX5_init_13 rfl fl_X5_11 (by decide) rfl rfl (by decide) rfl (Nat.le_of_ble_eq_true rfl) (fun q_9 r_9 c_9 y_9 => ?_)
  refine gc_aload_n (i := 0) (pc' := 17) dX5_init_16 rfl rfl rfl ?_
  refine gc_bipush (v := 6) (pc' := 19) dX5_init_17 rfl (by decide) ?_
  refine gc_bipush (v := 6) (pc' := 21) dX5_init_19 rfl (by decide) ?_
  refine gc_mnaF (C := RX5) (T := TX5) (N := 2) (ci := 5) (kf := 1) (ty := .int) (N9 := 6) (K := 6) (z := (6, .inl (fun _ => 0))) (pc' := 25) (pc2 := 28) dX5_init_21 rfl cl_X5_9 hex ac_int ra_int (by decide) (by decide) (by decide) (by decide) (Nat.le_of_ble_eq_true rfl) (Nat.le_of_ble_eq_true rfl) (Nat.le_of_ble_eq_true rfl) rfl rfl (Nat.le_of_ble_eq_true rfl) (Nat.le_of_ble_eq_true rfl) (fun _ => arrV_new _ _ _) inlX5 tyX5 tyX5_ok nmX5 rfl dX5_init_25 rfl fl_X5_16 (by decide) rfl rfl (by decide) rfl (Nat.le_of_ble_eq_true rfl) (fun q_21 r_21 c_21 y_21 => ?_)
  refine gc_ws (ws' := wf_X5_init h0 (cs_g ((fun k => [q_9, q_21].getD k 0, fun k => [y_9, c_9, y_21, c_21].getD k 0, r_9, r_21, (fun _ _ => 0)) : CS) (fun _ _ => 0))) rfl ?_
  refine gc_iconst (v := 0) (pc' := 29) dX5_init_28 rfl (by decide) ?_
  refine gc_istore_n (i := 1) (pc' := 30) dX5_init_29 rfl rfl (by decide) ?_
  exact gc_lv (lv' := [(0, .ref h0), (1, .int (nI 0))]) rfl (loop ((fun k => [q_9, q_21].getD k 0, fun k => [y_9, c_9, y_21, c_21].getD k 0, r_9, r_21, (fun _ _ => 0)) : CS) 6 0 (by omega) _)
