/-- POSTS told so far: rows before a, and of row a the places before b -/
def P5 (g : Nat → Nat → Int32) (a b : Nat) : Prop := ∀ i j : Nat, i < 6 → j < 6 → (i < a ∨ (i = a ∧ j < b)) → (g i j = if i = j then 0 else 1) ∧ g (6 + i) j = if i = j then 2 else 30
theorem P5_row {g : Nat → Nat → Int32} {a : Nat} (h : P5 g a 6) : P5 g (a + 1) 0 := fun i j hi hj hc => h i j hi hj (by omega)
theorem up_same {α : Type} (f : Nat → α) (k : Nat) (v : α) : va_up f k v k = v := if_pos rfl
theorem up_ne {α : Type} {f : Nat → α} {k j : Nat} {v : α} (h : j ≠ k) : va_up f k v j = f j := if_neg h
theorem P5_one {g : Nat → Nat → Int32} {a b : Nat} {v : Int32} (ha : a < 6) (h : P5 g a b) (hv : v = if a = b then 0 else 1) : P5 (va_up g a (upd (g a) b v)) a b ∧ va_up g a (upd (g a) b v) a b = if a = b then 0 else 1 := by
  refine ⟨fun i j hi hj hc => ?_, ?_⟩
  · have q := h i j hi hj hc
    rw [up_ne (k := a) (j := 6 + i) (by omega)]
    refine ⟨?_, q.2⟩
    by_cases e : i = a
    · rw [e, up_same, upd_ne (by omega), ← e]
      exact q.1
    · rw [up_ne e]
      exact q.1
  · rw [up_same, upd_eq]
    exact hv
theorem P5_two {g : Nat → Nat → Int32} {a b : Nat} {v : Int32} (ha : a < 6) (h : P5 g a b) (h1 : g a b = if a = b then 0 else 1) (hv : v = if a = b then 2 else 30) : P5 (va_up g (6 + a) (upd (g (6 + a)) b v)) a (b + 1) := fun i j hi hj hc => by
  rw [up_ne (k := 6 + a) (j := i) (by omega)]
  by_cases e : i = a
  · by_cases f : j = b
    · rw [e, f, up_same, upd_eq]
      exact ⟨h1, hv⟩
    · have q := h i j hi hj (by omega)
      refine ⟨q.1, ?_⟩
      rw [e, up_same, upd_ne f, ← e]
      exact q.2
  · have q := h i j hi hj (by omega)
    refine ⟨q.1, ?_⟩
    rw [up_ne (by omega)]
    exact q.2
def wfR5 (h0 : Nat) : {u : CS // P5 u.2.2.2.2 6 0} → va_W := fun u => wf_X5_init h0 u.1
def tfR5 : {u : CS // P5 u.2.2.2.2 6 0} → List (ClassId × FieldType) := fun u => tf_X5_init u.1
/-- the model's row of POSTS, as far as it is told -/
def P12 (g : Nat → Nat → Int32) (n : Nat) : Prop := ∀ j : Nat, j < n → (g 0 j = if j % 7 = 0 then 0 else 1) ∧ g 1 j = if j % 7 = 0 then 2 else 30
theorem rem7 : ∀ i : Nat, i < 36 → ((nI i - nI i / 7 * 7 = 0) ↔ i % 7 = 0) := by decide +kernel
theorem P12_one {g : Nat → Nat → Int32} {i : Nat} {v : Int32} (h : P12 g i) (hv : v = if i % 7 = 0 then 0 else 1) : P12 (va_up g 0 (upd (g 0) i v)) i ∧ va_up g 0 (upd (g 0) i v) 0 i = if i % 7 = 0 then 0 else 1 := by
  refine ⟨fun j hj => ?_, ?_⟩
  · have q := h j hj
    rw [up_same, up_ne (k := 0) (j := 1) (by decide), upd_ne (by omega)]
    exact q
  · rw [up_same, upd_eq]
    exact hv
theorem P12_two {g : Nat → Nat → Int32} {i : Nat} {v : Int32} (h : P12 g i) (h1 : g 0 i = if i % 7 = 0 then 0 else 1) (hv : v = if i % 7 = 0 then 2 else 30) : P12 (va_up g 1 (upd (g 1) i v)) (i + 1) := fun j hj => by
  rw [up_same, up_ne (k := 1) (j := 0) (by decide)]
  by_cases e : j = i
  · rw [e, upd_eq]
    exact ⟨h1, hv⟩
  · rw [upd_ne e]
    exact h j (by omega)
abbrev U12 : Type := {u : CS // (∀ j : Nat, j < 4 → u.2.2.2.2 2 j = -1) ∧ P12 u.2.2.2.2 36}
def wfR12 (h0 : Nat) : U12 → va_W := fun u => wf_X12_init h0 u.1
def tfR12 : U12 → List (ClassId × FieldType) := fun u => tf_X12_init u.1
abbrev U11 : Type := {u : (Nat → Nat) × (Nat → CS) // P5 (u.2 4).2.2.2.2 6 0}
def wfR11 (h0 : Nat) : U11 → va_W := fun u => wf_X11_init h0 u.1
def tfR11 : U11 → List (ClassId × FieldType) := fun u => tf_X11_init u.1

set_option maxHeartbeats 4000000 in
set_option maxRecDepth 100000 in
theorem iR5 (l : Launch) (D : va_G) (h0 : Nat) : CtC l D yX5_init cX5_init 3 rmc_X5_init 14 84 (va_AOA .int) h0 5 [.null, .null] (wfR5 h0) tfR5 := by
  refine ctC_go (own := RX5) (by decide) rfl rfl (Nat.le_of_ble_eq_true rfl) (fun F hF hex => ?_)
  subst hF
  have loop : ∀ (u : CS) (da a : Nat), a + da = 6 → ∀ g : Nat → Nat → Int32, P5 g a 0 → Gc F D RX5 cX5_init 3 rmc_X5_init none (RC F D 14 84 (wfR5 h0) tfR5) (tf_X5_init u) (wf_X5_init h0 (cs_g u g)) 14 84 30 [(0, .ref h0), (1, .int (nI a))] [] := by
    intro u da
    induction da with
    | zero =>
      intro a ha g hg
      refine gc_iload_n (i := 1) (pc' := 31) dX5_init_30 rfl rfl rfl ?_
      refine gc_bipush (v := 6) (pc' := 33) dX5_init_31 rfl (by decide) ?_
      refine gc_icmp_ge (tgt := 93) (pc' := 36) dX5_init_33 rfl (by decide) (fun c_33 => ?_) (fun c_33 => absurd (by exact nI_le (a := 6) (by omega) (by omega)) c_33)
      have e9 : a = 6 := by omega
      subst e9
      exact gc_vret (⟨cs_g u g, hg⟩ : {u : CS // P5 u.2.2.2.2 6 0}) dX5_init_93 rfl rfl ⟨[0, 1, 2, 3], rfl⟩ rfl rfl
    | succ da iha =>
      intro a ha g hg
      refine gc_iload_n (i := 1) (pc' := 31) dX5_init_30 rfl rfl rfl ?_
      refine gc_bipush (v := 6) (pc' := 33) dX5_init_31 rfl (by decide) ?_
      refine gc_icmp_ge (tgt := 93) (pc' := 36) dX5_init_33 rfl (by decide) (fun c_33 => absurd c_33 (by exact nI_ge (b := 6) (by omega) (by omega))) (fun c_33 => ?_)
      refine gc_iconst (v := 0) (pc' := 37) dX5_init_36 rfl (by decide) ?_
      refine gc_istore_n (i := 2) (pc' := 38) dX5_init_37 rfl rfl (by decide) ?_
      have inner : ∀ (db b : Nat), b + db = 6 → ∀ g : Nat → Nat → Int32, P5 g a b → Gc F D RX5 cX5_init 3 rmc_X5_init none (RC F D 14 84 (wfR5 h0) tfR5) (tf_X5_init u) (wf_X5_init h0 (cs_g u g)) 14 84 38 [(0, .ref h0), (1, .int (nI a)), (2, .int (nI b))] [] := by
        intro db
        induction db with
        | zero =>
          intro b hb g hg
          refine gc_iload_n (i := 2) (pc' := 39) dX5_init_38 rfl rfl rfl ?_
          refine gc_bipush (v := 6) (pc' := 41) dX5_init_39 rfl (by decide) ?_
          refine gc_icmp_ge (tgt := 87) (pc' := 44) dX5_init_41 rfl (by decide) (fun c_41 => ?_) (fun c_41 => absurd (by exact nI_le (a := 6) (by omega) (by omega)) c_41)
          refine gc_iinc (c := 1) (pc' := 90) dX5_init_87 rfl rfl (by decide) (by decide) ?_
          refine gc_goto (tgt := 30) dX5_init_90 (by decide) ?_
          exact gc_lv (lv' := [(0, .ref h0), (1, .int (nI (a + 1)))]) (by rw [nI_succ]; rfl) (iha (a + 1) (by omega) g (P5_row (by rw [show (6 : Nat) = b from by omega]; exact hg)))
        | succ db ihb =>
          intro b hb g hg
          refine gc_iload_n (i := 2) (pc' := 39) dX5_init_38 rfl rfl rfl ?_
          refine gc_bipush (v := 6) (pc' := 41) dX5_init_39 rfl (by decide) ?_
          refine gc_icmp_ge (tgt := 87) (pc' := 44) dX5_init_41 rfl (by decide) (fun c_41 => absurd c_41 (by exact nI_ge (b := 6) (by omega) (by omega))) (fun c_41 => ?_)
          have ha6 : vp_in (nI a) 6 := vp_in_nI (by omega) (by decide)
          have hb6 : vp_in (nI b) 6 := vp_in_nI (by omega) (by decide)
          have hac : (nI a).toNatClampNeg = a := nI_clamp (by omega)
          have hbc : (nI b).toNatClampNeg = b := nI_clamp (by omega)
          have hab : nI a = nI b → a = b := fun z => by
            have z2 := congrArg Int32.toNatClampNeg z
            rw [hac, hbc] at z2
            exact z2
          have step2 : ∀ (g : Nat → Nat → Int32) (v : Int32), P5 g a b → (g a b = if a = b then 0 else 1) → (v = if a = b then 2 else 30) → Gc F D RX5 cX5_init 3 rmc_X5_init none (RC F D 14 84 (wfR5 h0) tfR5) (tf_X5_init u) (wf_X5_init h0 (cs_g u g)) 14 84 80 [(0, .ref h0), (1, .int (nI a)), (2, .int (nI b))] [.int v, .int (nI b), .ref (u.2.2.2.1 a)] := by
            intro g v hg h1 hv
            refine gc_iast (q0 := 9 + a) (t0 := 2) (pc' := 81) dX5_init_80 rfl (po_get2 h0 u g (by omega)) rfl hb6 ?_
            refine gc_ws (po_set2 h0 u g (by omega) _) ?_
            refine gc_iinc (c := 1) (pc' := 84) dX5_init_81 rfl rfl (by decide) (by decide) ?_
            refine gc_goto (tgt := 38) dX5_init_84 (by decide) ?_
            exact gc_lv (lv' := [(0, .ref h0), (1, .int (nI a)), (2, .int (nI (b + 1)))]) (by rw [nI_succ]; rfl) (ihb (b + 1) (by omega) _ (by rw [hbc]; exact P5_two (by omega) hg h1 hv))
          have step1 : ∀ (g : Nat → Nat → Int32) (v : Int32), P5 g a b → (v = if a = b then 0 else 1) → Gc F D RX5 cX5_init 3 rmc_X5_init none (RC F D 14 84 (wfR5 h0) tfR5) (tf_X5_init u) (wf_X5_init h0 (cs_g u g)) 14 84 61 [(0, .ref h0), (1, .int (nI a)), (2, .int (nI b))] [.int v, .int (nI b), .ref (u.2.2.1 a)] := by
            intro g v hg hv
            have q1 := P5_one (by omega) hg hv
            refine gc_iast (q0 := 2 + a) (t0 := 0) (pc' := 62) dX5_init_61 rfl (po_get1 h0 u g (by omega)) rfl hb6 ?_
            refine gc_ws (po_set1 h0 u g (by omega) _) ?_
            refine gc_aload_n (i := 0) (pc' := 63) dX5_init_62 rfl rfl rfl ?_
            refine gc_get (C := RX5) (T := TX5) (N := 2) (ci := 5) (kf := 1) (q0 := 0) (pc' := 66) inlX5 rfl dX5_init_63 rfl fl_X5_16 rfl (by decide) rfl rfl ?_
            refine gc_iload_n (i := 1) (pc' := 67) dX5_init_66 rfl rfl rfl ?_
            refine gc_aald (q0 := 8) (t0 := 3) (b := u.2.2.2.1 a) (pc' := 68) dX5_init_67 rfl rfl rfl ha6 (by rw [hac]; exact if_pos (by omega)) ?_
            refine gc_iload_n (i := 2) (pc' := 69) dX5_init_68 rfl rfl rfl ?_
            refine gc_iload_n (i := 1) (pc' := 70) dX5_init_69 rfl rfl rfl ?_
            refine gc_iload_n (i := 2) (pc' := 71) dX5_init_70 rfl rfl rfl ?_
            refine gc_icmp_ne (tgt := 78) (pc' := 74) dX5_init_71 rfl (by decide) (fun c_71 => ?_) (fun c_71 => ?_)
            · refine gc_bipush (v := 30) (pc' := 80) dX5_init_78 rfl (by decide) ?_
              exact step2 _ 30 (by rw [hbc]; exact q1.1) (by rw [hbc]; exact q1.2) (if_neg (fun e => c_71 (by rw [e]))).symm
            · refine gc_iconst (v := 2) (pc' := 75) dX5_init_74 rfl (by decide) ?_
              refine gc_goto (tgt := 80) dX5_init_75 (by decide) ?_
              exact step2 _ 2 (by rw [hbc]; exact q1.1) (by rw [hbc]; exact q1.2) (if_pos (hab c_71)).symm
          refine gc_aload_n (i := 0) (pc' := 45) dX5_init_44 rfl rfl rfl ?_
          refine gc_get (C := RX5) (T := TX5) (N := 2) (ci := 5) (kf := 0) (q0 := 0) (pc' := 48) inlX5 rfl dX5_init_45 rfl fl_X5_11 rfl (by decide) rfl rfl ?_
          refine gc_iload_n (i := 1) (pc' := 49) dX5_init_48 rfl rfl rfl ?_
          refine gc_aald (q0 := 1) (t0 := 1) (b := u.2.2.1 a) (pc' := 50) dX5_init_49 rfl rfl rfl ha6 (by rw [hac]; exact if_pos (by omega)) ?_
          refine gc_iload_n (i := 2) (pc' := 51) dX5_init_50 rfl rfl rfl ?_
          refine gc_iload_n (i := 1) (pc' := 52) dX5_init_51 rfl rfl rfl ?_
          refine gc_iload_n (i := 2) (pc' := 53) dX5_init_52 rfl rfl rfl ?_
          refine gc_icmp_ne (tgt := 60) (pc' := 56) dX5_init_53 rfl (by decide) (fun c_53 => ?_) (fun c_53 => ?_)
          · refine gc_iconst (v := 1) (pc' := 61) dX5_init_60 rfl (by decide) ?_
            exact step1 g 1 hg (if_neg (fun e => c_53 (by rw [e]))).symm
          · refine gc_iconst (v := 0) (pc' := 57) dX5_init_56 rfl (by decide) ?_
            refine gc_goto (tgt := 61) dX5_init_57 (by decide) ?_
            exact step1 g 0 hg (if_pos (hab c_53)).symm
      exact gc_lv (lv' := [(0, .ref h0), (1, .int (nI a)), (2, .int (nI 0))]) rfl (inner 6 0 (by omega) g hg)
  refine gc_aload_n (i := 0) (pc' := 1) dX5_init_0 rfl rfl rfl ?_
  refine gc_objInit (pc' := 4) dX5_init_1 rfl ml_X5_3 (Nat.le_of_ble_eq_true rfl) (Nat.le_of_ble_eq_true rfl) ?_
  refine gc_aload_n (i := 0) (pc' := 5) dX5_init_4 rfl rfl rfl ?_
  refine gc_bipush (v := 6) (pc' := 7) dX5_init_5 rfl (by decide) ?_
  refine gc_bipush (v := 6) (pc' := 9) dX5_init_7 rfl (by decide) ?_
  refine gc_mnaF (C := RX5) (T := TX5) (N := 2) (ci := 5) (kf := 0) (ty := .int) (N9 := 6) (K := 6) (z := (6, .inl (fun _ => 0))) (pc' := 13) (pc2 := 16) dX5_init_9 rfl cl_X5_9 hex ac_int ra_int (by decide) (by decide) (by decide) (by decide) (Nat.le_of_ble_eq_true rfl) (Nat.le_of_ble_eq_true rfl) (Nat.le_of_ble_eq_true rfl) rfl rfl (Nat.le_of_ble_eq_true rfl) (Nat.le_of_ble_eq_true rfl) (fun _ => arrV_new _ _ _) inlX5 tyX5 tyX5_ok nmX5 rfl dX5_init_13 rfl fl_X5_11 (by decide) rfl rfl (by decide) rfl (Nat.le_of_ble_eq_true rfl) (fun q_9 r_9 c_9 y_9 => ?_)
  refine gc_aload_n (i := 0) (pc' := 17) dX5_init_16 rfl rfl rfl ?_
  refine gc_bipush (v := 6) (pc' := 19) dX5_init_17 rfl (by decide) ?_
  refine gc_bipush (v := 6) (pc' := 21) dX5_init_19 rfl (by decide) ?_
  refine gc_mnaF (C := RX5) (T := TX5) (N := 2) (ci := 5) (kf := 1) (ty := .int) (N9 := 6) (K := 6) (z := (6, .inl (fun _ => 0))) (pc' := 25) (pc2 := 28) dX5_init_21 rfl cl_X5_9 hex ac_int ra_int (by decide) (by decide) (by decide) (by decide) (Nat.le_of_ble_eq_true rfl) (Nat.le_of_ble_eq_true rfl) (Nat.le_of_ble_eq_true rfl) rfl rfl (Nat.le_of_ble_eq_true rfl) (Nat.le_of_ble_eq_true rfl) (fun _ => arrV_new _ _ _) inlX5 tyX5 tyX5_ok nmX5 rfl dX5_init_25 rfl fl_X5_16 (by decide) rfl rfl (by decide) rfl (Nat.le_of_ble_eq_true rfl) (fun q_21 r_21 c_21 y_21 => ?_)
  refine gc_ws (ws' := wf_X5_init h0 (cs_g ((fun k => [q_9, q_21].getD k 0, fun k => [y_9, c_9, y_21, c_21].getD k 0, r_9, r_21, (fun _ _ => 0)) : CS) (fun _ _ => 0))) rfl ?_
  refine gc_iconst (v := 0) (pc' := 29) dX5_init_28 rfl (by decide) ?_
  refine gc_istore_n (i := 1) (pc' := 30) dX5_init_29 rfl rfl (by decide) ?_
  exact gc_lv (lv' := [(0, .ref h0), (1, .int (nI 0))]) rfl (loop ((fun k => [q_9, q_21].getD k 0, fun k => [y_9, c_9, y_21, c_21].getD k 0, r_9, r_21, (fun _ _ => 0)) : CS) 6 0 (by omega) _ (fun i j hi hj hc => by exfalso; omega))

set_option maxHeartbeats 8000000 in
set_option maxRecDepth 100000 in
theorem mR_loop2 {F : FX} {D : va_G} {h0 : Nat} : ∀ (u : CS) (d i : Nat), i + d = 4 → ∀ g : Nat → Nat → Int32, P12 g 36 → (∀ j : Nat, j < i → g 2 j = -1) → Gc F D RX12 cX12_init 3 rmc_X12_init none (RC F D 40 6728 (wfR12 h0) tfR12) (tf_X12_init u) (wf_X12_init h0 (cs_g u g)) 40 6728 398 [(0, .ref h0), (1, .int (nI i))] [] := by
  intro u d
  induction d with
  | zero =>
    intro i hi g hp hu
    refine gc_iload_n (i := 1) (pc' := 399) dX12_init_398 rfl rfl rfl ?_
    refine gc_iconst (v := 4) (pc' := 400) dX12_init_399 rfl (by decide) ?_
    refine gc_icmp_ge (tgt := 416) (pc' := 403) dX12_init_400 rfl (by decide) (fun c_9 => ?_) (fun c_9 => absurd (by exact nI_le (a := 4) (by omega) (by omega)) c_9)
    exact gc_vret (⟨cs_g u g, fun j hj => hu j (by omega), hp⟩ : U12) dX12_init_416 rfl rfl ⟨[0, 1, 2, 3, 4, 5, 6, 7, 8, 9, 10, 11, 12, 13, 14, 15, 16, 17, 18, 19, 20, 21, 22, 23, 24, 25, 26, 27, 28, 29, 30, 31, 32, 33, 34, 35, 36, 37, 38, 39], rfl⟩ rfl rfl
  | succ d ih =>
    intro i hi g hp hu
    refine gc_iload_n (i := 1) (pc' := 399) dX12_init_398 rfl rfl rfl ?_
    refine gc_iconst (v := 4) (pc' := 400) dX12_init_399 rfl (by decide) ?_
    refine gc_icmp_ge (tgt := 416) (pc' := 403) dX12_init_400 rfl (by decide) (fun c_9 => absurd c_9 (by exact nI_ge (b := 4) (by omega) (by omega))) (fun c_9 => ?_)
    refine gc_aload_n (i := 0) (pc' := 404) dX12_init_403 rfl rfl rfl ?_
    refine gc_get (C := RX12) (T := TX12) (N := 52) (ci := 12) (kf := 50) (q0 := 0) (pc' := 407) inlX12 rfl dX12_init_404 rfl fl_X12_129 rfl (by decide) rfl rfl ?_
    refine gc_iload_n (i := 1) (pc' := 408) dX12_init_407 rfl rfl rfl ?_
    refine gc_iconst (v := -1) (pc' := 409) dX12_init_408 rfl (by decide) ?_
    refine gc_iast (q0 := 39) (t0 := 38) (pc' := 410) dX12_init_409 rfl rfl rfl (vp_in_nI (by omega) (by decide)) ?_
    refine gc_ws (ws' := wf_X12_init h0 (cs_g u (va_up g 2 (upd (g 2) (nI i).toNatClampNeg (-1))))) rfl ?_
    refine gc_iinc (c := 1) (pc' := 413) dX12_init_410 rfl rfl (by decide) (by decide) ?_
    refine gc_goto (tgt := 398) dX12_init_413 (by decide) ?_
    refine gc_lv (lv' := [(0, .ref h0), (1, .int (nI (i + 1)))]) (by rw [nI_succ]; rfl) (ih (i + 1) (by omega) _ hp (fun j hj => ?_))
    show upd (g 2) (nI i).toNatClampNeg (-1) j = -1
    rw [nI_clamp (by omega)]
    by_cases e : j = i
    · exact if_pos e
    · exact (if_neg e).trans (hu j (by omega))

set_option maxHeartbeats 8000000 in
set_option maxRecDepth 100000 in
theorem mR_loop1 {F : FX} {D : va_G} {h0 : Nat} : ∀ (u : CS) (d i : Nat), i + d = 36 → ∀ g : Nat → Nat → Int32, P12 g i → Gc F D RX12 cX12_init 3 rmc_X12_init none (RC F D 40 6728 (wfR12 h0) tfR12) (tf_X12_init u) (wf_X12_init h0 (cs_g u g)) 40 6728 340 [(0, .ref h0), (1, .int (nI i))] [] := by
  intro u d
  induction d with
  | zero =>
    intro i hi g hg
    refine gc_iload_n (i := 1) (pc' := 341) dX12_init_340 rfl rfl rfl ?_
    refine gc_bipush (v := 36) (pc' := 343) dX12_init_341 rfl (by decide) ?_
    refine gc_icmp_ge (tgt := 396) (pc' := 346) dX12_init_343 rfl (by decide) (fun c_9 => ?_) (fun c_9 => absurd (by exact nI_le (a := 36) (by omega) (by omega)) c_9)
    refine gc_iconst (v := 0) (pc' := 397) dX12_init_396 rfl (by decide) ?_
    refine gc_istore_n (i := 1) (pc' := 398) dX12_init_397 rfl rfl (by decide) ?_
    exact gc_lv (lv' := [(0, .ref h0), (1, .int (nI 0))]) rfl (mR_loop2 u 4 0 (by omega) g (by rw [show (36 : Nat) = i from by omega]; exact hg) (fun j hj => absurd hj (Nat.not_lt_zero j)))
  | succ d ih =>
    intro i hi g hg
    have hin : vp_in (nI i) 36 := vp_in_nI (by omega) (by decide)
    have hic : (nI i).toNatClampNeg = i := nI_clamp (by omega)
    have r7 := rem7 i (by omega)
    have tail : ∀ (v : Int32), (v = 0 ↔ ¬ i % 7 = 0) → Gc F D RX12 cX12_init 3 rmc_X12_init none (RC F D 40 6728 (wfR12 h0) tfR12) (tf_X12_init u) (wf_X12_init h0 (cs_g u g)) 40 6728 359 [(0, .ref h0), (1, .int (nI i)), (2, .int v)] [] := by
      intro v hv
      have back : ∀ (g : Nat → Nat → Int32) (b : Int32), P12 g i → (g 0 i = if i % 7 = 0 then 0 else 1) → (b = if i % 7 = 0 then 2 else 30) → Gc F D RX12 cX12_init 3 rmc_X12_init none (RC F D 40 6728 (wfR12 h0) tfR12) (tf_X12_init u) (wf_X12_init h0 (cs_g u g)) 40 6728 389 [(0, .ref h0), (1, .int (nI i)), (2, .int v)] [.int b, .int (nI i), .ref (u.1 19)] := by
        intro g b hg h1 hb
        refine gc_iast (q0 := 20) (t0 := 19) (pc' := 390) dX12_init_389 rfl rfl rfl hin ?_
        refine gc_ws (ws' := wf_X12_init h0 (cs_g u (va_up g 1 (upd (g 1) (nI i).toNatClampNeg b)))) rfl ?_
        refine gc_iinc (c := 1) (pc' := 393) dX12_init_390 rfl rfl (by decide) (by decide) ?_
        refine gc_goto (tgt := 340) dX12_init_393 (by decide) ?_
        exact gc_lv (lv' := [(0, .ref h0), (1, .int (nI (i + 1)))]) (by rw [nI_succ]; rfl) (ih (i + 1) (by omega) _ (by rw [hic]; exact P12_two hg h1 hb))
      have mid : ∀ (g : Nat → Nat → Int32) (a : Int32), P12 g i → (a = if i % 7 = 0 then 0 else 1) → Gc F D RX12 cX12_init 3 rmc_X12_init none (RC F D 40 6728 (wfR12 h0) tfR12) (tf_X12_init u) (wf_X12_init h0 (cs_g u g)) 40 6728 373 [(0, .ref h0), (1, .int (nI i)), (2, .int v)] [.int a, .int (nI i), .ref (u.1 18)] := by
        intro g a hg ha
        have q1 := P12_one hg ha
        refine gc_iast (q0 := 19) (t0 := 18) (pc' := 374) dX12_init_373 rfl rfl rfl hin ?_
        refine gc_ws (ws' := wf_X12_init h0 (cs_g u (va_up g 0 (upd (g 0) (nI i).toNatClampNeg a)))) rfl ?_
        refine gc_aload_n (i := 0) (pc' := 375) dX12_init_374 rfl rfl rfl ?_
        refine gc_get (C := RX12) (T := TX12) (N := 52) (ci := 12) (kf := 24) (q0 := 0) (pc' := 378) inlX12 rfl dX12_init_375 rfl fl_X12_68 rfl (by decide) rfl rfl ?_
        refine gc_iload_n (i := 1) (pc' := 379) dX12_init_378 rfl rfl rfl ?_
        refine gc_iload_n (i := 2) (pc' := 380) dX12_init_379 rfl rfl rfl ?_
        refine gc_if_eq (tgt := 387) (pc' := 383) dX12_init_380 rfl (by decide) (fun c_9 => ?_) (fun c_9 => ?_)
        · refine gc_bipush (v := 30) (pc' := 389) dX12_init_387 rfl (by decide) ?_
          exact back _ 30 (by rw [hic]; exact q1.1) (by rw [hic]; exact q1.2) (if_neg (hv.mp c_9)).symm
        · refine gc_iconst (v := 2) (pc' := 384) dX12_init_383 rfl (by decide) ?_
          refine gc_goto (tgt := 389) dX12_init_384 (by decide) ?_
          exact back _ 2 (by rw [hic]; exact q1.1) (by rw [hic]; exact q1.2) (if_pos (Classical.not_not.mp (fun z => c_9 (hv.mpr z)))).symm
      refine gc_aload_n (i := 0) (pc' := 360) dX12_init_359 rfl rfl rfl ?_
      refine gc_get (C := RX12) (T := TX12) (N := 52) (ci := 12) (kf := 23) (q0 := 0) (pc' := 363) inlX12 rfl dX12_init_360 rfl fl_X12_65 rfl (by decide) rfl rfl ?_
      refine gc_iload_n (i := 1) (pc' := 364) dX12_init_363 rfl rfl rfl ?_
      refine gc_iload_n (i := 2) (pc' := 365) dX12_init_364 rfl rfl rfl ?_
      refine gc_if_eq (tgt := 372) (pc' := 368) dX12_init_365 rfl (by decide) (fun c_9 => ?_) (fun c_9 => ?_)
      · refine gc_iconst (v := 1) (pc' := 373) dX12_init_372 rfl (by decide) ?_
        exact mid g 1 hg (if_neg (hv.mp c_9)).symm
      · refine gc_iconst (v := 0) (pc' := 369) dX12_init_368 rfl (by decide) ?_
        refine gc_goto (tgt := 373) dX12_init_369 (by decide) ?_
        exact mid g 0 hg (if_pos (Classical.not_not.mp (fun z => c_9 (hv.mpr z)))).symm
    refine gc_iload_n (i := 1) (pc' := 341) dX12_init_340 rfl rfl rfl ?_
    refine gc_bipush (v := 36) (pc' := 343) dX12_init_341 rfl (by decide) ?_
    refine gc_icmp_ge (tgt := 396) (pc' := 346) dX12_init_343 rfl (by decide) (fun c_9 => absurd c_9 (by exact nI_ge (b := 36) (by omega) (by omega))) (fun c_9 => ?_)
    refine gc_iload_n (i := 1) (pc' := 347) dX12_init_346 rfl rfl rfl ?_
    refine gc_bipush (v := 7) (pc' := 349) dX12_init_347 rfl (by decide) ?_
    refine gc_irem (pc' := 350) dX12_init_349 rfl (by decide) ?_
    refine gc_if_ne (tgt := 357) (pc' := 353) dX12_init_350 rfl (by decide) (fun c_8 => ?_) (fun c_8 => ?_)
    · refine gc_iconst (v := 0) (pc' := 358) dX12_init_357 rfl (by decide) ?_
      refine gc_istore_n (i := 2) (pc' := 359) dX12_init_358 rfl rfl (by decide) ?_
      exact gc_lv (lv' := [(0, .ref h0), (1, .int (nI i)), (2, .int 0)]) rfl (tail 0 ⟨fun _ z => c_8 (r7.mpr z), fun _ => rfl⟩)
    · refine gc_iconst (v := 1) (pc' := 354) dX12_init_353 rfl (by decide) ?_
      refine gc_goto (tgt := 358) dX12_init_354 (by decide) ?_
      refine gc_istore_n (i := 2) (pc' := 359) dX12_init_358 rfl rfl (by decide) ?_
      exact gc_lv (lv' := [(0, .ref h0), (1, .int (nI i)), (2, .int 1)]) rfl (tail 1 ⟨fun z => absurd z (by decide), fun z => absurd (r7.mp c_8) z⟩)

set_option maxHeartbeats 8000000 in
set_option maxRecDepth 100000 in
theorem iR12 (l : Launch) (D : va_G) (h0 : Nat) : CtC l D yX12_init cX12_init 3 rmc_X12_init 40 6728 (fun _ => True) h0 12 [.int 0, .int 0, .int 0, .int 0, .int 0, .null, .null, .null, .null, .null, .null, .null, .null, .null, .null, .null, .null, .null, .null, .null, .null, .null, .null, .null, .null, .null, .null, .null, .null, .null, .null, .int 0, .null, .int 0, .int 0, .int 0, .int 0, .null, .null, .null, .int 0, .null, .null, .null, .null, .null, .null, .null, .null, .int 0, .null, .null] (wfR12 h0) tfR12 := by
  refine ctC_go (own := RX12) (by decide) rfl rfl (Nat.le_of_ble_eq_true rfl) (fun F hF hex => ?_)
  subst hF
  refine gc_aload_n (i := 0) (pc' := 1) dX12_init_0 rfl rfl rfl ?_
  refine gc_objInit (pc' := 4) dX12_init_1 rfl ml_X12_1 (Nat.le_of_ble_eq_true rfl) (Nat.le_of_ble_eq_true rfl) ?_
  refine gc_aload_n (i := 0) (pc' := 5) dX12_init_4 rfl rfl rfl ?_
  refine gc_bipush (v := 10) (pc' := 7) dX12_init_5 rfl (by decide) ?_
  refine gc_newF (C := RX12) (T := TX12) (N := 52) (ci := 12) (kf := 5) (ty := .int) (N9 := 10) (a0 := (10, .inl (fun _ => 0))) (pc' := 9) (pc2 := 12) dX12_init_7 rfl ac_int rfl (fun _ => rfl) (by decide) (by decide) (Nat.le_of_ble_eq_true rfl) (Nat.le_of_ble_eq_true rfl) (Nat.le_of_ble_eq_true rfl) inlX12 tyX12 tyX12_ok nmX12 rfl dX12_init_9 rfl fl_X12_9 (by decide) rfl rfl (by decide) rfl (Nat.le_of_ble_eq_true rfl) (fun q_7 c_7 => ?_)
  refine gc_aload_n (i := 0) (pc' := 13) dX12_init_12 rfl rfl rfl ?_
  refine gc_bipush (v := 10) (pc' := 15) dX12_init_13 rfl (by decide) ?_
  refine gc_newF (C := RX12) (T := TX12) (N := 52) (ci := 12) (kf := 6) (ty := .int) (N9 := 10) (a0 := (10, .inl (fun _ => 0))) (pc' := 17) (pc2 := 20) dX12_init_15 rfl ac_int rfl (fun _ => rfl) (by decide) (by decide) (Nat.le_of_ble_eq_true rfl) (Nat.le_of_ble_eq_true rfl) (Nat.le_of_ble_eq_true rfl) inlX12 tyX12 tyX12_ok nmX12 rfl dX12_init_17 rfl fl_X12_13 (by decide) rfl rfl (by decide) rfl (Nat.le_of_ble_eq_true rfl) (fun q_15 c_15 => ?_)
  refine gc_aload_n (i := 0) (pc' := 21) dX12_init_20 rfl rfl rfl ?_
  refine gc_bipush (v := 10) (pc' := 23) dX12_init_21 rfl (by decide) ?_
  refine gc_newF (C := RX12) (T := TX12) (N := 52) (ci := 12) (kf := 7) (ty := .int) (N9 := 10) (a0 := (10, .inl (fun _ => 0))) (pc' := 25) (pc2 := 28) dX12_init_23 rfl ac_int rfl (fun _ => rfl) (by decide) (by decide) (Nat.le_of_ble_eq_true rfl) (Nat.le_of_ble_eq_true rfl) (Nat.le_of_ble_eq_true rfl) inlX12 tyX12 tyX12_ok nmX12 rfl dX12_init_25 rfl fl_X12_16 (by decide) rfl rfl (by decide) rfl (Nat.le_of_ble_eq_true rfl) (fun q_23 c_23 => ?_)
  refine gc_aload_n (i := 0) (pc' := 29) dX12_init_28 rfl rfl rfl ?_
  refine gc_bipush (v := 10) (pc' := 31) dX12_init_29 rfl (by decide) ?_
  refine gc_newF (C := RX12) (T := TX12) (N := 52) (ci := 12) (kf := 8) (ty := .int) (N9 := 10) (a0 := (10, .inl (fun _ => 0))) (pc' := 33) (pc2 := 36) dX12_init_31 rfl ac_int rfl (fun _ => rfl) (by decide) (by decide) (Nat.le_of_ble_eq_true rfl) (Nat.le_of_ble_eq_true rfl) (Nat.le_of_ble_eq_true rfl) inlX12 tyX12 tyX12_ok nmX12 rfl dX12_init_33 rfl fl_X12_19 (by decide) rfl rfl (by decide) rfl (Nat.le_of_ble_eq_true rfl) (fun q_31 c_31 => ?_)
  refine gc_aload_n (i := 0) (pc' := 37) dX12_init_36 rfl rfl rfl ?_
  refine gc_bipush (v := 100) (pc' := 39) dX12_init_37 rfl (by decide) ?_
  refine gc_newF (C := RX12) (T := TX12) (N := 52) (ci := 12) (kf := 9) (ty := .boolean) (N9 := 100) (a0 := (100, .inl (fun _ => 0))) (pc' := 41) (pc2 := 44) dX12_init_39 rfl ac_boolean rfl (fun _ => rfl) (by decide) (by decide) (Nat.le_of_ble_eq_true rfl) (Nat.le_of_ble_eq_true rfl) (Nat.le_of_ble_eq_true rfl) inlX12 tyX12 tyX12_ok nmX12 rfl dX12_init_41 rfl fl_X12_22 (by decide) rfl rfl (by decide) rfl (Nat.le_of_ble_eq_true rfl) (fun q_39 c_39 => ?_)
  refine gc_ws (ws' := ([(h0, .inr (12, [.int 0, .int 0, .int 0, .int 0, .int 0, .ref q_7, .ref q_15, .ref q_23, .ref q_31, .ref q_39, .null, .null, .null, .null, .null, .null, .null, .null, .null, .null, .null, .null, .null, .null, .null, .null, .null, .null, .null, .null, .null, .int 0, .null, .int 0, .int 0, .int 0, .int 0, .null, .null, .null, .int 0, .null, .null, .null, .null, .null, .null, .null, .null, .int 0, .null, .null])), (q_7, .inl (c_7, 10, .inl (fun _ => 0))), (q_15, .inl (c_15, 10, .inl (fun _ => 0))), (q_23, .inl (c_23, 10, .inl (fun _ => 0))), (q_31, .inl (c_31, 10, .inl (fun _ => 0))), (q_39, .inl (c_39, 100, .inl (fun _ => 0)))])) rfl ?_
  refine gc_tys (tys' := [(c_7, .int), (c_15, .int), (c_23, .int), (c_31, .int), (c_39, .boolean)]) rfl ?_
  refine gc_num (ce' := 5) (sl' := 140) rfl rfl ?_
  refine gc_aload_n (i := 0) (pc' := 45) dX12_init_44 rfl rfl rfl ?_
  refine gc_bipush (v := 12) (pc' := 47) dX12_init_45 rfl (by decide) ?_
  refine gc_newF (C := RX12) (T := TX12) (N := 52) (ci := 12) (kf := 10) (ty := .int) (N9 := 12) (a0 := (12, .inl (fun _ => 0))) (pc' := 49) (pc2 := 52) dX12_init_47 rfl ac_int rfl (fun _ => rfl) (by decide) (by decide) (Nat.le_of_ble_eq_true rfl) (Nat.le_of_ble_eq_true rfl) (Nat.le_of_ble_eq_true rfl) inlX12 tyX12 tyX12_ok nmX12 rfl dX12_init_49 rfl fl_X12_26 (by decide) rfl rfl (by decide) rfl (Nat.le_of_ble_eq_true rfl) (fun q_47 c_47 => ?_)
  refine gc_aload_n (i := 0) (pc' := 53) dX12_init_52 rfl rfl rfl ?_
  refine gc_bipush (v := 12) (pc' := 55) dX12_init_53 rfl (by decide) ?_
  refine gc_newF (C := RX12) (T := TX12) (N := 52) (ci := 12) (kf := 11) (ty := .int) (N9 := 12) (a0 := (12, .inl (fun _ => 0))) (pc' := 57) (pc2 := 60) dX12_init_55 rfl ac_int rfl (fun _ => rfl) (by decide) (by decide) (Nat.le_of_ble_eq_true rfl) (Nat.le_of_ble_eq_true rfl) (Nat.le_of_ble_eq_true rfl) inlX12 tyX12 tyX12_ok nmX12 rfl dX12_init_57 rfl fl_X12_29 (by decide) rfl rfl (by decide) rfl (Nat.le_of_ble_eq_true rfl) (fun q_55 c_55 => ?_)
  refine gc_aload_n (i := 0) (pc' := 61) dX12_init_60 rfl rfl rfl ?_
  refine gc_bipush (v := 12) (pc' := 63) dX12_init_61 rfl (by decide) ?_
  refine gc_newF (C := RX12) (T := TX12) (N := 52) (ci := 12) (kf := 12) (ty := .int) (N9 := 12) (a0 := (12, .inl (fun _ => 0))) (pc' := 65) (pc2 := 68) dX12_init_63 rfl ac_int rfl (fun _ => rfl) (by decide) (by decide) (Nat.le_of_ble_eq_true rfl) (Nat.le_of_ble_eq_true rfl) (Nat.le_of_ble_eq_true rfl) inlX12 tyX12 tyX12_ok nmX12 rfl dX12_init_65 rfl fl_X12_32 (by decide) rfl rfl (by decide) rfl (Nat.le_of_ble_eq_true rfl) (fun q_63 c_63 => ?_)
  refine gc_aload_n (i := 0) (pc' := 69) dX12_init_68 rfl rfl rfl ?_
  refine gc_bipush (v := 12) (pc' := 71) dX12_init_69 rfl (by decide) ?_
  refine gc_newF (C := RX12) (T := TX12) (N := 52) (ci := 12) (kf := 13) (ty := .int) (N9 := 12) (a0 := (12, .inl (fun _ => 0))) (pc' := 73) (pc2 := 76) dX12_init_71 rfl ac_int rfl (fun _ => rfl) (by decide) (by decide) (Nat.le_of_ble_eq_true rfl) (Nat.le_of_ble_eq_true rfl) (Nat.le_of_ble_eq_true rfl) inlX12 tyX12 tyX12_ok nmX12 rfl dX12_init_73 rfl fl_X12_35 (by decide) rfl rfl (by decide) rfl (Nat.le_of_ble_eq_true rfl) (fun q_71 c_71 => ?_)
  refine gc_aload_n (i := 0) (pc' := 77) dX12_init_76 rfl rfl rfl ?_
  refine gc_bipush (v := 12) (pc' := 79) dX12_init_77 rfl (by decide) ?_
  refine gc_newF (C := RX12) (T := TX12) (N := 52) (ci := 12) (kf := 14) (ty := .int) (N9 := 12) (a0 := (12, .inl (fun _ => 0))) (pc' := 81) (pc2 := 84) dX12_init_79 rfl ac_int rfl (fun _ => rfl) (by decide) (by decide) (Nat.le_of_ble_eq_true rfl) (Nat.le_of_ble_eq_true rfl) (Nat.le_of_ble_eq_true rfl) inlX12 tyX12 tyX12_ok nmX12 rfl dX12_init_81 rfl fl_X12_38 (by decide) rfl rfl (by decide) rfl (Nat.le_of_ble_eq_true rfl) (fun q_79 c_79 => ?_)
  refine gc_ws (ws' := ([(h0, .inr (12, [.int 0, .int 0, .int 0, .int 0, .int 0, .ref q_7, .ref q_15, .ref q_23, .ref q_31, .ref q_39, .ref q_47, .ref q_55, .ref q_63, .ref q_71, .ref q_79, .null, .null, .null, .null, .null, .null, .null, .null, .null, .null, .null, .null, .null, .null, .null, .null, .int 0, .null, .int 0, .int 0, .int 0, .int 0, .null, .null, .null, .int 0, .null, .null, .null, .null, .null, .null, .null, .null, .int 0, .null, .null])), (q_7, .inl (c_7, 10, .inl (fun _ => 0))), (q_15, .inl (c_15, 10, .inl (fun _ => 0))), (q_23, .inl (c_23, 10, .inl (fun _ => 0))), (q_31, .inl (c_31, 10, .inl (fun _ => 0))), (q_39, .inl (c_39, 100, .inl (fun _ => 0))), (q_47, .inl (c_47, 12, .inl (fun _ => 0))), (q_55, .inl (c_55, 12, .inl (fun _ => 0))), (q_63, .inl (c_63, 12, .inl (fun _ => 0))), (q_71, .inl (c_71, 12, .inl (fun _ => 0))), (q_79, .inl (c_79, 12, .inl (fun _ => 0)))])) rfl ?_
  refine gc_tys (tys' := [(c_7, .int), (c_15, .int), (c_23, .int), (c_31, .int), (c_39, .boolean), (c_47, .int), (c_55, .int), (c_63, .int), (c_71, .int), (c_79, .int)]) rfl ?_
  refine gc_num (ce' := 10) (sl' := 200) rfl rfl ?_
  refine gc_aload_n (i := 0) (pc' := 85) dX12_init_84 rfl rfl rfl ?_
  refine gc_bipush (v := 12) (pc' := 87) dX12_init_85 rfl (by decide) ?_
  refine gc_newF (C := RX12) (T := TX12) (N := 52) (ci := 12) (kf := 15) (ty := .int) (N9 := 12) (a0 := (12, .inl (fun _ => 0))) (pc' := 89) (pc2 := 92) dX12_init_87 rfl ac_int rfl (fun _ => rfl) (by decide) (by decide) (Nat.le_of_ble_eq_true rfl) (Nat.le_of_ble_eq_true rfl) (Nat.le_of_ble_eq_true rfl) inlX12 tyX12 tyX12_ok nmX12 rfl dX12_init_89 rfl fl_X12_41 (by decide) rfl rfl (by decide) rfl (Nat.le_of_ble_eq_true rfl) (fun q_87 c_87 => ?_)
  refine gc_aload_n (i := 0) (pc' := 93) dX12_init_92 rfl rfl rfl ?_
  refine gc_bipush (v := 12) (pc' := 95) dX12_init_93 rfl (by decide) ?_
  refine gc_newF (C := RX12) (T := TX12) (N := 52) (ci := 12) (kf := 16) (ty := .int) (N9 := 12) (a0 := (12, .inl (fun _ => 0))) (pc' := 97) (pc2 := 100) dX12_init_95 rfl ac_int rfl (fun _ => rfl) (by decide) (by decide) (Nat.le_of_ble_eq_true rfl) (Nat.le_of_ble_eq_true rfl) (Nat.le_of_ble_eq_true rfl) inlX12 tyX12 tyX12_ok nmX12 rfl dX12_init_97 rfl fl_X12_44 (by decide) rfl rfl (by decide) rfl (Nat.le_of_ble_eq_true rfl) (fun q_95 c_95 => ?_)
  refine gc_aload_n (i := 0) (pc' := 101) dX12_init_100 rfl rfl rfl ?_
  refine gc_bipush (v := 12) (pc' := 103) dX12_init_101 rfl (by decide) ?_
  refine gc_newF (C := RX12) (T := TX12) (N := 52) (ci := 12) (kf := 17) (ty := .int) (N9 := 12) (a0 := (12, .inl (fun _ => 0))) (pc' := 105) (pc2 := 108) dX12_init_103 rfl ac_int rfl (fun _ => rfl) (by decide) (by decide) (Nat.le_of_ble_eq_true rfl) (Nat.le_of_ble_eq_true rfl) (Nat.le_of_ble_eq_true rfl) inlX12 tyX12 tyX12_ok nmX12 rfl dX12_init_105 rfl fl_X12_47 (by decide) rfl rfl (by decide) rfl (Nat.le_of_ble_eq_true rfl) (fun q_103 c_103 => ?_)
  refine gc_aload_n (i := 0) (pc' := 109) dX12_init_108 rfl rfl rfl ?_
  refine gc_bipush (v := 12) (pc' := 111) dX12_init_109 rfl (by decide) ?_
  refine gc_newF (C := RX12) (T := TX12) (N := 52) (ci := 12) (kf := 18) (ty := .int) (N9 := 12) (a0 := (12, .inl (fun _ => 0))) (pc' := 113) (pc2 := 116) dX12_init_111 rfl ac_int rfl (fun _ => rfl) (by decide) (by decide) (Nat.le_of_ble_eq_true rfl) (Nat.le_of_ble_eq_true rfl) (Nat.le_of_ble_eq_true rfl) inlX12 tyX12 tyX12_ok nmX12 rfl dX12_init_113 rfl fl_X12_50 (by decide) rfl rfl (by decide) rfl (Nat.le_of_ble_eq_true rfl) (fun q_111 c_111 => ?_)
  refine gc_aload_n (i := 0) (pc' := 117) dX12_init_116 rfl rfl rfl ?_
  refine gc_sipush (v := 1920) (pc' := 120) dX12_init_117 rfl (by decide) ?_
  refine gc_newF (C := RX12) (T := TX12) (N := 52) (ci := 12) (kf := 19) (ty := .int) (N9 := 1920) (a0 := (1920, .inl (fun _ => 0))) (pc' := 122) (pc2 := 125) dX12_init_120 rfl ac_int rfl (fun _ => rfl) (by decide) (by decide) (Nat.le_of_ble_eq_true rfl) (Nat.le_of_ble_eq_true rfl) (Nat.le_of_ble_eq_true rfl) inlX12 tyX12 tyX12_ok nmX12 rfl dX12_init_122 rfl fl_X12_53 (by decide) rfl rfl (by decide) rfl (Nat.le_of_ble_eq_true rfl) (fun q_120 c_120 => ?_)
  refine gc_ws (ws' := ([(h0, .inr (12, [.int 0, .int 0, .int 0, .int 0, .int 0, .ref q_7, .ref q_15, .ref q_23, .ref q_31, .ref q_39, .ref q_47, .ref q_55, .ref q_63, .ref q_71, .ref q_79, .ref q_87, .ref q_95, .ref q_103, .ref q_111, .ref q_120, .null, .null, .null, .null, .null, .null, .null, .null, .null, .null, .null, .int 0, .null, .int 0, .int 0, .int 0, .int 0, .null, .null, .null, .int 0, .null, .null, .null, .null, .null, .null, .null, .null, .int 0, .null, .null])), (q_7, .inl (c_7, 10, .inl (fun _ => 0))), (q_15, .inl (c_15, 10, .inl (fun _ => 0))), (q_23, .inl (c_23, 10, .inl (fun _ => 0))), (q_31, .inl (c_31, 10, .inl (fun _ => 0))), (q_39, .inl (c_39, 100, .inl (fun _ => 0))), (q_47, .inl (c_47, 12, .inl (fun _ => 0))), (q_55, .inl (c_55, 12, .inl (fun _ => 0))), (q_63, .inl (c_63, 12, .inl (fun _ => 0))), (q_71, .inl (c_71, 12, .inl (fun _ => 0))), (q_79, .inl (c_79, 12, .inl (fun _ => 0))), (q_87, .inl (c_87, 12, .inl (fun _ => 0))), (q_95, .inl (c_95, 12, .inl (fun _ => 0))), (q_103, .inl (c_103, 12, .inl (fun _ => 0))), (q_111, .inl (c_111, 12, .inl (fun _ => 0))), (q_120, .inl (c_120, 1920, .inl (fun _ => 0)))])) rfl ?_
  refine gc_tys (tys' := [(c_7, .int), (c_15, .int), (c_23, .int), (c_31, .int), (c_39, .boolean), (c_47, .int), (c_55, .int), (c_63, .int), (c_71, .int), (c_79, .int), (c_87, .int), (c_95, .int), (c_103, .int), (c_111, .int), (c_120, .int)]) rfl ?_
  refine gc_num (ce' := 15) (sl' := 2168) rfl rfl ?_
  refine gc_aload_n (i := 0) (pc' := 126) dX12_init_125 rfl rfl rfl ?_
  refine gc_bipush (v := 20) (pc' := 128) dX12_init_126 rfl (by decide) ?_
  refine gc_newF (C := RX12) (T := TX12) (N := 52) (ci := 12) (kf := 20) (ty := .int) (N9 := 20) (a0 := (20, .inl (fun _ => 0))) (pc' := 130) (pc2 := 133) dX12_init_128 rfl ac_int rfl (fun _ => rfl) (by decide) (by decide) (Nat.le_of_ble_eq_true rfl) (Nat.le_of_ble_eq_true rfl) (Nat.le_of_ble_eq_true rfl) inlX12 tyX12 tyX12_ok nmX12 rfl dX12_init_130 rfl fl_X12_56 (by decide) rfl rfl (by decide) rfl (Nat.le_of_ble_eq_true rfl) (fun q_128 c_128 => ?_)
  refine gc_aload_n (i := 0) (pc' := 134) dX12_init_133 rfl rfl rfl ?_
  refine gc_bipush (v := 20) (pc' := 136) dX12_init_134 rfl (by decide) ?_
  refine gc_newF (C := RX12) (T := TX12) (N := 52) (ci := 12) (kf := 21) (ty := .int) (N9 := 20) (a0 := (20, .inl (fun _ => 0))) (pc' := 138) (pc2 := 141) dX12_init_136 rfl ac_int rfl (fun _ => rfl) (by decide) (by decide) (Nat.le_of_ble_eq_true rfl) (Nat.le_of_ble_eq_true rfl) (Nat.le_of_ble_eq_true rfl) inlX12 tyX12 tyX12_ok nmX12 rfl dX12_init_138 rfl fl_X12_59 (by decide) rfl rfl (by decide) rfl (Nat.le_of_ble_eq_true rfl) (fun q_136 c_136 => ?_)
  refine gc_aload_n (i := 0) (pc' := 142) dX12_init_141 rfl rfl rfl ?_
  refine gc_bipush (v := 20) (pc' := 144) dX12_init_142 rfl (by decide) ?_
  refine gc_newF (C := RX12) (T := TX12) (N := 52) (ci := 12) (kf := 22) (ty := .int) (N9 := 20) (a0 := (20, .inl (fun _ => 0))) (pc' := 146) (pc2 := 149) dX12_init_144 rfl ac_int rfl (fun _ => rfl) (by decide) (by decide) (Nat.le_of_ble_eq_true rfl) (Nat.le_of_ble_eq_true rfl) (Nat.le_of_ble_eq_true rfl) inlX12 tyX12 tyX12_ok nmX12 rfl dX12_init_146 rfl fl_X12_62 (by decide) rfl rfl (by decide) rfl (Nat.le_of_ble_eq_true rfl) (fun q_144 c_144 => ?_)
  refine gc_aload_n (i := 0) (pc' := 150) dX12_init_149 rfl rfl rfl ?_
  refine gc_bipush (v := 36) (pc' := 152) dX12_init_150 rfl (by decide) ?_
  refine gc_newF (C := RX12) (T := TX12) (N := 52) (ci := 12) (kf := 23) (ty := .int) (N9 := 36) (a0 := (36, .inl (fun _ => 0))) (pc' := 154) (pc2 := 157) dX12_init_152 rfl ac_int rfl (fun _ => rfl) (by decide) (by decide) (Nat.le_of_ble_eq_true rfl) (Nat.le_of_ble_eq_true rfl) (Nat.le_of_ble_eq_true rfl) inlX12 tyX12 tyX12_ok nmX12 rfl dX12_init_154 rfl fl_X12_65 (by decide) rfl rfl (by decide) rfl (Nat.le_of_ble_eq_true rfl) (fun q_152 c_152 => ?_)
  refine gc_aload_n (i := 0) (pc' := 158) dX12_init_157 rfl rfl rfl ?_
  refine gc_bipush (v := 36) (pc' := 160) dX12_init_158 rfl (by decide) ?_
  refine gc_newF (C := RX12) (T := TX12) (N := 52) (ci := 12) (kf := 24) (ty := .int) (N9 := 36) (a0 := (36, .inl (fun _ => 0))) (pc' := 162) (pc2 := 165) dX12_init_160 rfl ac_int rfl (fun _ => rfl) (by decide) (by decide) (Nat.le_of_ble_eq_true rfl) (Nat.le_of_ble_eq_true rfl) (Nat.le_of_ble_eq_true rfl) inlX12 tyX12 tyX12_ok nmX12 rfl dX12_init_162 rfl fl_X12_68 (by decide) rfl rfl (by decide) rfl (Nat.le_of_ble_eq_true rfl) (fun q_160 c_160 => ?_)
  refine gc_ws (ws' := ([(h0, .inr (12, [.int 0, .int 0, .int 0, .int 0, .int 0, .ref q_7, .ref q_15, .ref q_23, .ref q_31, .ref q_39, .ref q_47, .ref q_55, .ref q_63, .ref q_71, .ref q_79, .ref q_87, .ref q_95, .ref q_103, .ref q_111, .ref q_120, .ref q_128, .ref q_136, .ref q_144, .ref q_152, .ref q_160, .null, .null, .null, .null, .null, .null, .int 0, .null, .int 0, .int 0, .int 0, .int 0, .null, .null, .null, .int 0, .null, .null, .null, .null, .null, .null, .null, .null, .int 0, .null, .null])), (q_7, .inl (c_7, 10, .inl (fun _ => 0))), (q_15, .inl (c_15, 10, .inl (fun _ => 0))), (q_23, .inl (c_23, 10, .inl (fun _ => 0))), (q_31, .inl (c_31, 10, .inl (fun _ => 0))), (q_39, .inl (c_39, 100, .inl (fun _ => 0))), (q_47, .inl (c_47, 12, .inl (fun _ => 0))), (q_55, .inl (c_55, 12, .inl (fun _ => 0))), (q_63, .inl (c_63, 12, .inl (fun _ => 0))), (q_71, .inl (c_71, 12, .inl (fun _ => 0))), (q_79, .inl (c_79, 12, .inl (fun _ => 0))), (q_87, .inl (c_87, 12, .inl (fun _ => 0))), (q_95, .inl (c_95, 12, .inl (fun _ => 0))), (q_103, .inl (c_103, 12, .inl (fun _ => 0))), (q_111, .inl (c_111, 12, .inl (fun _ => 0))), (q_120, .inl (c_120, 1920, .inl (fun _ => 0))), (q_128, .inl (c_128, 20, .inl (fun _ => 0))), (q_136, .inl (c_136, 20, .inl (fun _ => 0))), (q_144, .inl (c_144, 20, .inl (fun _ => 0))), (q_152, .inl (c_152, 36, .inl (fun _ => 0))), (q_160, .inl (c_160, 36, .inl (fun _ => 0)))])) rfl ?_
  refine gc_tys (tys' := [(c_7, .int), (c_15, .int), (c_23, .int), (c_31, .int), (c_39, .boolean), (c_47, .int), (c_55, .int), (c_63, .int), (c_71, .int), (c_79, .int), (c_87, .int), (c_95, .int), (c_103, .int), (c_111, .int), (c_120, .int), (c_128, .int), (c_136, .int), (c_144, .int), (c_152, .int), (c_160, .int)]) rfl ?_
  refine gc_num (ce' := 20) (sl' := 2300) rfl rfl ?_
  refine gc_aload_n (i := 0) (pc' := 166) dX12_init_165 rfl rfl rfl ?_
  refine gc_bipush (v := 10) (pc' := 168) dX12_init_166 rfl (by decide) ?_
  refine gc_newF (C := RX12) (T := TX12) (N := 52) (ci := 12) (kf := 25) (ty := .int) (N9 := 10) (a0 := (10, .inl (fun _ => 0))) (pc' := 170) (pc2 := 173) dX12_init_168 rfl ac_int rfl (fun _ => rfl) (by decide) (by decide) (Nat.le_of_ble_eq_true rfl) (Nat.le_of_ble_eq_true rfl) (Nat.le_of_ble_eq_true rfl) inlX12 tyX12 tyX12_ok nmX12 rfl dX12_init_170 rfl fl_X12_71 (by decide) rfl rfl (by decide) rfl (Nat.le_of_ble_eq_true rfl) (fun q_168 c_168 => ?_)
  refine gc_aload_n (i := 0) (pc' := 174) dX12_init_173 rfl rfl rfl ?_
  refine gc_bipush (v := 10) (pc' := 176) dX12_init_174 rfl (by decide) ?_
  refine gc_newF (C := RX12) (T := TX12) (N := 52) (ci := 12) (kf := 26) (ty := .int) (N9 := 10) (a0 := (10, .inl (fun _ => 0))) (pc' := 178) (pc2 := 181) dX12_init_176 rfl ac_int rfl (fun _ => rfl) (by decide) (by decide) (Nat.le_of_ble_eq_true rfl) (Nat.le_of_ble_eq_true rfl) (Nat.le_of_ble_eq_true rfl) inlX12 tyX12 tyX12_ok nmX12 rfl dX12_init_178 rfl fl_X12_74 (by decide) rfl rfl (by decide) rfl (Nat.le_of_ble_eq_true rfl) (fun q_176 c_176 => ?_)
  refine gc_aload_n (i := 0) (pc' := 182) dX12_init_181 rfl rfl rfl ?_
  refine gc_bipush (v := 10) (pc' := 184) dX12_init_182 rfl (by decide) ?_
  refine gc_newF (C := RX12) (T := TX12) (N := 52) (ci := 12) (kf := 27) (ty := .int) (N9 := 10) (a0 := (10, .inl (fun _ => 0))) (pc' := 186) (pc2 := 189) dX12_init_184 rfl ac_int rfl (fun _ => rfl) (by decide) (by decide) (Nat.le_of_ble_eq_true rfl) (Nat.le_of_ble_eq_true rfl) (Nat.le_of_ble_eq_true rfl) inlX12 tyX12 tyX12_ok nmX12 rfl dX12_init_186 rfl fl_X12_77 (by decide) rfl rfl (by decide) rfl (Nat.le_of_ble_eq_true rfl) (fun q_184 c_184 => ?_)
  refine gc_aload_n (i := 0) (pc' := 190) dX12_init_189 rfl rfl rfl ?_
  refine gc_sipush (v := 160) (pc' := 193) dX12_init_190 rfl (by decide) ?_
  refine gc_newF (C := RX12) (T := TX12) (N := 52) (ci := 12) (kf := 28) (ty := .int) (N9 := 160) (a0 := (160, .inl (fun _ => 0))) (pc' := 195) (pc2 := 198) dX12_init_193 rfl ac_int rfl (fun _ => rfl) (by decide) (by decide) (Nat.le_of_ble_eq_true rfl) (Nat.le_of_ble_eq_true rfl) (Nat.le_of_ble_eq_true rfl) inlX12 tyX12 tyX12_ok nmX12 rfl dX12_init_195 rfl fl_X12_80 (by decide) rfl rfl (by decide) rfl (Nat.le_of_ble_eq_true rfl) (fun q_193 c_193 => ?_)
  refine gc_aload_n (i := 0) (pc' := 199) dX12_init_198 rfl rfl rfl ?_
  refine gc_bipush (v := 12) (pc' := 201) dX12_init_199 rfl (by decide) ?_
  refine gc_newF (C := RX12) (T := TX12) (N := 52) (ci := 12) (kf := 29) (ty := .int) (N9 := 12) (a0 := (12, .inl (fun _ => 0))) (pc' := 203) (pc2 := 206) dX12_init_201 rfl ac_int rfl (fun _ => rfl) (by decide) (by decide) (Nat.le_of_ble_eq_true rfl) (Nat.le_of_ble_eq_true rfl) (Nat.le_of_ble_eq_true rfl) inlX12 tyX12 tyX12_ok nmX12 rfl dX12_init_203 rfl fl_X12_83 (by decide) rfl rfl (by decide) rfl (Nat.le_of_ble_eq_true rfl) (fun q_201 c_201 => ?_)
  refine gc_ws (ws' := ([(h0, .inr (12, [.int 0, .int 0, .int 0, .int 0, .int 0, .ref q_7, .ref q_15, .ref q_23, .ref q_31, .ref q_39, .ref q_47, .ref q_55, .ref q_63, .ref q_71, .ref q_79, .ref q_87, .ref q_95, .ref q_103, .ref q_111, .ref q_120, .ref q_128, .ref q_136, .ref q_144, .ref q_152, .ref q_160, .ref q_168, .ref q_176, .ref q_184, .ref q_193, .ref q_201, .null, .int 0, .null, .int 0, .int 0, .int 0, .int 0, .null, .null, .null, .int 0, .null, .null, .null, .null, .null, .null, .null, .null, .int 0, .null, .null])), (q_7, .inl (c_7, 10, .inl (fun _ => 0))), (q_15, .inl (c_15, 10, .inl (fun _ => 0))), (q_23, .inl (c_23, 10, .inl (fun _ => 0))), (q_31, .inl (c_31, 10, .inl (fun _ => 0))), (q_39, .inl (c_39, 100, .inl (fun _ => 0))), (q_47, .inl (c_47, 12, .inl (fun _ => 0))), (q_55, .inl (c_55, 12, .inl (fun _ => 0))), (q_63, .inl (c_63, 12, .inl (fun _ => 0))), (q_71, .inl (c_71, 12, .inl (fun _ => 0))), (q_79, .inl (c_79, 12, .inl (fun _ => 0))), (q_87, .inl (c_87, 12, .inl (fun _ => 0))), (q_95, .inl (c_95, 12, .inl (fun _ => 0))), (q_103, .inl (c_103, 12, .inl (fun _ => 0))), (q_111, .inl (c_111, 12, .inl (fun _ => 0))), (q_120, .inl (c_120, 1920, .inl (fun _ => 0))), (q_128, .inl (c_128, 20, .inl (fun _ => 0))), (q_136, .inl (c_136, 20, .inl (fun _ => 0))), (q_144, .inl (c_144, 20, .inl (fun _ => 0))), (q_152, .inl (c_152, 36, .inl (fun _ => 0))), (q_160, .inl (c_160, 36, .inl (fun _ => 0))), (q_168, .inl (c_168, 10, .inl (fun _ => 0))), (q_176, .inl (c_176, 10, .inl (fun _ => 0))), (q_184, .inl (c_184, 10, .inl (fun _ => 0))), (q_193, .inl (c_193, 160, .inl (fun _ => 0))), (q_201, .inl (c_201, 12, .inl (fun _ => 0)))])) rfl ?_
  refine gc_tys (tys' := [(c_7, .int), (c_15, .int), (c_23, .int), (c_31, .int), (c_39, .boolean), (c_47, .int), (c_55, .int), (c_63, .int), (c_71, .int), (c_79, .int), (c_87, .int), (c_95, .int), (c_103, .int), (c_111, .int), (c_120, .int), (c_128, .int), (c_136, .int), (c_144, .int), (c_152, .int), (c_160, .int), (c_168, .int), (c_176, .int), (c_184, .int), (c_193, .int), (c_201, .int)]) rfl ?_
  refine gc_num (ce' := 25) (sl' := 2502) rfl rfl ?_
  refine gc_aload_n (i := 0) (pc' := 207) dX12_init_206 rfl rfl rfl ?_
  refine gc_bipush (v := 12) (pc' := 209) dX12_init_207 rfl (by decide) ?_
  refine gc_newF (C := RX12) (T := TX12) (N := 52) (ci := 12) (kf := 30) (ty := .int) (N9 := 12) (a0 := (12, .inl (fun _ => 0))) (pc' := 211) (pc2 := 214) dX12_init_209 rfl ac_int rfl (fun _ => rfl) (by decide) (by decide) (Nat.le_of_ble_eq_true rfl) (Nat.le_of_ble_eq_true rfl) (Nat.le_of_ble_eq_true rfl) inlX12 tyX12 tyX12_ok nmX12 rfl dX12_init_211 rfl fl_X12_86 (by decide) rfl rfl (by decide) rfl (Nat.le_of_ble_eq_true rfl) (fun q_209 c_209 => ?_)
  refine gc_aload_n (i := 0) (pc' := 215) dX12_init_214 rfl rfl rfl ?_
  refine gc_sipush (v := 144) (pc' := 218) dX12_init_215 rfl (by decide) ?_
  refine gc_newF (C := RX12) (T := TX12) (N := 52) (ci := 12) (kf := 32) (ty := .int) (N9 := 144) (a0 := (144, .inl (fun _ => 0))) (pc' := 220) (pc2 := 223) dX12_init_218 rfl ac_int rfl (fun _ => rfl) (by decide) (by decide) (Nat.le_of_ble_eq_true rfl) (Nat.le_of_ble_eq_true rfl) (Nat.le_of_ble_eq_true rfl) inlX12 tyX12 tyX12_ok nmX12 rfl dX12_init_220 rfl fl_X12_89 (by decide) rfl rfl (by decide) rfl (Nat.le_of_ble_eq_true rfl) (fun q_218 c_218 => ?_)
  refine gc_aload_n (i := 0) (pc' := 224) dX12_init_223 rfl rfl rfl ?_
  refine gc_iconst (v := (-1)) (pc' := 225) dX12_init_224 rfl (by decide) ?_
  refine gc_put0 (C := RX12) (T := TX12) (N := 52) (ci := 12) (kf := 35) (ty := .int) (pc' := 228) inlX12 tyX12 tyX12_ok nmX12 rfl dX12_init_225 rfl fl_X12_92 (by decide) rfl rfl rfl rfl (Nat.le_of_ble_eq_true rfl) ?_
  refine gc_aload_n (i := 0) (pc' := 229) dX12_init_228 rfl rfl rfl ?_
  refine gc_iconst (v := 5) (pc' := 230) dX12_init_229 rfl (by decide) ?_
  refine gc_newF (C := RX12) (T := TX12) (N := 52) (ci := 12) (kf := 37) (ty := .int) (N9 := 5) (a0 := (5, .inl (fun _ => 0))) (pc' := 232) (pc2 := 235) dX12_init_230 rfl ac_int rfl (fun _ => rfl) (by decide) (by decide) (Nat.le_of_ble_eq_true rfl) (Nat.le_of_ble_eq_true rfl) (Nat.le_of_ble_eq_true rfl) inlX12 tyX12 tyX12_ok nmX12 rfl dX12_init_232 rfl fl_X12_96 (by decide) rfl rfl (by decide) rfl (Nat.le_of_ble_eq_true rfl) (fun q_230 c_230 => ?_)
  refine gc_aload_n (i := 0) (pc' := 236) dX12_init_235 rfl rfl rfl ?_
  refine gc_sipush (v := 320) (pc' := 239) dX12_init_236 rfl (by decide) ?_
  refine gc_newF (C := RX12) (T := TX12) (N := 52) (ci := 12) (kf := 38) (ty := .int) (N9 := 320) (a0 := (320, .inl (fun _ => 0))) (pc' := 241) (pc2 := 244) dX12_init_239 rfl ac_int rfl (fun _ => rfl) (by decide) (by decide) (Nat.le_of_ble_eq_true rfl) (Nat.le_of_ble_eq_true rfl) (Nat.le_of_ble_eq_true rfl) inlX12 tyX12 tyX12_ok nmX12 rfl dX12_init_241 rfl fl_X12_99 (by decide) rfl rfl (by decide) rfl (Nat.le_of_ble_eq_true rfl) (fun q_239 c_239 => ?_)
  refine gc_aload_n (i := 0) (pc' := 245) dX12_init_244 rfl rfl rfl ?_
  refine gc_sipush (v := 161) (pc' := 248) dX12_init_245 rfl (by decide) ?_
  refine gc_newF (C := RX12) (T := TX12) (N := 52) (ci := 12) (kf := 39) (ty := .int) (N9 := 161) (a0 := (161, .inl (fun _ => 0))) (pc' := 250) (pc2 := 253) dX12_init_248 rfl ac_int rfl (fun _ => rfl) (by decide) (by decide) (Nat.le_of_ble_eq_true rfl) (Nat.le_of_ble_eq_true rfl) (Nat.le_of_ble_eq_true rfl) inlX12 tyX12 tyX12_ok nmX12 rfl dX12_init_250 rfl fl_X12_102 (by decide) rfl rfl (by decide) rfl (Nat.le_of_ble_eq_true rfl) (fun q_248 c_248 => ?_)
  refine gc_ws (ws' := ([(h0, .inr (12, [.int 0, .int 0, .int 0, .int 0, .int 0, .ref q_7, .ref q_15, .ref q_23, .ref q_31, .ref q_39, .ref q_47, .ref q_55, .ref q_63, .ref q_71, .ref q_79, .ref q_87, .ref q_95, .ref q_103, .ref q_111, .ref q_120, .ref q_128, .ref q_136, .ref q_144, .ref q_152, .ref q_160, .ref q_168, .ref q_176, .ref q_184, .ref q_193, .ref q_201, .ref q_209, .int 0, .ref q_218, .int 0, .int 0, .int (-1), .int 0, .ref q_230, .ref q_239, .ref q_248, .int 0, .null, .null, .null, .null, .null, .null, .null, .null, .int 0, .null, .null])), (q_7, .inl (c_7, 10, .inl (fun _ => 0))), (q_15, .inl (c_15, 10, .inl (fun _ => 0))), (q_23, .inl (c_23, 10, .inl (fun _ => 0))), (q_31, .inl (c_31, 10, .inl (fun _ => 0))), (q_39, .inl (c_39, 100, .inl (fun _ => 0))), (q_47, .inl (c_47, 12, .inl (fun _ => 0))), (q_55, .inl (c_55, 12, .inl (fun _ => 0))), (q_63, .inl (c_63, 12, .inl (fun _ => 0))), (q_71, .inl (c_71, 12, .inl (fun _ => 0))), (q_79, .inl (c_79, 12, .inl (fun _ => 0))), (q_87, .inl (c_87, 12, .inl (fun _ => 0))), (q_95, .inl (c_95, 12, .inl (fun _ => 0))), (q_103, .inl (c_103, 12, .inl (fun _ => 0))), (q_111, .inl (c_111, 12, .inl (fun _ => 0))), (q_120, .inl (c_120, 1920, .inl (fun _ => 0))), (q_128, .inl (c_128, 20, .inl (fun _ => 0))), (q_136, .inl (c_136, 20, .inl (fun _ => 0))), (q_144, .inl (c_144, 20, .inl (fun _ => 0))), (q_152, .inl (c_152, 36, .inl (fun _ => 0))), (q_160, .inl (c_160, 36, .inl (fun _ => 0))), (q_168, .inl (c_168, 10, .inl (fun _ => 0))), (q_176, .inl (c_176, 10, .inl (fun _ => 0))), (q_184, .inl (c_184, 10, .inl (fun _ => 0))), (q_193, .inl (c_193, 160, .inl (fun _ => 0))), (q_201, .inl (c_201, 12, .inl (fun _ => 0))), (q_209, .inl (c_209, 12, .inl (fun _ => 0))), (q_218, .inl (c_218, 144, .inl (fun _ => 0))), (q_230, .inl (c_230, 5, .inl (fun _ => 0))), (q_239, .inl (c_239, 320, .inl (fun _ => 0))), (q_248, .inl (c_248, 161, .inl (fun _ => 0)))])) rfl ?_
  refine gc_tys (tys' := [(c_7, .int), (c_15, .int), (c_23, .int), (c_31, .int), (c_39, .boolean), (c_47, .int), (c_55, .int), (c_63, .int), (c_71, .int), (c_79, .int), (c_87, .int), (c_95, .int), (c_103, .int), (c_111, .int), (c_120, .int), (c_128, .int), (c_136, .int), (c_144, .int), (c_152, .int), (c_160, .int), (c_168, .int), (c_176, .int), (c_184, .int), (c_193, .int), (c_201, .int), (c_209, .int), (c_218, .int), (c_230, .int), (c_239, .int), (c_248, .int)]) rfl ?_
  refine gc_num (ce' := 30) (sl' := 3144) rfl rfl ?_
  refine gc_aload_n (i := 0) (pc' := 254) dX12_init_253 rfl rfl rfl ?_
  refine gc_sipush (v := 320) (pc' := 257) dX12_init_254 rfl (by decide) ?_
  refine gc_newF (C := RX12) (T := TX12) (N := 52) (ci := 12) (kf := 41) (ty := .int) (N9 := 320) (a0 := (320, .inl (fun _ => 0))) (pc' := 259) (pc2 := 262) dX12_init_257 rfl ac_int rfl (fun _ => rfl) (by decide) (by decide) (Nat.le_of_ble_eq_true rfl) (Nat.le_of_ble_eq_true rfl) (Nat.le_of_ble_eq_true rfl) inlX12 tyX12 tyX12_ok nmX12 rfl dX12_init_259 rfl fl_X12_105 (by decide) rfl rfl (by decide) rfl (Nat.le_of_ble_eq_true rfl) (fun q_257 c_257 => ?_)
  refine gc_aload_n (i := 0) (pc' := 263) dX12_init_262 rfl rfl rfl ?_
  refine gc_sipush (v := 320) (pc' := 266) dX12_init_263 rfl (by decide) ?_
  refine gc_newF (C := RX12) (T := TX12) (N := 52) (ci := 12) (kf := 42) (ty := .int) (N9 := 320) (a0 := (320, .inl (fun _ => 0))) (pc' := 268) (pc2 := 271) dX12_init_266 rfl ac_int rfl (fun _ => rfl) (by decide) (by decide) (Nat.le_of_ble_eq_true rfl) (Nat.le_of_ble_eq_true rfl) (Nat.le_of_ble_eq_true rfl) inlX12 tyX12 tyX12_ok nmX12 rfl dX12_init_268 rfl fl_X12_108 (by decide) rfl rfl (by decide) rfl (Nat.le_of_ble_eq_true rfl) (fun q_266 c_266 => ?_)
  refine gc_aload_n (i := 0) (pc' := 272) dX12_init_271 rfl rfl rfl ?_
  refine gc_sipush (v := 320) (pc' := 275) dX12_init_272 rfl (by decide) ?_
  refine gc_newF (C := RX12) (T := TX12) (N := 52) (ci := 12) (kf := 43) (ty := .int) (N9 := 320) (a0 := (320, .inl (fun _ => 0))) (pc' := 277) (pc2 := 280) dX12_init_275 rfl ac_int rfl (fun _ => rfl) (by decide) (by decide) (Nat.le_of_ble_eq_true rfl) (Nat.le_of_ble_eq_true rfl) (Nat.le_of_ble_eq_true rfl) inlX12 tyX12 tyX12_ok nmX12 rfl dX12_init_277 rfl fl_X12_111 (by decide) rfl rfl (by decide) rfl (Nat.le_of_ble_eq_true rfl) (fun q_275 c_275 => ?_)
  refine gc_aload_n (i := 0) (pc' := 281) dX12_init_280 rfl rfl rfl ?_
  refine gc_iconst (v := 2) (pc' := 282) dX12_init_281 rfl (by decide) ?_
  refine gc_newF (C := RX12) (T := TX12) (N := 52) (ci := 12) (kf := 44) (ty := .int) (N9 := 2) (a0 := (2, .inl (fun _ => 0))) (pc' := 284) (pc2 := 287) dX12_init_282 rfl ac_int rfl (fun _ => rfl) (by decide) (by decide) (Nat.le_of_ble_eq_true rfl) (Nat.le_of_ble_eq_true rfl) (Nat.le_of_ble_eq_true rfl) inlX12 tyX12 tyX12_ok nmX12 rfl dX12_init_284 rfl fl_X12_114 (by decide) rfl rfl (by decide) rfl (Nat.le_of_ble_eq_true rfl) (fun q_282 c_282 => ?_)
  refine gc_aload_n (i := 0) (pc' := 288) dX12_init_287 rfl rfl rfl ?_
  refine gc_sipush (v := 161) (pc' := 291) dX12_init_288 rfl (by decide) ?_
  refine gc_newF (C := RX12) (T := TX12) (N := 52) (ci := 12) (kf := 45) (ty := .int) (N9 := 161) (a0 := (161, .inl (fun _ => 0))) (pc' := 293) (pc2 := 296) dX12_init_291 rfl ac_int rfl (fun _ => rfl) (by decide) (by decide) (Nat.le_of_ble_eq_true rfl) (Nat.le_of_ble_eq_true rfl) (Nat.le_of_ble_eq_true rfl) inlX12 tyX12 tyX12_ok nmX12 rfl dX12_init_293 rfl fl_X12_117 (by decide) rfl rfl (by decide) rfl (Nat.le_of_ble_eq_true rfl) (fun q_291 c_291 => ?_)
  refine gc_ws (ws' := ([(h0, .inr (12, [.int 0, .int 0, .int 0, .int 0, .int 0, .ref q_7, .ref q_15, .ref q_23, .ref q_31, .ref q_39, .ref q_47, .ref q_55, .ref q_63, .ref q_71, .ref q_79, .ref q_87, .ref q_95, .ref q_103, .ref q_111, .ref q_120, .ref q_128, .ref q_136, .ref q_144, .ref q_152, .ref q_160, .ref q_168, .ref q_176, .ref q_184, .ref q_193, .ref q_201, .ref q_209, .int 0, .ref q_218, .int 0, .int 0, .int (-1), .int 0, .ref q_230, .ref q_239, .ref q_248, .int 0, .ref q_257, .ref q_266, .ref q_275, .ref q_282, .ref q_291, .null, .null, .null, .int 0, .null, .null])), (q_7, .inl (c_7, 10, .inl (fun _ => 0))), (q_15, .inl (c_15, 10, .inl (fun _ => 0))), (q_23, .inl (c_23, 10, .inl (fun _ => 0))), (q_31, .inl (c_31, 10, .inl (fun _ => 0))), (q_39, .inl (c_39, 100, .inl (fun _ => 0))), (q_47, .inl (c_47, 12, .inl (fun _ => 0))), (q_55, .inl (c_55, 12, .inl (fun _ => 0))), (q_63, .inl (c_63, 12, .inl (fun _ => 0))), (q_71, .inl (c_71, 12, .inl (fun _ => 0))), (q_79, .inl (c_79, 12, .inl (fun _ => 0))), (q_87, .inl (c_87, 12, .inl (fun _ => 0))), (q_95, .inl (c_95, 12, .inl (fun _ => 0))), (q_103, .inl (c_103, 12, .inl (fun _ => 0))), (q_111, .inl (c_111, 12, .inl (fun _ => 0))), (q_120, .inl (c_120, 1920, .inl (fun _ => 0))), (q_128, .inl (c_128, 20, .inl (fun _ => 0))), (q_136, .inl (c_136, 20, .inl (fun _ => 0))), (q_144, .inl (c_144, 20, .inl (fun _ => 0))), (q_152, .inl (c_152, 36, .inl (fun _ => 0))), (q_160, .inl (c_160, 36, .inl (fun _ => 0))), (q_168, .inl (c_168, 10, .inl (fun _ => 0))), (q_176, .inl (c_176, 10, .inl (fun _ => 0))), (q_184, .inl (c_184, 10, .inl (fun _ => 0))), (q_193, .inl (c_193, 160, .inl (fun _ => 0))), (q_201, .inl (c_201, 12, .inl (fun _ => 0))), (q_209, .inl (c_209, 12, .inl (fun _ => 0))), (q_218, .inl (c_218, 144, .inl (fun _ => 0))), (q_230, .inl (c_230, 5, .inl (fun _ => 0))), (q_239, .inl (c_239, 320, .inl (fun _ => 0))), (q_248, .inl (c_248, 161, .inl (fun _ => 0))), (q_257, .inl (c_257, 320, .inl (fun _ => 0))), (q_266, .inl (c_266, 320, .inl (fun _ => 0))), (q_275, .inl (c_275, 320, .inl (fun _ => 0))), (q_282, .inl (c_282, 2, .inl (fun _ => 0))), (q_291, .inl (c_291, 161, .inl (fun _ => 0)))])) rfl ?_
  refine gc_tys (tys' := [(c_7, .int), (c_15, .int), (c_23, .int), (c_31, .int), (c_39, .boolean), (c_47, .int), (c_55, .int), (c_63, .int), (c_71, .int), (c_79, .int), (c_87, .int), (c_95, .int), (c_103, .int), (c_111, .int), (c_120, .int), (c_128, .int), (c_136, .int), (c_144, .int), (c_152, .int), (c_160, .int), (c_168, .int), (c_176, .int), (c_184, .int), (c_193, .int), (c_201, .int), (c_209, .int), (c_218, .int), (c_230, .int), (c_239, .int), (c_248, .int), (c_257, .int), (c_266, .int), (c_275, .int), (c_282, .int), (c_291, .int)]) rfl ?_
  refine gc_num (ce' := 35) (sl' := 4267) rfl rfl ?_
  refine gc_aload_n (i := 0) (pc' := 297) dX12_init_296 rfl rfl rfl ?_
  refine gc_sipush (v := 161) (pc' := 300) dX12_init_297 rfl (by decide) ?_
  refine gc_newF (C := RX12) (T := TX12) (N := 52) (ci := 12) (kf := 46) (ty := .int) (N9 := 161) (a0 := (161, .inl (fun _ => 0))) (pc' := 302) (pc2 := 305) dX12_init_300 rfl ac_int rfl (fun _ => rfl) (by decide) (by decide) (Nat.le_of_ble_eq_true rfl) (Nat.le_of_ble_eq_true rfl) (Nat.le_of_ble_eq_true rfl) inlX12 tyX12 tyX12_ok nmX12 rfl dX12_init_302 rfl fl_X12_120 (by decide) rfl rfl (by decide) rfl (Nat.le_of_ble_eq_true rfl) (fun q_300 c_300 => ?_)
  refine gc_aload_n (i := 0) (pc' := 306) dX12_init_305 rfl rfl rfl ?_
  refine gc_bipush (v := 8) (pc' := 308) dX12_init_306 rfl (by decide) ?_
  refine gc_newF (C := RX12) (T := TX12) (N := 52) (ci := 12) (kf := 47) (ty := .int) (N9 := 8) (a0 := (8, .inl (fun _ => 0))) (pc' := 310) (pc2 := 313) dX12_init_308 rfl ac_int rfl (fun _ => rfl) (by decide) (by decide) (Nat.le_of_ble_eq_true rfl) (Nat.le_of_ble_eq_true rfl) (Nat.le_of_ble_eq_true rfl) inlX12 tyX12 tyX12_ok nmX12 rfl dX12_init_310 rfl fl_X12_123 (by decide) rfl rfl (by decide) rfl (Nat.le_of_ble_eq_true rfl) (fun q_308 c_308 => ?_)
  refine gc_aload_n (i := 0) (pc' := 314) dX12_init_313 rfl rfl rfl ?_
  refine gc_sipush (v := 2048) (pc' := 317) dX12_init_314 rfl (by decide) ?_
  refine gc_newF (C := RX12) (T := TX12) (N := 52) (ci := 12) (kf := 48) (ty := .int) (N9 := 2048) (a0 := (2048, .inl (fun _ => 0))) (pc' := 319) (pc2 := 322) dX12_init_317 rfl ac_int rfl (fun _ => rfl) (by decide) (by decide) (Nat.le_of_ble_eq_true rfl) (Nat.le_of_ble_eq_true rfl) (Nat.le_of_ble_eq_true rfl) inlX12 tyX12 tyX12_ok nmX12 rfl dX12_init_319 rfl fl_X12_126 (by decide) rfl rfl (by decide) rfl (Nat.le_of_ble_eq_true rfl) (fun q_317 c_317 => ?_)
  refine gc_aload_n (i := 0) (pc' := 323) dX12_init_322 rfl rfl rfl ?_
  refine gc_iconst (v := 4) (pc' := 324) dX12_init_323 rfl (by decide) ?_
  refine gc_newF (C := RX12) (T := TX12) (N := 52) (ci := 12) (kf := 50) (ty := .int) (N9 := 4) (a0 := (4, .inl (fun _ => 0))) (pc' := 326) (pc2 := 329) dX12_init_324 rfl ac_int rfl (fun _ => rfl) (by decide) (by decide) (Nat.le_of_ble_eq_true rfl) (Nat.le_of_ble_eq_true rfl) (Nat.le_of_ble_eq_true rfl) inlX12 tyX12 tyX12_ok nmX12 rfl dX12_init_326 rfl fl_X12_129 (by decide) rfl rfl (by decide) rfl (Nat.le_of_ble_eq_true rfl) (fun q_324 c_324 => ?_)
  refine gc_aload_n (i := 0) (pc' := 330) dX12_init_329 rfl rfl rfl ?_
  refine gc_sipush (v := 240) (pc' := 333) dX12_init_330 rfl (by decide) ?_
  refine gc_newF (C := RX12) (T := TX12) (N := 52) (ci := 12) (kf := 51) (ty := .int) (N9 := 240) (a0 := (240, .inl (fun _ => 0))) (pc' := 335) (pc2 := 338) dX12_init_333 rfl ac_int rfl (fun _ => rfl) (by decide) (by decide) (Nat.le_of_ble_eq_true rfl) (Nat.le_of_ble_eq_true rfl) (Nat.le_of_ble_eq_true rfl) inlX12 tyX12 tyX12_ok nmX12 rfl dX12_init_335 rfl fl_X12_132 (by decide) rfl rfl (by decide) rfl (Nat.le_of_ble_eq_true rfl) (fun q_333 c_333 => ?_)
  refine gc_ws (ws' := ([(h0, .inr (12, [.int 0, .int 0, .int 0, .int 0, .int 0, .ref q_7, .ref q_15, .ref q_23, .ref q_31, .ref q_39, .ref q_47, .ref q_55, .ref q_63, .ref q_71, .ref q_79, .ref q_87, .ref q_95, .ref q_103, .ref q_111, .ref q_120, .ref q_128, .ref q_136, .ref q_144, .ref q_152, .ref q_160, .ref q_168, .ref q_176, .ref q_184, .ref q_193, .ref q_201, .ref q_209, .int 0, .ref q_218, .int 0, .int 0, .int (-1), .int 0, .ref q_230, .ref q_239, .ref q_248, .int 0, .ref q_257, .ref q_266, .ref q_275, .ref q_282, .ref q_291, .ref q_300, .ref q_308, .ref q_317, .int 0, .ref q_324, .ref q_333])), (q_7, .inl (c_7, 10, .inl (fun _ => 0))), (q_15, .inl (c_15, 10, .inl (fun _ => 0))), (q_23, .inl (c_23, 10, .inl (fun _ => 0))), (q_31, .inl (c_31, 10, .inl (fun _ => 0))), (q_39, .inl (c_39, 100, .inl (fun _ => 0))), (q_47, .inl (c_47, 12, .inl (fun _ => 0))), (q_55, .inl (c_55, 12, .inl (fun _ => 0))), (q_63, .inl (c_63, 12, .inl (fun _ => 0))), (q_71, .inl (c_71, 12, .inl (fun _ => 0))), (q_79, .inl (c_79, 12, .inl (fun _ => 0))), (q_87, .inl (c_87, 12, .inl (fun _ => 0))), (q_95, .inl (c_95, 12, .inl (fun _ => 0))), (q_103, .inl (c_103, 12, .inl (fun _ => 0))), (q_111, .inl (c_111, 12, .inl (fun _ => 0))), (q_120, .inl (c_120, 1920, .inl (fun _ => 0))), (q_128, .inl (c_128, 20, .inl (fun _ => 0))), (q_136, .inl (c_136, 20, .inl (fun _ => 0))), (q_144, .inl (c_144, 20, .inl (fun _ => 0))), (q_152, .inl (c_152, 36, .inl (fun _ => 0))), (q_160, .inl (c_160, 36, .inl (fun _ => 0))), (q_168, .inl (c_168, 10, .inl (fun _ => 0))), (q_176, .inl (c_176, 10, .inl (fun _ => 0))), (q_184, .inl (c_184, 10, .inl (fun _ => 0))), (q_193, .inl (c_193, 160, .inl (fun _ => 0))), (q_201, .inl (c_201, 12, .inl (fun _ => 0))), (q_209, .inl (c_209, 12, .inl (fun _ => 0))), (q_218, .inl (c_218, 144, .inl (fun _ => 0))), (q_230, .inl (c_230, 5, .inl (fun _ => 0))), (q_239, .inl (c_239, 320, .inl (fun _ => 0))), (q_248, .inl (c_248, 161, .inl (fun _ => 0))), (q_257, .inl (c_257, 320, .inl (fun _ => 0))), (q_266, .inl (c_266, 320, .inl (fun _ => 0))), (q_275, .inl (c_275, 320, .inl (fun _ => 0))), (q_282, .inl (c_282, 2, .inl (fun _ => 0))), (q_291, .inl (c_291, 161, .inl (fun _ => 0))), (q_300, .inl (c_300, 161, .inl (fun _ => 0))), (q_308, .inl (c_308, 8, .inl (fun _ => 0))), (q_317, .inl (c_317, 2048, .inl (fun _ => 0))), (q_324, .inl (c_324, 4, .inl (fun _ => 0))), (q_333, .inl (c_333, 240, .inl (fun _ => 0)))])) rfl ?_
  refine gc_tys (tys' := [(c_7, .int), (c_15, .int), (c_23, .int), (c_31, .int), (c_39, .boolean), (c_47, .int), (c_55, .int), (c_63, .int), (c_71, .int), (c_79, .int), (c_87, .int), (c_95, .int), (c_103, .int), (c_111, .int), (c_120, .int), (c_128, .int), (c_136, .int), (c_144, .int), (c_152, .int), (c_160, .int), (c_168, .int), (c_176, .int), (c_184, .int), (c_193, .int), (c_201, .int), (c_209, .int), (c_218, .int), (c_230, .int), (c_239, .int), (c_248, .int), (c_257, .int), (c_266, .int), (c_275, .int), (c_282, .int), (c_291, .int), (c_300, .int), (c_308, .int), (c_317, .int), (c_324, .int), (c_333, .int)]) rfl ?_
  refine gc_num (ce' := 40) (sl' := 6728) rfl rfl ?_
  refine gc_ws (ws' := wf_X12_init h0 (cs_g ((fun k => [q_7, q_15, q_23, q_31, q_39, q_47, q_55, q_63, q_71, q_79, q_87, q_95, q_103, q_111, q_120, q_128, q_136, q_144, q_152, q_160, q_168, q_176, q_184, q_193, q_201, q_209, q_218, q_230, q_239, q_248, q_257, q_266, q_275, q_282, q_291, q_300, q_308, q_317, q_324, q_333].getD k 0, fun k => [c_7, c_15, c_23, c_31, c_39, c_47, c_55, c_63, c_71, c_79, c_87, c_95, c_103, c_111, c_120, c_128, c_136, c_144, c_152, c_160, c_168, c_176, c_184, c_193, c_201, c_209, c_218, c_230, c_239, c_248, c_257, c_266, c_275, c_282, c_291, c_300, c_308, c_317, c_324, c_333].getD k 0, (fun _ => 0), (fun _ => 0), (fun _ _ => 0)) : CS) (fun _ _ => 0))) rfl ?_
  refine gc_iconst (v := 0) (pc' := 339) dX12_init_338 rfl (by decide) ?_
  refine gc_istore_n (i := 1) (pc' := 340) dX12_init_339 rfl rfl (by decide) ?_
  exact gc_lv (lv' := [(0, .ref h0), (1, .int (nI 0))]) rfl (mR_loop1 ((fun k => [q_7, q_15, q_23, q_31, q_39, q_47, q_55, q_63, q_71, q_79, q_87, q_95, q_103, q_111, q_120, q_128, q_136, q_144, q_152, q_160, q_168, q_176, q_184, q_193, q_201, q_209, q_218, q_230, q_239, q_248, q_257, q_266, q_275, q_282, q_291, q_300, q_308, q_317, q_324, q_333].getD k 0, fun k => [c_7, c_15, c_23, c_31, c_39, c_47, c_55, c_63, c_71, c_79, c_87, c_95, c_103, c_111, c_120, c_128, c_136, c_144, c_152, c_160, c_168, c_176, c_184, c_193, c_201, c_209, c_218, c_230, c_239, c_248, c_257, c_266, c_275, c_282, c_291, c_300, c_308, c_317, c_324, c_333].getD k 0, (fun _ => 0), (fun _ => 0), (fun _ _ => 0)) : CS) 36 0 (by omega) _ (fun j hj => absurd hj (Nat.not_lt_zero j)))

set_option maxHeartbeats 8000000 in
set_option maxRecDepth 100000 in
theorem iR11 (l : Launch) (D : va_G) (h0 : Nat) : CtC l D yX11_init cX11_init 1 rmc_X11_init 94 3909 ex11 h0 11 [.null, .null, .null, .null, .null, .null, .null, .null, .null, .null, .null, .null, .int 0, .int 0] (wfR11 h0) tfR11 := by
  refine ctC_go (own := RX11) (by decide) rfl rfl (Nat.le_of_ble_eq_true rfl) (fun F hF hex => ?_)
  subst hF
  refine gc_aload_n (i := 0) (pc' := 1) dX11_init_0 rfl rfl rfl ?_
  refine gc_objInit (pc' := 4) dX11_init_1 rfl ml_X11_1 (Nat.le_of_ble_eq_true rfl) (Nat.le_of_ble_eq_true rfl) ?_
  refine gc_aload_n (i := 0) (pc' := 5) dX11_init_4 rfl rfl rfl ?_
  refine gc_new (C := RX4) (T := TX4) (N := 6) (ci := 4) (fs := [.null, .null, .null, .null, .null, .int 0]) (pc' := 8) inlX4 tyX4 tyX4_ok rfl dX11_init_5 rfl cl_X11_7 inst_X4 ini_X4 (fun j hj => by rcases (show j = 0 ∨ j = 1 ∨ j = 2 ∨ j = 3 ∨ j = 4 ∨ j = 5 by omega) with rfl | rfl | rfl | rfl | rfl | rfl <;> rfl) (Nat.le_of_ble_eq_true rfl) (Nat.le_of_ble_eq_true rfl) (fun a_1 => ?_)
  refine gc_dup (pc' := 9) dX11_init_8 rfl rfl ?_
  refine gc_ctorN (host := "LetterDrawer") (pc' := 12) (i_X4_init _ _ _) exT_s exT_w trivial (hex.2.2 _ (List.mem_of_getElem? (i := 0) rfl)) im_yX4_init ini_X4 co_yX4_init rfl ⟨by decide +kernel, by decide +kernel, by decide +kernel⟩ ⟨Nat.le_of_ble_eq_true rfl, Nat.le_of_ble_eq_true rfl⟩ ⟨rfl, rfl⟩ (Nat.le_of_ble_eq_true rfl) ⟨Nat.le_of_ble_eq_true rfl, Nat.le_of_ble_eq_true rfl⟩ dX11_init_9 rfl (fun v_1 => ?_)
  refine gc_putF (C := RX11) (T := TX11) (N := 14) (ci := 11) (kf := 0) (q0 := 0) (ty := .object "LetterDrawer$People") (pc' := 15) inlX11 tyX11 tyX11_ok nmX11 rfl dX11_init_12 rfl fl_X11_10 rfl (by decide) rfl rfl (by decide) rfl rfl rfl (Nat.le_of_ble_eq_true rfl) ?_
  refine gc_ws (ws' := (h0, .inr (11, [.ref a_1, .null, .null, .null, .null, .null, .null, .null, .null, .null, .null, .null, .int 0, .int 0])) :: (wf_X4_init a_1 v_1)) rfl ?_
  refine gc_aload_n (i := 0) (pc' := 16) dX11_init_15 rfl rfl rfl ?_
  refine gc_new (C := RX2) (T := TX2) (N := 11) (ci := 2) (fs := [.null, .null, .null, .null, .null, .null, .null, .null, .null, .null, .int 0]) (pc' := 19) inlX2 tyX2 tyX2_ok rfl dX11_init_16 rfl cl_X11_16 inst_X2 ini_X2 (fun j hj => by rcases (show j = 0 ∨ j = 1 ∨ j = 2 ∨ j = 3 ∨ j = 4 ∨ j = 5 ∨ j = 6 ∨ j = 7 ∨ j = 8 ∨ j = 9 ∨ j = 10 by omega) with rfl | rfl | rfl | rfl | rfl | rfl | rfl | rfl | rfl | rfl | rfl <;> rfl) (Nat.le_of_ble_eq_true rfl) (Nat.le_of_ble_eq_true rfl) (fun a_2 => ?_)
  refine gc_dup (pc' := 20) dX11_init_19 rfl rfl ?_
  refine gc_ctorN (host := "LetterDrawer") (pc' := 23) (i_X2_init _ _ _) exA_s exA_w hex.1 (hex.2.2 _ (List.mem_of_getElem? (i := 1) rfl)) im_yX2_init ini_X2 co_yX2_init rfl ⟨by decide +kernel, by decide +kernel, by decide +kernel⟩ ⟨Nat.le_of_ble_eq_true rfl, Nat.le_of_ble_eq_true rfl⟩ ⟨rfl, rfl⟩ (Nat.le_of_ble_eq_true rfl) ⟨Nat.le_of_ble_eq_true rfl, Nat.le_of_ble_eq_true rfl⟩ dX11_init_20 rfl (fun v_2 => ?_)
  refine gc_putF (C := RX11) (T := TX11) (N := 14) (ci := 11) (kf := 1) (q0 := 0) (ty := .object "LetterDrawer$Letters") (pc' := 26) inlX11 tyX11 tyX11_ok nmX11 rfl dX11_init_23 rfl fl_X11_19 rfl (by decide) rfl rfl (by decide) rfl rfl rfl (Nat.le_of_ble_eq_true rfl) ?_
  refine gc_ws (ws' := (h0, .inr (11, [.ref a_1, .ref a_2, .null, .null, .null, .null, .null, .null, .null, .null, .null, .null, .int 0, .int 0])) :: (wf_X4_init a_1 v_1 ++ wf_X2_init a_2 v_2)) rfl ?_
  refine gc_aload_n (i := 0) (pc' := 27) dX11_init_26 rfl rfl rfl ?_
  refine gc_new (C := RX0) (T := TX0) (N := 9) (ci := 0) (fs := [.null, .null, .int 0, .null, .null, .null, .null, .null, .null]) (pc' := 30) inlX0 tyX0 tyX0_ok rfl dX11_init_27 rfl cl_X11_23 inst_X0 ini_X0 (fun j hj => by rcases (show j = 0 ∨ j = 1 ∨ j = 2 ∨ j = 3 ∨ j = 4 ∨ j = 5 ∨ j = 6 ∨ j = 7 ∨ j = 8 by omega) with rfl | rfl | rfl | rfl | rfl | rfl | rfl | rfl | rfl <;> rfl) (Nat.le_of_ble_eq_true rfl) (Nat.le_of_ble_eq_true rfl) (fun a_3 => ?_)
  refine gc_dup (pc' := 31) dX11_init_30 rfl rfl ?_
  refine gc_ctorN (host := "LetterDrawer") (pc' := 34) (i_X0_init _ _ _) exA_s exA_w hex.2.1 (hex.2.2 _ (List.mem_of_getElem? (i := 2) rfl)) im_yX0_init ini_X0 co_yX0_init rfl ⟨by decide +kernel, by decide +kernel, by decide +kernel⟩ ⟨Nat.le_of_ble_eq_true rfl, Nat.le_of_ble_eq_true rfl⟩ ⟨rfl, rfl⟩ (Nat.le_of_ble_eq_true rfl) ⟨Nat.le_of_ble_eq_true rfl, Nat.le_of_ble_eq_true rfl⟩ dX11_init_31 rfl (fun v_3 => ?_)
  refine gc_putF (C := RX11) (T := TX11) (N := 14) (ci := 11) (kf := 2) (q0 := 0) (ty := .object "LetterDrawer$Calendar") (pc' := 37) inlX11 tyX11 tyX11_ok nmX11 rfl dX11_init_34 rfl fl_X11_26 rfl (by decide) rfl rfl (by decide) rfl rfl rfl (Nat.le_of_ble_eq_true rfl) ?_
  refine gc_ws (ws' := (h0, .inr (11, [.ref a_1, .ref a_2, .ref a_3, .null, .null, .null, .null, .null, .null, .null, .null, .null, .int 0, .int 0])) :: (wf_X4_init a_1 v_1 ++ wf_X2_init a_2 v_2 ++ wf_X0_init a_3 v_3)) rfl ?_
  refine gc_aload_n (i := 0) (pc' := 38) dX11_init_37 rfl rfl rfl ?_
  refine gc_new (C := RX5) (T := TX5) (N := 2) (ci := 5) (fs := [.null, .null]) (pc' := 41) inlX5 tyX5 tyX5_ok rfl dX11_init_38 rfl cl_X11_30 inst_X5 ini_X5 (fun j hj => by rcases (show j = 0 ∨ j = 1 by omega) with rfl | rfl <;> rfl) (Nat.le_of_ble_eq_true rfl) (Nat.le_of_ble_eq_true rfl) (fun a_4 => ?_)
  refine gc_dup (pc' := 42) dX11_init_41 rfl rfl ?_
  refine gc_ctor (pc' := 45) (iR5 _ _ _) exA_s exA_w hex.2.1 ml_X11_32 im_yX5_init ini_X5 co_yX5_init rfl ⟨by decide +kernel, by decide +kernel, by decide +kernel⟩ ⟨Nat.le_of_ble_eq_true rfl, Nat.le_of_ble_eq_true rfl⟩ ⟨rfl, rfl⟩ (Nat.le_of_ble_eq_true rfl) ⟨Nat.le_of_ble_eq_true rfl, Nat.le_of_ble_eq_true rfl⟩ dX11_init_42 rfl (fun v_4 => ?_)
  refine gc_putF (C := RX11) (T := TX11) (N := 14) (ci := 11) (kf := 3) (q0 := 0) (ty := .object "LetterDrawer$Posts") (pc' := 48) inlX11 tyX11 tyX11_ok nmX11 rfl dX11_init_45 rfl fl_X11_33 rfl (by decide) rfl rfl (by decide) rfl rfl rfl (Nat.le_of_ble_eq_true rfl) ?_
  refine gc_ws (ws' := (h0, .inr (11, [.ref a_1, .ref a_2, .ref a_3, .ref a_4, .null, .null, .null, .null, .null, .null, .null, .null, .int 0, .int 0])) :: (wf_X4_init a_1 v_1 ++ wf_X2_init a_2 v_2 ++ wf_X0_init a_3 v_3 ++ wf_X5_init a_4 v_4.1)) rfl ?_
  refine gc_aload_n (i := 0) (pc' := 49) dX11_init_48 rfl rfl rfl ?_
  refine gc_new (C := RX1) (T := TX1) (N := 4) (ci := 1) (fs := [.null, .int 0, .null, .null]) (pc' := 52) inlX1 tyX1 tyX1_ok rfl dX11_init_49 rfl cl_X11_37 inst_X1 ini_X1 (fun j hj => by rcases (show j = 0 ∨ j = 1 ∨ j = 2 ∨ j = 3 by omega) with rfl | rfl | rfl | rfl <;> rfl) (Nat.le_of_ble_eq_true rfl) (Nat.le_of_ble_eq_true rfl) (fun a_5 => ?_)
  refine gc_dup (pc' := 53) dX11_init_52 rfl rfl ?_
  refine gc_ctorN (host := "LetterDrawer") (pc' := 56) (i_X1_init _ _ _) exT_s exT_w trivial (hex.2.2 _ (List.mem_of_getElem? (i := 3) rfl)) im_yX1_init ini_X1 co_yX1_init rfl ⟨by decide +kernel, by decide +kernel, by decide +kernel⟩ ⟨Nat.le_of_ble_eq_true rfl, Nat.le_of_ble_eq_true rfl⟩ ⟨rfl, rfl⟩ (Nat.le_of_ble_eq_true rfl) ⟨Nat.le_of_ble_eq_true rfl, Nat.le_of_ble_eq_true rfl⟩ dX11_init_53 rfl (fun v_5 => ?_)
  refine gc_putF (C := RX11) (T := TX11) (N := 14) (ci := 11) (kf := 4) (q0 := 0) (ty := .object "LetterDrawer$Hands") (pc' := 59) inlX11 tyX11 tyX11_ok nmX11 rfl dX11_init_56 rfl fl_X11_40 rfl (by decide) rfl rfl (by decide) rfl rfl rfl (Nat.le_of_ble_eq_true rfl) ?_
  refine gc_ws (ws' := (h0, .inr (11, [.ref a_1, .ref a_2, .ref a_3, .ref a_4, .ref a_5, .null, .null, .null, .null, .null, .null, .null, .int 0, .int 0])) :: (wf_X4_init a_1 v_1 ++ wf_X2_init a_2 v_2 ++ wf_X0_init a_3 v_3 ++ wf_X5_init a_4 v_4.1 ++ wf_X1_init a_5 v_5)) rfl ?_
  refine gc_aload_n (i := 0) (pc' := 60) dX11_init_59 rfl rfl rfl ?_
  refine gc_new (C := RX8) (T := TX8) (N := 2) (ci := 8) (fs := [.null, .int 0]) (pc' := 63) inlX8 tyX8 tyX8_ok rfl dX11_init_60 rfl cl_X11_44 inst_X8 ini_X8 (fun j hj => by rcases (show j = 0 ∨ j = 1 by omega) with rfl | rfl <;> rfl) (Nat.le_of_ble_eq_true rfl) (Nat.le_of_ble_eq_true rfl) (fun a_6 => ?_)
  refine gc_dup (pc' := 64) dX11_init_63 rfl rfl ?_
  refine gc_ctorN (host := "LetterDrawer") (pc' := 67) (i_X8_init _ _ _) exT_s exT_w trivial (hex.2.2 _ (List.mem_of_getElem? (i := 4) rfl)) im_yX8_init ini_X8 co_yX8_init rfl ⟨by decide +kernel, by decide +kernel, by decide +kernel⟩ ⟨Nat.le_of_ble_eq_true rfl, Nat.le_of_ble_eq_true rfl⟩ ⟨rfl, rfl⟩ (Nat.le_of_ble_eq_true rfl) ⟨Nat.le_of_ble_eq_true rfl, Nat.le_of_ble_eq_true rfl⟩ dX11_init_64 rfl (fun v_6 => ?_)
  refine gc_putF (C := RX11) (T := TX11) (N := 14) (ci := 11) (kf := 5) (q0 := 0) (ty := .object "LetterDrawer$Tape") (pc' := 70) inlX11 tyX11 tyX11_ok nmX11 rfl dX11_init_67 rfl fl_X11_47 rfl (by decide) rfl rfl (by decide) rfl rfl rfl (Nat.le_of_ble_eq_true rfl) ?_
  refine gc_ws (ws' := (h0, .inr (11, [.ref a_1, .ref a_2, .ref a_3, .ref a_4, .ref a_5, .ref a_6, .null, .null, .null, .null, .null, .null, .int 0, .int 0])) :: (wf_X4_init a_1 v_1 ++ wf_X2_init a_2 v_2 ++ wf_X0_init a_3 v_3 ++ wf_X5_init a_4 v_4.1 ++ wf_X1_init a_5 v_5 ++ wf_X8_init a_6 v_6)) rfl ?_
  refine gc_aload_n (i := 0) (pc' := 71) dX11_init_70 rfl rfl rfl ?_
  refine gc_new (C := RX3) (T := TX3) (N := 8) (ci := 3) (fs := [.int 0, .int 0, .int 0, .int 0, .int 0, .null, .int 0, .int 0]) (pc' := 74) inlX3 tyX3 tyX3_ok rfl dX11_init_71 rfl cl_X11_51 inst_X3 ini_X3 (fun j hj => by rcases (show j = 0 ∨ j = 1 ∨ j = 2 ∨ j = 3 ∨ j = 4 ∨ j = 5 ∨ j = 6 ∨ j = 7 by omega) with rfl | rfl | rfl | rfl | rfl | rfl | rfl | rfl <;> rfl) (Nat.le_of_ble_eq_true rfl) (Nat.le_of_ble_eq_true rfl) (fun a_7 => ?_)
  refine gc_dup (pc' := 75) dX11_init_74 rfl rfl ?_
  refine gc_ctorN (host := "LetterDrawer") (pc' := 78) (i_X3_init _ _ _) exT_s exT_w trivial (hex.2.2 _ (List.mem_of_getElem? (i := 5) rfl)) im_yX3_init ini_X3 co_yX3_init rfl ⟨by decide +kernel, by decide +kernel, by decide +kernel⟩ ⟨Nat.le_of_ble_eq_true rfl, Nat.le_of_ble_eq_true rfl⟩ ⟨rfl, rfl⟩ (Nat.le_of_ble_eq_true rfl) ⟨Nat.le_of_ble_eq_true rfl, Nat.le_of_ble_eq_true rfl⟩ dX11_init_75 rfl (fun v_7 => ?_)
  refine gc_putF (C := RX11) (T := TX11) (N := 14) (ci := 11) (kf := 6) (q0 := 0) (ty := .object "LetterDrawer$MarkReader") (pc' := 81) inlX11 tyX11 tyX11_ok nmX11 rfl dX11_init_78 rfl fl_X11_54 rfl (by decide) rfl rfl (by decide) rfl rfl rfl (Nat.le_of_ble_eq_true rfl) ?_
  refine gc_ws (ws' := (h0, .inr (11, [.ref a_1, .ref a_2, .ref a_3, .ref a_4, .ref a_5, .ref a_6, .ref a_7, .null, .null, .null, .null, .null, .int 0, .int 0])) :: (wf_X4_init a_1 v_1 ++ wf_X2_init a_2 v_2 ++ wf_X0_init a_3 v_3 ++ wf_X5_init a_4 v_4.1 ++ wf_X1_init a_5 v_5 ++ wf_X8_init a_6 v_6 ++ wf_X3_init a_7 v_7)) rfl ?_
  refine gc_aload_n (i := 0) (pc' := 82) dX11_init_81 rfl rfl rfl ?_
  refine gc_new (C := RX6) (T := TX6) (N := 2) (ci := 6) (fs := [.null, .int 0]) (pc' := 85) inlX6 tyX6 tyX6_ok rfl dX11_init_82 rfl cl_X11_58 inst_X6 ini_X6 (fun j hj => by rcases (show j = 0 ∨ j = 1 by omega) with rfl | rfl <;> rfl) (Nat.le_of_ble_eq_true rfl) (Nat.le_of_ble_eq_true rfl) (fun a_8 => ?_)
  refine gc_dup (pc' := 86) dX11_init_85 rfl rfl ?_
  refine gc_ctorN (host := "LetterDrawer") (pc' := 89) (i_X6_init _ _ _) exT_s exT_w trivial (hex.2.2 _ (List.mem_of_getElem? (i := 6) rfl)) im_yX6_init ini_X6 co_yX6_init rfl ⟨by decide +kernel, by decide +kernel, by decide +kernel⟩ ⟨Nat.le_of_ble_eq_true rfl, Nat.le_of_ble_eq_true rfl⟩ ⟨rfl, rfl⟩ (Nat.le_of_ble_eq_true rfl) ⟨Nat.le_of_ble_eq_true rfl, Nat.le_of_ble_eq_true rfl⟩ dX11_init_86 rfl (fun v_8 => ?_)
  refine gc_putF (C := RX11) (T := TX11) (N := 14) (ci := 11) (kf := 7) (q0 := 0) (ty := .object "LetterDrawer$Printer") (pc' := 92) inlX11 tyX11 tyX11_ok nmX11 rfl dX11_init_89 rfl fl_X11_61 rfl (by decide) rfl rfl (by decide) rfl rfl rfl (Nat.le_of_ble_eq_true rfl) ?_
  refine gc_ws (ws' := (h0, .inr (11, [.ref a_1, .ref a_2, .ref a_3, .ref a_4, .ref a_5, .ref a_6, .ref a_7, .ref a_8, .null, .null, .null, .null, .int 0, .int 0])) :: (wf_X4_init a_1 v_1 ++ wf_X2_init a_2 v_2 ++ wf_X0_init a_3 v_3 ++ wf_X5_init a_4 v_4.1 ++ wf_X1_init a_5 v_5 ++ wf_X8_init a_6 v_6 ++ wf_X3_init a_7 v_7 ++ wf_X6_init a_8 v_8)) rfl ?_
  refine gc_aload_n (i := 0) (pc' := 93) dX11_init_92 rfl rfl rfl ?_
  refine gc_new (C := RX10) (T := TX10) (N := 5) (ci := 10) (fs := [.int 0, .null, .null, .null, .null]) (pc' := 96) inlX10 tyX10 tyX10_ok rfl dX11_init_93 rfl cl_X11_65 inst_X10 ini_X10 (fun j hj => by rcases (show j = 0 ∨ j = 1 ∨ j = 2 ∨ j = 3 ∨ j = 4 by omega) with rfl | rfl | rfl | rfl | rfl <;> rfl) (Nat.le_of_ble_eq_true rfl) (Nat.le_of_ble_eq_true rfl) (fun a_9 => ?_)
  refine gc_dup (pc' := 97) dX11_init_96 rfl rfl ?_
  refine gc_ctorN (host := "LetterDrawer") (pc' := 100) (i_X10_init _ _ _) exT_s exT_w trivial (hex.2.2 _ (List.mem_of_getElem? (i := 7) rfl)) im_yX10_init ini_X10 co_yX10_init rfl ⟨by decide +kernel, by decide +kernel, by decide +kernel⟩ ⟨Nat.le_of_ble_eq_true rfl, Nat.le_of_ble_eq_true rfl⟩ ⟨rfl, rfl⟩ (Nat.le_of_ble_eq_true rfl) ⟨Nat.le_of_ble_eq_true rfl, Nat.le_of_ble_eq_true rfl⟩ dX11_init_97 rfl (fun v_9 => ?_)
  refine gc_putF (C := RX11) (T := TX11) (N := 14) (ci := 11) (kf := 8) (q0 := 0) (ty := .object "LetterDrawer$WordRow") (pc' := 103) inlX11 tyX11 tyX11_ok nmX11 rfl dX11_init_100 rfl fl_X11_68 rfl (by decide) rfl rfl (by decide) rfl rfl rfl (Nat.le_of_ble_eq_true rfl) ?_
  refine gc_ws (ws' := (h0, .inr (11, [.ref a_1, .ref a_2, .ref a_3, .ref a_4, .ref a_5, .ref a_6, .ref a_7, .ref a_8, .ref a_9, .null, .null, .null, .int 0, .int 0])) :: (wf_X4_init a_1 v_1 ++ wf_X2_init a_2 v_2 ++ wf_X0_init a_3 v_3 ++ wf_X5_init a_4 v_4.1 ++ wf_X1_init a_5 v_5 ++ wf_X8_init a_6 v_6 ++ wf_X3_init a_7 v_7 ++ wf_X6_init a_8 v_8 ++ wf_X10_init a_9 v_9)) rfl ?_
  refine gc_aload_n (i := 0) (pc' := 104) dX11_init_103 rfl rfl rfl ?_
  refine gc_new (C := RX10) (T := TX10) (N := 5) (ci := 10) (fs := [.int 0, .null, .null, .null, .null]) (pc' := 107) inlX10 tyX10 tyX10_ok rfl dX11_init_104 rfl cl_X11_65 inst_X10 ini_X10 (fun j hj => by rcases (show j = 0 ∨ j = 1 ∨ j = 2 ∨ j = 3 ∨ j = 4 by omega) with rfl | rfl | rfl | rfl | rfl <;> rfl) (Nat.le_of_ble_eq_true rfl) (Nat.le_of_ble_eq_true rfl) (fun a_10 => ?_)
  refine gc_dup (pc' := 108) dX11_init_107 rfl rfl ?_
  refine gc_ctorN (host := "LetterDrawer") (pc' := 111) (i_X10_init _ _ _) exT_s exT_w trivial (hex.2.2 _ (List.mem_of_getElem? (i := 7) rfl)) im_yX10_init ini_X10 co_yX10_init rfl ⟨by decide +kernel, by decide +kernel, by decide +kernel⟩ ⟨Nat.le_of_ble_eq_true rfl, Nat.le_of_ble_eq_true rfl⟩ ⟨rfl, rfl⟩ (Nat.le_of_ble_eq_true rfl) ⟨Nat.le_of_ble_eq_true rfl, Nat.le_of_ble_eq_true rfl⟩ dX11_init_108 rfl (fun v_10 => ?_)
  refine gc_putF (C := RX11) (T := TX11) (N := 14) (ci := 11) (kf := 9) (q0 := 0) (ty := .object "LetterDrawer$WordRow") (pc' := 114) inlX11 tyX11 tyX11_ok nmX11 rfl dX11_init_111 rfl fl_X11_72 rfl (by decide) rfl rfl (by decide) rfl rfl rfl (Nat.le_of_ble_eq_true rfl) ?_
  refine gc_ws (ws' := (h0, .inr (11, [.ref a_1, .ref a_2, .ref a_3, .ref a_4, .ref a_5, .ref a_6, .ref a_7, .ref a_8, .ref a_9, .ref a_10, .null, .null, .int 0, .int 0])) :: (wf_X4_init a_1 v_1 ++ wf_X2_init a_2 v_2 ++ wf_X0_init a_3 v_3 ++ wf_X5_init a_4 v_4.1 ++ wf_X1_init a_5 v_5 ++ wf_X8_init a_6 v_6 ++ wf_X3_init a_7 v_7 ++ wf_X6_init a_8 v_8 ++ wf_X10_init a_9 v_9 ++ wf_X10_init a_10 v_10)) rfl ?_
  refine gc_aload_n (i := 0) (pc' := 115) dX11_init_114 rfl rfl rfl ?_
  refine gc_new (C := RX7) (T := TX7) (N := 3) (ci := 7) (fs := [.null, .int 0, .int 0]) (pc' := 118) inlX7 tyX7 tyX7_ok rfl dX11_init_115 rfl cl_X11_75 inst_X7 ini_X7 (fun j hj => by rcases (show j = 0 ∨ j = 1 ∨ j = 2 by omega) with rfl | rfl | rfl <;> rfl) (Nat.le_of_ble_eq_true rfl) (Nat.le_of_ble_eq_true rfl) (fun a_11 => ?_)
  refine gc_dup (pc' := 119) dX11_init_118 rfl rfl ?_
  refine gc_ctorN (host := "LetterDrawer") (pc' := 122) (i_X7_init _ _ _) exT_s exT_w trivial (hex.2.2 _ (List.mem_of_getElem? (i := 8) rfl)) im_yX7_init ini_X7 co_yX7_init rfl ⟨by decide +kernel, by decide +kernel, by decide +kernel⟩ ⟨Nat.le_of_ble_eq_true rfl, Nat.le_of_ble_eq_true rfl⟩ ⟨rfl, rfl⟩ (Nat.le_of_ble_eq_true rfl) ⟨Nat.le_of_ble_eq_true rfl, Nat.le_of_ble_eq_true rfl⟩ dX11_init_119 rfl (fun v_11 => ?_)
  refine gc_putF (C := RX11) (T := TX11) (N := 14) (ci := 11) (kf := 10) (q0 := 0) (ty := .object "LetterDrawer$Sequence") (pc' := 125) inlX11 tyX11 tyX11_ok nmX11 rfl dX11_init_122 rfl fl_X11_78 rfl (by decide) rfl rfl (by decide) rfl rfl rfl (Nat.le_of_ble_eq_true rfl) ?_
  refine gc_ws (ws' := (h0, .inr (11, [.ref a_1, .ref a_2, .ref a_3, .ref a_4, .ref a_5, .ref a_6, .ref a_7, .ref a_8, .ref a_9, .ref a_10, .ref a_11, .null, .int 0, .int 0])) :: (wf_X4_init a_1 v_1 ++ wf_X2_init a_2 v_2 ++ wf_X0_init a_3 v_3 ++ wf_X5_init a_4 v_4.1 ++ wf_X1_init a_5 v_5 ++ wf_X8_init a_6 v_6 ++ wf_X3_init a_7 v_7 ++ wf_X6_init a_8 v_8 ++ wf_X10_init a_9 v_9 ++ wf_X10_init a_10 v_10 ++ wf_X7_init a_11 v_11)) rfl ?_
  refine gc_aload_n (i := 0) (pc' := 126) dX11_init_125 rfl rfl rfl ?_
  refine gc_new (C := RX9) (T := TX9) (N := 2) (ci := 9) (fs := [.null, .null]) (pc' := 129) inlX9 tyX9 tyX9_ok rfl dX11_init_126 rfl cl_X11_82 inst_X9 ini_X9 (fun j hj => by rcases (show j = 0 ∨ j = 1 by omega) with rfl | rfl <;> rfl) (Nat.le_of_ble_eq_true rfl) (Nat.le_of_ble_eq_true rfl) (fun a_12 => ?_)
  refine gc_dup (pc' := 130) dX11_init_129 rfl rfl ?_
  refine gc_ctorN (host := "LetterDrawer") (pc' := 133) (i_X9_init _ _ _) exA_s exA_w hex.1 (hex.2.2 _ (List.mem_of_getElem? (i := 9) rfl)) im_yX9_init ini_X9 co_yX9_init rfl ⟨by decide +kernel, by decide +kernel, by decide +kernel⟩ ⟨Nat.le_of_ble_eq_true rfl, Nat.le_of_ble_eq_true rfl⟩ ⟨rfl, rfl⟩ (Nat.le_of_ble_eq_true rfl) ⟨Nat.le_of_ble_eq_true rfl, Nat.le_of_ble_eq_true rfl⟩ dX11_init_130 rfl (fun v_12 => ?_)
  refine gc_putF (C := RX11) (T := TX11) (N := 14) (ci := 11) (kf := 11) (q0 := 0) (ty := .object "LetterDrawer$Trays") (pc' := 136) inlX11 tyX11 tyX11_ok nmX11 rfl dX11_init_133 rfl fl_X11_85 rfl (by decide) rfl rfl (by decide) rfl rfl rfl (Nat.le_of_ble_eq_true rfl) ?_
  refine gc_ws (ws' := (h0, .inr (11, [.ref a_1, .ref a_2, .ref a_3, .ref a_4, .ref a_5, .ref a_6, .ref a_7, .ref a_8, .ref a_9, .ref a_10, .ref a_11, .ref a_12, .int 0, .int 0])) :: (wf_X4_init a_1 v_1 ++ wf_X2_init a_2 v_2 ++ wf_X0_init a_3 v_3 ++ wf_X5_init a_4 v_4.1 ++ wf_X1_init a_5 v_5 ++ wf_X8_init a_6 v_6 ++ wf_X3_init a_7 v_7 ++ wf_X6_init a_8 v_8 ++ wf_X10_init a_9 v_9 ++ wf_X10_init a_10 v_10 ++ wf_X7_init a_11 v_11 ++ wf_X9_init a_12 v_12)) rfl ?_
  refine gc_aload_n (i := 0) (pc' := 137) dX11_init_136 rfl rfl rfl ?_
  refine gc_iconst (v := 0) (pc' := 138) dX11_init_137 rfl (by decide) ?_
  refine gc_put0 (C := RX11) (T := TX11) (N := 14) (ci := 11) (kf := 12) (ty := .int) (pc' := 141) inlX11 tyX11 tyX11_ok nmX11 rfl dX11_init_138 rfl fl_X11_89 (by decide) rfl rfl rfl rfl (Nat.le_of_ble_eq_true rfl) ?_
  refine gc_aload_n (i := 0) (pc' := 142) dX11_init_141 rfl rfl rfl ?_
  refine gc_iconst (v := -1) (pc' := 143) dX11_init_142 rfl (by decide) ?_
  refine gc_put0 (C := RX11) (T := TX11) (N := 14) (ci := 11) (kf := 13) (ty := .int) (pc' := 146) inlX11 tyX11 tyX11_ok nmX11 rfl dX11_init_143 rfl fl_X11_93 (by decide) rfl rfl rfl rfl (Nat.le_of_ble_eq_true rfl) ?_
  exact gc_vret (⟨((fun k => [0, a_1, a_2, a_3, a_4, a_5, a_6, a_7, a_8, a_9, a_10, a_11, a_12].getD k 0, fun k => [v_1, v_1, v_2, v_3, v_4.1, v_5, v_6, v_7, v_8, v_9, v_10, v_11, v_12].getD k v_1) : (Nat → Nat) × (Nat → CS)), v_4.2⟩ : U11) dX11_init_146 rfl rfl ⟨List.range 47, rfl⟩ rfl rfl

