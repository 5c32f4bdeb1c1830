theorem gz_imulr {F : FX} {L : WL} {own : String} {cc : ByteArray} {nL : Nat} {R : Room} {ret : Option FieldType} {Q : State → Prop} {σ : ST} {pc pc' : Nat} {lv : List (Nat × Value)} {st : List Value} {n : Int} {x y : Int32} (hdg : decode cc pc = .ok (.imul, 1)) (hp : pc + 1 = pc') (hy : y.toInt = n) (h1 : -2147483648 ≤ x.toInt * n ∧ x.toInt * n < 2147483648) (k : ∀ v : Int32, v = x * y → v.toInt = x.toInt * n → Go F L own cc nL R ret Q σ pc' lv (.int v :: st)) : Go F L own cc nL R ret Q σ pc lv (.int y :: .int x :: st) := go_imul hdg hp (k _ rfl ((i32_mul (by rw [hy]; exact h1.1) (by rw [hy]; exact h1.2)).trans (by rw [hy])))
theorem i32_divp {x y : Int32} (h : 0 ≤ x.toInt) (h2 : 0 < y.toInt) : (x / y).toInt = x.toInt / y.toInt := by
  have g := Int32.toInt_lt x
  rw [Int32.toInt_div, Int.tdiv_eq_ediv_of_nonneg h]
  have a := Int.ediv_nonneg h (Int.le_of_lt h2)
  have b := Int.ediv_le_self y.toInt h
  exact Int.bmod_eq_of_le (by omega) (by omega)
/-- only the reference's print has changed -/
abbrev spI (i : Nat) : Prop := i = 29
abbrev spA (k : Nat) : Prop := k = 124
def WXp (σ σ2 : ST) : Prop := IV σ2 ∧ Ag spI spA σ σ2
theorem WXp_rfl {σ : ST} (h : IV σ) : WXp σ σ := ⟨h, Ag_rfl σ⟩
theorem WXp_trans {σ σ2 σ3 : ST} (h : WXp σ σ2) (h2 : WXp σ2 σ3) : WXp σ σ3 := ⟨h2.1, Ag_trans h.2 h2.2⟩
theorem WM_of_p {σ σ2 : ST} (h : WXp σ σ2) : WM σ σ2 := ⟨h.1, ⟨fun i hi => h.2.1 i (fun q => hi (by rw [q]; decide)), fun k hk => h.2.2 k (fun q => hk (by rw [q]; decide))⟩⟩
/-- the row in which a text is printed: its n bytes, then noughts -/
def ROWs (T : Nat → Int) (n : Nat) (S : Nat → Int32) : Prop := ∀ j : Nat, j ≤ 160 → (S j).toInt = if j < n then T j else 0
theorem upd_step {P : Nat → Int32 → Prop} {S S2 : Nat → Int32} {x v w : Int32} (h : ∀ j : Nat, (j : Int) < x.toInt → P j (S j)) (e : S2 = upd S x.toNatClampNeg w) (hx : P x.toNatClampNeg w) (hv : v.toInt = x.toInt + 1) (h0 : 0 ≤ x.toInt) : ∀ j : Nat, (j : Int) < v.toInt → P j (S2 j) := fun j hj => by
  have c := cnat h0
  rw [e]
  by_cases q : j = x.toNatClampNeg
  · rw [q, show upd S x.toNatClampNeg w x.toNatClampNeg = w from if_pos rfl]
    exact hx
  · rw [show upd S x.toNatClampNeg w j = S j from if_neg q]
    exact h j (by omega)
theorem tk_at {t : Nat → Int} {n p p2 d d2 : Nat} (h : ∃ f stk, tk t n f p d stk = -1) (e1 : p2 = p) (e2 : d2 = d) : ∃ f stk, tk t n f p2 d2 stk = -1 := by
  rw [e1, e2]
  exact h
/-- what stands behind the head of a mark of a text without a fault -/
def MKo (t : Nat → Int) (n p d : Nat) : Prop := d ≠ 4 ∧ p + 1 < n ∧ sortP (t (p + 1)) ∧ ((t (p + 1) = 110 ∧ 1 ≤ dcnt t n 4 (p + 2) ∧ p + 2 + dcnt t n 4 (p + 2) < n ∧ t (p + 2 + dcnt t n 4 (p + 2)) = 125 ∧ ∃ f2 stk2, tk t n f2 (p + 3 + dcnt t n 4 (p + 2)) d stk2 = -1) ∨ (t (p + 1) = 115 ∧ 1 ≤ dcnt t n 4 (p + 2) ∧ p + 2 + dcnt t n 4 (p + 2) < n ∧ t (p + 2 + dcnt t n 4 (p + 2)) = 58 ∧ ∃ f2 stk2, tk t n f2 (p + 3 + dcnt t n 4 (p + 2)) (d + 1) stk2 = -1) ∨ (t (p + 1) ≠ 110 ∧ t (p + 1) ≠ 115 ∧ ∃ f2 stk2, tk t n f2 (p + 2) (d + 1) stk2 = -1))
theorem tk_cl {t : Nat → Int} {n p d : Nat} (h : ∃ f stk, tk t n f p d stk = -1) (hp : p < n) (c : t p = 125) : 0 < d ∧ ∃ f2 stk2, tk t n f2 (p + 1) (d - 1) stk2 = -1 := by
  obtain ⟨f, stk, h⟩ := h
  rcases tk_inv h hp with q | q | q
  · exact ⟨q.2.1, q.2.2⟩
  · exact absurd c q.1
  · exact absurd (q.1.symm.trans c) (by decide)
theorem tk_pl {t : Nat → Int} {n p d : Nat} (h : ∃ f stk, tk t n f p d stk = -1) (hp : p < n) (c : t p ≠ 125) (c2 : t p ≠ 123) : ∃ f2 stk2, tk t n f2 (p + 1) d stk2 = -1 := by
  obtain ⟨f, stk, h⟩ := h
  rcases tk_inv h hp with q | q | q
  · exact absurd q.1 c
  · exact q.2.2.2
  · exact absurd q.1 c2
theorem tk_mk {t : Nat → Int} {n p d : Nat} (h : ∃ f stk, tk t n f p d stk = -1) (hp : p < n) (c : t p = 123) : MKo t n p d := by
  obtain ⟨f, stk, h⟩ := h
  rcases tk_inv h hp with q | q | q
  · exact absurd (q.1.symm.trans c) (by decide)
  · exact absurd c q.2.1
  · exact q.2
theorem dg_stop {t : Nat → Int} {n i A : Nat} {x : Int} (r : x = t A) (c : ¬ digP x) (h1 : i ≤ A) (h2 : A ≤ i + dcnt t n 4 i) : A = i + dcnt t n 4 i := by
  by_cases z : A < i + dcnt t n 4 i
  · exfalso
    have q := (dcnt_dig (t := t) (n := n) (k := 4) (i := i) (j := A - i) (by omega)).2
    rw [show i + (A - i) = A by omega, ← r] at q
    exact c q
  · omega
theorem dg_more {t : Nat → Int} {n i A : Nat} {x : Int} (r : x = t A) (c : digP x) (h : ¬ digP (t (i + dcnt t n 4 i))) (h1 : i ≤ A) (h2 : A ≤ i + dcnt t n 4 i) : A < i + dcnt t n 4 i := by
  by_cases z : A < i + dcnt t n 4 i
  · exact z
  · exfalso
    have e : A = i + dcnt t n 4 i := by omega
    exact h (by rw [← e, ← r]; exact c)
theorem mk_note {t : Nat → Int} {n p d : Nat} (tm : MKo t n p d) (c : t (p + 1) = 110) : 1 ≤ dcnt t n 4 (p + 2) ∧ ∃ f2 stk2, tk t n f2 (p + 3 + dcnt t n 4 (p + 2)) d stk2 = -1 := by
  rcases tm.2.2.2 with z | z | z
  · exact ⟨z.2.1, z.2.2.2.2⟩
  · exact absurd (z.1.symm.trans c) (by decide)
  · exact absurd c z.1
theorem mk_s {t : Nat → Int} {n p d : Nat} (tm : MKo t n p d) (c : t (p + 1) = 115) : 1 ≤ dcnt t n 4 (p + 2) ∧ ∃ f2 stk2, tk t n f2 (p + 3 + dcnt t n 4 (p + 2)) (d + 1) stk2 = -1 := by
  rcases tm.2.2.2 with z | z | z
  · exact absurd (z.1.symm.trans c) (by decide)
  · exact ⟨z.2.1, z.2.2.2.2⟩
  · exact absurd c z.2.1
theorem mk_o {t : Nat → Int} {n p d : Nat} (tm : MKo t n p d) (c : t (p + 1) ≠ 110) (c2 : t (p + 1) ≠ 115) : ∃ f2 stk2, tk t n f2 (p + 2) (d + 1) stk2 = -1 := by
  rcases tm.2.2.2 with z | z | z
  · exact absurd z.1 c
  · exact absurd z.1 c2
  · exact z.2.2
/-- behind the head of a mark stands something that is no digit, by its fifth place at the latest -/
theorem nd_of {t : Nat → Int} {n p d : Nat} {S : Nat → Int32} (hr : ROWs t n S) (hn : n ≤ 160) (tm : MKo t n p d) : ∃ j : Nat, j ≤ 4 ∧ p + 2 + j ≤ 160 ∧ ¬ digP (S (p + 2 + j)).toInt := by
  obtain ⟨-, h1, -, q⟩ := tm
  have hd := dcnt_le t n 4 (p + 2)
  rcases q with ⟨-, -, q2, q3, -⟩ | ⟨-, -, q2, q3, -⟩ | ⟨-, -, f2, s2, q⟩
  · refine ⟨_, hd, by omega, ?_⟩
    rw [hr _ (by omega), if_pos q2, q3]
    decide
  · refine ⟨_, hd, by omega, ?_⟩
    rw [hr _ (by omega), if_pos q2, q3]
    decide
  · refine ⟨0, by omega, by omega, ?_⟩
    rw [hr _ (by omega)]
    by_cases z : p + 2 + 0 < n
    · rw [if_pos z]
      rcases tk_inv q (by omega) with ⟨c, -⟩ | ⟨-, -, c, -⟩ | ⟨c, -⟩
      · rw [show p + 2 + 0 = p + 2 by omega]
        omega
      · rw [show p + 2 + 0 = p + 2 by omega]
        omega
      · rw [show p + 2 + 0 = p + 2 by omega]
        omega
    · rw [if_neg z]
      decide
set_option maxHeartbeats 4000000 in
set_option maxRecDepth 100000 in
theorem c_numberAt_119 (l : Launch) (L : WL) (σ : ST) (f : Int32) (hf : 0 ≤ f.toInt ∧ f.toInt ≤ 162) (ix : IV σ) : CtI l L yX12_numberAt cX12_numberAt 4 (some .int) rm_X12_numberAt [.ref (L.2.1 119), .int f] σ (fun _ σ2 => σ2 = σ) := by
  refine ctI_go (own := RX12) (by decide) rfl (Nat.le_of_ble_eq_true rfl) (fun F hF => ?_)
  subst hF
  have n0 : (0 : Int32).toInt = 0 := by decide
  have n10 : (10 : Int32).toInt = 10 := by decide
  have n48 : (48 : Int32).toInt = 48 := by decide
  have n160 : (160 : Int32).toInt = 160 := by decide
  have w0 : WM σ σ := WM_rfl ix
  refine go_iconst (v := 0) (pc' := 1) dX12_numberAt_0 rfl (by decide) ?_
  refine go_istore_n (i := 2) (pc' := 2) dX12_numberAt_1 rfl rfl (by decide) ?_
  refine go_iload_n (i := 1) (pc' := 3) dX12_numberAt_2 rfl rfl rfl ?_
  refine go_istore_n (i := 3) (pc' := 4) dX12_numberAt_3 rfl rfl (by decide) ?_
  have loop4_1 : ∀ (dd1 : Nat) (x2_1 : Int32) (x3_1 : Int32), (0 ≤ (x3_1).toInt ∧ (x3_1).toInt ≤ 162) → (163 - (x3_1).toInt).toNat = dd1 → Go F L RX12 cX12_numberAt 4 rm_X12_numberAt (some .int) (RI F L (fun _ σ2 => σ2 = σ)) σ 4 [(0, .ref (L.2.1 119)), (1, .int f), (2, .int x2_1), (3, .int x3_1)] [] := by
    intro dd1
    induction dd1 using Nat.strongRecOn with
    | _ dd1 ih1 =>
      intro x2_1 x3_1 h_1 hm_1
      refine go_iload_n (i := 3) (pc' := 5) dX12_numberAt_4 rfl rfl rfl ?_
      refine go_aload_n (i := 0) (pc' := 6) dX12_numberAt_5 rfl rfl rfl ?_
      refine go_alen (v := 160) (pc' := 7) dX12_numberAt_6 rfl (by decide) (by decide) rfl ?_
      refine gz_icmp_ge (tgt := 37) (pc' := 10) dX12_numberAt_7 rfl (by decide) (fun c2 => ?_) (fun c2 => ?_)
      · refine go_iload_n (i := 2) (pc' := 38) dX12_numberAt_37 rfl rfl rfl ?_
        exact go_iret dX12_numberAt_38 rfl (rfl)
      refine go_aload_n (i := 0) (pc' := 11) dX12_numberAt_10 rfl rfl rfl ?_
      refine go_iload_n (i := 3) (pc' := 12) dX12_numberAt_11 rfl rfl rfl ?_
      refine go_iald (pc' := 13) dX12_numberAt_12 rfl (by decide) (by decide) rfl (vin_of (n := 160) (by omega) (by omega)) ?_
      have g3 := ixa_119 ix (x3_1).toNatClampNeg (vinlt (vin_of (n := 160) (by omega) (by omega)))
      refine go_csi (pc' := 16) ls_X12_221 (c_X12_isDigit _ _ _ _) rfl rfl (Nat.le_of_ble_eq_true rfl) ⟨Nat.le_of_ble_eq_true rfl, Nat.le_of_ble_eq_true rfl⟩ ⟨rfl, rfl⟩ dX12_numberAt_13 rfl (fun r4 σ4 h4 => ?_)
      obtain ⟨e4, h4⟩ := h4
      have e4 := e4.symm
      subst e4
      refine go_eqB (tgt := 37) (pc' := 19) h4 dX12_numberAt_16 rfl (by decide) (fun c5 => ?_) (fun c5 => ?_)
      · refine go_iload_n (i := 2) (pc' := 38) dX12_numberAt_37 rfl rfl rfl ?_
        exact go_iret dX12_numberAt_38 rfl (rfl)
      refine go_bipush (v := 10) (pc' := 21) dX12_numberAt_19 rfl (by decide) ?_
      refine go_iload_n (i := 2) (pc' := 22) dX12_numberAt_21 rfl rfl rfl ?_
      refine go_imul (pc' := 23) dX12_numberAt_22 rfl ?_
      refine go_aload_n (i := 0) (pc' := 24) dX12_numberAt_23 rfl rfl rfl ?_
      refine go_iload_n (i := 3) (pc' := 25) dX12_numberAt_24 rfl rfl rfl ?_
      refine go_iald (pc' := 26) dX12_numberAt_25 rfl (by decide) (by decide) rfl (vin_of (n := 160) (by omega) (by omega)) ?_
      have g6 := ixa_119 ix (x3_1).toNatClampNeg (vinlt (vin_of (n := 160) (by omega) (by omega)))
      refine go_iadd (pc' := 27) dX12_numberAt_26 rfl ?_
      refine go_bipush (v := 48) (pc' := 29) dX12_numberAt_27 rfl (by decide) ?_
      refine go_isub (pc' := 30) dX12_numberAt_29 rfl ?_
      refine go_topz (fun y7 h7 e7 => ?_)
      refine go_istore_n (i := 2) (pc' := 31) dX12_numberAt_30 rfl rfl (by decide) ?_
      refine gz_iinc (c := 1) (pc' := 34) dX12_numberAt_31 rfl rfl (by decide) (by decide) (by decide) (by omega) (fun v8 h8 e8 => ?_)
      refine go_goto (tgt := 4) dX12_numberAt_34 (by decide) ?_
      exact go_lv (lv' := [(0, .ref (L.2.1 119)), (1, .int f), (2, .int y7), (3, .int v8)]) rfl (ih1 _ (by omega)  y7 v8 (by omega) rfl)
  exact go_lv (lv' := [(0, .ref (L.2.1 119)), (1, .int f), (2, .int (0 : Int32)), (3, .int f)]) rfl (loop4_1 _  (0 : Int32) f (by omega) rfl)
set_option maxHeartbeats 4000000 in
set_option maxRecDepth 100000 in
theorem c_numberAt_125 (l : Launch) (L : WL) (σ : ST) (f : Int32) (hf : 0 ≤ f.toInt ∧ f.toInt ≤ 160) (j : Nat) (hj : j ≤ 4) (hj2 : f.toNatClampNeg + j ≤ 160) (hj3 : ¬ digP (σ.2 125 (f.toNatClampNeg + j)).toInt) (ix : IV σ) : CtI l L yX12_numberAt cX12_numberAt 4 (some .int) rm_X12_numberAt [.ref (L.2.1 125), .int f] σ (fun r σ2 => σ2 = σ ∧ (0 ≤ r.toInt ∧ r.toInt ≤ 9999)) := by
  refine ctI_go (own := RX12) (by decide) rfl (Nat.le_of_ble_eq_true rfl) (fun F hF => ?_)
  subst hF
  have n0 : (0 : Int32).toInt = 0 := by decide
  have n10 : (10 : Int32).toInt = 10 := by decide
  have n48 : (48 : Int32).toInt = 48 := by decide
  have n161 : (161 : Int32).toInt = 161 := by decide
  have w0 : WM σ σ := WM_rfl ix
  have cf := cnat (x := f) (by omega)
  refine go_iconst (v := 0) (pc' := 1) dX12_numberAt_0 rfl (by decide) ?_
  refine go_istore_n (i := 2) (pc' := 2) dX12_numberAt_1 rfl rfl (by decide) ?_
  refine go_iload_n (i := 1) (pc' := 3) dX12_numberAt_2 rfl rfl rfl ?_
  refine go_istore_n (i := 3) (pc' := 4) dX12_numberAt_3 rfl rfl (by decide) ?_
  have loop4_1 : ∀ (dd1 : Nat) (x2_1 : Int32) (x3_1 : Int32), (f.toInt ≤ (x3_1).toInt ∧ (x3_1).toInt ≤ f.toInt + j) → (((x3_1).toInt = f.toInt ∧ (x2_1).toInt = 0) ∨ ((x3_1).toInt = f.toInt + 1 ∧ 0 ≤ (x2_1).toInt ∧ (x2_1).toInt ≤ 9) ∨ ((x3_1).toInt = f.toInt + 2 ∧ 0 ≤ (x2_1).toInt ∧ (x2_1).toInt ≤ 99) ∨ ((x3_1).toInt = f.toInt + 3 ∧ 0 ≤ (x2_1).toInt ∧ (x2_1).toInt ≤ 999) ∨ ((x3_1).toInt = f.toInt + 4 ∧ 0 ≤ (x2_1).toInt ∧ (x2_1).toInt ≤ 9999)) → (163 - (x3_1).toInt).toNat = dd1 → Go F L RX12 cX12_numberAt 4 rm_X12_numberAt (some .int) (RI F L (fun r σ2 => σ2 = σ ∧ (0 ≤ r.toInt ∧ r.toInt ≤ 9999))) σ 4 [(0, .ref (L.2.1 125)), (1, .int f), (2, .int x2_1), (3, .int x3_1)] [] := by
    intro dd1
    induction dd1 using Nat.strongRecOn with
    | _ dd1 ih1 =>
      intro x2_1 x3_1 h_1 hv_1 hm_1
      refine go_iload_n (i := 3) (pc' := 5) dX12_numberAt_4 rfl rfl rfl ?_
      refine go_aload_n (i := 0) (pc' := 6) dX12_numberAt_5 rfl rfl rfl ?_
      refine go_alen (v := 161) (pc' := 7) dX12_numberAt_6 rfl (by decide) (by decide) rfl ?_
      refine gz_icmp_ge (tgt := 37) (pc' := 10) dX12_numberAt_7 rfl (by decide) (fun c2 => ?_) (fun c2 => ?_)
      · refine go_iload_n (i := 2) (pc' := 38) dX12_numberAt_37 rfl rfl rfl ?_
        exact go_iret dX12_numberAt_38 rfl (⟨rfl, by omega⟩)
      refine go_aload_n (i := 0) (pc' := 11) dX12_numberAt_10 rfl rfl rfl ?_
      refine go_iload_n (i := 3) (pc' := 12) dX12_numberAt_11 rfl rfl rfl ?_
      refine go_iald (pc' := 13) dX12_numberAt_12 rfl (by decide) (by decide) rfl (vin_of (n := 161) (by omega) (by omega)) ?_
      refine go_csi (pc' := 16) ls_X12_221 (c_X12_isDigit _ _ _ _) rfl rfl (Nat.le_of_ble_eq_true rfl) ⟨Nat.le_of_ble_eq_true rfl, Nat.le_of_ble_eq_true rfl⟩ ⟨rfl, rfl⟩ dX12_numberAt_13 rfl (fun r3 σ3 h3 => ?_)
      obtain ⟨e3, h3⟩ := h3
      have e3 := e3.symm
      subst e3
      refine go_eqB (tgt := 37) (pc' := 19) h3 dX12_numberAt_16 rfl (by decide) (fun c4 => ?_) (fun c4 => ?_)
      · refine go_iload_n (i := 2) (pc' := 38) dX12_numberAt_37 rfl rfl rfl ?_
        exact go_iret dX12_numberAt_38 rfl (⟨rfl, by omega⟩)
      have lt : (x3_1).toInt < f.toInt + j := by
        by_cases z : (x3_1).toInt < f.toInt + j
        · exact z
        · exfalso
          have c3 := cnat (x := x3_1) (by omega)
          have e3 : (x3_1).toNatClampNeg = f.toNatClampNeg + j := by omega
          exact hj3 (by rw [← e3]; exact c4)
      refine go_bipush (v := 10) (pc' := 21) dX12_numberAt_19 rfl (by decide) ?_
      refine go_iload_n (i := 2) (pc' := 22) dX12_numberAt_21 rfl rfl rfl ?_
      refine gz_imulc (n := 10) (pc' := 23) dX12_numberAt_22 rfl (by decide) (by omega) (fun v5 h5 e5 => ?_)
      refine go_aload_n (i := 0) (pc' := 24) dX12_numberAt_23 rfl rfl rfl ?_
      refine go_iload_n (i := 3) (pc' := 25) dX12_numberAt_24 rfl rfl rfl ?_
      refine go_iald (pc' := 26) dX12_numberAt_25 rfl (by decide) (by decide) rfl (vin_of (n := 161) (by omega) (by omega)) ?_
      refine gz_iadd (pc' := 27) dX12_numberAt_26 rfl (by omega) (fun v6 h6 e6 => ?_)
      refine go_bipush (v := 48) (pc' := 29) dX12_numberAt_27 rfl (by decide) ?_
      refine gz_isub (pc' := 30) dX12_numberAt_29 rfl (by omega) (fun v7 h7 e7 => ?_)
      refine go_istore_n (i := 2) (pc' := 31) dX12_numberAt_30 rfl rfl (by decide) ?_
      refine gz_iinc (c := 1) (pc' := 34) dX12_numberAt_31 rfl rfl (by decide) (by decide) (by decide) (by omega) (fun v8 h8 e8 => ?_)
      refine go_goto (tgt := 4) dX12_numberAt_34 (by decide) ?_
      exact go_lv (lv' := [(0, .ref (L.2.1 125)), (1, .int f), (2, .int v7), (3, .int v8)]) rfl (ih1 _ (by omega)  v7 v8 (by omega) (by omega) rfl)
  exact go_lv (lv' := [(0, .ref (L.2.1 125)), (1, .int f), (2, .int (0 : Int32)), (3, .int f)]) rfl (loop4_1 _  (0 : Int32) f (by omega) (by omega) rfl)
set_option maxHeartbeats 4000000 in
set_option maxRecDepth 100000 in
theorem c_X12_puts (l : Launch) (L : WL) (σ : ST) (b : Int32) (hs : (σ.1 29).toInt < 320) (ix : IV σ) : CtV l L yX12_puts cX12_puts 2 none rm_X12_puts [.ref (L.2.1 13), .int b] σ (fun σ2 => WXp σ σ2 ∧ (σ2.1 29).toInt = (σ.1 29).toInt + 1) := by
  refine ctV_go (own := RX12) (by decide) rfl (Nat.le_of_ble_eq_true rfl) (fun F hF => ?_)
  subst hF
  have n1 : (1 : Int32).toInt = 1 := by decide
  have w0 : WXp σ σ := WXp_rfl ix
  refine go_aload_n (i := 0) (pc' := 1) dX12_puts_0 rfl rfl rfl ?_
  refine gf_13_print (pc' := 4) dX12_puts_1 rfl fl_X12_99 ?_
  refine go_aload_n (i := 0) (pc' := 5) dX12_puts_4 rfl rfl rfl ?_
  refine gf_13_printMany (pc' := 8) dX12_puts_5 rfl fl_X12_247 ?_
  have g1 := ixi_29 w0.1
  refine go_iload_n (i := 1) (pc' := 9) dX12_puts_8 rfl rfl rfl ?_
  refine go_iast (pc' := 10) dX12_puts_9 rfl (by decide) (by decide) rfl (vin_of (n := 320) (by omega) (by omega)) ?_
  refine go_gen (P := fun s => WXp σ s ∧ s.1 29 = σ.1 29) ⟨⟨ixt_n w0.1 (by decide), Ag_setA w0.2 (by decide)⟩, rfl⟩ (fun σ2 z2 => ?_)
  obtain ⟨w2, g2⟩ := z2
  have q2 := congrArg Int32.toInt g2
  refine go_aload_n (i := 0) (pc' := 11) dX12_puts_10 rfl rfl rfl ?_
  refine go_dup (pc' := 12) dX12_puts_11 rfl rfl ?_
  refine gf_13_printMany (pc' := 15) dX12_puts_12 rfl fl_X12_247 ?_
  have g3 := ixi_29 w2.1
  refine go_iconst (v := 1) (pc' := 16) dX12_puts_15 rfl (by decide) ?_
  refine gz_iadd (pc' := 17) dX12_puts_16 rfl (by omega) (fun v4 h4 e4 => ?_)
  refine pf_13_printMany (pc' := 20) dX12_puts_17 rfl fl_X12_247 ?_
  refine go_gen (P := fun s => WXp σ s ∧ s.1 29 = v4) ⟨⟨ixs_29 w2.1 (by omega) (by omega), Ag_setI w2.2 (by decide)⟩, setI_same _ _ _⟩ (fun σ5 z5 => ?_)
  obtain ⟨w5, g5⟩ := z5
  have q5 := congrArg Int32.toInt g5
  exact go_vret dX12_puts_20 rfl (⟨w5, by omega⟩)
set_option maxHeartbeats 4000000 in
set_option maxRecDepth 100000 in
theorem c_X12_number (l : Launch) (L : WL) (σ : ST) (b : Int32) (hb : 0 ≤ b.toInt ∧ b.toInt ≤ 9999) (hs : (σ.1 29).toInt < 317) (ix : IV σ) : CtV l L yX12_number cX12_number 4 none rm_X12_number [.ref (L.2.1 13), .int b] σ (fun σ2 => WXp σ σ2 ∧ (σ2.1 29).toInt ≤ (σ.1 29).toInt + 4) := by
  refine ctV_go (own := RX12) (by decide) rfl (Nat.le_of_ble_eq_true rfl) (fun F hF => ?_)
  subst hF
  have n1 : (1 : Int32).toInt = 1 := by decide
  have n9 : (9 : Int32).toInt = 9 := by decide
  have n10 : (10 : Int32).toInt = 10 := by decide
  have n48 : (48 : Int32).toInt = 48 := by decide
  have w0 : WXp σ σ := WXp_rfl ix
  refine go_iconst (v := 1) (pc' := 1) dX12_number_0 rfl (by decide) ?_
  refine go_istore_n (i := 2) (pc' := 2) dX12_number_1 rfl rfl (by decide) ?_
  have loop2_1 : ∀ (dd1 : Nat) (x2_1 : Int32), (1 ≤ (x2_1).toInt ∧ (x2_1).toInt ≤ 9999) → (10000 - (x2_1).toInt).toNat = dd1 → Go F L RX12 cX12_number 4 rm_X12_number none (RV F L (fun σ2 => WXp σ σ2 ∧ (σ2.1 29).toInt ≤ (σ.1 29).toInt + 4)) σ 2 [(0, .ref (L.2.1 13)), (1, .int b), (2, .int x2_1)] [] := by
    intro dd1
    induction dd1 using Nat.strongRecOn with
    | _ dd1 ih1 =>
      intro x2_1 h_1 hm_1
      refine go_iload_n (i := 1) (pc' := 3) dX12_number_2 rfl rfl rfl ?_
      refine go_iload_n (i := 2) (pc' := 4) dX12_number_3 rfl rfl rfl ?_
      refine go_idiv (pc' := 5) dX12_number_4 rfl (ne0 (by omega)) ?_
      have q5 := i32_divp (x := b) (y := x2_1) (by omega) (by omega)
      refine go_bipush (v := 9) (pc' := 7) dX12_number_5 rfl (by decide) ?_
      refine gz_icmp_le (tgt := 18) (pc' := 10) dX12_number_7 rfl (by decide) (fun c2 => ?_) (fun c2 => ?_)
      · refine go_iload_n (i := 2) (pc' := 19) dX12_number_18 rfl rfl rfl ?_
        refine go_istore_n (i := 3) (pc' := 20) dX12_number_19 rfl rfl (by decide) ?_
        have loop20_3 : ∀ (dd3 : Nat) (σ3 : ST) (x3_3 : Int32), WXp σ σ3 → ((((x3_3).toInt = 0 ∧ ((σ3.1 29).toInt - (σ.1 29).toInt) ≤ 4) ∨ (1 ≤ (x3_3).toInt ∧ (x3_3).toInt ≤ 9 ∧ ((σ3.1 29).toInt - (σ.1 29).toInt) ≤ 3) ∨ (10 ≤ (x3_3).toInt ∧ (x3_3).toInt ≤ 99 ∧ ((σ3.1 29).toInt - (σ.1 29).toInt) ≤ 2) ∨ (100 ≤ (x3_3).toInt ∧ (x3_3).toInt ≤ 999 ∧ ((σ3.1 29).toInt - (σ.1 29).toInt) ≤ 1) ∨ (1000 ≤ (x3_3).toInt ∧ (x3_3).toInt ≤ 9999 ∧ ((σ3.1 29).toInt - (σ.1 29).toInt) ≤ 0))) → (x3_3).toInt.toNat = dd3 → Go F L RX12 cX12_number 4 rm_X12_number none (RV F L (fun σ2 => WXp σ σ2 ∧ (σ2.1 29).toInt ≤ (σ.1 29).toInt + 4)) σ3 20 [(0, .ref (L.2.1 13)), (1, .int b), (2, .int x2_1), (3, .int x3_3)] [] := by
          intro dd3
          induction dd3 using Nat.strongRecOn with
          | _ dd3 ih3 =>
            intro σ3 x3_3 w3 h_3 hm_3
            refine go_iload_n (i := 3) (pc' := 21) dX12_number_20 rfl rfl rfl ?_
            refine gz_if_le (tgt := 45) (pc' := 24) dX12_number_21 rfl (by decide) (fun c4 => ?_) (fun c4 => ?_)
            · exact go_vret dX12_number_45 rfl (⟨w3, by omega⟩)
            refine go_aload_n (i := 0) (pc' := 25) dX12_number_24 rfl rfl rfl ?_
            refine go_bipush (v := 48) (pc' := 27) dX12_number_25 rfl (by decide) ?_
            refine go_iload_n (i := 1) (pc' := 28) dX12_number_27 rfl rfl rfl ?_
            refine go_iload_n (i := 3) (pc' := 29) dX12_number_28 rfl rfl rfl ?_
            refine go_idiv (pc' := 30) dX12_number_29 rfl (ne0 (by omega)) ?_
            refine go_bipush (v := 10) (pc' := 32) dX12_number_30 rfl (by decide) ?_
            refine go_irem (pc' := 33) dX12_number_32 rfl (by decide) ?_
            refine go_iadd (pc' := 34) dX12_number_33 rfl ?_
            refine go_cvv (pc' := 37) lk_X12_250 (c_X12_puts _ _ _ _ (by omega) w3.1) rfl rfl (Nat.le_of_ble_eq_true rfl) (by decide) rfl rfl rfl ⟨Nat.le_of_ble_eq_true rfl, Nat.le_of_ble_eq_true rfl⟩ ⟨rfl, rfl⟩ dX12_number_34 rfl (fun σ5 h5 => ?_)
            obtain ⟨u5, h5⟩ := h5
            have w5 := WXp_trans w3 u5
            refine go_iload_n (i := 3) (pc' := 38) dX12_number_37 rfl rfl rfl ?_
            refine go_bipush (v := 10) (pc' := 40) dX12_number_38 rfl (by decide) ?_
            refine go_idiv (pc' := 41) dX12_number_40 rfl (by decide) ?_
            have q41 := i32_div10 x3_3 (by omega)
            refine go_topz (fun y6 h6 e6 => ?_)
            refine go_istore_n (i := 3) (pc' := 42) dX12_number_41 rfl rfl (by decide) ?_
            refine go_goto (tgt := 20) dX12_number_42 (by decide) ?_
            exact go_lv (lv' := [(0, .ref (L.2.1 13)), (1, .int b), (2, .int x2_1), (3, .int y6)]) rfl (ih3 _ (by omega) σ5 y6 w5 (by omega) rfl)
        exact go_lv (lv' := [(0, .ref (L.2.1 13)), (1, .int b), (2, .int x2_1), (3, .int x2_1)]) rfl (loop20_3 _ σ x2_1 w0 (by omega) rfl)
      have q10 : 10 * (x2_1).toInt ≤ b.toInt := by
        have z : 10 ≤ b.toInt / (x2_1).toInt := by omega
        exact (Int.le_ediv_iff_mul_le (by omega)).mp z
      refine go_iload_n (i := 2) (pc' := 11) dX12_number_10 rfl rfl rfl ?_
      refine go_bipush (v := 10) (pc' := 13) dX12_number_11 rfl (by decide) ?_
      refine gz_imulr (n := 10) (pc' := 14) dX12_number_13 rfl (by decide) (by omega) (fun v7 h7 e7 => ?_)
      refine go_istore_n (i := 2) (pc' := 15) dX12_number_14 rfl rfl (by decide) ?_
      refine go_goto (tgt := 2) dX12_number_15 (by decide) ?_
      exact go_lv (lv' := [(0, .ref (L.2.1 13)), (1, .int b), (2, .int v7)]) rfl (ih1 _ (by omega)  v7 (by omega) rfl)
  exact go_lv (lv' := [(0, .ref (L.2.1 13)), (1, .int b), (2, .int (1 : Int32))]) rfl (loop2_1 _  (1 : Int32) (by omega) rfl)
set_option maxHeartbeats 4000000 in
set_option maxRecDepth 100000 in
theorem c_X12_opens (l : Launch) (L : WL) (σ : ST) (b : Int32) (hs : (σ.1 29).toInt < 320) (ix : IV σ) : CtV l L yX12_opens cX12_opens 2 none rm_X12_opens [.ref (L.2.1 13), .int b] σ (fun σ2 => WXp σ σ2 ∧ (σ2.1 29).toInt ≤ (σ.1 29).toInt + 1) := by
  refine ctV_go (own := RX12) (by decide) rfl (Nat.le_of_ble_eq_true rfl) (fun F hF => ?_)
  subst hF
  have n39 : (39 : Int32).toInt = 39 := by decide
  have n47 : (47 : Int32).toInt = 47 := by decide
  have n60 : (60 : Int32).toInt = 60 := by decide
  have n91 : (91 : Int32).toInt = 91 := by decide
  have n97 : (97 : Int32).toInt = 97 := by decide
  have n100 : (100 : Int32).toInt = 100 := by decide
  have n115 : (115 : Int32).toInt = 115 := by decide
  have n117 : (117 : Int32).toInt = 117 := by decide
  have w0 : WXp σ σ := WXp_rfl ix
  refine go_iload_n (i := 1) (pc' := 1) dX12_opens_0 rfl rfl rfl ?_
  refine go_bipush (v := 115) (pc' := 3) dX12_opens_1 rfl (by decide) ?_
  refine gz_icmp_eq (tgt := 45) (pc' := 6) dX12_opens_3 rfl (by decide) (fun c1 => ?_) (fun c1 => ?_)
  · exact go_vret dX12_opens_45 rfl (⟨w0, by omega⟩)
  refine go_aload_n (i := 0) (pc' := 7) dX12_opens_6 rfl rfl rfl ?_
  refine go_iload_n (i := 1) (pc' := 8) dX12_opens_7 rfl rfl rfl ?_
  refine go_bipush (v := 100) (pc' := 10) dX12_opens_8 rfl (by decide) ?_
  refine gz_icmp_ne (tgt := 18) (pc' := 13) dX12_opens_10 rfl (by decide) (fun c2 => ?_) (fun c2 => ?_)
  · refine go_iload_n (i := 1) (pc' := 19) dX12_opens_18 rfl rfl rfl ?_
    refine go_bipush (v := 97) (pc' := 21) dX12_opens_19 rfl (by decide) ?_
    refine gz_icmp_ne (tgt := 29) (pc' := 24) dX12_opens_21 rfl (by decide) (fun c3 => ?_) (fun c3 => ?_)
    · refine go_iload_n (i := 1) (pc' := 30) dX12_opens_29 rfl rfl rfl ?_
      refine go_bipush (v := 117) (pc' := 32) dX12_opens_30 rfl (by decide) ?_
      refine gz_icmp_ne (tgt := 40) (pc' := 35) dX12_opens_32 rfl (by decide) (fun c4 => ?_) (fun c4 => ?_)
      · refine go_bipush (v := 39) (pc' := 42) dX12_opens_40 rfl (by decide) ?_
        refine go_cvv (pc' := 45) lk_X12_250 (c_X12_puts _ _ _ _ (by omega) w0.1) rfl rfl (Nat.le_of_ble_eq_true rfl) (by decide) rfl rfl rfl ⟨Nat.le_of_ble_eq_true rfl, Nat.le_of_ble_eq_true rfl⟩ ⟨rfl, rfl⟩ dX12_opens_42 rfl (fun σ5 h5 => ?_)
        obtain ⟨u5, h5⟩ := h5
        have w5 := WXp_trans w0 u5
        exact go_vret dX12_opens_45 rfl (⟨w5, by omega⟩)
      refine go_bipush (v := 91) (pc' := 37) dX12_opens_35 rfl (by decide) ?_
      refine go_goto (tgt := 42) dX12_opens_37 (by decide) ?_
      refine go_cvv (pc' := 45) lk_X12_250 (c_X12_puts _ _ _ _ (by omega) w0.1) rfl rfl (Nat.le_of_ble_eq_true rfl) (by decide) rfl rfl rfl ⟨Nat.le_of_ble_eq_true rfl, Nat.le_of_ble_eq_true rfl⟩ ⟨rfl, rfl⟩ dX12_opens_42 rfl (fun σ6 h6 => ?_)
      obtain ⟨u6, h6⟩ := h6
      have w6 := WXp_trans w0 u6
      exact go_vret dX12_opens_45 rfl (⟨w6, by omega⟩)
    refine go_bipush (v := 47) (pc' := 26) dX12_opens_24 rfl (by decide) ?_
    refine go_goto (tgt := 42) dX12_opens_26 (by decide) ?_
    refine go_cvv (pc' := 45) lk_X12_250 (c_X12_puts _ _ _ _ (by omega) w0.1) rfl rfl (Nat.le_of_ble_eq_true rfl) (by decide) rfl rfl rfl ⟨Nat.le_of_ble_eq_true rfl, Nat.le_of_ble_eq_true rfl⟩ ⟨rfl, rfl⟩ dX12_opens_42 rfl (fun σ7 h7 => ?_)
    obtain ⟨u7, h7⟩ := h7
    have w7 := WXp_trans w0 u7
    exact go_vret dX12_opens_45 rfl (⟨w7, by omega⟩)
  refine go_bipush (v := 60) (pc' := 15) dX12_opens_13 rfl (by decide) ?_
  refine go_goto (tgt := 42) dX12_opens_15 (by decide) ?_
  refine go_cvv (pc' := 45) lk_X12_250 (c_X12_puts _ _ _ _ (by omega) w0.1) rfl rfl (Nat.le_of_ble_eq_true rfl) (by decide) rfl rfl rfl ⟨Nat.le_of_ble_eq_true rfl, Nat.le_of_ble_eq_true rfl⟩ ⟨rfl, rfl⟩ dX12_opens_42 rfl (fun σ8 h8 => ?_)
  obtain ⟨u8, h8⟩ := h8
  have w8 := WXp_trans w0 u8
  exact go_vret dX12_opens_45 rfl (⟨w8, by omega⟩)
set_option maxHeartbeats 4000000 in
set_option maxRecDepth 100000 in
theorem c_X12_closes (l : Launch) (L : WL) (σ : ST) (b : Int32) (hs : (σ.1 29).toInt < 320) (ix : IV σ) : CtV l L yX12_closes cX12_closes 2 none rm_X12_closes [.ref (L.2.1 13), .int b] σ (fun σ2 => WXp σ σ2 ∧ (σ2.1 29).toInt ≤ (σ.1 29).toInt + 1) := by
  refine ctV_go (own := RX12) (by decide) rfl (Nat.le_of_ble_eq_true rfl) (fun F hF => ?_)
  subst hF
  have n39 : (39 : Int32).toInt = 39 := by decide
  have n47 : (47 : Int32).toInt = 47 := by decide
  have n62 : (62 : Int32).toInt = 62 := by decide
  have n93 : (93 : Int32).toInt = 93 := by decide
  have n97 : (97 : Int32).toInt = 97 := by decide
  have n100 : (100 : Int32).toInt = 100 := by decide
  have n115 : (115 : Int32).toInt = 115 := by decide
  have n117 : (117 : Int32).toInt = 117 := by decide
  have w0 : WXp σ σ := WXp_rfl ix
  refine go_iload_n (i := 1) (pc' := 1) dX12_closes_0 rfl rfl rfl ?_
  refine go_bipush (v := 115) (pc' := 3) dX12_closes_1 rfl (by decide) ?_
  refine gz_icmp_eq (tgt := 45) (pc' := 6) dX12_closes_3 rfl (by decide) (fun c1 => ?_) (fun c1 => ?_)
  · exact go_vret dX12_closes_45 rfl (⟨w0, by omega⟩)
  refine go_aload_n (i := 0) (pc' := 7) dX12_closes_6 rfl rfl rfl ?_
  refine go_iload_n (i := 1) (pc' := 8) dX12_closes_7 rfl rfl rfl ?_
  refine go_bipush (v := 100) (pc' := 10) dX12_closes_8 rfl (by decide) ?_
  refine gz_icmp_ne (tgt := 18) (pc' := 13) dX12_closes_10 rfl (by decide) (fun c2 => ?_) (fun c2 => ?_)
  · refine go_iload_n (i := 1) (pc' := 19) dX12_closes_18 rfl rfl rfl ?_
    refine go_bipush (v := 97) (pc' := 21) dX12_closes_19 rfl (by decide) ?_
    refine gz_icmp_ne (tgt := 29) (pc' := 24) dX12_closes_21 rfl (by decide) (fun c3 => ?_) (fun c3 => ?_)
    · refine go_iload_n (i := 1) (pc' := 30) dX12_closes_29 rfl rfl rfl ?_
      refine go_bipush (v := 117) (pc' := 32) dX12_closes_30 rfl (by decide) ?_
      refine gz_icmp_ne (tgt := 40) (pc' := 35) dX12_closes_32 rfl (by decide) (fun c4 => ?_) (fun c4 => ?_)
      · refine go_bipush (v := 39) (pc' := 42) dX12_closes_40 rfl (by decide) ?_
        refine go_cvv (pc' := 45) lk_X12_250 (c_X12_puts _ _ _ _ (by omega) w0.1) rfl rfl (Nat.le_of_ble_eq_true rfl) (by decide) rfl rfl rfl ⟨Nat.le_of_ble_eq_true rfl, Nat.le_of_ble_eq_true rfl⟩ ⟨rfl, rfl⟩ dX12_closes_42 rfl (fun σ5 h5 => ?_)
        obtain ⟨u5, h5⟩ := h5
        have w5 := WXp_trans w0 u5
        exact go_vret dX12_closes_45 rfl (⟨w5, by omega⟩)
      refine go_bipush (v := 93) (pc' := 37) dX12_closes_35 rfl (by decide) ?_
      refine go_goto (tgt := 42) dX12_closes_37 (by decide) ?_
      refine go_cvv (pc' := 45) lk_X12_250 (c_X12_puts _ _ _ _ (by omega) w0.1) rfl rfl (Nat.le_of_ble_eq_true rfl) (by decide) rfl rfl rfl ⟨Nat.le_of_ble_eq_true rfl, Nat.le_of_ble_eq_true rfl⟩ ⟨rfl, rfl⟩ dX12_closes_42 rfl (fun σ6 h6 => ?_)
      obtain ⟨u6, h6⟩ := h6
      have w6 := WXp_trans w0 u6
      exact go_vret dX12_closes_45 rfl (⟨w6, by omega⟩)
    refine go_bipush (v := 47) (pc' := 26) dX12_closes_24 rfl (by decide) ?_
    refine go_goto (tgt := 42) dX12_closes_26 (by decide) ?_
    refine go_cvv (pc' := 45) lk_X12_250 (c_X12_puts _ _ _ _ (by omega) w0.1) rfl rfl (Nat.le_of_ble_eq_true rfl) (by decide) rfl rfl rfl ⟨Nat.le_of_ble_eq_true rfl, Nat.le_of_ble_eq_true rfl⟩ ⟨rfl, rfl⟩ dX12_closes_42 rfl (fun σ7 h7 => ?_)
    obtain ⟨u7, h7⟩ := h7
    have w7 := WXp_trans w0 u7
    exact go_vret dX12_closes_45 rfl (⟨w7, by omega⟩)
  refine go_bipush (v := 62) (pc' := 15) dX12_closes_13 rfl (by decide) ?_
  refine go_goto (tgt := 42) dX12_closes_15 (by decide) ?_
  refine go_cvv (pc' := 45) lk_X12_250 (c_X12_puts _ _ _ _ (by omega) w0.1) rfl rfl (Nat.le_of_ble_eq_true rfl) (by decide) rfl rfl rfl ⟨Nat.le_of_ble_eq_true rfl, Nat.le_of_ble_eq_true rfl⟩ ⟨rfl, rfl⟩ dX12_closes_42 rfl (fun σ8 h8 => ?_)
  obtain ⟨u8, h8⟩ := h8
  have w8 := WXp_trans w0 u8
  exact go_vret dX12_closes_45 rfl (⟨w8, by omega⟩)
set_option maxHeartbeats 4000000 in
set_option maxRecDepth 100000 in
theorem seg_cl {F : FX} {L : WL} {Q : State → Prop} {σ σc : ST} {T : Nat → Int} {N : Nat} {a d y y2 p x5 x6 : Int32} (w0 : WM σ σc) (hr : ROWs T N (σc.2 125)) (hN : y2.toInt = (N : Int)) (hN2 : N ≤ 160) (hpp : 0 ≤ p.toInt) (hpm : (σc.1 29).toInt ≤ 2 * p.toInt ∧ (y.toInt = 0 → (σc.1 29).toInt ≤ p.toInt)) (h6 : x6 = p) (hlt : p.toInt < (N : Int)) (hd : 0 < (σc.1 28).toNatClampNeg) (hh : ∃ f2 stk2, tk T N f2 (p.toNatClampNeg + 1) ((σc.1 28).toNatClampNeg - 1) stk2 = -1) (K : ∀ (σx : ST) (x5 : Int32) (x6 : Int32), (WM σ σx) → (0 ≤ x6.toInt ∧ x6.toInt ≤ y2.toInt) → (ROWs T N (σx.2 125)) → (∃ f stk, tk T N f x6.toNatClampNeg (σx.1 28).toNatClampNeg stk = -1) → ((σx.1 29).toInt ≤ 2 * x6.toInt ∧ (y.toInt = 0 → (σx.1 29).toInt ≤ x6.toInt)) → (p.toInt < x6.toInt) → Go F L RX12 cX12_prints 10 rm_X12_prints none Q σx 72 [(0, .ref (L.2.1 13)), (1, .int a), (2, .int d), (3, .int y), (4, .int y2), (5, .int x5), (6, .int x6)] []) : Go F L RX12 cX12_prints 10 rm_X12_prints none Q σc 95 [(0, .ref (L.2.1 13)), (1, .int a), (2, .int d), (3, .int y), (4, .int y2), (5, .int x5), (6, .int x6)] [] := by
  have n0 : (0 : Int32).toInt = 0 := by decide
  have n1 : (1 : Int32).toInt = 1 := by decide
  have gR : σc.2 125 = σc.2 125 := rfl
  have ud := ixi_28 w0.1
  have cd := cnat (x := σc.1 28) (by omega)
  subst h6
  have c6 := cnat (x := x6) (by omega)
  refine go_aload_n (i := 0) (pc' := 96) dX12_prints_95 rfl rfl rfl ?_
  refine go_dup (pc' := 97) dX12_prints_96 rfl rfl ?_
  refine gf_13_opened (pc' := 100) dX12_prints_97 rfl fl_X12_218 ?_
  have g1 := ixi_28 w0.1
  refine go_iconst (v := 1) (pc' := 101) dX12_prints_100 rfl (by decide) ?_
  refine gz_isub (pc' := 102) dX12_prints_101 rfl (by omega) (fun v2 h2 e2 => ?_)
  refine pf_13_opened (pc' := 105) dX12_prints_102 rfl fl_X12_218 ?_
  refine go_gen (P := fun s => WM σ s ∧ s.2 125 = σc.2 125 ∧ s.1 29 = σc.1 29 ∧ s.1 28 = v2) ⟨⟨ixs_28 w0.1 (by omega) (by omega), Ag_setI w0.2 (by decide)⟩, ⟨rfl, rfl, setI_same _ _ _⟩⟩ (fun σ3 z3 => ?_)
  obtain ⟨w3, g3⟩ := z3
  have gO := g3
  have gR := gO.1.trans gR
  have gq3 := congrArg Int32.toInt gO.2.1
  have gd3 := congrArg Int32.toInt gO.2.2
  refine go_iload (pc' := 107) dX12_prints_105 rfl rfl ?_
  refine go_aload_n (i := 0) (pc' := 108) dX12_prints_107 rfl rfl rfl ?_
  refine gf_13_opened (pc' := 111) dX12_prints_108 rfl fl_X12_218 ?_
  have g4 := ixi_28 w3.1
  refine gz_icmp_le (tgt := 120) (pc' := 114) dX12_prints_111 rfl (by decide) (fun c5 => ?_) (fun c5 => ?_)
  · refine go_iload (pc' := 122) dX12_prints_120 rfl rfl ?_
    refine gz_if_ne (tgt := 143) (pc' := 125) dX12_prints_122 rfl (by decide) (fun c6 => ?_) (fun c6 => ?_)
    · refine gz_iinc (c := 1) (pc' := 146) dX12_prints_143 rfl rfl (by decide) (by decide) (by decide) (by omega) (fun v7 h7 e7 => ?_)
      refine go_goto (tgt := 72) dX12_prints_146 (by decide) ?_
      exact go_lv (lv' := [(0, .ref (L.2.1 13)), (1, .int a), (2, .int d), (3, .int y), (4, .int y2), (5, .int x5), (6, .int v7)]) rfl (K σ3 x5 v7 w3 (by omega) (by rw [gR]; exact hr) (by have cv := cnat (x := v7) (by omega); have ud := ixi_28 w3.1; have cd2 := cnat (x := σ3.1 28) (by omega); exact tk_at hh (by omega) (by omega)) (by omega) (by omega))
    refine go_iload_n (i := 3) (pc' := 126) dX12_prints_125 rfl rfl rfl ?_
    refine go_iconst (v := 1) (pc' := 127) dX12_prints_126 rfl (by decide) ?_
    refine gz_icmp_ne (tgt := 143) (pc' := 130) dX12_prints_127 rfl (by decide) (fun c8 => ?_) (fun c8 => ?_)
    · refine gz_iinc (c := 1) (pc' := 146) dX12_prints_143 rfl rfl (by decide) (by decide) (by decide) (by omega) (fun v9 h9 e9 => ?_)
      refine go_goto (tgt := 72) dX12_prints_146 (by decide) ?_
      exact go_lv (lv' := [(0, .ref (L.2.1 13)), (1, .int a), (2, .int d), (3, .int y), (4, .int y2), (5, .int x5), (6, .int v9)]) rfl (K σ3 x5 v9 w3 (by omega) (by rw [gR]; exact hr) (by have cv := cnat (x := v9) (by omega); have ud := ixi_28 w3.1; have cd2 := cnat (x := σ3.1 28) (by omega); exact tk_at hh (by omega) (by omega)) (by omega) (by omega))
    refine go_aload_n (i := 0) (pc' := 131) dX12_prints_130 rfl rfl rfl ?_
    refine go_aload_n (i := 0) (pc' := 132) dX12_prints_131 rfl rfl rfl ?_
    refine gf_13_open (pc' := 135) dX12_prints_132 rfl fl_X12_96 ?_
    refine go_aload_n (i := 0) (pc' := 136) dX12_prints_135 rfl rfl rfl ?_
    refine gf_13_opened (pc' := 139) dX12_prints_136 rfl fl_X12_218 ?_
    have g10 := ixi_28 w3.1
    refine go_iald (pc' := 140) dX12_prints_139 rfl (by decide) (by decide) rfl (vin_of (n := 5) (by omega) (by omega)) ?_
    refine go_cvv (pc' := 143) lk_X12_254 (c_X12_closes _ _ _ _ (by omega) w3.1) rfl rfl (Nat.le_of_ble_eq_true rfl) (by decide) rfl rfl rfl ⟨Nat.le_of_ble_eq_true rfl, Nat.le_of_ble_eq_true rfl⟩ ⟨rfl, rfl⟩ dX12_prints_140 rfl (fun σ11 h11 => ?_)
    obtain ⟨u11, h11⟩ := h11
    have w11 := WM_trans w3 (WM_of_p u11)
    have gR := (u11.2.2 125 (by decide)).trans gR
    have gd11 := congrArg Int32.toInt (u11.2.1 28 (by decide))
    refine gz_iinc (c := 1) (pc' := 146) dX12_prints_143 rfl rfl (by decide) (by decide) (by decide) (by omega) (fun v12 h12 e12 => ?_)
    refine go_goto (tgt := 72) dX12_prints_146 (by decide) ?_
    exact go_lv (lv' := [(0, .ref (L.2.1 13)), (1, .int a), (2, .int d), (3, .int y), (4, .int y2), (5, .int x5), (6, .int v12)]) rfl (K σ11 x5 v12 w11 (by omega) (by rw [gR]; exact hr) (by have cv := cnat (x := v12) (by omega); have ud := ixi_28 w11.1; have cd2 := cnat (x := σ11.1 28) (by omega); exact tk_at hh (by omega) (by omega)) (by omega) (by omega))
  refine go_iconst (v := 0) (pc' := 115) dX12_prints_114 rfl (by decide) ?_
  refine go_istore (pc' := 117) dX12_prints_115 rfl (by decide) ?_
  refine go_goto (tgt := 143) dX12_prints_117 (by decide) ?_
  refine gz_iinc (c := 1) (pc' := 146) dX12_prints_143 rfl rfl (by decide) (by decide) (by decide) (by omega) (fun v13 h13 e13 => ?_)
  refine go_goto (tgt := 72) dX12_prints_146 (by decide) ?_
  exact go_lv (lv' := [(0, .ref (L.2.1 13)), (1, .int a), (2, .int d), (3, .int y), (4, .int y2), (5, .int (0 : Int32)), (6, .int v13)]) rfl (K σ3 (0 : Int32) v13 w3 (by omega) (by rw [gR]; exact hr) (by have cv := cnat (x := v13) (by omega); have ud := ixi_28 w3.1; have cd2 := cnat (x := σ3.1 28) (by omega); exact tk_at hh (by omega) (by omega)) (by omega) (by omega))
set_option maxHeartbeats 4000000 in
set_option maxRecDepth 100000 in
theorem seg_mk {F : FX} {L : WL} {Q : State → Prop} {σ σc : ST} {T : Nat → Int} {N : Nat} {a d y y2 p x5 x6 : Int32} (w0 : WM σ σc) (hr : ROWs T N (σc.2 125)) (hN : y2.toInt = (N : Int)) (hN2 : N ≤ 160) (hpp : 0 ≤ p.toInt) (hpm : (σc.1 29).toInt ≤ 2 * p.toInt ∧ (y.toInt = 0 → (σc.1 29).toInt ≤ p.toInt)) {x8 x9 : Int32} (h6 : p.toInt + 2 ≤ x6.toInt ∧ x6.toInt ≤ (N : Int)) (hd : (σc.1 28).toNatClampNeg ≠ 4) (hh : ∃ f2 stk2, tk T N f2 x6.toNatClampNeg ((σc.1 28).toNatClampNeg + 1) stk2 = -1) (K : ∀ (σx : ST) (x5 : Int32) (x6 : Int32), (WM σ σx) → (0 ≤ x6.toInt ∧ x6.toInt ≤ y2.toInt) → (ROWs T N (σx.2 125)) → (∃ f stk, tk T N f x6.toNatClampNeg (σx.1 28).toNatClampNeg stk = -1) → ((σx.1 29).toInt ≤ 2 * x6.toInt ∧ (y.toInt = 0 → (σx.1 29).toInt ≤ x6.toInt)) → (p.toInt < x6.toInt) → Go F L RX12 cX12_prints 10 rm_X12_prints none Q σx 72 [(0, .ref (L.2.1 13)), (1, .int a), (2, .int d), (3, .int y), (4, .int y2), (5, .int x5), (6, .int x6)] []) : Go F L RX12 cX12_prints 10 rm_X12_prints none Q σc 288 [(0, .ref (L.2.1 13)), (1, .int a), (2, .int d), (3, .int y), (4, .int y2), (5, .int x5), (6, .int x6), (8, .int x8), (9, .int x9)] [] := by
  have n1 : (1 : Int32).toInt = 1 := by decide
  have n95 : (95 : Int32).toInt = 95 := by decide
  have n100 : (100 : Int32).toInt = 100 := by decide
  have n115 : (115 : Int32).toInt = 115 := by decide
  have gR : σc.2 125 = σc.2 125 := rfl
  have ud := ixi_28 w0.1
  have cd := cnat (x := σc.1 28) (by omega)
  have c6 := cnat (x := x6) (by omega)
  refine go_aload_n (i := 0) (pc' := 289) dX12_prints_288 rfl rfl rfl ?_
  refine gf_13_open (pc' := 292) dX12_prints_289 rfl fl_X12_96 ?_
  refine go_aload_n (i := 0) (pc' := 293) dX12_prints_292 rfl rfl rfl ?_
  refine gf_13_opened (pc' := 296) dX12_prints_293 rfl fl_X12_218 ?_
  have g1 := ixi_28 w0.1
  refine go_iload (pc' := 298) dX12_prints_296 rfl rfl ?_
  refine go_iast (pc' := 299) dX12_prints_298 rfl (by decide) (by decide) rfl (vin_of (n := 5) (by omega) (by omega)) ?_
  refine go_gen (P := fun s => WM σ s ∧ s.2 125 = σc.2 125 ∧ s.1 29 = σc.1 29 ∧ s.1 28 = σc.1 28) ⟨⟨ixt_n w0.1 (by decide), Ag_setA w0.2 (by decide)⟩, ⟨setA_ne (a := 125) _ 123 _ _ (by decide), rfl, rfl⟩⟩ (fun σ2 z2 => ?_)
  obtain ⟨w2, g2⟩ := z2
  have gO := g2
  have gR := gO.1.trans gR
  have gq2 := congrArg Int32.toInt gO.2.1
  have gd2 := congrArg Int32.toInt gO.2.2
  refine go_aload_n (i := 0) (pc' := 300) dX12_prints_299 rfl rfl rfl ?_
  refine go_dup (pc' := 301) dX12_prints_300 rfl rfl ?_
  refine gf_13_opened (pc' := 304) dX12_prints_301 rfl fl_X12_218 ?_
  have g3 := ixi_28 w2.1
  refine go_iconst (v := 1) (pc' := 305) dX12_prints_304 rfl (by decide) ?_
  refine gz_iadd (pc' := 306) dX12_prints_305 rfl (by omega) (fun v4 h4 e4 => ?_)
  refine pf_13_opened (pc' := 309) dX12_prints_306 rfl fl_X12_218 ?_
  refine go_gen (P := fun s => WM σ s ∧ s.2 125 = σ2.2 125 ∧ s.1 29 = σ2.1 29 ∧ s.1 28 = v4) ⟨⟨ixs_28 w2.1 (by omega) (by omega), Ag_setI w2.2 (by decide)⟩, ⟨rfl, rfl, setI_same _ _ _⟩⟩ (fun σ5 z5 => ?_)
  obtain ⟨w5, g5⟩ := z5
  have gO := g5
  have gR := gO.1.trans gR
  have gq5 := congrArg Int32.toInt gO.2.1
  have gd5 := congrArg Int32.toInt gO.2.2
  refine go_iload (pc' := 311) dX12_prints_309 rfl rfl ?_
  refine gz_if_le (tgt := 317) (pc' := 314) dX12_prints_311 rfl (by decide) (fun c6 => ?_) (fun c6 => ?_)
  · refine go_iload (pc' := 319) dX12_prints_317 rfl rfl ?_
    refine go_bipush (v := 115) (pc' := 321) dX12_prints_319 rfl (by decide) ?_
    refine gz_icmp_ne (tgt := 350) (pc' := 324) dX12_prints_321 rfl (by decide) (fun c7 => ?_) (fun c7 => ?_)
    · refine go_iload (pc' := 352) dX12_prints_350 rfl rfl ?_
      refine go_bipush (v := 100) (pc' := 354) dX12_prints_352 rfl (by decide) ?_
      refine gz_icmp_ne (tgt := 370) (pc' := 357) dX12_prints_354 rfl (by decide) (fun c8 => ?_) (fun c8 => ?_)
      · refine go_iload_n (i := 3) (pc' := 371) dX12_prints_370 rfl rfl rfl ?_
        refine go_iconst (v := 1) (pc' := 372) dX12_prints_371 rfl (by decide) ?_
        refine gz_icmp_ne (tgt := 381) (pc' := 375) dX12_prints_372 rfl (by decide) (fun c9 => ?_) (fun c9 => ?_)
        · refine go_goto (tgt := 72) dX12_prints_381 (by decide) ?_
          exact go_lv (lv' := [(0, .ref (L.2.1 13)), (1, .int a), (2, .int d), (3, .int y), (4, .int y2), (5, .int x5), (6, .int x6)]) rfl (K σ5 x5 x6 w5 (by omega) (by rw [gR]; exact hr) (by have cv := cnat (x := x6) (by omega); have ud := ixi_28 w5.1; have cd2 := cnat (x := σ5.1 28) (by omega); exact tk_at hh (by omega) (by omega)) (by omega) (by omega))
        refine go_aload_n (i := 0) (pc' := 376) dX12_prints_375 rfl rfl rfl ?_
        refine go_iload (pc' := 378) dX12_prints_376 rfl rfl ?_
        refine go_cvv (pc' := 381) lk_X12_260 (c_X12_opens _ _ _ _ (by omega) w5.1) rfl rfl (Nat.le_of_ble_eq_true rfl) (by decide) rfl rfl rfl ⟨Nat.le_of_ble_eq_true rfl, Nat.le_of_ble_eq_true rfl⟩ ⟨rfl, rfl⟩ dX12_prints_378 rfl (fun σ10 h10 => ?_)
        obtain ⟨u10, h10⟩ := h10
        have w10 := WM_trans w5 (WM_of_p u10)
        have gR := (u10.2.2 125 (by decide)).trans gR
        have gd10 := congrArg Int32.toInt (u10.2.1 28 (by decide))
        refine go_goto (tgt := 72) dX12_prints_381 (by decide) ?_
        exact go_lv (lv' := [(0, .ref (L.2.1 13)), (1, .int a), (2, .int d), (3, .int y), (4, .int y2), (5, .int x5), (6, .int x6)]) rfl (K σ10 x5 x6 w10 (by omega) (by rw [gR]; exact hr) (by have cv := cnat (x := x6) (by omega); have ud := ixi_28 w10.1; have cd2 := cnat (x := σ10.1 28) (by omega); exact tk_at hh (by omega) (by omega)) (by omega) (by omega))
      refine go_iload_n (i := 3) (pc' := 358) dX12_prints_357 rfl rfl rfl ?_
      refine gz_if_ne (tgt := 370) (pc' := 361) dX12_prints_358 rfl (by decide) (fun c11 => ?_) (fun c11 => ?_)
      · refine go_iload_n (i := 3) (pc' := 371) dX12_prints_370 rfl rfl rfl ?_
        refine go_iconst (v := 1) (pc' := 372) dX12_prints_371 rfl (by decide) ?_
        refine gz_icmp_ne (tgt := 381) (pc' := 375) dX12_prints_372 rfl (by decide) (fun c12 => ?_) (fun c12 => ?_)
        · refine go_goto (tgt := 72) dX12_prints_381 (by decide) ?_
          exact go_lv (lv' := [(0, .ref (L.2.1 13)), (1, .int a), (2, .int d), (3, .int y), (4, .int y2), (5, .int x5), (6, .int x6)]) rfl (K σ5 x5 x6 w5 (by omega) (by rw [gR]; exact hr) (by have cv := cnat (x := x6) (by omega); have ud := ixi_28 w5.1; have cd2 := cnat (x := σ5.1 28) (by omega); exact tk_at hh (by omega) (by omega)) (by omega) (by omega))
        refine go_aload_n (i := 0) (pc' := 376) dX12_prints_375 rfl rfl rfl ?_
        refine go_iload (pc' := 378) dX12_prints_376 rfl rfl ?_
        refine go_cvv (pc' := 381) lk_X12_260 (c_X12_opens _ _ _ _ (by omega) w5.1) rfl rfl (Nat.le_of_ble_eq_true rfl) (by decide) rfl rfl rfl ⟨Nat.le_of_ble_eq_true rfl, Nat.le_of_ble_eq_true rfl⟩ ⟨rfl, rfl⟩ dX12_prints_378 rfl (fun σ13 h13 => ?_)
        obtain ⟨u13, h13⟩ := h13
        have w13 := WM_trans w5 (WM_of_p u13)
        have gR := (u13.2.2 125 (by decide)).trans gR
        have gd13 := congrArg Int32.toInt (u13.2.1 28 (by decide))
        refine go_goto (tgt := 72) dX12_prints_381 (by decide) ?_
        exact go_lv (lv' := [(0, .ref (L.2.1 13)), (1, .int a), (2, .int d), (3, .int y), (4, .int y2), (5, .int x5), (6, .int x6)]) rfl (K σ13 x5 x6 w13 (by omega) (by rw [gR]; exact hr) (by have cv := cnat (x := x6) (by omega); have ud := ixi_28 w13.1; have cd2 := cnat (x := σ13.1 28) (by omega); exact tk_at hh (by omega) (by omega)) (by omega) (by omega))
      refine go_aload_n (i := 0) (pc' := 362) dX12_prints_361 rfl rfl rfl ?_
      refine gf_13_opened (pc' := 365) dX12_prints_362 rfl fl_X12_218 ?_
      have g14 := ixi_28 w5.1
      refine go_topz (fun y15 h15 e15 => ?_)
      refine go_istore (pc' := 367) dX12_prints_365 rfl (by decide) ?_
      refine go_goto (tgt := 381) dX12_prints_367 (by decide) ?_
      refine go_goto (tgt := 72) dX12_prints_381 (by decide) ?_
      exact go_lv (lv' := [(0, .ref (L.2.1 13)), (1, .int a), (2, .int d), (3, .int y), (4, .int y2), (5, .int y15), (6, .int x6)]) rfl (K σ5 y15 x6 w5 (by omega) (by rw [gR]; exact hr) (by have cv := cnat (x := x6) (by omega); have ud := ixi_28 w5.1; have cd2 := cnat (x := σ5.1 28) (by omega); exact tk_at hh (by omega) (by omega)) (by omega) (by omega))
    refine go_iload (pc' := 326) dX12_prints_324 rfl rfl ?_
    refine go_iload_n (i := 2) (pc' := 327) dX12_prints_326 rfl rfl rfl ?_
    refine gz_icmp_le (tgt := 350) (pc' := 330) dX12_prints_327 rfl (by decide) (fun c16 => ?_) (fun c16 => ?_)
    · refine go_iload (pc' := 352) dX12_prints_350 rfl rfl ?_
      refine go_bipush (v := 100) (pc' := 354) dX12_prints_352 rfl (by decide) ?_
      refine gz_icmp_ne (tgt := 370) (pc' := 357) dX12_prints_354 rfl (by decide) (fun c17 => ?_) (fun c17 => ?_)
      · refine go_iload_n (i := 3) (pc' := 371) dX12_prints_370 rfl rfl rfl ?_
        refine go_iconst (v := 1) (pc' := 372) dX12_prints_371 rfl (by decide) ?_
        refine gz_icmp_ne (tgt := 381) (pc' := 375) dX12_prints_372 rfl (by decide) (fun c18 => ?_) (fun c18 => ?_)
        · refine go_goto (tgt := 72) dX12_prints_381 (by decide) ?_
          exact go_lv (lv' := [(0, .ref (L.2.1 13)), (1, .int a), (2, .int d), (3, .int y), (4, .int y2), (5, .int x5), (6, .int x6)]) rfl (K σ5 x5 x6 w5 (by omega) (by rw [gR]; exact hr) (by have cv := cnat (x := x6) (by omega); have ud := ixi_28 w5.1; have cd2 := cnat (x := σ5.1 28) (by omega); exact tk_at hh (by omega) (by omega)) (by omega) (by omega))
        refine go_aload_n (i := 0) (pc' := 376) dX12_prints_375 rfl rfl rfl ?_
        refine go_iload (pc' := 378) dX12_prints_376 rfl rfl ?_
        refine go_cvv (pc' := 381) lk_X12_260 (c_X12_opens _ _ _ _ (by omega) w5.1) rfl rfl (Nat.le_of_ble_eq_true rfl) (by decide) rfl rfl rfl ⟨Nat.le_of_ble_eq_true rfl, Nat.le_of_ble_eq_true rfl⟩ ⟨rfl, rfl⟩ dX12_prints_378 rfl (fun σ19 h19 => ?_)
        obtain ⟨u19, h19⟩ := h19
        have w19 := WM_trans w5 (WM_of_p u19)
        have gR := (u19.2.2 125 (by decide)).trans gR
        have gd19 := congrArg Int32.toInt (u19.2.1 28 (by decide))
        refine go_goto (tgt := 72) dX12_prints_381 (by decide) ?_
        exact go_lv (lv' := [(0, .ref (L.2.1 13)), (1, .int a), (2, .int d), (3, .int y), (4, .int y2), (5, .int x5), (6, .int x6)]) rfl (K σ19 x5 x6 w19 (by omega) (by rw [gR]; exact hr) (by have cv := cnat (x := x6) (by omega); have ud := ixi_28 w19.1; have cd2 := cnat (x := σ19.1 28) (by omega); exact tk_at hh (by omega) (by omega)) (by omega) (by omega))
      refine go_iload_n (i := 3) (pc' := 358) dX12_prints_357 rfl rfl rfl ?_
      refine gz_if_ne (tgt := 370) (pc' := 361) dX12_prints_358 rfl (by decide) (fun c20 => ?_) (fun c20 => ?_)
      · refine go_iload_n (i := 3) (pc' := 371) dX12_prints_370 rfl rfl rfl ?_
        refine go_iconst (v := 1) (pc' := 372) dX12_prints_371 rfl (by decide) ?_
        refine gz_icmp_ne (tgt := 381) (pc' := 375) dX12_prints_372 rfl (by decide) (fun c21 => ?_) (fun c21 => ?_)
        · refine go_goto (tgt := 72) dX12_prints_381 (by decide) ?_
          exact go_lv (lv' := [(0, .ref (L.2.1 13)), (1, .int a), (2, .int d), (3, .int y), (4, .int y2), (5, .int x5), (6, .int x6)]) rfl (K σ5 x5 x6 w5 (by omega) (by rw [gR]; exact hr) (by have cv := cnat (x := x6) (by omega); have ud := ixi_28 w5.1; have cd2 := cnat (x := σ5.1 28) (by omega); exact tk_at hh (by omega) (by omega)) (by omega) (by omega))
        refine go_aload_n (i := 0) (pc' := 376) dX12_prints_375 rfl rfl rfl ?_
        refine go_iload (pc' := 378) dX12_prints_376 rfl rfl ?_
        refine go_cvv (pc' := 381) lk_X12_260 (c_X12_opens _ _ _ _ (by omega) w5.1) rfl rfl (Nat.le_of_ble_eq_true rfl) (by decide) rfl rfl rfl ⟨Nat.le_of_ble_eq_true rfl, Nat.le_of_ble_eq_true rfl⟩ ⟨rfl, rfl⟩ dX12_prints_378 rfl (fun σ22 h22 => ?_)
        obtain ⟨u22, h22⟩ := h22
        have w22 := WM_trans w5 (WM_of_p u22)
        have gR := (u22.2.2 125 (by decide)).trans gR
        have gd22 := congrArg Int32.toInt (u22.2.1 28 (by decide))
        refine go_goto (tgt := 72) dX12_prints_381 (by decide) ?_
        exact go_lv (lv' := [(0, .ref (L.2.1 13)), (1, .int a), (2, .int d), (3, .int y), (4, .int y2), (5, .int x5), (6, .int x6)]) rfl (K σ22 x5 x6 w22 (by omega) (by rw [gR]; exact hr) (by have cv := cnat (x := x6) (by omega); have ud := ixi_28 w22.1; have cd2 := cnat (x := σ22.1 28) (by omega); exact tk_at hh (by omega) (by omega)) (by omega) (by omega))
      refine go_aload_n (i := 0) (pc' := 362) dX12_prints_361 rfl rfl rfl ?_
      refine gf_13_opened (pc' := 365) dX12_prints_362 rfl fl_X12_218 ?_
      have g23 := ixi_28 w5.1
      refine go_topz (fun y24 h24 e24 => ?_)
      refine go_istore (pc' := 367) dX12_prints_365 rfl (by decide) ?_
      refine go_goto (tgt := 381) dX12_prints_367 (by decide) ?_
      refine go_goto (tgt := 72) dX12_prints_381 (by decide) ?_
      exact go_lv (lv' := [(0, .ref (L.2.1 13)), (1, .int a), (2, .int d), (3, .int y), (4, .int y2), (5, .int y24), (6, .int x6)]) rfl (K σ5 y24 x6 w5 (by omega) (by rw [gR]; exact hr) (by have cv := cnat (x := x6) (by omega); have ud := ixi_28 w5.1; have cd2 := cnat (x := σ5.1 28) (by omega); exact tk_at hh (by omega) (by omega)) (by omega) (by omega))
    refine go_iload_n (i := 3) (pc' := 331) dX12_prints_330 rfl rfl rfl ?_
    refine go_iconst (v := 1) (pc' := 332) dX12_prints_331 rfl (by decide) ?_
    refine gz_icmp_ne (tgt := 341) (pc' := 335) dX12_prints_332 rfl (by decide) (fun c25 => ?_) (fun c25 => ?_)
    · refine go_aload_n (i := 0) (pc' := 342) dX12_prints_341 rfl rfl rfl ?_
      refine gf_13_opened (pc' := 345) dX12_prints_342 rfl fl_X12_218 ?_
      have g26 := ixi_28 w5.1
      refine go_topz (fun y27 h27 e27 => ?_)
      refine go_istore (pc' := 347) dX12_prints_345 rfl (by decide) ?_
      refine go_goto (tgt := 381) dX12_prints_347 (by decide) ?_
      refine go_goto (tgt := 72) dX12_prints_381 (by decide) ?_
      exact go_lv (lv' := [(0, .ref (L.2.1 13)), (1, .int a), (2, .int d), (3, .int y), (4, .int y2), (5, .int y27), (6, .int x6)]) rfl (K σ5 y27 x6 w5 (by omega) (by rw [gR]; exact hr) (by have cv := cnat (x := x6) (by omega); have ud := ixi_28 w5.1; have cd2 := cnat (x := σ5.1 28) (by omega); exact tk_at hh (by omega) (by omega)) (by omega) (by omega))
    refine go_aload_n (i := 0) (pc' := 336) dX12_prints_335 rfl rfl rfl ?_
    refine go_bipush (v := 95) (pc' := 338) dX12_prints_336 rfl (by decide) ?_
    refine go_cvv (pc' := 341) lk_X12_250 (c_X12_puts _ _ _ _ (by omega) w5.1) rfl rfl (Nat.le_of_ble_eq_true rfl) (by decide) rfl rfl rfl ⟨Nat.le_of_ble_eq_true rfl, Nat.le_of_ble_eq_true rfl⟩ ⟨rfl, rfl⟩ dX12_prints_338 rfl (fun σ28 h28 => ?_)
    obtain ⟨u28, h28⟩ := h28
    have w28 := WM_trans w5 (WM_of_p u28)
    have gR := (u28.2.2 125 (by decide)).trans gR
    have gd28 := congrArg Int32.toInt (u28.2.1 28 (by decide))
    refine go_aload_n (i := 0) (pc' := 342) dX12_prints_341 rfl rfl rfl ?_
    refine gf_13_opened (pc' := 345) dX12_prints_342 rfl fl_X12_218 ?_
    have g29 := ixi_28 w28.1
    refine go_topz (fun y30 h30 e30 => ?_)
    refine go_istore (pc' := 347) dX12_prints_345 rfl (by decide) ?_
    refine go_goto (tgt := 381) dX12_prints_347 (by decide) ?_
    refine go_goto (tgt := 72) dX12_prints_381 (by decide) ?_
    exact go_lv (lv' := [(0, .ref (L.2.1 13)), (1, .int a), (2, .int d), (3, .int y), (4, .int y2), (5, .int y30), (6, .int x6)]) rfl (K σ28 y30 x6 w28 (by omega) (by rw [gR]; exact hr) (by have cv := cnat (x := x6) (by omega); have ud := ixi_28 w28.1; have cd2 := cnat (x := σ28.1 28) (by omega); exact tk_at hh (by omega) (by omega)) (by omega) (by omega))
  refine go_goto (tgt := 72) dX12_prints_314 (by decide) ?_
  exact go_lv (lv' := [(0, .ref (L.2.1 13)), (1, .int a), (2, .int d), (3, .int y), (4, .int y2), (5, .int x5), (6, .int x6)]) rfl (K σ5 x5 x6 w5 (by omega) (by rw [gR]; exact hr) (by have cv := cnat (x := x6) (by omega); have ud := ixi_28 w5.1; have cd2 := cnat (x := σ5.1 28) (by omega); exact tk_at hh (by omega) (by omega)) (by omega) (by omega))
set_option maxHeartbeats 4000000 in
set_option maxRecDepth 100000 in
theorem seg_231 {F : FX} {L : WL} {Q : State → Prop} {σ σc : ST} {T : Nat → Int} {N : Nat} {a d y y2 p x5 x6 : Int32} (w0 : WM σ σc) (hr : ROWs T N (σc.2 125)) (hN : y2.toInt = (N : Int)) (hN2 : N ≤ 160) (hpp : 0 ≤ p.toInt) (hpm : (σc.1 29).toInt ≤ 2 * p.toInt ∧ (y.toInt = 0 → (σc.1 29).toInt ≤ p.toInt)) {x8 x9 : Int32} (h9 : 0 ≤ x9.toInt ∧ x9.toInt ≤ 9999) (tm : MKo T N p.toNatClampNeg (σc.1 28).toNatClampNeg) (ts : T (p.toNatClampNeg + 1) = x8.toInt) (tj : (x8.toInt = 115 ∨ x8.toInt = 110) → 1 ≤ dcnt T N 4 (p.toNatClampNeg + 2) ∧ p.toNatClampNeg + 2 + dcnt T N 4 (p.toNatClampNeg + 2) < N ∧ ¬ digP (T (p.toNatClampNeg + 2 + dcnt T N 4 (p.toNatClampNeg + 2)))) (lz : ((x8.toInt = 115 ∨ x8.toInt = 110) → x6.toNatClampNeg = p.toNatClampNeg + 2 + dcnt T N 4 (p.toNatClampNeg + 2)) ∧ (¬ (x8.toInt = 115 ∨ x8.toInt = 110) → x6.toNatClampNeg = p.toNatClampNeg + 2) ∧ 0 ≤ x6.toInt) (K : ∀ (σx : ST) (x5 : Int32) (x6 : Int32), (WM σ σx) → (0 ≤ x6.toInt ∧ x6.toInt ≤ y2.toInt) → (ROWs T N (σx.2 125)) → (∃ f stk, tk T N f x6.toNatClampNeg (σx.1 28).toNatClampNeg stk = -1) → ((σx.1 29).toInt ≤ 2 * x6.toInt ∧ (y.toInt = 0 → (σx.1 29).toInt ≤ x6.toInt)) → (p.toInt < x6.toInt) → Go F L RX12 cX12_prints 10 rm_X12_prints none Q σx 72 [(0, .ref (L.2.1 13)), (1, .int a), (2, .int d), (3, .int y), (4, .int y2), (5, .int x5), (6, .int x6)] []) : Go F L RX12 cX12_prints 10 rm_X12_prints none Q σc 231 [(0, .ref (L.2.1 13)), (1, .int a), (2, .int d), (3, .int y), (4, .int y2), (5, .int x5), (6, .int x6), (8, .int x8), (9, .int x9)] [] := by
  have n40 : (40 : Int32).toInt = 40 := by decide
  have n41 : (41 : Int32).toInt = 41 := by decide
  have n110 : (110 : Int32).toInt = 110 := by decide
  have n115 : (115 : Int32).toInt = 115 := by decide
  have gR : σc.2 125 = σc.2 125 := rfl
  have ud := ixi_28 w0.1
  have cd := cnat (x := σc.1 28) (by omega)
  have c6 := cnat (x := x6) lz.2.2
  have cp := cnat (x := p) hpp
  have tm2 := tm.2.1
  have hJ := dcnt_le T N 4 (p.toNatClampNeg + 2)
  refine go_iload (pc' := 233) dX12_prints_231 rfl rfl ?_
  refine go_bipush (v := 115) (pc' := 235) dX12_prints_233 rfl (by decide) ?_
  refine gz_icmp_eq (tgt := 245) (pc' := 238) dX12_prints_235 rfl (by decide) (fun c1 => ?_) (fun c1 => ?_)
  · refine gz_iinc (c := 1) (pc' := 248) dX12_prints_245 rfl rfl (by decide) (by decide) (by decide) (by omega) (fun v2 h2 e2 => ?_)
    refine go_iload (pc' := 250) dX12_prints_248 rfl rfl ?_
    refine go_bipush (v := 110) (pc' := 252) dX12_prints_250 rfl (by decide) ?_
    refine gz_icmp_ne (tgt := 288) (pc' := 255) dX12_prints_252 rfl (by decide) (fun c3 => ?_) (fun c3 => ?_)
    · have c64 := cnat (x := v2) (by omega)
      have hh : (∃ f2 stk2, tk T N f2 (v2).toNatClampNeg ((σc.1 28).toNatClampNeg + 1) stk2 = -1) ∧ p.toInt + 2 ≤ (v2).toInt ∧ (v2).toInt ≤ (N : Int) := by
        by_cases z : x8.toInt = 115
        · have tj1 := tj (by omega)
          exact ⟨tk_at (mk_s tm (by omega)).2 (by omega) rfl, by omega, by omega⟩
        · exact ⟨tk_at (mk_o tm (by omega) (by omega)) (by omega) rfl, by omega, by omega⟩
      exact go_lv (lv' := [(0, .ref (L.2.1 13)), (1, .int a), (2, .int d), (3, .int y), (4, .int y2), (5, .int x5), (6, .int v2), (8, .int x8), (9, .int x9)]) rfl (seg_mk w0 hr hN hN2 hpp hpm hh.2 tm.1 hh.1 K)
    have hm := mk_note tm (by omega)
    have hh := hm.2
    have h1J := hm.1
    have tj1 := tj (by omega)
    refine go_iload (pc' := 257) dX12_prints_255 rfl rfl ?_
    refine gz_if_gt (tgt := 72) (pc' := 260) dX12_prints_257 rfl (by decide) (fun c4 => ?_) (fun c4 => ?_)
    · exact go_lv (lv' := [(0, .ref (L.2.1 13)), (1, .int a), (2, .int d), (3, .int y), (4, .int y2), (5, .int x5), (6, .int v2)]) rfl (K σc x5 v2 w0 (by omega) (by rw [gR]; exact hr) (by have cv := cnat (x := v2) (by omega); have ud := ixi_28 w0.1; have cd2 := cnat (x := σc.1 28) (by omega); exact tk_at hh (by omega) (by omega)) (by omega) (by omega))
    refine go_iload_n (i := 3) (pc' := 261) dX12_prints_260 rfl rfl rfl ?_
    refine gz_if_ne (tgt := 267) (pc' := 264) dX12_prints_261 rfl (by decide) (fun c5 => ?_) (fun c5 => ?_)
    · refine go_aload_n (i := 0) (pc' := 268) dX12_prints_267 rfl rfl rfl ?_
      refine go_bipush (v := 40) (pc' := 270) dX12_prints_268 rfl (by decide) ?_
      refine go_cvv (pc' := 273) lk_X12_250 (c_X12_puts _ _ _ _ (by omega) w0.1) rfl rfl (Nat.le_of_ble_eq_true rfl) (by decide) rfl rfl rfl ⟨Nat.le_of_ble_eq_true rfl, Nat.le_of_ble_eq_true rfl⟩ ⟨rfl, rfl⟩ dX12_prints_270 rfl (fun σ6 h6 => ?_)
      obtain ⟨u6, h6⟩ := h6
      have w6 := WM_trans w0 (WM_of_p u6)
      have gR := (u6.2.2 125 (by decide)).trans gR
      have gd6 := congrArg Int32.toInt (u6.2.1 28 (by decide))
      refine go_aload_n (i := 0) (pc' := 274) dX12_prints_273 rfl rfl rfl ?_
      refine go_iload (pc' := 276) dX12_prints_274 rfl rfl ?_
      refine go_cvv (pc' := 279) lk_X12_257 (c_X12_number _ _ _ _ (by omega) (by omega) w6.1) rfl rfl (Nat.le_of_ble_eq_true rfl) (by decide) rfl rfl rfl ⟨Nat.le_of_ble_eq_true rfl, Nat.le_of_ble_eq_true rfl⟩ ⟨rfl, rfl⟩ dX12_prints_276 rfl (fun σ7 h7 => ?_)
      obtain ⟨u7, h7⟩ := h7
      have w7 := WM_trans w6 (WM_of_p u7)
      have gR := (u7.2.2 125 (by decide)).trans gR
      have gd7 := congrArg Int32.toInt (u7.2.1 28 (by decide))
      refine go_aload_n (i := 0) (pc' := 280) dX12_prints_279 rfl rfl rfl ?_
      refine go_bipush (v := 41) (pc' := 282) dX12_prints_280 rfl (by decide) ?_
      refine go_cvv (pc' := 285) lk_X12_250 (c_X12_puts _ _ _ _ (by omega) w7.1) rfl rfl (Nat.le_of_ble_eq_true rfl) (by decide) rfl rfl rfl ⟨Nat.le_of_ble_eq_true rfl, Nat.le_of_ble_eq_true rfl⟩ ⟨rfl, rfl⟩ dX12_prints_282 rfl (fun σ8 h8 => ?_)
      obtain ⟨u8, h8⟩ := h8
      have w8 := WM_trans w7 (WM_of_p u8)
      have gR := (u8.2.2 125 (by decide)).trans gR
      have gd8 := congrArg Int32.toInt (u8.2.1 28 (by decide))
      refine go_goto (tgt := 72) dX12_prints_285 (by decide) ?_
      exact go_lv (lv' := [(0, .ref (L.2.1 13)), (1, .int a), (2, .int d), (3, .int y), (4, .int y2), (5, .int x5), (6, .int v2)]) rfl (K σ8 x5 v2 w8 (by omega) (by rw [gR]; exact hr) (by have cv := cnat (x := v2) (by omega); have ud := ixi_28 w8.1; have cd2 := cnat (x := σ8.1 28) (by omega); exact tk_at hh (by omega) (by omega)) (by omega) (by omega))
    refine go_goto (tgt := 72) dX12_prints_264 (by decide) ?_
    exact go_lv (lv' := [(0, .ref (L.2.1 13)), (1, .int a), (2, .int d), (3, .int y), (4, .int y2), (5, .int x5), (6, .int v2)]) rfl (K σc x5 v2 w0 (by omega) (by rw [gR]; exact hr) (by have cv := cnat (x := v2) (by omega); have ud := ixi_28 w0.1; have cd2 := cnat (x := σc.1 28) (by omega); exact tk_at hh (by omega) (by omega)) (by omega) (by omega))
  refine go_iload (pc' := 240) dX12_prints_238 rfl rfl ?_
  refine go_bipush (v := 110) (pc' := 242) dX12_prints_240 rfl (by decide) ?_
  refine gz_icmp_ne (tgt := 248) (pc' := 245) dX12_prints_242 rfl (by decide) (fun c9 => ?_) (fun c9 => ?_)
  · refine go_iload (pc' := 250) dX12_prints_248 rfl rfl ?_
    refine go_bipush (v := 110) (pc' := 252) dX12_prints_250 rfl (by decide) ?_
    refine gz_icmp_ne (tgt := 288) (pc' := 255) dX12_prints_252 rfl (by decide) (fun c10 => ?_) (fun c10 => ?_)
    · have c64 := cnat (x := x6) (by omega)
      have hh : (∃ f2 stk2, tk T N f2 (x6).toNatClampNeg ((σc.1 28).toNatClampNeg + 1) stk2 = -1) ∧ p.toInt + 2 ≤ (x6).toInt ∧ (x6).toInt ≤ (N : Int) := by
        by_cases z : x8.toInt = 115
        · have tj1 := tj (by omega)
          exact ⟨tk_at (mk_s tm (by omega)).2 (by omega) rfl, by omega, by omega⟩
        · exact ⟨tk_at (mk_o tm (by omega) (by omega)) (by omega) rfl, by omega, by omega⟩
      exact go_lv (lv' := [(0, .ref (L.2.1 13)), (1, .int a), (2, .int d), (3, .int y), (4, .int y2), (5, .int x5), (6, .int x6), (8, .int x8), (9, .int x9)]) rfl (seg_mk w0 hr hN hN2 hpp hpm hh.2 tm.1 hh.1 K)
    have hm := mk_note tm (by omega)
    have hh := hm.2
    have h1J := hm.1
    have tj1 := tj (by omega)
    refine go_iload (pc' := 257) dX12_prints_255 rfl rfl ?_
    refine gz_if_gt (tgt := 72) (pc' := 260) dX12_prints_257 rfl (by decide) (fun c11 => ?_) (fun c11 => ?_)
    · exact go_lv (lv' := [(0, .ref (L.2.1 13)), (1, .int a), (2, .int d), (3, .int y), (4, .int y2), (5, .int x5), (6, .int x6)]) rfl (K σc x5 x6 w0 (by omega) (by rw [gR]; exact hr) (by have cv := cnat (x := x6) (by omega); have ud := ixi_28 w0.1; have cd2 := cnat (x := σc.1 28) (by omega); exact tk_at hh (by omega) (by omega)) (by omega) (by omega))
    refine go_iload_n (i := 3) (pc' := 261) dX12_prints_260 rfl rfl rfl ?_
    refine gz_if_ne (tgt := 267) (pc' := 264) dX12_prints_261 rfl (by decide) (fun c12 => ?_) (fun c12 => ?_)
    · refine go_aload_n (i := 0) (pc' := 268) dX12_prints_267 rfl rfl rfl ?_
      refine go_bipush (v := 40) (pc' := 270) dX12_prints_268 rfl (by decide) ?_
      refine go_cvv (pc' := 273) lk_X12_250 (c_X12_puts _ _ _ _ (by omega) w0.1) rfl rfl (Nat.le_of_ble_eq_true rfl) (by decide) rfl rfl rfl ⟨Nat.le_of_ble_eq_true rfl, Nat.le_of_ble_eq_true rfl⟩ ⟨rfl, rfl⟩ dX12_prints_270 rfl (fun σ13 h13 => ?_)
      obtain ⟨u13, h13⟩ := h13
      have w13 := WM_trans w0 (WM_of_p u13)
      have gR := (u13.2.2 125 (by decide)).trans gR
      have gd13 := congrArg Int32.toInt (u13.2.1 28 (by decide))
      refine go_aload_n (i := 0) (pc' := 274) dX12_prints_273 rfl rfl rfl ?_
      refine go_iload (pc' := 276) dX12_prints_274 rfl rfl ?_
      refine go_cvv (pc' := 279) lk_X12_257 (c_X12_number _ _ _ _ (by omega) (by omega) w13.1) rfl rfl (Nat.le_of_ble_eq_true rfl) (by decide) rfl rfl rfl ⟨Nat.le_of_ble_eq_true rfl, Nat.le_of_ble_eq_true rfl⟩ ⟨rfl, rfl⟩ dX12_prints_276 rfl (fun σ14 h14 => ?_)
      obtain ⟨u14, h14⟩ := h14
      have w14 := WM_trans w13 (WM_of_p u14)
      have gR := (u14.2.2 125 (by decide)).trans gR
      have gd14 := congrArg Int32.toInt (u14.2.1 28 (by decide))
      refine go_aload_n (i := 0) (pc' := 280) dX12_prints_279 rfl rfl rfl ?_
      refine go_bipush (v := 41) (pc' := 282) dX12_prints_280 rfl (by decide) ?_
      refine go_cvv (pc' := 285) lk_X12_250 (c_X12_puts _ _ _ _ (by omega) w14.1) rfl rfl (Nat.le_of_ble_eq_true rfl) (by decide) rfl rfl rfl ⟨Nat.le_of_ble_eq_true rfl, Nat.le_of_ble_eq_true rfl⟩ ⟨rfl, rfl⟩ dX12_prints_282 rfl (fun σ15 h15 => ?_)
      obtain ⟨u15, h15⟩ := h15
      have w15 := WM_trans w14 (WM_of_p u15)
      have gR := (u15.2.2 125 (by decide)).trans gR
      have gd15 := congrArg Int32.toInt (u15.2.1 28 (by decide))
      refine go_goto (tgt := 72) dX12_prints_285 (by decide) ?_
      exact go_lv (lv' := [(0, .ref (L.2.1 13)), (1, .int a), (2, .int d), (3, .int y), (4, .int y2), (5, .int x5), (6, .int x6)]) rfl (K σ15 x5 x6 w15 (by omega) (by rw [gR]; exact hr) (by have cv := cnat (x := x6) (by omega); have ud := ixi_28 w15.1; have cd2 := cnat (x := σ15.1 28) (by omega); exact tk_at hh (by omega) (by omega)) (by omega) (by omega))
    refine go_goto (tgt := 72) dX12_prints_264 (by decide) ?_
    exact go_lv (lv' := [(0, .ref (L.2.1 13)), (1, .int a), (2, .int d), (3, .int y), (4, .int y2), (5, .int x5), (6, .int x6)]) rfl (K σc x5 x6 w0 (by omega) (by rw [gR]; exact hr) (by have cv := cnat (x := x6) (by omega); have ud := ixi_28 w0.1; have cd2 := cnat (x := σc.1 28) (by omega); exact tk_at hh (by omega) (by omega)) (by omega) (by omega))
  refine gz_iinc (c := 1) (pc' := 248) dX12_prints_245 rfl rfl (by decide) (by decide) (by decide) (by omega) (fun v16 h16 e16 => ?_)
  refine go_iload (pc' := 250) dX12_prints_248 rfl rfl ?_
  refine go_bipush (v := 110) (pc' := 252) dX12_prints_250 rfl (by decide) ?_
  refine gz_icmp_ne (tgt := 288) (pc' := 255) dX12_prints_252 rfl (by decide) (fun c17 => ?_) (fun c17 => ?_)
  · have c64 := cnat (x := v16) (by omega)
    have hh : (∃ f2 stk2, tk T N f2 (v16).toNatClampNeg ((σc.1 28).toNatClampNeg + 1) stk2 = -1) ∧ p.toInt + 2 ≤ (v16).toInt ∧ (v16).toInt ≤ (N : Int) := by
      by_cases z : x8.toInt = 115
      · have tj1 := tj (by omega)
        exact ⟨tk_at (mk_s tm (by omega)).2 (by omega) rfl, by omega, by omega⟩
      · exact ⟨tk_at (mk_o tm (by omega) (by omega)) (by omega) rfl, by omega, by omega⟩
    exact go_lv (lv' := [(0, .ref (L.2.1 13)), (1, .int a), (2, .int d), (3, .int y), (4, .int y2), (5, .int x5), (6, .int v16), (8, .int x8), (9, .int x9)]) rfl (seg_mk w0 hr hN hN2 hpp hpm hh.2 tm.1 hh.1 K)
  have hm := mk_note tm (by omega)
  have hh := hm.2
  have h1J := hm.1
  have tj1 := tj (by omega)
  refine go_iload (pc' := 257) dX12_prints_255 rfl rfl ?_
  refine gz_if_gt (tgt := 72) (pc' := 260) dX12_prints_257 rfl (by decide) (fun c18 => ?_) (fun c18 => ?_)
  · exact go_lv (lv' := [(0, .ref (L.2.1 13)), (1, .int a), (2, .int d), (3, .int y), (4, .int y2), (5, .int x5), (6, .int v16)]) rfl (K σc x5 v16 w0 (by omega) (by rw [gR]; exact hr) (by have cv := cnat (x := v16) (by omega); have ud := ixi_28 w0.1; have cd2 := cnat (x := σc.1 28) (by omega); exact tk_at hh (by omega) (by omega)) (by omega) (by omega))
  refine go_iload_n (i := 3) (pc' := 261) dX12_prints_260 rfl rfl rfl ?_
  refine gz_if_ne (tgt := 267) (pc' := 264) dX12_prints_261 rfl (by decide) (fun c19 => ?_) (fun c19 => ?_)
  · refine go_aload_n (i := 0) (pc' := 268) dX12_prints_267 rfl rfl rfl ?_
    refine go_bipush (v := 40) (pc' := 270) dX12_prints_268 rfl (by decide) ?_
    refine go_cvv (pc' := 273) lk_X12_250 (c_X12_puts _ _ _ _ (by omega) w0.1) rfl rfl (Nat.le_of_ble_eq_true rfl) (by decide) rfl rfl rfl ⟨Nat.le_of_ble_eq_true rfl, Nat.le_of_ble_eq_true rfl⟩ ⟨rfl, rfl⟩ dX12_prints_270 rfl (fun σ20 h20 => ?_)
    obtain ⟨u20, h20⟩ := h20
    have w20 := WM_trans w0 (WM_of_p u20)
    have gR := (u20.2.2 125 (by decide)).trans gR
    have gd20 := congrArg Int32.toInt (u20.2.1 28 (by decide))
    refine go_aload_n (i := 0) (pc' := 274) dX12_prints_273 rfl rfl rfl ?_
    refine go_iload (pc' := 276) dX12_prints_274 rfl rfl ?_
    refine go_cvv (pc' := 279) lk_X12_257 (c_X12_number _ _ _ _ (by omega) (by omega) w20.1) rfl rfl (Nat.le_of_ble_eq_true rfl) (by decide) rfl rfl rfl ⟨Nat.le_of_ble_eq_true rfl, Nat.le_of_ble_eq_true rfl⟩ ⟨rfl, rfl⟩ dX12_prints_276 rfl (fun σ21 h21 => ?_)
    obtain ⟨u21, h21⟩ := h21
    have w21 := WM_trans w20 (WM_of_p u21)
    have gR := (u21.2.2 125 (by decide)).trans gR
    have gd21 := congrArg Int32.toInt (u21.2.1 28 (by decide))
    refine go_aload_n (i := 0) (pc' := 280) dX12_prints_279 rfl rfl rfl ?_
    refine go_bipush (v := 41) (pc' := 282) dX12_prints_280 rfl (by decide) ?_
    refine go_cvv (pc' := 285) lk_X12_250 (c_X12_puts _ _ _ _ (by omega) w21.1) rfl rfl (Nat.le_of_ble_eq_true rfl) (by decide) rfl rfl rfl ⟨Nat.le_of_ble_eq_true rfl, Nat.le_of_ble_eq_true rfl⟩ ⟨rfl, rfl⟩ dX12_prints_282 rfl (fun σ22 h22 => ?_)
    obtain ⟨u22, h22⟩ := h22
    have w22 := WM_trans w21 (WM_of_p u22)
    have gR := (u22.2.2 125 (by decide)).trans gR
    have gd22 := congrArg Int32.toInt (u22.2.1 28 (by decide))
    refine go_goto (tgt := 72) dX12_prints_285 (by decide) ?_
    exact go_lv (lv' := [(0, .ref (L.2.1 13)), (1, .int a), (2, .int d), (3, .int y), (4, .int y2), (5, .int x5), (6, .int v16)]) rfl (K σ22 x5 v16 w22 (by omega) (by rw [gR]; exact hr) (by have cv := cnat (x := v16) (by omega); have ud := ixi_28 w22.1; have cd2 := cnat (x := σ22.1 28) (by omega); exact tk_at hh (by omega) (by omega)) (by omega) (by omega))
  refine go_goto (tgt := 72) dX12_prints_264 (by decide) ?_
  exact go_lv (lv' := [(0, .ref (L.2.1 13)), (1, .int a), (2, .int d), (3, .int y), (4, .int y2), (5, .int x5), (6, .int v16)]) rfl (K σc x5 v16 w0 (by omega) (by rw [gR]; exact hr) (by have cv := cnat (x := v16) (by omega); have ud := ixi_28 w0.1; have cd2 := cnat (x := σc.1 28) (by omega); exact tk_at hh (by omega) (by omega)) (by omega) (by omega))
set_option maxHeartbeats 4000000 in
set_option maxRecDepth 100000 in
theorem c_X12_prints (l : Launch) (L : WL) (σ : ST) (a d y : Int32) (ha : 0 ≤ a.toInt ∧ a.toInt < 12) (ix : IV σ) (tv : TV σ) : CtV l L yX12_prints cX12_prints 10 none rm_X12_prints [.ref (L.2.1 13), .int a, .int d, .int y] σ (fun σ2 => WM σ σ2 ∧ (y.toInt = 0 → (σ2.1 29).toInt ≤ 160)) := by
  refine ctV_go (own := RX12) (by decide) rfl (Nat.le_of_ble_eq_true rfl) (fun F hF => ?_)
  subst hF
  have n0 : (0 : Int32).toInt = 0 := by decide
  have n1 : (1 : Int32).toInt = 1 := by decide
  have n110 : (110 : Int32).toInt = 110 := by decide
  have n115 : (115 : Int32).toInt = 115 := by decide
  have n123 : (123 : Int32).toInt = 123 := by decide
  have n125 : (125 : Int32).toInt = 125 := by decide
  have n160 : (160 : Int32).toInt = 160 := by decide
  have w0 : WM σ σ := WM_rfl ix
  have ca := cnat (x := a) (by omega)
  have g9 := ixa_109 ix (a).toNatClampNeg (by omega)
  have cn := cnat (x := σ.2 109 (a).toNatClampNeg) (by omega)
  have tva := tv (a).toNatClampNeg (by omega)
  refine go_aload_n (i := 0) (pc' := 1) dX12_prints_0 rfl rfl rfl ?_
  refine gf_13_length (pc' := 4) dX12_prints_1 rfl fl_X12_50 ?_
  refine go_iload_n (i := 1) (pc' := 5) dX12_prints_4 rfl rfl rfl ?_
  refine go_iald (pc' := 6) dX12_prints_5 rfl (by decide) (by decide) rfl (vin_of (n := 12) (by omega) (by omega)) ?_
  have g1 := ixa_109 ix (a).toNatClampNeg (vinlt (vin_of (n := 12) (by omega) (by omega)))
  refine go_topz (fun y2 h2 e2 => ?_)
  refine go_istore (pc' := 8) dX12_prints_6 rfl (by decide) ?_
  refine go_iconst (v := 0) (pc' := 9) dX12_prints_8 rfl (by decide) ?_
  refine go_istore (pc' := 11) dX12_prints_9 rfl (by decide) ?_
  have loop11_3 : ∀ (dd3 : Nat) (σ3 : ST) (x5_3 : Int32), WM σ σ3 → (0 ≤ (x5_3).toInt ∧ (x5_3).toInt ≤ 161) → (∀ j : Nat, (j : Int) < (x5_3).toInt → (σ3.2 125 j).toInt = if j < (σ.2 109 (a).toNatClampNeg).toNatClampNeg then (lrT σ (a).toNatClampNeg) j else 0) → (161 - (x5_3).toInt).toNat = dd3 → Go F L RX12 cX12_prints 10 rm_X12_prints none (RV F L (fun σ2 => WM σ σ2 ∧ (y.toInt = 0 → (σ2.1 29).toInt ≤ 160))) σ3 11 [(0, .ref (L.2.1 13)), (1, .int a), (2, .int d), (3, .int y), (4, .int y2), (5, .int x5_3)] [] := by
    intro dd3
    induction dd3 using Nat.strongRecOn with
    | _ dd3 ih3 =>
      intro σ3 x5_3 w3 h_3 hr_3 hm_3
      refine go_iload (pc' := 13) dX12_prints_11 rfl rfl ?_
      refine go_sipush (v := 160) (pc' := 16) dX12_prints_13 rfl (by decide) ?_
      refine gz_icmp_gt (tgt := 56) (pc' := 19) dX12_prints_16 rfl (by decide) (fun c4 => ?_) (fun c4 => ?_)
      · have hR0 := hr_3
        refine go_aload_n (i := 0) (pc' := 57) dX12_prints_56 rfl rfl rfl ?_
        refine go_iconst (v := 0) (pc' := 58) dX12_prints_57 rfl (by decide) ?_
        refine pf_13_printMany (pc' := 61) dX12_prints_58 rfl fl_X12_247 ?_
        refine go_gen (P := fun s => WM σ s ∧ s.2 125 = σ3.2 125 ∧ s.1 29 = (0 : Int32)) ⟨⟨ixs_29 w3.1 (by omega) (by omega), Ag_setI w3.2 (by decide)⟩, ⟨rfl, setI_same _ _ _⟩⟩ (fun σ5 z5 => ?_)
        obtain ⟨w5, g5⟩ := z5
        have gR := g5.1
        have gP := congrArg Int32.toInt g5.2
        refine go_aload_n (i := 0) (pc' := 62) dX12_prints_61 rfl rfl rfl ?_
        refine go_iconst (v := 0) (pc' := 63) dX12_prints_62 rfl (by decide) ?_
        refine pf_13_opened (pc' := 66) dX12_prints_63 rfl fl_X12_218 ?_
        refine go_gen (P := fun s => WM σ s ∧ s.2 125 = σ5.2 125 ∧ s.1 29 = σ5.1 29 ∧ s.1 28 = (0 : Int32)) ⟨⟨ixs_28 w5.1 (by omega) (by omega), Ag_setI w5.2 (by decide)⟩, ⟨rfl, rfl, setI_same _ _ _⟩⟩ (fun σ6 z6 => ?_)
        obtain ⟨w6, g6⟩ := z6
        have gO := g6
        have gR := gO.1.trans gR
        have gq6 := congrArg Int32.toInt gO.2.1
        have gd6 := congrArg Int32.toInt gO.2.2
        refine go_iconst (v := 0) (pc' := 67) dX12_prints_66 rfl (by decide) ?_
        refine go_istore (pc' := 69) dX12_prints_67 rfl (by decide) ?_
        refine go_iconst (v := 0) (pc' := 70) dX12_prints_69 rfl (by decide) ?_
        refine go_istore (pc' := 72) dX12_prints_70 rfl (by decide) ?_
        have loop72_7 : ∀ (dd7 : Nat) (σ7 : ST) (x5_7 : Int32) (x6_7 : Int32), WM σ σ7 → (0 ≤ (x6_7).toInt ∧ (x6_7).toInt ≤ (y2).toInt) → (ROWs (lrT σ (a).toNatClampNeg) (σ.2 109 (a).toNatClampNeg).toNatClampNeg (σ7.2 125)) → (∃ f stk, tk (lrT σ (a).toNatClampNeg) (σ.2 109 (a).toNatClampNeg).toNatClampNeg f (x6_7).toNatClampNeg (σ7.1 28).toNatClampNeg stk = -1) → ((σ7.1 29).toInt ≤ 2 * (x6_7).toInt ∧ (y.toInt = 0 → (σ7.1 29).toInt ≤ (x6_7).toInt)) → (160 - (x6_7).toInt).toNat = dd7 → Go F L RX12 cX12_prints 10 rm_X12_prints none (RV F L (fun σ2 => WM σ σ2 ∧ (y.toInt = 0 → (σ2.1 29).toInt ≤ 160))) σ7 72 [(0, .ref (L.2.1 13)), (1, .int a), (2, .int d), (3, .int y), (4, .int y2), (5, .int x5_7), (6, .int x6_7)] [] := by
          intro dd7
          induction dd7 using Nat.strongRecOn with
          | _ dd7 ih7 =>
            intro σ7 x5_7 x6_7 w7 h_7 hr_7 ht_7 hp_7 hm_7
            refine go_iload (pc' := 74) dX12_prints_72 rfl rfl ?_
            refine go_iload (pc' := 76) dX12_prints_74 rfl rfl ?_
            refine gz_icmp_ge (tgt := 384) (pc' := 79) dX12_prints_76 rfl (by decide) (fun c8 => ?_) (fun c8 => ?_)
            · exact go_vret dX12_prints_384 rfl (⟨w7, fun q => by have z := hp_7.2 q; omega⟩)
            have c6 := cnat (x := x6_7) (by omega)
            have ud := ixi_28 w7.1
            have cd := cnat (x := σ7.1 28) (by omega)
            have p6 : (x6_7).toNatClampNeg < (σ.2 109 (a).toNatClampNeg).toNatClampNeg := by omega
            have rr := hr_7 (x6_7).toNatClampNeg (by omega)
            rw [if_pos p6] at rr
            have gR : σ7.2 125 = σ7.2 125 := rfl
            refine go_aload_n (i := 0) (pc' := 80) dX12_prints_79 rfl rfl rfl ?_
            refine gf_13_row (pc' := 83) dX12_prints_80 rfl fl_X12_102 ?_
            refine go_iload (pc' := 85) dX12_prints_83 rfl rfl ?_
            refine go_iald (pc' := 86) dX12_prints_85 rfl (by decide) (by decide) rfl (vin_of (n := 161) (by omega) (by omega)) ?_
            refine go_topz (fun y9 h9 e9 => ?_)
            refine go_istore (pc' := 88) dX12_prints_86 rfl (by decide) ?_
            have tp : (lrT σ (a).toNatClampNeg) (x6_7).toNatClampNeg = (y9).toInt := by omega
            refine go_iload (pc' := 90) dX12_prints_88 rfl rfl ?_
            refine go_bipush (v := 125) (pc' := 92) dX12_prints_90 rfl (by decide) ?_
            refine gz_icmp_ne (tgt := 149) (pc' := 95) dX12_prints_92 rfl (by decide) (fun c10 => ?_) (fun c10 => ?_)
            · refine go_iload (pc' := 151) dX12_prints_149 rfl rfl ?_
              refine go_bipush (v := 123) (pc' := 153) dX12_prints_151 rfl (by decide) ?_
              refine gz_icmp_eq (tgt := 173) (pc' := 156) dX12_prints_153 rfl (by decide) (fun c11 => ?_) (fun c11 => ?_)
              · have tm := tk_mk ht_7 p6 (by omega)
                have tm2 := tm.2.1
                have tm1 := tm.1
                have hro := hr_7
                refine go_aload_n (i := 0) (pc' := 174) dX12_prints_173 rfl rfl rfl ?_
                refine gf_13_row (pc' := 177) dX12_prints_174 rfl fl_X12_102 ?_
                refine go_iload (pc' := 179) dX12_prints_177 rfl rfl ?_
                refine go_iconst (v := 1) (pc' := 180) dX12_prints_179 rfl (by decide) ?_
                refine gz_iadd (pc' := 181) dX12_prints_180 rfl (by omega) (fun v12 h12 e12 => ?_)
                have ez : (v12).toNatClampNeg = (x6_7).toNatClampNeg + 1 := by have cz := cnat (x := v12) (by omega); omega
                have rs := hr_7 ((x6_7).toNatClampNeg + 1) (by omega)
                rw [if_pos tm2] at rs
                refine go_iald (pc' := 182) dX12_prints_181 rfl (by decide) (by decide) rfl (vin_of (n := 161) (by omega) (by omega)) ?_
                have r8 : ((σ7.2 125 (v12).toNatClampNeg)).toInt = (lrT σ (a).toNatClampNeg) ((x6_7).toNatClampNeg + 1) := by rw [ez]; exact rs
                refine go_topz (fun y13 h13 e13 => ?_)
                refine go_istore (pc' := 184) dX12_prints_182 rfl (by decide) ?_
                have ts : (lrT σ (a).toNatClampNeg) ((x6_7).toNatClampNeg + 1) = (y13).toInt := by omega
                obtain ⟨j0, nd1, nd2, nd3⟩ := nd_of hro (by omega) tm
                refine gz_iinc (c := 2) (pc' := 187) dX12_prints_184 rfl rfl (by decide) (by decide) (by decide) (by omega) (fun v14 h14 e14 => ?_)
                have c62 := cnat (x := v14) (by omega)
                have e62 : (v14).toNatClampNeg = (x6_7).toNatClampNeg + 2 := by omega
                refine go_aload_n (i := 0) (pc' := 188) dX12_prints_187 rfl rfl rfl ?_
                refine gf_13_row (pc' := 191) dX12_prints_188 rfl fl_X12_102 ?_
                refine go_iload (pc' := 193) dX12_prints_191 rfl rfl ?_
                refine go_csi (pc' := 196) ls_X12_243 (c_numberAt_125 _ _ _ _ (by omega) j0 nd1 (by rw [e62]; exact nd2) (by rw [e62]; exact nd3) w7.1) rfl rfl (Nat.le_of_ble_eq_true rfl) ⟨Nat.le_of_ble_eq_true rfl, Nat.le_of_ble_eq_true rfl⟩ ⟨rfl, rfl⟩ dX12_prints_193 rfl (fun r15 σ15 h15 => ?_)
                obtain ⟨e15, h15⟩ := h15
                have e15 := e15.symm
                subst e15
                refine go_istore (pc' := 198) dX12_prints_196 rfl (by decide) ?_
                have tj : ((y13).toInt = 115 ∨ (y13).toInt = 110) → 1 ≤ dcnt (lrT σ (a).toNatClampNeg) (σ.2 109 (a).toNatClampNeg).toNatClampNeg 4 ((x6_7).toNatClampNeg + 2) ∧ (x6_7).toNatClampNeg + 2 + dcnt (lrT σ (a).toNatClampNeg) (σ.2 109 (a).toNatClampNeg).toNatClampNeg 4 ((x6_7).toNatClampNeg + 2) < (σ.2 109 (a).toNatClampNeg).toNatClampNeg ∧ ¬ digP ((lrT σ (a).toNatClampNeg) ((x6_7).toNatClampNeg + 2 + dcnt (lrT σ (a).toNatClampNeg) (σ.2 109 (a).toNatClampNeg).toNatClampNeg 4 ((x6_7).toNatClampNeg + 2))) := by
                  intro q
                  rcases tm.2.2.2 with ⟨z1, z2, z3, z4, -⟩ | ⟨z1, z2, z3, z4, -⟩ | ⟨z1, z2, -⟩
                  · exact ⟨z2, z3, by omega⟩
                  · exact ⟨z2, z3, by omega⟩
                  · exfalso; omega
                have hJ := dcnt_le (lrT σ (a).toNatClampNeg) (σ.2 109 (a).toNatClampNeg).toNatClampNeg 4 ((x6_7).toNatClampNeg + 2)
                refine go_iload (pc' := 200) dX12_prints_198 rfl rfl ?_
                refine go_bipush (v := 115) (pc' := 202) dX12_prints_200 rfl (by decide) ?_
                refine gz_icmp_eq (tgt := 212) (pc' := 205) dX12_prints_202 rfl (by decide) (fun c16 => ?_) (fun c16 => ?_)
                · have loop212_17 : ∀ (dd17 : Nat) (x6_17 : Int32), (0 ≤ (x6_17).toInt ∧ (x6_7).toNatClampNeg + 2 ≤ (x6_17).toNatClampNeg ∧ (x6_17).toNatClampNeg ≤ (x6_7).toNatClampNeg + 2 + dcnt (lrT σ (a).toNatClampNeg) (σ.2 109 (a).toNatClampNeg).toNatClampNeg 4 ((x6_7).toNatClampNeg + 2)) → (200 - (x6_17).toInt).toNat = dd17 → Go F L RX12 cX12_prints 10 rm_X12_prints none (RV F L (fun σ2 => WM σ σ2 ∧ (y.toInt = 0 → (σ2.1 29).toInt ≤ 160))) σ7 212 [(0, .ref (L.2.1 13)), (1, .int a), (2, .int d), (3, .int y), (4, .int y2), (5, .int x5_7), (6, .int x6_17), (7, .int y9), (8, .int y13), (9, .int r15)] [] := by
                    intro dd17
                    induction dd17 using Nat.strongRecOn with
                    | _ dd17 ih17 =>
                      intro x6_17 h2_17 hm_17
                      have tj1 := tj (by omega)
                      have c6l := cnat (x := x6_17) (by omega)
                      have r6 := hro (x6_17).toNatClampNeg (by omega)
                      rw [if_pos (by omega)] at r6
                      refine go_aload_n (i := 0) (pc' := 213) dX12_prints_212 rfl rfl rfl ?_
                      refine gf_13_row (pc' := 216) dX12_prints_213 rfl fl_X12_102 ?_
                      refine go_iload (pc' := 218) dX12_prints_216 rfl rfl ?_
                      refine go_iald (pc' := 219) dX12_prints_218 rfl (by decide) (by decide) rfl (vin_of (n := 161) (by omega) (by omega)) ?_
                      refine go_csi (pc' := 222) ls_X12_221 (c_X12_isDigit _ _ _ _) rfl rfl (Nat.le_of_ble_eq_true rfl) ⟨Nat.le_of_ble_eq_true rfl, Nat.le_of_ble_eq_true rfl⟩ ⟨rfl, rfl⟩ dX12_prints_219 rfl (fun r18 σ18 h18 => ?_)
                      obtain ⟨e18, h18⟩ := h18
                      have e18 := e18.symm
                      subst e18
                      refine go_eqB (tgt := 231) (pc' := 225) h18 dX12_prints_222 rfl (by decide) (fun c19 => ?_) (fun c19 => ?_)
                      · exact go_lv (lv' := [(0, .ref (L.2.1 13)), (1, .int a), (2, .int d), (3, .int y), (4, .int y2), (5, .int x5_7), (6, .int x6_17), (8, .int y13), (9, .int r15)]) rfl (seg_231 w7 hro (by omega) (by omega) (p := x6_7) (by omega) hp_7 (by omega) tm ts tj (by first | exact ⟨fun q => by exfalso; omega, fun _ => by omega, by omega⟩ | exact ⟨fun _ => dg_stop r6 c19 (by omega) (by omega), fun q => by exfalso; omega, by omega⟩) (fun σx x5 x6 q1 q2 q3 q4 q5 q6 => ih7 _ (by omega) σx x5 x6 q1 q2 q3 q4 q5 rfl))
                      have lt := dg_more r6 c19 tj1.2.2 (by omega) (by omega)
                      refine gz_iinc (c := 1) (pc' := 228) dX12_prints_225 rfl rfl (by decide) (by decide) (by decide) (by omega) (fun v20 h20 e20 => ?_)
                      refine go_goto (tgt := 212) dX12_prints_228 (by decide) ?_
                      exact go_lv (lv' := [(0, .ref (L.2.1 13)), (1, .int a), (2, .int d), (3, .int y), (4, .int y2), (5, .int x5_7), (6, .int v20), (7, .int y9), (8, .int y13), (9, .int r15)]) rfl (ih17 _ (by omega)  v20 (by have c6v := cnat (x := v20) (by omega); omega) rfl)
                  exact go_lv (lv' := [(0, .ref (L.2.1 13)), (1, .int a), (2, .int d), (3, .int y), (4, .int y2), (5, .int x5_7), (6, .int v14), (7, .int y9), (8, .int y13), (9, .int r15)]) rfl (loop212_17 _  v14 (by have c6v := cnat (x := v14) (by omega); omega) rfl)
                refine go_iload (pc' := 207) dX12_prints_205 rfl rfl ?_
                refine go_bipush (v := 110) (pc' := 209) dX12_prints_207 rfl (by decide) ?_
                refine gz_icmp_ne (tgt := 231) (pc' := 212) dX12_prints_209 rfl (by decide) (fun c21 => ?_) (fun c21 => ?_)
                · exact go_lv (lv' := [(0, .ref (L.2.1 13)), (1, .int a), (2, .int d), (3, .int y), (4, .int y2), (5, .int x5_7), (6, .int v14), (8, .int y13), (9, .int r15)]) rfl (seg_231 w7 hro (by omega) (by omega) (p := x6_7) (by omega) hp_7 (by omega) tm ts tj (by first | exact ⟨fun q => by exfalso; omega, fun _ => by omega, by omega⟩ | exact ⟨fun _ => dg_stop r6 c21 (by omega) (by omega), fun q => by exfalso; omega, by omega⟩) (fun σx x5 x6 q1 q2 q3 q4 q5 q6 => ih7 _ (by omega) σx x5 x6 q1 q2 q3 q4 q5 rfl))
                have loop212_22 : ∀ (dd22 : Nat) (x6_22 : Int32), (0 ≤ (x6_22).toInt ∧ (x6_7).toNatClampNeg + 2 ≤ (x6_22).toNatClampNeg ∧ (x6_22).toNatClampNeg ≤ (x6_7).toNatClampNeg + 2 + dcnt (lrT σ (a).toNatClampNeg) (σ.2 109 (a).toNatClampNeg).toNatClampNeg 4 ((x6_7).toNatClampNeg + 2)) → (200 - (x6_22).toInt).toNat = dd22 → Go F L RX12 cX12_prints 10 rm_X12_prints none (RV F L (fun σ2 => WM σ σ2 ∧ (y.toInt = 0 → (σ2.1 29).toInt ≤ 160))) σ7 212 [(0, .ref (L.2.1 13)), (1, .int a), (2, .int d), (3, .int y), (4, .int y2), (5, .int x5_7), (6, .int x6_22), (7, .int y9), (8, .int y13), (9, .int r15)] [] := by
                  intro dd22
                  induction dd22 using Nat.strongRecOn with
                  | _ dd22 ih22 =>
                    intro x6_22 h2_22 hm_22
                    have tj1 := tj (by omega)
                    have c6l := cnat (x := x6_22) (by omega)
                    have r6 := hro (x6_22).toNatClampNeg (by omega)
                    rw [if_pos (by omega)] at r6
                    refine go_aload_n (i := 0) (pc' := 213) dX12_prints_212 rfl rfl rfl ?_
                    refine gf_13_row (pc' := 216) dX12_prints_213 rfl fl_X12_102 ?_
                    refine go_iload (pc' := 218) dX12_prints_216 rfl rfl ?_
                    refine go_iald (pc' := 219) dX12_prints_218 rfl (by decide) (by decide) rfl (vin_of (n := 161) (by omega) (by omega)) ?_
                    refine go_csi (pc' := 222) ls_X12_221 (c_X12_isDigit _ _ _ _) rfl rfl (Nat.le_of_ble_eq_true rfl) ⟨Nat.le_of_ble_eq_true rfl, Nat.le_of_ble_eq_true rfl⟩ ⟨rfl, rfl⟩ dX12_prints_219 rfl (fun r23 σ23 h23 => ?_)
                    obtain ⟨e23, h23⟩ := h23
                    have e23 := e23.symm
                    subst e23
                    refine go_eqB (tgt := 231) (pc' := 225) h23 dX12_prints_222 rfl (by decide) (fun c24 => ?_) (fun c24 => ?_)
                    · exact go_lv (lv' := [(0, .ref (L.2.1 13)), (1, .int a), (2, .int d), (3, .int y), (4, .int y2), (5, .int x5_7), (6, .int x6_22), (8, .int y13), (9, .int r15)]) rfl (seg_231 w7 hro (by omega) (by omega) (p := x6_7) (by omega) hp_7 (by omega) tm ts tj (by first | exact ⟨fun q => by exfalso; omega, fun _ => by omega, by omega⟩ | exact ⟨fun _ => dg_stop r6 c24 (by omega) (by omega), fun q => by exfalso; omega, by omega⟩) (fun σx x5 x6 q1 q2 q3 q4 q5 q6 => ih7 _ (by omega) σx x5 x6 q1 q2 q3 q4 q5 rfl))
                    have lt := dg_more r6 c24 tj1.2.2 (by omega) (by omega)
                    refine gz_iinc (c := 1) (pc' := 228) dX12_prints_225 rfl rfl (by decide) (by decide) (by decide) (by omega) (fun v25 h25 e25 => ?_)
                    refine go_goto (tgt := 212) dX12_prints_228 (by decide) ?_
                    exact go_lv (lv' := [(0, .ref (L.2.1 13)), (1, .int a), (2, .int d), (3, .int y), (4, .int y2), (5, .int x5_7), (6, .int v25), (7, .int y9), (8, .int y13), (9, .int r15)]) rfl (ih22 _ (by omega)  v25 (by have c6v := cnat (x := v25) (by omega); omega) rfl)
                exact go_lv (lv' := [(0, .ref (L.2.1 13)), (1, .int a), (2, .int d), (3, .int y), (4, .int y2), (5, .int x5_7), (6, .int v14), (7, .int y9), (8, .int y13), (9, .int r15)]) rfl (loop212_22 _  v14 (by have c6v := cnat (x := v14) (by omega); omega) rfl)
              have hh := tk_pl ht_7 p6 (by omega) (by omega)
              refine go_iload (pc' := 158) dX12_prints_156 rfl rfl ?_
              refine gz_if_ne (tgt := 167) (pc' := 161) dX12_prints_158 rfl (by decide) (fun c26 => ?_) (fun c26 => ?_)
              · refine gz_iinc (c := 1) (pc' := 170) dX12_prints_167 rfl rfl (by decide) (by decide) (by decide) (by omega) (fun v27 h27 e27 => ?_)
                refine go_goto (tgt := 72) dX12_prints_170 (by decide) ?_
                exact go_lv (lv' := [(0, .ref (L.2.1 13)), (1, .int a), (2, .int d), (3, .int y), (4, .int y2), (5, .int x5_7), (6, .int v27)]) rfl (ih7 _ (by omega) σ7 x5_7 v27 w7 (by omega) (by rw [gR]; exact hr_7) (by have cv := cnat (x := v27) (by omega); have ud := ixi_28 w7.1; have cd2 := cnat (x := σ7.1 28) (by omega); exact tk_at hh (by omega) (by omega)) (by omega) rfl)
              refine go_aload_n (i := 0) (pc' := 162) dX12_prints_161 rfl rfl rfl ?_
              refine go_iload (pc' := 164) dX12_prints_162 rfl rfl ?_
              refine go_cvv (pc' := 167) lk_X12_250 (c_X12_puts _ _ _ _ (by omega) w7.1) rfl rfl (Nat.le_of_ble_eq_true rfl) (by decide) rfl rfl rfl ⟨Nat.le_of_ble_eq_true rfl, Nat.le_of_ble_eq_true rfl⟩ ⟨rfl, rfl⟩ dX12_prints_164 rfl (fun σ28 h28 => ?_)
              obtain ⟨u28, h28⟩ := h28
              have w28 := WM_trans w7 (WM_of_p u28)
              have gR := (u28.2.2 125 (by decide)).trans gR
              have gd28 := congrArg Int32.toInt (u28.2.1 28 (by decide))
              refine gz_iinc (c := 1) (pc' := 170) dX12_prints_167 rfl rfl (by decide) (by decide) (by decide) (by omega) (fun v29 h29 e29 => ?_)
              refine go_goto (tgt := 72) dX12_prints_170 (by decide) ?_
              exact go_lv (lv' := [(0, .ref (L.2.1 13)), (1, .int a), (2, .int d), (3, .int y), (4, .int y2), (5, .int x5_7), (6, .int v29)]) rfl (ih7 _ (by omega) σ28 x5_7 v29 w28 (by omega) (by rw [gR]; exact hr_7) (by have cv := cnat (x := v29) (by omega); have ud := ixi_28 w28.1; have cd2 := cnat (x := σ28.1 28) (by omega); exact tk_at hh (by omega) (by omega)) (by omega) rfl)
            have tc := tk_cl ht_7 p6 (by omega)
            exact go_lv (lv' := [(0, .ref (L.2.1 13)), (1, .int a), (2, .int d), (3, .int y), (4, .int y2), (5, .int x5_7), (6, .int x6_7)]) rfl (seg_cl w7 hr_7 (by omega) (by omega) (by omega) hp_7 rfl (by omega) tc.1 tc.2 (fun σx x5 x6 q1 q2 q3 q4 q5 q6 => ih7 _ (by omega) σx x5 x6 q1 q2 q3 q4 q5 rfl))
        exact go_lv (lv' := [(0, .ref (L.2.1 13)), (1, .int a), (2, .int d), (3, .int y), (4, .int y2), (5, .int (0 : Int32)), (6, .int (0 : Int32))]) rfl (loop72_7 _ σ6 (0 : Int32) (0 : Int32) w6 (by omega) (by rw [gR]; exact fun j hj => hR0 j (by omega)) ⟨200, fun _ => 0, by rw [show (σ6.1 28).toNatClampNeg = 0 from by rw [gO.2.2]; rfl]; exact tva⟩ (by omega) rfl)
      refine go_aload_n (i := 0) (pc' := 20) dX12_prints_19 rfl rfl rfl ?_
      refine gf_13_row (pc' := 23) dX12_prints_20 rfl fl_X12_102 ?_
      refine go_iload (pc' := 25) dX12_prints_23 rfl rfl ?_
      refine go_iload (pc' := 27) dX12_prints_25 rfl rfl ?_
      refine go_iload (pc' := 29) dX12_prints_27 rfl rfl ?_
      have mrg49_30 : ∀ (y0_30 : Int32), ((y0_30).toInt = if (x5_3).toNatClampNeg < (σ.2 109 (a).toNatClampNeg).toNatClampNeg then (lrT σ (a).toNatClampNeg) (x5_3).toNatClampNeg else 0) → Go F L RX12 cX12_prints 10 rm_X12_prints none (RV F L (fun σ2 => WM σ σ2 ∧ (y.toInt = 0 → (σ2.1 29).toInt ≤ 160))) σ3 49 [(0, .ref (L.2.1 13)), (1, .int a), (2, .int d), (3, .int y), (4, .int y2), (5, .int x5_3)] [.int y0_30, .int x5_3, .ref (L.2.1 125)] := by
        intro y0_30 hs_30
        refine go_iast (pc' := 50) dX12_prints_49 rfl (by decide) (by decide) rfl (vin_of (n := 161) (by omega) (by omega)) ?_
        refine go_gen (P := fun s => WM σ s ∧ s.2 125 = upd (σ3.2 125) (x5_3).toNatClampNeg y0_30) ⟨⟨ixt_n w3.1 (by decide), Ag_setA w3.2 (by decide)⟩, setA_same _ _ _ _⟩ (fun σ31 z31 => ?_)
        obtain ⟨w31, g31⟩ := z31
        have gA := g31
        refine gz_iinc (c := 1) (pc' := 53) dX12_prints_50 rfl rfl (by decide) (by decide) (by decide) (by omega) (fun v32 h32 e32 => ?_)
        refine go_goto (tgt := 11) dX12_prints_53 (by decide) ?_
        exact go_lv (lv' := [(0, .ref (L.2.1 13)), (1, .int a), (2, .int d), (3, .int y), (4, .int y2), (5, .int v32)]) rfl (ih3 _ (by omega) σ31 v32 w31 (by omega) (upd_step (P := fun j z => z.toInt = if j < (σ.2 109 (a).toNatClampNeg).toNatClampNeg then (lrT σ (a).toNatClampNeg) j else 0) hr_3 gA hs_30 (by omega) (by omega)) rfl)
      refine gz_icmp_ge (tgt := 48) (pc' := 32) dX12_prints_29 rfl (by decide) (fun c33 => ?_) (fun c33 => ?_)
      · refine go_iconst (v := 0) (pc' := 49) dX12_prints_48 rfl (by decide) ?_
        exact go_lv (lv' := [(0, .ref (L.2.1 13)), (1, .int a), (2, .int d), (3, .int y), (4, .int y2), (5, .int x5_3)]) rfl (mrg49_30  (0 : Int32) (by have ck := cnat (x := x5_3) (by omega); first | (rw [if_pos (by omega)]; show _ = (σ.2 110 _).toInt; rw [← ez]) | (rw [if_neg (by omega)]; omega)))
      refine go_aload_n (i := 0) (pc' := 33) dX12_prints_32 rfl rfl rfl ?_
      refine gf_13_texts (pc' := 36) dX12_prints_33 rfl fl_X12_53 ?_
      refine go_sipush (v := 160) (pc' := 39) dX12_prints_36 rfl (by decide) ?_
      refine go_iload_n (i := 1) (pc' := 40) dX12_prints_39 rfl rfl rfl ?_
      refine gz_imulc (n := 160) (pc' := 41) dX12_prints_40 rfl (by decide) (by omega) (fun v34 h34 e34 => ?_)
      refine go_iload (pc' := 43) dX12_prints_41 rfl rfl ?_
      refine gz_iadd (pc' := 44) dX12_prints_43 rfl (by omega) (fun v35 h35 e35 => ?_)
      have ck5 := cnat (x := x5_3) (by omega)
      have ez : (v35).toNatClampNeg = 160 * (a).toNatClampNeg + (x5_3).toNatClampNeg := by have cz := cnat (x := v35) (by omega); omega
      refine go_iald (pc' := 45) dX12_prints_44 rfl (by decide) (by decide) rfl (vin_of (n := 1920) (by omega) (by omega)) ?_
      refine go_topq (y := (σ.2 110 (v35).toNatClampNeg)) (congrFun (w3.2.2 110 (by decide)) _) ?_
      have g36 := ixa_110 ix (v35).toNatClampNeg (vinlt (vin_of (n := 1920) (by omega) (by omega)))
      refine go_goto (tgt := 49) dX12_prints_45 (by decide) ?_
      exact go_lv (lv' := [(0, .ref (L.2.1 13)), (1, .int a), (2, .int d), (3, .int y), (4, .int y2), (5, .int x5_3)]) rfl (mrg49_30  (σ.2 110 (v35).toNatClampNeg) (by have ck := cnat (x := x5_3) (by omega); first | (rw [if_pos (by omega)]; show _ = (σ.2 110 _).toInt; rw [← ez]) | (rw [if_neg (by omega)]; omega)))
  exact go_lv (lv' := [(0, .ref (L.2.1 13)), (1, .int a), (2, .int d), (3, .int y), (4, .int y2), (5, .int (0 : Int32))]) rfl (loop11_3 _ σ (0 : Int32) w0 (by omega) (fun j hj => by exfalso; omega) rfl)
set_option maxHeartbeats 4000000 in
set_option maxRecDepth 100000 in
theorem c_X12_print (l : Launch) (L : WL) (σ : ST) (a b d : Int32) (ix : IV σ) (tv : TV σ) : CtI l L yX12_print cX12_print 4 (some .int) rm_X12_print [.ref (L.2.1 13), .int a, .int b, .int d] σ (fun _ σ2 => WM σ σ2) := by
  refine ctI_go (own := RX12) (by decide) rfl (Nat.le_of_ble_eq_true rfl) (fun F hF => ?_)
  subst hF
  have nm2 : (-2 : Int32).toInt = -2 := by decide
  have n2 : (2 : Int32).toInt = 2 := by decide
  have w0 : WM σ σ := WM_rfl ix
  have u19 := ixi_19 ix
  have u20 := ixi_20 ix
  have u21 := ixi_21 ix
  have u22 := ixi_22 ix
  refine go_aload_n (i := 0) (pc' := 1) dX12_print_0 rfl rfl rfl ?_
  refine go_iload_n (i := 1) (pc' := 2) dX12_print_1 rfl rfl rfl ?_
  refine go_cvi (pc' := 5) lk_X12_152 (c_X12_isLetter _ _ _ _) rfl rfl (Nat.le_of_ble_eq_true rfl) (by decide) rfl rfl rfl ⟨Nat.le_of_ble_eq_true rfl, Nat.le_of_ble_eq_true rfl⟩ ⟨rfl, rfl⟩ dX12_print_2 rfl (fun r1 σ1 h1 => ?_)
  obtain ⟨e1, h1⟩ := h1
  have e1 := e1.symm
  subst e1
  refine go_eqB (tgt := 23) (pc' := 8) h1 dX12_print_5 rfl (by decide) (fun c2 => ?_) (fun c2 => ?_)
  · refine go_bipush (v := (-2)) (pc' := 25) dX12_print_23 rfl (by decide) ?_
    exact go_iret dX12_print_25 rfl (w0)
  refine go_iload_n (i := 2) (pc' := 9) dX12_print_8 rfl rfl rfl ?_
  refine go_csi (pc' := 12) ls_X12_149 (c_X12_isDay _ _ _ _) rfl rfl (Nat.le_of_ble_eq_true rfl) ⟨Nat.le_of_ble_eq_true rfl, Nat.le_of_ble_eq_true rfl⟩ ⟨rfl, rfl⟩ dX12_print_9 rfl (fun r3 σ3 h3 => ?_)
  obtain ⟨e3, h3⟩ := h3
  have e3 := e3.symm
  subst e3
  refine go_eqB (tgt := 23) (pc' := 15) h3 dX12_print_12 rfl (by decide) (fun c4 => ?_) (fun c4 => ?_)
  · refine go_bipush (v := (-2)) (pc' := 25) dX12_print_23 rfl (by decide) ?_
    exact go_iret dX12_print_25 rfl (w0)
  refine go_iload_n (i := 3) (pc' := 16) dX12_print_15 rfl rfl rfl ?_
  refine go_iconst (v := 2) (pc' := 17) dX12_print_16 rfl (by decide) ?_
  refine go_csi (pc' := 20) ls_X12_135 (c_X12_isIn _ _ _ _ _) rfl rfl (Nat.le_of_ble_eq_true rfl) ⟨Nat.le_of_ble_eq_true rfl, Nat.le_of_ble_eq_true rfl⟩ ⟨rfl, rfl⟩ dX12_print_17 rfl (fun r5 σ5 h5 => ?_)
  obtain ⟨e5, h5⟩ := h5
  have e5 := e5.symm
  subst e5
  refine go_neB (tgt := 26) (pc' := 23) h5 dX12_print_20 rfl (by decide) (fun c6 => ?_) (fun c6 => ?_)
  · refine go_aload_n (i := 0) (pc' := 27) dX12_print_26 rfl rfl rfl ?_
    refine go_iload_n (i := 1) (pc' := 28) dX12_print_27 rfl rfl rfl ?_
    refine go_iload_n (i := 2) (pc' := 29) dX12_print_28 rfl rfl rfl ?_
    refine go_iload_n (i := 3) (pc' := 30) dX12_print_29 rfl rfl rfl ?_
    refine go_cvv (pc' := 33) lk_X12_263 (c_X12_prints _ _ _ _ _ _ (by omega) w0.1 (TV_q w0 tv)) rfl rfl (Nat.le_of_ble_eq_true rfl) (by decide) rfl rfl rfl ⟨Nat.le_of_ble_eq_true rfl, Nat.le_of_ble_eq_true rfl⟩ ⟨rfl, rfl⟩ dX12_print_30 rfl (fun σ7 h7 => ?_)
    obtain ⟨u7, h7⟩ := h7
    have w7 := WM_trans w0 u7
    refine go_aload_n (i := 0) (pc' := 34) dX12_print_33 rfl rfl rfl ?_
    refine gf_13_printMany (pc' := 37) dX12_print_34 rfl fl_X12_247 ?_
    have g8 := ixi_29 w7.1
    exact go_iret dX12_print_37 rfl (w7)
  refine go_bipush (v := (-2)) (pc' := 25) dX12_print_23 rfl (by decide) ?_
  exact go_iret dX12_print_25 rfl (w0)
set_option maxHeartbeats 4000000 in
set_option maxRecDepth 100000 in
theorem c_X12_printed (l : Launch) (L : WL) (σ : ST) (a b d e : Int32) (ix : IV σ) (tv : TV σ) : CtI l L yX12_printed cX12_printed 5 (some .int) rm_X12_printed [.ref (L.2.1 13), .int a, .int b, .int d, .int e] σ (fun _ σ2 => WM σ σ2) := by
  refine ctI_go (own := RX12) (by decide) rfl (Nat.le_of_ble_eq_true rfl) (fun F hF => ?_)
  subst hF
  have nm2 : (-2 : Int32).toInt = -2 := by decide
  have nm1 : (-1 : Int32).toInt = -1 := by decide
  have n2 : (2 : Int32).toInt = 2 := by decide
  have w0 : WM σ σ := WM_rfl ix
  have u19 := ixi_19 ix
  have u20 := ixi_20 ix
  have u21 := ixi_21 ix
  have u22 := ixi_22 ix
  refine go_aload_n (i := 0) (pc' := 1) dX12_printed_0 rfl rfl rfl ?_
  refine go_iload_n (i := 1) (pc' := 2) dX12_printed_1 rfl rfl rfl ?_
  refine go_cvi (pc' := 5) lk_X12_152 (c_X12_isLetter _ _ _ _) rfl rfl (Nat.le_of_ble_eq_true rfl) (by decide) rfl rfl rfl ⟨Nat.le_of_ble_eq_true rfl, Nat.le_of_ble_eq_true rfl⟩ ⟨rfl, rfl⟩ dX12_printed_2 rfl (fun r1 σ1 h1 => ?_)
  obtain ⟨e1, h1⟩ := h1
  have e1 := e1.symm
  subst e1
  refine go_eqB (tgt := 23) (pc' := 8) h1 dX12_printed_5 rfl (by decide) (fun c2 => ?_) (fun c2 => ?_)
  · refine go_bipush (v := (-2)) (pc' := 25) dX12_printed_23 rfl (by decide) ?_
    exact go_iret dX12_printed_25 rfl (w0)
  refine go_iload_n (i := 2) (pc' := 9) dX12_printed_8 rfl rfl rfl ?_
  refine go_csi (pc' := 12) ls_X12_149 (c_X12_isDay _ _ _ _) rfl rfl (Nat.le_of_ble_eq_true rfl) ⟨Nat.le_of_ble_eq_true rfl, Nat.le_of_ble_eq_true rfl⟩ ⟨rfl, rfl⟩ dX12_printed_9 rfl (fun r3 σ3 h3 => ?_)
  obtain ⟨e3, h3⟩ := h3
  have e3 := e3.symm
  subst e3
  refine go_eqB (tgt := 23) (pc' := 15) h3 dX12_printed_12 rfl (by decide) (fun c4 => ?_) (fun c4 => ?_)
  · refine go_bipush (v := (-2)) (pc' := 25) dX12_printed_23 rfl (by decide) ?_
    exact go_iret dX12_printed_25 rfl (w0)
  refine go_iload_n (i := 3) (pc' := 16) dX12_printed_15 rfl rfl rfl ?_
  refine go_iconst (v := 2) (pc' := 17) dX12_printed_16 rfl (by decide) ?_
  refine go_csi (pc' := 20) ls_X12_135 (c_X12_isIn _ _ _ _ _) rfl rfl (Nat.le_of_ble_eq_true rfl) ⟨Nat.le_of_ble_eq_true rfl, Nat.le_of_ble_eq_true rfl⟩ ⟨rfl, rfl⟩ dX12_printed_17 rfl (fun r5 σ5 h5 => ?_)
  obtain ⟨e5, h5⟩ := h5
  have e5 := e5.symm
  subst e5
  refine go_neB (tgt := 26) (pc' := 23) h5 dX12_printed_20 rfl (by decide) (fun c6 => ?_) (fun c6 => ?_)
  · refine go_aload_n (i := 0) (pc' := 27) dX12_printed_26 rfl rfl rfl ?_
    refine go_iload_n (i := 1) (pc' := 28) dX12_printed_27 rfl rfl rfl ?_
    refine go_iload_n (i := 2) (pc' := 29) dX12_printed_28 rfl rfl rfl ?_
    refine go_iload_n (i := 3) (pc' := 30) dX12_printed_29 rfl rfl rfl ?_
    refine go_cvv (pc' := 33) lk_X12_263 (c_X12_prints _ _ _ _ _ _ (by omega) w0.1 (TV_q w0 tv)) rfl rfl (Nat.le_of_ble_eq_true rfl) (by decide) rfl rfl rfl ⟨Nat.le_of_ble_eq_true rfl, Nat.le_of_ble_eq_true rfl⟩ ⟨rfl, rfl⟩ dX12_printed_30 rfl (fun σ7 h7 => ?_)
    obtain ⟨u7, h7⟩ := h7
    have w7 := WM_trans w0 u7
    refine go_iload (pc' := 35) dX12_printed_33 rfl rfl ?_
    refine go_aload_n (i := 0) (pc' := 36) dX12_printed_35 rfl rfl rfl ?_
    refine gf_13_printMany (pc' := 39) dX12_printed_36 rfl fl_X12_247 ?_
    have g8 := ixi_29 w7.1
    refine go_csi (pc' := 42) ls_X12_135 (c_X12_isIn _ _ _ _ _) rfl rfl (Nat.le_of_ble_eq_true rfl) ⟨Nat.le_of_ble_eq_true rfl, Nat.le_of_ble_eq_true rfl⟩ ⟨rfl, rfl⟩ dX12_printed_39 rfl (fun r9 σ9 h9 => ?_)
    obtain ⟨e9, h9⟩ := h9
    have e9 := e9.symm
    subst e9
    refine go_eqB (tgt := 55) (pc' := 45) h9 dX12_printed_42 rfl (by decide) (fun c10 => ?_) (fun c10 => ?_)
    · refine go_iconst (v := (-1)) (pc' := 56) dX12_printed_55 rfl (by decide) ?_
      exact go_iret dX12_printed_56 rfl (w7)
    refine go_aload_n (i := 0) (pc' := 46) dX12_printed_45 rfl rfl rfl ?_
    refine gf_13_print (pc' := 49) dX12_printed_46 rfl fl_X12_99 ?_
    refine go_iload (pc' := 51) dX12_printed_49 rfl rfl ?_
    refine go_iald (pc' := 52) dX12_printed_51 rfl (by decide) (by decide) rfl (vin_of (n := 320) (by omega) (by omega)) ?_
    refine go_goto (tgt := 56) dX12_printed_52 (by decide) ?_
    exact go_iret dX12_printed_56 rfl (w7)
  refine go_bipush (v := (-2)) (pc' := 25) dX12_printed_23 rfl (by decide) ?_
  exact go_iret dX12_printed_25 rfl (w0)
