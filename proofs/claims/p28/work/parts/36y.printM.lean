/-- only what prints has changed -/
abbrev smoI (i : Nat) : Prop := i = 28 ∨ i = 29
abbrev smoA (k : Nat) : Prop := k = 123 ∨ k = 124 ∨ k = 125
def WMo (σ σ2 : ST) : Prop := IV σ2 ∧ Ag smoI smoA σ σ2
theorem WMo_rfl {σ : ST} (h : IV σ) : WMo σ σ := ⟨h, Ag_rfl σ⟩
theorem WMo_trans {σ σ2 σ3 : ST} (h : WMo σ σ2) (h2 : WMo σ2 σ3) : WMo σ σ3 := ⟨h2.1, Ag_trans h.2 h2.2⟩
theorem WMo_of_p {σ σ2 : ST} (h : WXp σ σ2) : WMo σ σ2 := ⟨h.1, ⟨fun i hi => h.2.1 i (fun q => hi (by rw [q]; decide)), fun k hk => h.2.2 k (fun q => hk (by rw [q]; decide))⟩⟩
theorem WM_of_o {σ σ2 : ST} (h : WMo σ σ2) : WM σ σ2 := ⟨h.1, ⟨fun i hi => h.2.1 i (fun q => hi (by unfold smI; unfold smoI at q; omega)), fun k hk => h.2.2 k (fun q => hk (by unfold smA; unfold smoA at q; omega))⟩⟩
theorem digL_le4 (v : Int) : (digL v).length ≤ 4 := by
  rw [digL_len]
  split <;> split <;> split <;> omega
theorem nval_congr {t t2 : Nat → Int} {p j : Nat} (h : ∀ i : Nat, i < j → t (p + i) = t2 (p + i)) : nval t p j = nval t2 p j := by
  induction j with
  | zero => rfl
  | succ j ih =>
    simp only [nval]
    rw [ih (fun i hi => h i (by omega)), h j (by omega)]
/-- behind a head of a MARK: so many digits, and no more -/
theorem nd_all {t : Nat → Int} {n p d : Nat} {S : Nat → Int32} (hr : ROWs t n S) (hn : n ≤ 160) (tm : MKo t n p d) : p + 2 + dcnt t n 4 (p + 2) ≤ 160 ∧ ¬ digP (S (p + 2 + dcnt t n 4 (p + 2))).toInt ∧ (∀ i : Nat, i < dcnt t n 4 (p + 2) → digP (S (p + 2 + i)).toInt) ∧ nval (fun i => (S i).toInt) (p + 2) (dcnt t n 4 (p + 2)) = nval t (p + 2) (dcnt t n 4 (p + 2)) := by
  obtain ⟨-, h1, -, q⟩ := tm
  have dg : ∀ i : Nat, i < dcnt t n 4 (p + 2) → p + 2 + i < n ∧ digP (t (p + 2 + i)) := fun i hi => dcnt_dig hi
  have lt : dcnt t n 4 (p + 2) = 0 ∨ p + 2 + dcnt t n 4 (p + 2) ≤ n := by
    by_cases z : dcnt t n 4 (p + 2) = 0
    · exact Or.inl z
    · have := (dg (dcnt t n 4 (p + 2) - 1) (by omega)).1
      exact Or.inr (by omega)
  have sd : ∀ i : Nat, i < dcnt t n 4 (p + 2) → (S (p + 2 + i)).toInt = t (p + 2 + i) := fun i hi => by
    have z := dg i hi
    rw [hr _ (by omega), if_pos z.1]
  refine ⟨by omega, ?_, fun i hi => by rw [sd i hi]; exact (dg i hi).2, nval_congr sd⟩
  rw [hr _ (by omega)]
  rcases q with ⟨-, -, q2, q3, -⟩ | ⟨-, -, q2, q3, -⟩ | ⟨-, -, f2, s2, q⟩
  · rw [if_pos q2, q3]
    decide
  · rw [if_pos q2, q3]
    decide
  · have no : ¬ (p + 2 + 0 < n ∧ digP (t (p + 2 + 0))) := fun z => by
      rw [show p + 2 + 0 = p + 2 by omega] at z
      rcases tk_inv q z.1 with ⟨c, -⟩ | ⟨-, -, c, -⟩ | ⟨c, -⟩ <;> omega
    have e0 : dcnt t n 4 (p + 2) = 0 := dcnt_is (fun i hi => absurd hi (Nat.not_lt_zero _)) (Nat.zero_le _) (Or.inr no)
    rw [e0]
    by_cases z : p + 2 + 0 < n
    · rw [if_pos z]
      exact fun y => no ⟨z, y⟩
    · rw [if_neg z]
      decide
/-- L has come to what is printed -/
def PDm (s s2 : ST) (L : List Int) : Prop := outL (s2.2 124) (s2.1 29).toNatClampNeg = outL (s.2 124) (s.1 29).toNatClampNeg ++ L ∧ (s2.1 29).toInt = (s.1 29).toInt + (L.length : Int)
theorem PDm_rfl (s : ST) : PDm s s [] := ⟨(List.append_nil _).symm, by simp⟩
theorem PDm_trans {s s2 s3 : ST} {L L2 L3 : List Int} (h : PDm s s2 L) (g : PDm s2 s3 L2) (e : L3 = L ++ L2) : PDm s s3 L3 := ⟨by rw [g.1, h.1, e, List.append_assoc], by
  have h3 := h.2
  have g3 := g.2
  rw [e, List.length_append]
  omega⟩
theorem PDm_e {s s2 : ST} {L L2 : List Int} (h : PDm s s2 L) (e : L2 = L) : PDm s s2 L2 := e ▸ h
theorem PDm_q {s s1 s2 : ST} {L : List Int} (h : PDm s s1 L) (e1 : s2.2 124 = s1.2 124) (e2 : s2.1 29 = s1.1 29) : PDm s s2 L := ⟨by rw [e1, e2]; exact h.1, by rw [e2]; exact h.2⟩
theorem puts_PD {s s2 : ST} {b : Int32} {v : Int} (hs : 0 ≤ (s.1 29).toInt ∧ (s.1 29).toInt < 320) (h1 : s2.2 124 = upd (s.2 124) (s.1 29).toNatClampNeg b) (h2 : (s2.1 29).toInt = (s.1 29).toInt + 1) (hb : b.toInt = v) : PDm s s2 [v] := by
  have c := cnat hs.1
  have c2 := cnat (x := s2.1 29) (by omega)
  refine ⟨?_, h2⟩
  rw [h1]
  exact outL_add (by omega) hb
/-- the reference's printer at p -/
def INVM (t : Nat → Int) (n : Nat) (dy wy : Int) (p k : Nat) (s : ST) : Prop := PO t n dy wy (outL (s.2 124) (s.1 29).toNatClampNeg) p (s.1 28).toNatClampNeg (s.2 123) k ∧ (s.1 29).toInt ≤ (p : Int) ∧ k ≤ (s.1 28).toNatClampNeg
theorem M_cl {t : Nat → Int} {n p p2 k k2 d2 : Nat} {dy wy : Int} {s s2 : ST} {L : List Int} (h : INVM t n dy wy p k s) (hp : p < n) (c : t p = 125) (hd : (s.1 28).toNatClampNeg = d2 + 1) (e28 : (s2.1 28).toNatClampNeg = d2) (e123 : s2.2 123 = s.2 123) (pd : PDm s s2 L) (eL : L = if d2 < k then [] else if k = 0 ∧ wy = 1 then clsL (s.2 123 d2).toInt else []) (ek : k2 = if d2 < k then 0 else k) (ep : p2 = p + 1) : INVM t n dy wy p2 k2 s2 := by
  obtain ⟨h1, h2, h3⟩ := h
  have l1 : L.length ≤ 1 := by
    rw [eL]
    have := clsL_len (s.2 123 d2).toInt
    split
    · simp
    · split
      · exact this
      · simp
  refine ⟨PO_e (PO_cl h1 hp c hd ep) ?_ rfl e28 e123 ek, ?_, ?_⟩
  · rw [pd.1, eL]
  · have := pd.2
    omega
  · rw [e28, ek]
    split <;> omega
theorem M_pl {t : Nat → Int} {n p p2 k : Nat} {dy wy : Int} {s s2 : ST} {L : List Int} (h : INVM t n dy wy p k s) (hp : p < n) (c1 : t p ≠ 125) (c2 : t p ≠ 123) (e28 : s2.1 28 = s.1 28) (e123 : s2.2 123 = s.2 123) (pd : PDm s s2 L) (eL : L = if k = 0 then [t p] else []) (ep : p2 = p + 1) : INVM t n dy wy p2 k s2 := by
  obtain ⟨h1, h2, h3⟩ := h
  have l1 : L.length ≤ 1 := by
    rw [eL]
    split <;> simp
  refine ⟨PO_e (PO_pl h1 hp c1 c2 ep) ?_ rfl (by rw [e28]) e123 rfl, ?_, by rw [e28]; exact h3⟩
  · rw [pd.1, eL]
  · have := pd.2
    omega
theorem M_nt {t : Nat → Int} {n p p2 k : Nat} {dy wy : Int} {s s2 : ST} {L : List Int} (h : INVM t n dy wy p k s) (hp : p < n) (c : t p = 123) (c2 : t (p + 1) = 110) (hj : 1 ≤ dcnt t n 4 (p + 2)) (e28 : s2.1 28 = s.1 28) (e123 : s2.2 123 = s.2 123) (pd : PDm s s2 L) (eL : L = if k = 0 ∧ wy = 1 then ntL (nval t (p + 2) (dcnt t n 4 (p + 2))) else []) (ep : p2 = p + 3 + dcnt t n 4 (p + 2)) : INVM t n dy wy p2 k s2 := by
  obtain ⟨h1, h2, h3⟩ := h
  have l1 : L.length ≤ dcnt t n 4 (p + 2) + 2 := by
    rw [eL]
    split
    · exact nt_len (fun i hi => (dcnt_dig hi).2) hj (dcnt_le _ _ _ _)
    · simp
  refine ⟨PO_e (PO_nt h1 hp c c2 ep) ?_ rfl (by rw [e28]) e123 rfl, ?_, by rw [e28]; exact h3⟩
  · rw [pd.1, eL]
  · have := pd.2
    omega
theorem M_op {t : Nat → Int} {n p p2 k k2 : Nat} {dy wy : Int} {s s2 : ST} {L : List Int} {w : Int32} (h : INVM t n dy wy p k s) (hp : p < n) (c : t p = 123) (c2 : t (p + 1) ≠ 110) (hw : w.toInt = t (p + 1)) (hz : sortQ (t (p + 1))) (e28 : (s2.1 28).toNatClampNeg = (s.1 28).toNatClampNeg + 1) (e123 : s2.2 123 = upd (s.2 123) (s.1 28).toNatClampNeg w) (pd : PDm s s2 L) (eL : L = opF dy wy (t (p + 1)) (nval t (p + 2) (dcnt t n 4 (p + 2))) k) (ek : k2 = hF dy wy (t (p + 1)) (nval t (p + 2) (dcnt t n 4 (p + 2))) k (s.1 28).toNatClampNeg) (ep : p2 = if t (p + 1) = 115 then p + 3 + dcnt t n 4 (p + 2) else p + 2) : INVM t n dy wy p2 k2 s2 := by
  obtain ⟨h1, h2, h3⟩ := h
  have l1 : L.length ≤ 1 := by
    rw [eL]
    exact opF_len _ _ _ _ _
  have hp2 : p + 1 ≤ p2 := by
    rw [ep]
    split <;> omega
  refine ⟨PO_e (PO_op (w := w) h1 hp c c2 hw hz ep) ?_ rfl e28 e123 ek, ?_, ?_⟩
  · rw [pd.1, eL]
  · have := pd.2
    omega
  · rw [e28, ek]
    exact hF_le h3
theorem M_end {t : Nat → Int} {n p k : Nat} {dy wy : Int} {s : ST} (h : INVM t n dy wy p k s) (e : p = n) : outL (s.2 124) (s.1 29).toNatClampNeg = prF t n dy wy 200 0 0 (fun _ => 0) 0 := PO_end h.1 (by omega) (by omega)
theorem M_0 {t : Nat → Int} {n : Nat} {dy wy : Int} {s : ST} (hn : n ≤ 160) (h29 : s.1 29 = 0) (h28 : s.1 28 = 0) : INVM t n dy wy 0 0 s := by
  refine ⟨PO_e (PO_0 (O := s.2 123) hn) ?_ rfl (by rw [h28]; rfl) rfl rfl, by rw [h29]; decide, Nat.zero_le _⟩
  rw [h29]
  rfl
theorem dgU_top {v u : Int} (h : unitP u) (h1 : v < 10 * u) : dgU v u = [] := by
  rcases h with rfl | rfl | rfl | rfl
  · rfl
  · have z : ¬ (1000 : Int) ≤ v := by omega
    simp [dgU, z]
  · have z : ¬ (1000 : Int) ≤ v := by omega
    have z2 : ¬ (100 : Int) ≤ v := by omega
    simp [dgU, z, z2]
  · have z : ¬ (1000 : Int) ≤ v := by omega
    have z2 : ¬ (100 : Int) ≤ v := by omega
    have z3 : ¬ (10 : Int) ≤ v := by omega
    simp [dgU, z, z2, z3]
set_option maxHeartbeats 4000000 in
set_option maxRecDepth 100000 in
theorem f_numberAt_125 (l : Launch) (L : WL) (σ : ST) (f : Int32) (j : Nat) (hf : 0 ≤ f.toInt ∧ f.toInt ≤ 160) (hj : j ≤ 4) (hjn : f.toNatClampNeg + j ≤ 160) (hd : ∀ i : Nat, i < j → digP (σ.2 125 (f.toNatClampNeg + i)).toInt) (hn : ¬ digP (σ.2 125 (f.toNatClampNeg + j)).toInt) (ix : IV σ) : CtI l L yX12_numberAt cX12_numberAt 4 (some .int) rm_X12_numberAt [.ref (L.2.1 125), .int f] σ (fun r σ2 => σ2 = σ ∧ r.toInt = nval (fun i => (σ.2 125 i).toInt) (f).toNatClampNeg j ∧ 0 ≤ r.toInt ∧ r.toInt ≤ 9999) := by
  refine ctI_go (own := RX12) (by decide) rfl (Nat.le_of_ble_eq_true rfl) (fun F hF => ?_)
  subst hF
  have n0 : (0 : Int32).toInt = 0 := by decide
  have n10 : (10 : Int32).toInt = 10 := by decide
  have n48 : (48 : Int32).toInt = 48 := by decide
  have n161 : (161 : Int32).toInt = 161 := by decide
  have w0 : WM σ σ := WM_rfl ix
  have cf := cnat (x := f) (by omega)
  refine go_iconst (v := 0) (pc' := 1) dX12_numberAt_0 rfl (by decide) ?_
  refine go_istore_n (i := 2) (pc' := 2) dX12_numberAt_1 rfl rfl (by decide) ?_
  refine go_iload_n (i := 1) (pc' := 3) dX12_numberAt_2 rfl rfl rfl ?_
  refine go_istore_n (i := 3) (pc' := 4) dX12_numberAt_3 rfl rfl (by decide) ?_
  have loop4_1 : ∀ (dd1 : Nat) (x2_1 : Int32) (x3_1 : Int32), (f.toInt ≤ (x3_1).toInt ∧ (x3_1).toInt ≤ f.toInt + j) → ((x2_1).toInt = nval (fun i => (σ.2 125 i).toInt) (f).toNatClampNeg ((x3_1).toNatClampNeg - (f).toNatClampNeg)) → (163 - (x3_1).toInt).toNat = dd1 → Go F L RX12 cX12_numberAt 4 rm_X12_numberAt (some .int) (RI F L (fun r σ2 => σ2 = σ ∧ r.toInt = nval (fun i => (σ.2 125 i).toInt) (f).toNatClampNeg j ∧ 0 ≤ r.toInt ∧ r.toInt ≤ 9999)) σ 4 [(0, .ref (L.2.1 125)), (1, .int f), (2, .int x2_1), (3, .int x3_1)] [] := by
    intro dd1
    induction dd1 using Nat.strongRecOn with
    | _ dd1 ih1 =>
      intro x2_1 x3_1 h_1 hv_1 hm_1
      have c3 := cnat (x := x3_1) (by omega)
      have rg := nval_rng (t := (fun i => (σ.2 125 i).toInt)) (p := (f).toNatClampNeg) (j := (x3_1).toNatClampNeg - (f).toNatClampNeg) (fun i hi => hd i (by omega)) (by omega)
      have et : (σ.2 125 ((f).toNatClampNeg + ((x3_1).toNatClampNeg - (f).toNatClampNeg))).toInt = (σ.2 125 (x3_1).toNatClampNeg).toInt := by rw [show (f).toNatClampNeg + ((x3_1).toNatClampNeg - (f).toNatClampNeg) = (x3_1).toNatClampNeg from by omega]
      refine go_iload_n (i := 3) (pc' := 5) dX12_numberAt_4 rfl rfl rfl ?_
      refine go_aload_n (i := 0) (pc' := 6) dX12_numberAt_5 rfl rfl rfl ?_
      refine go_alen (v := 161) (pc' := 7) dX12_numberAt_6 rfl (by decide) (by decide) rfl ?_
      refine gz_icmp_ge (tgt := 37) (pc' := 10) dX12_numberAt_7 rfl (by decide) (fun c2 => (by exfalso; omega)) (fun c2 => ?_)
      refine go_aload_n (i := 0) (pc' := 11) dX12_numberAt_10 rfl rfl rfl ?_
      refine go_iload_n (i := 3) (pc' := 12) dX12_numberAt_11 rfl rfl rfl ?_
      refine go_iald (pc' := 13) dX12_numberAt_12 rfl (by decide) (by decide) rfl (vin_of (n := 161) (by omega) (by omega)) ?_
      refine go_csi (pc' := 16) ls_X12_221 (c_X12_isDigit _ _ _ _) rfl rfl (Nat.le_of_ble_eq_true rfl) ⟨Nat.le_of_ble_eq_true rfl, Nat.le_of_ble_eq_true rfl⟩ ⟨rfl, rfl⟩ dX12_numberAt_13 rfl (fun r3 σ3 h3 => ?_)
      obtain ⟨e3, h3⟩ := h3
      have e3 := e3.symm
      subst e3
      refine go_eqB (tgt := 37) (pc' := 19) h3 dX12_numberAt_16 rfl (by decide) (fun c4 => ?_) (fun c4 => ?_)
      · have eg : (x3_1).toNatClampNeg - (f).toNatClampNeg = j := by
          rcases Nat.lt_or_ge ((x3_1).toNatClampNeg - (f).toNatClampNeg) j with z | z
          · exfalso
            have d := hd _ z
            rw [et] at d
            exact absurd d c4
          · omega
        refine go_iload_n (i := 2) (pc' := 38) dX12_numberAt_37 rfl rfl rfl ?_
        exact go_iret dX12_numberAt_38 rfl (⟨rfl, by rw [← eg]; exact hv_1, by omega⟩)
      have dg : digP (σ.2 125 (x3_1).toNatClampNeg).toInt := c4
      have lt : (x3_1).toNatClampNeg - (f).toNatClampNeg < j := by
        rcases Nat.lt_or_ge ((x3_1).toNatClampNeg - (f).toNatClampNeg) j with z | z
        · exact z
        · exfalso
          refine hn ?_
          rw [show j = (x3_1).toNatClampNeg - (f).toNatClampNeg from by omega, et]
          exact dg
      refine go_bipush (v := 10) (pc' := 21) dX12_numberAt_19 rfl (by decide) ?_
      refine go_iload_n (i := 2) (pc' := 22) dX12_numberAt_21 rfl rfl rfl ?_
      refine gz_imulc (n := 10) (pc' := 23) dX12_numberAt_22 rfl (by decide) (by omega) (fun v5 h5 e5 => ?_)
      refine go_aload_n (i := 0) (pc' := 24) dX12_numberAt_23 rfl rfl rfl ?_
      refine go_iload_n (i := 3) (pc' := 25) dX12_numberAt_24 rfl rfl rfl ?_
      refine go_iald (pc' := 26) dX12_numberAt_25 rfl (by decide) (by decide) rfl (vin_of (n := 161) (by omega) (by omega)) ?_
      refine gz_iadd (pc' := 27) dX12_numberAt_26 rfl (by omega) (fun v6 h6 e6 => ?_)
      refine go_bipush (v := 48) (pc' := 29) dX12_numberAt_27 rfl (by decide) ?_
      refine gz_isub (pc' := 30) dX12_numberAt_29 rfl (by omega) (fun v7 h7 e7 => ?_)
      refine go_istore_n (i := 2) (pc' := 31) dX12_numberAt_30 rfl rfl (by decide) ?_
      refine gz_iinc (c := 1) (pc' := 34) dX12_numberAt_31 rfl rfl (by decide) (by decide) (by decide) (by omega) (fun v8 h8 e8 => ?_)
      refine go_goto (tgt := 4) dX12_numberAt_34 (by decide) ?_
      exact go_lv (lv' := [(0, .ref (L.2.1 125)), (1, .int f), (2, .int v7), (3, .int v8)]) rfl (ih1 _ (by omega)  v7 v8 (by omega) (by rw [nval_step (show (v8).toNatClampNeg - (f).toNatClampNeg = ((x3_1).toNatClampNeg - (f).toNatClampNeg) + 1 by have cq := cnat (x := v8) (by omega); omega)]; show _ = _ * 10 + (σ.2 125 ((f).toNatClampNeg + ((x3_1).toNatClampNeg - (f).toNatClampNeg))).toInt - 48; omega) rfl)
  exact go_lv (lv' := [(0, .ref (L.2.1 125)), (1, .int f), (2, .int (0 : Int32)), (3, .int f)]) rfl (loop4_1 _  (0 : Int32) f (by omega) (by rw [Nat.sub_self]; exact n0) rfl)
set_option maxHeartbeats 4000000 in
set_option maxRecDepth 100000 in
theorem e_X12_puts (l : Launch) (L : WL) (σ : ST) (b : Int32) (hs : (σ.1 29).toInt < 320) (ix : IV σ) : CtV l L yX12_puts cX12_puts 2 none rm_X12_puts [.ref (L.2.1 13), .int b] σ (fun σ2 => WXp σ σ2 ∧ PDm σ σ2 [b.toInt]) := by
  refine ctV_go (own := RX12) (by decide) rfl (Nat.le_of_ble_eq_true rfl) (fun F hF => ?_)
  subst hF
  have n1 : (1 : Int32).toInt = 1 := by decide
  have w0 : WXp σ σ := WXp_rfl ix
  refine go_aload_n (i := 0) (pc' := 1) dX12_puts_0 rfl rfl rfl ?_
  refine gf_13_print (pc' := 4) dX12_puts_1 rfl fl_X12_99 ?_
  refine go_aload_n (i := 0) (pc' := 5) dX12_puts_4 rfl rfl rfl ?_
  refine gf_13_printMany (pc' := 8) dX12_puts_5 rfl fl_X12_247 ?_
  have g1 := ixi_29 w0.1
  refine go_iload_n (i := 1) (pc' := 9) dX12_puts_8 rfl rfl rfl ?_
  refine go_iast (pc' := 10) dX12_puts_9 rfl (by decide) (by decide) rfl (vin_of (n := 320) (by omega) (by omega)) ?_
  refine go_gen (P := fun s => WXp σ s ∧ s.1 29 = σ.1 29 ∧ s.2 124 = upd (σ.2 124) ((σ.1 29)).toNatClampNeg b) ⟨⟨ixt_n w0.1 (by decide), Ag_setA w0.2 (by decide)⟩, ⟨rfl, setA_same _ _ _ _⟩⟩ (fun σ2 z2 => ?_)
  obtain ⟨w2, g2⟩ := z2
  have q1 := g2
  have q1i := congrArg Int32.toInt q1.1
  refine go_aload_n (i := 0) (pc' := 11) dX12_puts_10 rfl rfl rfl ?_
  refine go_dup (pc' := 12) dX12_puts_11 rfl rfl ?_
  refine gf_13_printMany (pc' := 15) dX12_puts_12 rfl fl_X12_247 ?_
  have g3 := ixi_29 w2.1
  refine go_iconst (v := 1) (pc' := 16) dX12_puts_15 rfl (by decide) ?_
  refine gz_iadd (pc' := 17) dX12_puts_16 rfl (by omega) (fun v4 h4 e4 => ?_)
  refine pf_13_printMany (pc' := 20) dX12_puts_17 rfl fl_X12_247 ?_
  refine go_gen (P := fun s => WXp σ s ∧ s.1 29 = v4 ∧ s.2 124 = σ2.2 124) ⟨⟨ixs_29 w2.1 (by omega) (by omega), Ag_setI w2.2 (by decide)⟩, ⟨setI_same _ _ _, rfl⟩⟩ (fun σ5 z5 => ?_)
  obtain ⟨w5, g5⟩ := z5
  have q2 := g5
  have q2i := congrArg Int32.toInt q2.1
  exact go_vret dX12_puts_20 rfl (⟨w5, puts_PD (by omega) (q2.2.trans q1.2) (by omega) rfl⟩)
set_option maxHeartbeats 4000000 in
set_option maxRecDepth 100000 in
theorem e_X12_number (l : Launch) (L : WL) (σ : ST) (b : Int32) (hb : 0 ≤ b.toInt ∧ b.toInt ≤ 9999) (hs : (σ.1 29).toInt < 310) (ix : IV σ) : CtV l L yX12_number cX12_number 4 none rm_X12_number [.ref (L.2.1 13), .int b] σ (fun σ2 => WXp σ σ2 ∧ PDm σ σ2 (digL b.toInt)) := by
  refine ctV_go (own := RX12) (by decide) rfl (Nat.le_of_ble_eq_true rfl) (fun F hF => ?_)
  subst hF
  have n1 : (1 : Int32).toInt = 1 := by decide
  have n9 : (9 : Int32).toInt = 9 := by decide
  have n10 : (10 : Int32).toInt = 10 := by decide
  have n48 : (48 : Int32).toInt = 48 := by decide
  have w0 : WXp σ σ := WXp_rfl ix
  have gd := digL_len b.toInt
  have gd4 := digL_le4 b.toInt
  refine go_iconst (v := 1) (pc' := 1) dX12_number_0 rfl (by decide) ?_
  refine go_istore_n (i := 2) (pc' := 2) dX12_number_1 rfl rfl (by decide) ?_
  have loop2_1 : ∀ (dd1 : Nat) (x2_1 : Int32), (unitP (x2_1).toInt ∧ ((x2_1).toInt ≤ b.toInt ∨ (x2_1).toInt = 1)) → (10000 - (x2_1).toInt).toNat = dd1 → Go F L RX12 cX12_number 4 rm_X12_number none (RV F L (fun σ2 => WXp σ σ2 ∧ PDm σ σ2 (digL b.toInt))) σ 2 [(0, .ref (L.2.1 13)), (1, .int b), (2, .int x2_1)] [] := by
    intro dd1
    induction dd1 using Nat.strongRecOn with
    | _ dd1 ih1 =>
      intro x2_1 h_1 hm_1
      refine go_iload_n (i := 1) (pc' := 3) dX12_number_2 rfl rfl rfl ?_
      refine go_iload_n (i := 2) (pc' := 4) dX12_number_3 rfl rfl rfl ?_
      refine go_idiv (pc' := 5) dX12_number_4 rfl (ne0 (by omega)) ?_
      have q5 := i32_divp (x := b) (y := x2_1) (by omega) (by omega)
      refine go_bipush (v := 9) (pc' := 7) dX12_number_5 rfl (by decide) ?_
      refine gz_icmp_le (tgt := 18) (pc' := 10) dX12_number_7 rfl (by decide) (fun c2 => ?_) (fun c2 => ?_)
      · have q18 : b.toInt < 10 * (x2_1).toInt := by
          have z : b.toInt / (x2_1).toInt < 10 := by omega
          exact (Int.ediv_lt_iff_lt_mul (by omega)).mp z
        refine go_iload_n (i := 2) (pc' := 19) dX12_number_18 rfl rfl rfl ?_
        refine go_istore_n (i := 3) (pc' := 20) dX12_number_19 rfl rfl (by decide) ?_
        have loop20_3 : ∀ (dd3 : Nat) (σ3 : ST) (x3_3 : Int32), WXp σ σ3 → ((unitP (x3_3).toInt ∨ (x3_3).toInt = 0) ∧ ((x3_3).toInt ≤ b.toInt ∨ (x3_3).toInt ≤ 1)) → (PDm σ σ3 (dgU b.toInt (x3_3).toInt)) → (x3_3).toInt.toNat = dd3 → Go F L RX12 cX12_number 4 rm_X12_number none (RV F L (fun σ2 => WXp σ σ2 ∧ PDm σ σ2 (digL b.toInt))) σ3 20 [(0, .ref (L.2.1 13)), (1, .int b), (2, .int x2_1), (3, .int x3_3)] [] := by
          intro dd3
          induction dd3 using Nat.strongRecOn with
          | _ dd3 ih3 =>
            intro σ3 x3_3 w3 h_3 hp_3 hm_3
            refine go_iload_n (i := 3) (pc' := 21) dX12_number_20 rfl rfl rfl ?_
            refine gz_if_le (tgt := 45) (pc' := 24) dX12_number_21 rfl (by decide) (fun c4 => ?_) (fun c4 => ?_)
            · exact go_vret dX12_number_45 rfl (⟨w3, PDm_e hp_3 (by rw [show (x3_3).toInt = 0 by omega]; rfl)⟩)
            have hv : unitP (x3_3).toInt := h_3.1.resolve_right (by omega)
            have pd := hp_3
            have pl := pd.2
            have dl := dgU_len (v := b.toInt) hv (by omega)
            refine go_aload_n (i := 0) (pc' := 25) dX12_number_24 rfl rfl rfl ?_
            refine go_bipush (v := 48) (pc' := 27) dX12_number_25 rfl (by decide) ?_
            refine go_iload_n (i := 1) (pc' := 28) dX12_number_27 rfl rfl rfl ?_
            refine go_iload_n (i := 3) (pc' := 29) dX12_number_28 rfl rfl rfl ?_
            refine go_idiv (pc' := 30) dX12_number_29 rfl (ne0 (by omega)) ?_
            refine go_bipush (v := 10) (pc' := 32) dX12_number_30 rfl (by decide) ?_
            refine go_irem (pc' := 33) dX12_number_32 rfl (by decide) ?_
            refine go_iadd (pc' := 34) dX12_number_33 rfl ?_
            have dv := dig_v (x := b) (u := x3_3) hb (by omega)
            refine go_cvv (pc' := 37) lk_X12_250 (e_X12_puts _ _ _ _ (by omega) w3.1) rfl rfl (Nat.le_of_ble_eq_true rfl) (by decide) rfl rfl rfl ⟨Nat.le_of_ble_eq_true rfl, Nat.le_of_ble_eq_true rfl⟩ ⟨rfl, rfl⟩ dX12_number_34 rfl (fun σ5 h5 => ?_)
            obtain ⟨u5, h5⟩ := h5
            have w5 := WXp_trans w3 u5
            rw [dv] at h5
            have pd := PDm_trans pd h5 rfl
            refine go_iload_n (i := 3) (pc' := 38) dX12_number_37 rfl rfl rfl ?_
            refine go_bipush (v := 10) (pc' := 40) dX12_number_38 rfl (by decide) ?_
            refine go_idiv (pc' := 41) dX12_number_40 rfl (by decide) ?_
            have q41 := i32_div10 x3_3 (by omega)
            refine go_topz (fun y6 h6 e6 => ?_)
            refine go_istore_n (i := 3) (pc' := 42) dX12_number_41 rfl rfl (by decide) ?_
            refine go_goto (tgt := 20) dX12_number_42 (by decide) ?_
            exact go_lv (lv' := [(0, .ref (L.2.1 13)), (1, .int b), (2, .int x2_1), (3, .int y6)]) rfl (ih3 _ (by omega) σ5 y6 w5 (by omega) (PDm_e pd (by rw [dgU_step hv (show _ = _ / 10 by omega) (by omega)])) rfl)
        exact go_lv (lv' := [(0, .ref (L.2.1 13)), (1, .int b), (2, .int x2_1), (3, .int x2_1)]) rfl (loop20_3 _ σ x2_1 w0 (by omega) (PDm_e (PDm_rfl σ) (dgU_top (by omega) (by omega))) rfl)
      have q10 : 10 * (x2_1).toInt ≤ b.toInt := by
        have z : 10 ≤ b.toInt / (x2_1).toInt := by omega
        exact (Int.le_ediv_iff_mul_le (by omega)).mp z
      refine go_iload_n (i := 2) (pc' := 11) dX12_number_10 rfl rfl rfl ?_
      refine go_bipush (v := 10) (pc' := 13) dX12_number_11 rfl (by decide) ?_
      refine gz_imulr (n := 10) (pc' := 14) dX12_number_13 rfl (by decide) (by omega) (fun v7 h7 e7 => ?_)
      refine go_istore_n (i := 2) (pc' := 15) dX12_number_14 rfl rfl (by decide) ?_
      refine go_goto (tgt := 2) dX12_number_15 (by decide) ?_
      exact go_lv (lv' := [(0, .ref (L.2.1 13)), (1, .int b), (2, .int v7)]) rfl (ih1 _ (by omega)  v7 (by omega) rfl)
  exact go_lv (lv' := [(0, .ref (L.2.1 13)), (1, .int b), (2, .int (1 : Int32))]) rfl (loop2_1 _  (1 : Int32) (by omega) rfl)
set_option maxHeartbeats 4000000 in
set_option maxRecDepth 100000 in
theorem e_X12_opens (l : Launch) (L : WL) (σ : ST) (b : Int32) (hs : (σ.1 29).toInt < 320) (ix : IV σ) : CtV l L yX12_opens cX12_opens 2 none rm_X12_opens [.ref (L.2.1 13), .int b] σ (fun σ2 => WXp σ σ2 ∧ PDm σ σ2 (opnL b.toInt)) := by
  refine ctV_go (own := RX12) (by decide) rfl (Nat.le_of_ble_eq_true rfl) (fun F hF => ?_)
  subst hF
  have n39 : (39 : Int32).toInt = 39 := by decide
  have n47 : (47 : Int32).toInt = 47 := by decide
  have n60 : (60 : Int32).toInt = 60 := by decide
  have n91 : (91 : Int32).toInt = 91 := by decide
  have n97 : (97 : Int32).toInt = 97 := by decide
  have n100 : (100 : Int32).toInt = 100 := by decide
  have n115 : (115 : Int32).toInt = 115 := by decide
  have n117 : (117 : Int32).toInt = 117 := by decide
  have w0 : WXp σ σ := WXp_rfl ix
  have pd := PDm_rfl σ
  refine go_iload_n (i := 1) (pc' := 1) dX12_opens_0 rfl rfl rfl ?_
  refine go_bipush (v := 115) (pc' := 3) dX12_opens_1 rfl (by decide) ?_
  refine gz_icmp_eq (tgt := 45) (pc' := 6) dX12_opens_3 rfl (by decide) (fun c1 => ?_) (fun c1 => ?_)
  · exact go_vret dX12_opens_45 rfl (⟨w0, PDm_e pd (by unfold opnL; first | (rw [if_pos (by omega)]; done) | (rw [if_neg (by omega), if_pos (by omega)]; rfl) | (rw [if_neg (by omega), if_neg (by omega), if_pos (by omega)]; rfl) | (rw [if_neg (by omega), if_neg (by omega), if_neg (by omega), if_pos (by omega)]; rfl) | (rw [if_neg (by omega), if_neg (by omega), if_neg (by omega), if_neg (by omega)]; rfl))⟩)
  refine go_aload_n (i := 0) (pc' := 7) dX12_opens_6 rfl rfl rfl ?_
  refine go_iload_n (i := 1) (pc' := 8) dX12_opens_7 rfl rfl rfl ?_
  refine go_bipush (v := 100) (pc' := 10) dX12_opens_8 rfl (by decide) ?_
  refine gz_icmp_ne (tgt := 18) (pc' := 13) dX12_opens_10 rfl (by decide) (fun c2 => ?_) (fun c2 => ?_)
  · refine go_iload_n (i := 1) (pc' := 19) dX12_opens_18 rfl rfl rfl ?_
    refine go_bipush (v := 97) (pc' := 21) dX12_opens_19 rfl (by decide) ?_
    refine gz_icmp_ne (tgt := 29) (pc' := 24) dX12_opens_21 rfl (by decide) (fun c3 => ?_) (fun c3 => ?_)
    · refine go_iload_n (i := 1) (pc' := 30) dX12_opens_29 rfl rfl rfl ?_
      refine go_bipush (v := 117) (pc' := 32) dX12_opens_30 rfl (by decide) ?_
      refine gz_icmp_ne (tgt := 40) (pc' := 35) dX12_opens_32 rfl (by decide) (fun c4 => ?_) (fun c4 => ?_)
      · refine go_bipush (v := 39) (pc' := 42) dX12_opens_40 rfl (by decide) ?_
        refine go_cvv (pc' := 45) lk_X12_250 (e_X12_puts _ _ _ _ (by omega) w0.1) rfl rfl (Nat.le_of_ble_eq_true rfl) (by decide) rfl rfl rfl ⟨Nat.le_of_ble_eq_true rfl, Nat.le_of_ble_eq_true rfl⟩ ⟨rfl, rfl⟩ dX12_opens_42 rfl (fun σ5 h5 => ?_)
        obtain ⟨u5, h5⟩ := h5
        have w5 := WXp_trans w0 u5
        have pd := PDm_trans pd h5 rfl
        exact go_vret dX12_opens_45 rfl (⟨w5, PDm_e pd (by unfold opnL; first | (rw [if_pos (by omega)]; done) | (rw [if_neg (by omega), if_pos (by omega)]; rfl) | (rw [if_neg (by omega), if_neg (by omega), if_pos (by omega)]; rfl) | (rw [if_neg (by omega), if_neg (by omega), if_neg (by omega), if_pos (by omega)]; rfl) | (rw [if_neg (by omega), if_neg (by omega), if_neg (by omega), if_neg (by omega)]; rfl))⟩)
      refine go_bipush (v := 91) (pc' := 37) dX12_opens_35 rfl (by decide) ?_
      refine go_goto (tgt := 42) dX12_opens_37 (by decide) ?_
      refine go_cvv (pc' := 45) lk_X12_250 (e_X12_puts _ _ _ _ (by omega) w0.1) rfl rfl (Nat.le_of_ble_eq_true rfl) (by decide) rfl rfl rfl ⟨Nat.le_of_ble_eq_true rfl, Nat.le_of_ble_eq_true rfl⟩ ⟨rfl, rfl⟩ dX12_opens_42 rfl (fun σ6 h6 => ?_)
      obtain ⟨u6, h6⟩ := h6
      have w6 := WXp_trans w0 u6
      have pd := PDm_trans pd h6 rfl
      exact go_vret dX12_opens_45 rfl (⟨w6, PDm_e pd (by unfold opnL; first | (rw [if_pos (by omega)]; done) | (rw [if_neg (by omega), if_pos (by omega)]; rfl) | (rw [if_neg (by omega), if_neg (by omega), if_pos (by omega)]; rfl) | (rw [if_neg (by omega), if_neg (by omega), if_neg (by omega), if_pos (by omega)]; rfl) | (rw [if_neg (by omega), if_neg (by omega), if_neg (by omega), if_neg (by omega)]; rfl))⟩)
    refine go_bipush (v := 47) (pc' := 26) dX12_opens_24 rfl (by decide) ?_
    refine go_goto (tgt := 42) dX12_opens_26 (by decide) ?_
    refine go_cvv (pc' := 45) lk_X12_250 (e_X12_puts _ _ _ _ (by omega) w0.1) rfl rfl (Nat.le_of_ble_eq_true rfl) (by decide) rfl rfl rfl ⟨Nat.le_of_ble_eq_true rfl, Nat.le_of_ble_eq_true rfl⟩ ⟨rfl, rfl⟩ dX12_opens_42 rfl (fun σ7 h7 => ?_)
    obtain ⟨u7, h7⟩ := h7
    have w7 := WXp_trans w0 u7
    have pd := PDm_trans pd h7 rfl
    exact go_vret dX12_opens_45 rfl (⟨w7, PDm_e pd (by unfold opnL; first | (rw [if_pos (by omega)]; done) | (rw [if_neg (by omega), if_pos (by omega)]; rfl) | (rw [if_neg (by omega), if_neg (by omega), if_pos (by omega)]; rfl) | (rw [if_neg (by omega), if_neg (by omega), if_neg (by omega), if_pos (by omega)]; rfl) | (rw [if_neg (by omega), if_neg (by omega), if_neg (by omega), if_neg (by omega)]; rfl))⟩)
  refine go_bipush (v := 60) (pc' := 15) dX12_opens_13 rfl (by decide) ?_
  refine go_goto (tgt := 42) dX12_opens_15 (by decide) ?_
  refine go_cvv (pc' := 45) lk_X12_250 (e_X12_puts _ _ _ _ (by omega) w0.1) rfl rfl (Nat.le_of_ble_eq_true rfl) (by decide) rfl rfl rfl ⟨Nat.le_of_ble_eq_true rfl, Nat.le_of_ble_eq_true rfl⟩ ⟨rfl, rfl⟩ dX12_opens_42 rfl (fun σ8 h8 => ?_)
  obtain ⟨u8, h8⟩ := h8
  have w8 := WXp_trans w0 u8
  have pd := PDm_trans pd h8 rfl
  exact go_vret dX12_opens_45 rfl (⟨w8, PDm_e pd (by unfold opnL; first | (rw [if_pos (by omega)]; done) | (rw [if_neg (by omega), if_pos (by omega)]; rfl) | (rw [if_neg (by omega), if_neg (by omega), if_pos (by omega)]; rfl) | (rw [if_neg (by omega), if_neg (by omega), if_neg (by omega), if_pos (by omega)]; rfl) | (rw [if_neg (by omega), if_neg (by omega), if_neg (by omega), if_neg (by omega)]; rfl))⟩)
set_option maxHeartbeats 4000000 in
set_option maxRecDepth 100000 in
theorem e_X12_closes (l : Launch) (L : WL) (σ : ST) (b : Int32) (hs : (σ.1 29).toInt < 320) (ix : IV σ) : CtV l L yX12_closes cX12_closes 2 none rm_X12_closes [.ref (L.2.1 13), .int b] σ (fun σ2 => WXp σ σ2 ∧ PDm σ σ2 (clsL b.toInt)) := by
  refine ctV_go (own := RX12) (by decide) rfl (Nat.le_of_ble_eq_true rfl) (fun F hF => ?_)
  subst hF
  have n39 : (39 : Int32).toInt = 39 := by decide
  have n47 : (47 : Int32).toInt = 47 := by decide
  have n62 : (62 : Int32).toInt = 62 := by decide
  have n93 : (93 : Int32).toInt = 93 := by decide
  have n97 : (97 : Int32).toInt = 97 := by decide
  have n100 : (100 : Int32).toInt = 100 := by decide
  have n115 : (115 : Int32).toInt = 115 := by decide
  have n117 : (117 : Int32).toInt = 117 := by decide
  have w0 : WXp σ σ := WXp_rfl ix
  have pd := PDm_rfl σ
  refine go_iload_n (i := 1) (pc' := 1) dX12_closes_0 rfl rfl rfl ?_
  refine go_bipush (v := 115) (pc' := 3) dX12_closes_1 rfl (by decide) ?_
  refine gz_icmp_eq (tgt := 45) (pc' := 6) dX12_closes_3 rfl (by decide) (fun c1 => ?_) (fun c1 => ?_)
  · exact go_vret dX12_closes_45 rfl (⟨w0, PDm_e pd (by unfold clsL; first | (rw [if_pos (by omega)]; done) | (rw [if_neg (by omega), if_pos (by omega)]; rfl) | (rw [if_neg (by omega), if_neg (by omega), if_pos (by omega)]; rfl) | (rw [if_neg (by omega), if_neg (by omega), if_neg (by omega), if_pos (by omega)]; rfl) | (rw [if_neg (by omega), if_neg (by omega), if_neg (by omega), if_neg (by omega)]; rfl))⟩)
  refine go_aload_n (i := 0) (pc' := 7) dX12_closes_6 rfl rfl rfl ?_
  refine go_iload_n (i := 1) (pc' := 8) dX12_closes_7 rfl rfl rfl ?_
  refine go_bipush (v := 100) (pc' := 10) dX12_closes_8 rfl (by decide) ?_
  refine gz_icmp_ne (tgt := 18) (pc' := 13) dX12_closes_10 rfl (by decide) (fun c2 => ?_) (fun c2 => ?_)
  · refine go_iload_n (i := 1) (pc' := 19) dX12_closes_18 rfl rfl rfl ?_
    refine go_bipush (v := 97) (pc' := 21) dX12_closes_19 rfl (by decide) ?_
    refine gz_icmp_ne (tgt := 29) (pc' := 24) dX12_closes_21 rfl (by decide) (fun c3 => ?_) (fun c3 => ?_)
    · refine go_iload_n (i := 1) (pc' := 30) dX12_closes_29 rfl rfl rfl ?_
      refine go_bipush (v := 117) (pc' := 32) dX12_closes_30 rfl (by decide) ?_
      refine gz_icmp_ne (tgt := 40) (pc' := 35) dX12_closes_32 rfl (by decide) (fun c4 => ?_) (fun c4 => ?_)
      · refine go_bipush (v := 39) (pc' := 42) dX12_closes_40 rfl (by decide) ?_
        refine go_cvv (pc' := 45) lk_X12_250 (e_X12_puts _ _ _ _ (by omega) w0.1) rfl rfl (Nat.le_of_ble_eq_true rfl) (by decide) rfl rfl rfl ⟨Nat.le_of_ble_eq_true rfl, Nat.le_of_ble_eq_true rfl⟩ ⟨rfl, rfl⟩ dX12_closes_42 rfl (fun σ5 h5 => ?_)
        obtain ⟨u5, h5⟩ := h5
        have w5 := WXp_trans w0 u5
        have pd := PDm_trans pd h5 rfl
        exact go_vret dX12_closes_45 rfl (⟨w5, PDm_e pd (by unfold clsL; first | (rw [if_pos (by omega)]; done) | (rw [if_neg (by omega), if_pos (by omega)]; rfl) | (rw [if_neg (by omega), if_neg (by omega), if_pos (by omega)]; rfl) | (rw [if_neg (by omega), if_neg (by omega), if_neg (by omega), if_pos (by omega)]; rfl) | (rw [if_neg (by omega), if_neg (by omega), if_neg (by omega), if_neg (by omega)]; rfl))⟩)
      refine go_bipush (v := 93) (pc' := 37) dX12_closes_35 rfl (by decide) ?_
      refine go_goto (tgt := 42) dX12_closes_37 (by decide) ?_
      refine go_cvv (pc' := 45) lk_X12_250 (e_X12_puts _ _ _ _ (by omega) w0.1) rfl rfl (Nat.le_of_ble_eq_true rfl) (by decide) rfl rfl rfl ⟨Nat.le_of_ble_eq_true rfl, Nat.le_of_ble_eq_true rfl⟩ ⟨rfl, rfl⟩ dX12_closes_42 rfl (fun σ6 h6 => ?_)
      obtain ⟨u6, h6⟩ := h6
      have w6 := WXp_trans w0 u6
      have pd := PDm_trans pd h6 rfl
      exact go_vret dX12_closes_45 rfl (⟨w6, PDm_e pd (by unfold clsL; first | (rw [if_pos (by omega)]; done) | (rw [if_neg (by omega), if_pos (by omega)]; rfl) | (rw [if_neg (by omega), if_neg (by omega), if_pos (by omega)]; rfl) | (rw [if_neg (by omega), if_neg (by omega), if_neg (by omega), if_pos (by omega)]; rfl) | (rw [if_neg (by omega), if_neg (by omega), if_neg (by omega), if_neg (by omega)]; rfl))⟩)
    refine go_bipush (v := 47) (pc' := 26) dX12_closes_24 rfl (by decide) ?_
    refine go_goto (tgt := 42) dX12_closes_26 (by decide) ?_
    refine go_cvv (pc' := 45) lk_X12_250 (e_X12_puts _ _ _ _ (by omega) w0.1) rfl rfl (Nat.le_of_ble_eq_true rfl) (by decide) rfl rfl rfl ⟨Nat.le_of_ble_eq_true rfl, Nat.le_of_ble_eq_true rfl⟩ ⟨rfl, rfl⟩ dX12_closes_42 rfl (fun σ7 h7 => ?_)
    obtain ⟨u7, h7⟩ := h7
    have w7 := WXp_trans w0 u7
    have pd := PDm_trans pd h7 rfl
    exact go_vret dX12_closes_45 rfl (⟨w7, PDm_e pd (by unfold clsL; first | (rw [if_pos (by omega)]; done) | (rw [if_neg (by omega), if_pos (by omega)]; rfl) | (rw [if_neg (by omega), if_neg (by omega), if_pos (by omega)]; rfl) | (rw [if_neg (by omega), if_neg (by omega), if_neg (by omega), if_pos (by omega)]; rfl) | (rw [if_neg (by omega), if_neg (by omega), if_neg (by omega), if_neg (by omega)]; rfl))⟩)
  refine go_bipush (v := 62) (pc' := 15) dX12_closes_13 rfl (by decide) ?_
  refine go_goto (tgt := 42) dX12_closes_15 (by decide) ?_
  refine go_cvv (pc' := 45) lk_X12_250 (e_X12_puts _ _ _ _ (by omega) w0.1) rfl rfl (Nat.le_of_ble_eq_true rfl) (by decide) rfl rfl rfl ⟨Nat.le_of_ble_eq_true rfl, Nat.le_of_ble_eq_true rfl⟩ ⟨rfl, rfl⟩ dX12_closes_42 rfl (fun σ8 h8 => ?_)
  obtain ⟨u8, h8⟩ := h8
  have w8 := WXp_trans w0 u8
  have pd := PDm_trans pd h8 rfl
  exact go_vret dX12_closes_45 rfl (⟨w8, PDm_e pd (by unfold clsL; first | (rw [if_pos (by omega)]; done) | (rw [if_neg (by omega), if_pos (by omega)]; rfl) | (rw [if_neg (by omega), if_neg (by omega), if_pos (by omega)]; rfl) | (rw [if_neg (by omega), if_neg (by omega), if_neg (by omega), if_pos (by omega)]; rfl) | (rw [if_neg (by omega), if_neg (by omega), if_neg (by omega), if_neg (by omega)]; rfl))⟩)
set_option maxHeartbeats 4000000 in
set_option maxRecDepth 100000 in
theorem q_cl {F : FX} {L : WL} {Q : State → Prop} {σ σc : ST} {T : Nat → Int} {N : Nat} {a d y y2 p x5 x6 : Int32} (w0 : WMo σ σc) (hr : ROWs T N (σc.2 125)) (hN : y2.toInt = (N : Int)) (hN2 : N ≤ 160) (hpp : 0 ≤ p.toInt) (hy : y.toInt = 0 ∨ y.toInt = 1) (h5 : 0 ≤ x5.toInt) (hI : INVM T N d.toInt y.toInt p.toNatClampNeg x5.toNatClampNeg σc) (hpn : p.toInt < (N : Int)) (h6 : x6 = p) (hc : T p.toNatClampNeg = 125) (hd : 0 < (σc.1 28).toNatClampNeg) (hh : ∃ f2 stk2, tk T N f2 (p.toNatClampNeg + 1) ((σc.1 28).toNatClampNeg - 1) stk2 = -1) (K : ∀ (σx : ST) (x5 : Int32) (x6 : Int32), (WMo σ σx) → (0 ≤ x6.toInt ∧ x6.toInt ≤ y2.toInt) → (ROWs T N (σx.2 125)) → (∃ f stk, tk T N f x6.toNatClampNeg (σx.1 28).toNatClampNeg stk = -1) → (0 ≤ x5.toInt) → (INVM T N d.toInt y.toInt x6.toNatClampNeg x5.toNatClampNeg σx) → (p.toInt < x6.toInt) → Go F L RX12 cX12_prints 10 rm_X12_prints none Q σx 72 [(0, .ref (L.2.1 13)), (1, .int a), (2, .int d), (3, .int y), (4, .int y2), (5, .int x5), (6, .int x6)] []) : Go F L RX12 cX12_prints 10 rm_X12_prints none Q σc 95 [(0, .ref (L.2.1 13)), (1, .int a), (2, .int d), (3, .int y), (4, .int y2), (5, .int x5), (6, .int x6)] [] := by
  have n0 : (0 : Int32).toInt = 0 := by decide
  have n1 : (1 : Int32).toInt = 1 := by decide
  have gR : σc.2 125 = σc.2 125 := rfl
  have g28 : σc.1 28 = σc.1 28 := rfl
  have g123 : σc.2 123 = σc.2 123 := rfl
  have ud := ixi_28 w0.1
  have cd := cnat (x := σc.1 28) (by omega)
  have cpp := cnat (x := p) hpp
  have c50 := cnat (x := x5) h5
  have z0 : (0 : Int32).toNatClampNeg = 0 := by decide
  have hI2 := hI.2.1
  have hI3 := hI.2.2
  have pd := PDm_rfl σc
  have pl := pd.2
  subst h6
  have c6 := cnat (x := x6) (by omega)
  refine go_aload_n (i := 0) (pc' := 96) dX12_prints_95 rfl rfl rfl ?_
  refine go_dup (pc' := 97) dX12_prints_96 rfl rfl ?_
  refine gf_13_opened (pc' := 100) dX12_prints_97 rfl fl_X12_218 ?_
  have g1 := ixi_28 w0.1
  refine go_iconst (v := 1) (pc' := 101) dX12_prints_100 rfl (by decide) ?_
  refine gz_isub (pc' := 102) dX12_prints_101 rfl (by omega) (fun v2 h2 e2 => ?_)
  refine pf_13_opened (pc' := 105) dX12_prints_102 rfl fl_X12_218 ?_
  refine go_gen (P := fun s => WMo σ s ∧ s.2 125 = σc.2 125 ∧ s.1 29 = σc.1 29 ∧ s.1 28 = v2 ∧ s.2 = σc.2) ⟨⟨ixs_28 w0.1 (by omega) (by omega), Ag_setI w0.2 (by decide)⟩, ⟨rfl, rfl, setI_same _ _ _, rfl⟩⟩ (fun σ3 z3 => ?_)
  obtain ⟨w3, g3⟩ := z3
  have gO := g3
  have gR := gO.1.trans gR
  have gq3 := congrArg Int32.toInt gO.2.1
  have gd3 := congrArg Int32.toInt gO.2.2.1
  have g28 := gO.2.2.1
  have g123 := (congrFun gO.2.2.2 123).trans g123
  have pd := PDm_q pd (congrFun gO.2.2.2 124) gO.2.1
  have pl := pd.2
  refine go_iload (pc' := 107) dX12_prints_105 rfl rfl ?_
  refine go_aload_n (i := 0) (pc' := 108) dX12_prints_107 rfl rfl rfl ?_
  refine gf_13_opened (pc' := 111) dX12_prints_108 rfl fl_X12_218 ?_
  have g4 := ixi_28 w3.1
  refine gz_icmp_le (tgt := 120) (pc' := 114) dX12_prints_111 rfl (by decide) (fun c5 => ?_) (fun c5 => ?_)
  · refine go_iload (pc' := 122) dX12_prints_120 rfl rfl ?_
    refine gz_if_ne (tgt := 143) (pc' := 125) dX12_prints_122 rfl (by decide) (fun c6 => ?_) (fun c6 => ?_)
    · refine gz_iinc (c := 1) (pc' := 146) dX12_prints_143 rfl rfl (by decide) (by decide) (by decide) (by omega) (fun v7 h7 e7 => ?_)
      refine go_goto (tgt := 72) dX12_prints_146 (by decide) ?_
      exact go_lv (lv' := [(0, .ref (L.2.1 13)), (1, .int a), (2, .int d), (3, .int y), (4, .int y2), (5, .int x5), (6, .int v7)]) rfl (K σ3 x5 v7 w3 (by omega) (by rw [gR]; exact hr) (by have cv := cnat (x := v7) (by omega); have ud := ixi_28 w3.1; have cd2 := cnat (x := σ3.1 28) (by omega); exact tk_at hh (by omega) (by omega)) (by omega) (by have cv := cnat (x := v7) (by omega); have cv5 := cnat (x := x5) (by omega); have ud := ixi_28 w3.1; have cd2 := cnat (x := σ3.1 28) (by omega); exact M_cl (d2 := (σc.1 28).toNatClampNeg - 1) hI (by omega) hc (by omega) (by omega) g123 pd (by first | (rw [if_pos (by omega)]) | (rw [if_neg (by omega), if_pos (by omega)]; first | done | (rw [ecl]; rfl)) | (rw [if_neg (by omega), if_neg (by omega)])) (by first | (rw [if_pos (by omega)]; exact z0) | (rw [if_neg (by omega)])) (by omega)) (by omega))
    refine go_iload_n (i := 3) (pc' := 126) dX12_prints_125 rfl rfl rfl ?_
    refine go_iconst (v := 1) (pc' := 127) dX12_prints_126 rfl (by decide) ?_
    refine gz_icmp_ne (tgt := 143) (pc' := 130) dX12_prints_127 rfl (by decide) (fun c8 => ?_) (fun c8 => ?_)
    · refine gz_iinc (c := 1) (pc' := 146) dX12_prints_143 rfl rfl (by decide) (by decide) (by decide) (by omega) (fun v9 h9 e9 => ?_)
      refine go_goto (tgt := 72) dX12_prints_146 (by decide) ?_
      exact go_lv (lv' := [(0, .ref (L.2.1 13)), (1, .int a), (2, .int d), (3, .int y), (4, .int y2), (5, .int x5), (6, .int v9)]) rfl (K σ3 x5 v9 w3 (by omega) (by rw [gR]; exact hr) (by have cv := cnat (x := v9) (by omega); have ud := ixi_28 w3.1; have cd2 := cnat (x := σ3.1 28) (by omega); exact tk_at hh (by omega) (by omega)) (by omega) (by have cv := cnat (x := v9) (by omega); have cv5 := cnat (x := x5) (by omega); have ud := ixi_28 w3.1; have cd2 := cnat (x := σ3.1 28) (by omega); exact M_cl (d2 := (σc.1 28).toNatClampNeg - 1) hI (by omega) hc (by omega) (by omega) g123 pd (by first | (rw [if_pos (by omega)]) | (rw [if_neg (by omega), if_pos (by omega)]; first | done | (rw [ecl]; rfl)) | (rw [if_neg (by omega), if_neg (by omega)])) (by first | (rw [if_pos (by omega)]; exact z0) | (rw [if_neg (by omega)])) (by omega)) (by omega))
    refine go_aload_n (i := 0) (pc' := 131) dX12_prints_130 rfl rfl rfl ?_
    refine go_aload_n (i := 0) (pc' := 132) dX12_prints_131 rfl rfl rfl ?_
    refine gf_13_open (pc' := 135) dX12_prints_132 rfl fl_X12_96 ?_
    refine go_aload_n (i := 0) (pc' := 136) dX12_prints_135 rfl rfl rfl ?_
    refine gf_13_opened (pc' := 139) dX12_prints_136 rfl fl_X12_218 ?_
    have g10 := ixi_28 w3.1
    refine go_iald (pc' := 140) dX12_prints_139 rfl (by decide) (by decide) rfl (vin_of (n := 5) (by omega) (by omega)) ?_
    have ecl : clsL ((σ3.2 123 ((σ3.1 28)).toNatClampNeg)).toInt = clsL (σc.2 123 ((σc.1 28).toNatClampNeg - 1)).toInt := by rw [g123, show (σ3.1 28).toNatClampNeg = (σc.1 28).toNatClampNeg - 1 from by have ud := ixi_28 w3.1; have cd2 := cnat (x := σ3.1 28) (by omega); omega]
    refine go_cvv (pc' := 143) lk_X12_254 (e_X12_closes _ _ _ _ (by omega) w3.1) rfl rfl (Nat.le_of_ble_eq_true rfl) (by decide) rfl rfl rfl ⟨Nat.le_of_ble_eq_true rfl, Nat.le_of_ble_eq_true rfl⟩ ⟨rfl, rfl⟩ dX12_prints_140 rfl (fun σ11 h11 => ?_)
    obtain ⟨u11, h11⟩ := h11
    have w11 := WMo_trans w3 (WMo_of_p u11)
    have gR := (u11.2.2 125 (by decide)).trans gR
    have gd11 := congrArg Int32.toInt (u11.2.1 28 (by decide))
    have g28 := (u11.2.1 28 (by decide)).trans g28
    have g123 := (u11.2.2 123 (by decide)).trans g123
    have pd := PDm_trans pd h11 rfl
    have pl := pd.2
    try simp only [List.length_append, List.length_nil, List.length_cons] at pl
    refine gz_iinc (c := 1) (pc' := 146) dX12_prints_143 rfl rfl (by decide) (by decide) (by decide) (by omega) (fun v12 h12 e12 => ?_)
    refine go_goto (tgt := 72) dX12_prints_146 (by decide) ?_
    exact go_lv (lv' := [(0, .ref (L.2.1 13)), (1, .int a), (2, .int d), (3, .int y), (4, .int y2), (5, .int x5), (6, .int v12)]) rfl (K σ11 x5 v12 w11 (by omega) (by rw [gR]; exact hr) (by have cv := cnat (x := v12) (by omega); have ud := ixi_28 w11.1; have cd2 := cnat (x := σ11.1 28) (by omega); exact tk_at hh (by omega) (by omega)) (by omega) (by have cv := cnat (x := v12) (by omega); have cv5 := cnat (x := x5) (by omega); have ud := ixi_28 w11.1; have cd2 := cnat (x := σ11.1 28) (by omega); exact M_cl (d2 := (σc.1 28).toNatClampNeg - 1) hI (by omega) hc (by omega) (by omega) g123 pd (by first | (rw [if_pos (by omega)]) | (rw [if_neg (by omega), if_pos (by omega)]; first | done | (rw [ecl]; rfl)) | (rw [if_neg (by omega), if_neg (by omega)])) (by first | (rw [if_pos (by omega)]; exact z0) | (rw [if_neg (by omega)])) (by omega)) (by omega))
  refine go_iconst (v := 0) (pc' := 115) dX12_prints_114 rfl (by decide) ?_
  refine go_istore (pc' := 117) dX12_prints_115 rfl (by decide) ?_
  refine go_goto (tgt := 143) dX12_prints_117 (by decide) ?_
  refine gz_iinc (c := 1) (pc' := 146) dX12_prints_143 rfl rfl (by decide) (by decide) (by decide) (by omega) (fun v13 h13 e13 => ?_)
  refine go_goto (tgt := 72) dX12_prints_146 (by decide) ?_
  exact go_lv (lv' := [(0, .ref (L.2.1 13)), (1, .int a), (2, .int d), (3, .int y), (4, .int y2), (5, .int (0 : Int32)), (6, .int v13)]) rfl (K σ3 (0 : Int32) v13 w3 (by omega) (by rw [gR]; exact hr) (by have cv := cnat (x := v13) (by omega); have ud := ixi_28 w3.1; have cd2 := cnat (x := σ3.1 28) (by omega); exact tk_at hh (by omega) (by omega)) (by omega) (by have cv := cnat (x := v13) (by omega); have cv5 := cnat (x := (0 : Int32)) (by omega); have ud := ixi_28 w3.1; have cd2 := cnat (x := σ3.1 28) (by omega); exact M_cl (d2 := (σc.1 28).toNatClampNeg - 1) hI (by omega) hc (by omega) (by omega) g123 pd (by first | (rw [if_pos (by omega)]) | (rw [if_neg (by omega), if_pos (by omega)]; first | done | (rw [ecl]; rfl)) | (rw [if_neg (by omega), if_neg (by omega)])) (by first | (rw [if_pos (by omega)]; exact z0) | (rw [if_neg (by omega)])) (by omega)) (by omega))
set_option maxHeartbeats 4000000 in
set_option maxRecDepth 100000 in
theorem q_mk {F : FX} {L : WL} {Q : State → Prop} {σ σc : ST} {T : Nat → Int} {N : Nat} {a d y y2 p x5 x6 : Int32} (w0 : WMo σ σc) (hr : ROWs T N (σc.2 125)) (hN : y2.toInt = (N : Int)) (hN2 : N ≤ 160) (hpp : 0 ≤ p.toInt) (hy : y.toInt = 0 ∨ y.toInt = 1) (h5 : 0 ≤ x5.toInt) (hI : INVM T N d.toInt y.toInt p.toNatClampNeg x5.toNatClampNeg σc) (hpn : p.toInt < (N : Int)) {x8 x9 : Int32} (hc : T p.toNatClampNeg = 123) (ts : T (p.toNatClampNeg + 1) = x8.toInt) (hso : sortQ x8.toInt) (h9 : x9.toInt = nval T (p.toNatClampNeg + 2) (dcnt T N 4 (p.toNatClampNeg + 2))) (h6 : p.toInt + 2 ≤ x6.toInt ∧ x6.toInt ≤ (N : Int)) (e6 : x6.toNatClampNeg = if T (p.toNatClampNeg + 1) = 115 then p.toNatClampNeg + 3 + dcnt T N 4 (p.toNatClampNeg + 2) else p.toNatClampNeg + 2) (hd : (σc.1 28).toNatClampNeg ≠ 4) (hh : ∃ f2 stk2, tk T N f2 x6.toNatClampNeg ((σc.1 28).toNatClampNeg + 1) stk2 = -1) (K : ∀ (σx : ST) (x5 : Int32) (x6 : Int32), (WMo σ σx) → (0 ≤ x6.toInt ∧ x6.toInt ≤ y2.toInt) → (ROWs T N (σx.2 125)) → (∃ f stk, tk T N f x6.toNatClampNeg (σx.1 28).toNatClampNeg stk = -1) → (0 ≤ x5.toInt) → (INVM T N d.toInt y.toInt x6.toNatClampNeg x5.toNatClampNeg σx) → (p.toInt < x6.toInt) → Go F L RX12 cX12_prints 10 rm_X12_prints none Q σx 72 [(0, .ref (L.2.1 13)), (1, .int a), (2, .int d), (3, .int y), (4, .int y2), (5, .int x5), (6, .int x6)] []) : Go F L RX12 cX12_prints 10 rm_X12_prints none Q σc 288 [(0, .ref (L.2.1 13)), (1, .int a), (2, .int d), (3, .int y), (4, .int y2), (5, .int x5), (6, .int x6), (8, .int x8), (9, .int x9)] [] := by
  have n1 : (1 : Int32).toInt = 1 := by decide
  have n95 : (95 : Int32).toInt = 95 := by decide
  have n100 : (100 : Int32).toInt = 100 := by decide
  have n115 : (115 : Int32).toInt = 115 := by decide
  have gR : σc.2 125 = σc.2 125 := rfl
  have g28 : σc.1 28 = σc.1 28 := rfl
  have g123 : σc.2 123 = σc.2 123 := rfl
  have ud := ixi_28 w0.1
  have cd := cnat (x := σc.1 28) (by omega)
  have cpp := cnat (x := p) hpp
  have c50 := cnat (x := x5) h5
  have z0 : (0 : Int32).toNatClampNeg = 0 := by decide
  have hI2 := hI.2.1
  have hI3 := hI.2.2
  have pd := PDm_rfl σc
  have pl := pd.2
  have c6 := cnat (x := x6) (by omega)
  have v115 : (115 : Int32).toInt = 115 := by decide
  refine go_aload_n (i := 0) (pc' := 289) dX12_prints_288 rfl rfl rfl ?_
  refine gf_13_open (pc' := 292) dX12_prints_289 rfl fl_X12_96 ?_
  refine go_aload_n (i := 0) (pc' := 293) dX12_prints_292 rfl rfl rfl ?_
  refine gf_13_opened (pc' := 296) dX12_prints_293 rfl fl_X12_218 ?_
  have g1 := ixi_28 w0.1
  refine go_iload (pc' := 298) dX12_prints_296 rfl rfl ?_
  refine go_iast (pc' := 299) dX12_prints_298 rfl (by decide) (by decide) rfl (vin_of (n := 5) (by omega) (by omega)) ?_
  refine go_gen (P := fun s => WMo σ s ∧ s.2 125 = σc.2 125 ∧ s.1 = σc.1 ∧ s.2 123 = upd (σc.2 123) ((σc.1 28)).toNatClampNeg x8 ∧ s.2 124 = σc.2 124) ⟨⟨ixt_n w0.1 (by decide), Ag_setA w0.2 (by decide)⟩, ⟨setA_ne (a := 125) _ 123 _ _ (by decide), rfl, setA_same _ _ _ _, setA_ne (a := 124) _ 123 _ _ (by decide)⟩⟩ (fun σ2 z2 => ?_)
  obtain ⟨w2, g2⟩ := z2
  have gO := g2
  have gR := gO.1.trans gR
  have gq2 := congrArg Int32.toInt (congrFun gO.2.1 29)
  have gd2 := congrArg Int32.toInt (congrFun gO.2.1 28)
  have g28 := (congrFun gO.2.1 28).trans g28
  have g123 := gO.2.2.1
  have pd := PDm_q pd gO.2.2.2 (congrFun gO.2.1 29)
  have pl := pd.2
  refine go_aload_n (i := 0) (pc' := 300) dX12_prints_299 rfl rfl rfl ?_
  refine go_dup (pc' := 301) dX12_prints_300 rfl rfl ?_
  refine gf_13_opened (pc' := 304) dX12_prints_301 rfl fl_X12_218 ?_
  have g3 := ixi_28 w2.1
  refine go_iconst (v := 1) (pc' := 305) dX12_prints_304 rfl (by decide) ?_
  refine gz_iadd (pc' := 306) dX12_prints_305 rfl (by omega) (fun v4 h4 e4 => ?_)
  refine pf_13_opened (pc' := 309) dX12_prints_306 rfl fl_X12_218 ?_
  refine go_gen (P := fun s => WMo σ s ∧ s.2 125 = σ2.2 125 ∧ s.1 29 = σ2.1 29 ∧ s.1 28 = v4 ∧ s.2 = σ2.2) ⟨⟨ixs_28 w2.1 (by omega) (by omega), Ag_setI w2.2 (by decide)⟩, ⟨rfl, rfl, setI_same _ _ _, rfl⟩⟩ (fun σ5 z5 => ?_)
  obtain ⟨w5, g5⟩ := z5
  have gO := g5
  have gR := gO.1.trans gR
  have gq5 := congrArg Int32.toInt gO.2.1
  have gd5 := congrArg Int32.toInt gO.2.2.1
  have g28 := gO.2.2.1
  have g123 := (congrFun gO.2.2.2 123).trans g123
  have pd := PDm_q pd (congrFun gO.2.2.2 124) gO.2.1
  have pl := pd.2
  refine go_iload (pc' := 311) dX12_prints_309 rfl rfl ?_
  refine gz_if_le (tgt := 317) (pc' := 314) dX12_prints_311 rfl (by decide) (fun c6 => ?_) (fun c6 => ?_)
  · refine go_iload (pc' := 319) dX12_prints_317 rfl rfl ?_
    refine go_bipush (v := 115) (pc' := 321) dX12_prints_319 rfl (by decide) ?_
    refine gz_icmp_ne (tgt := 350) (pc' := 324) dX12_prints_321 rfl (by decide) (fun c7 => ?_) (fun c7 => ?_)
    · refine go_iload (pc' := 352) dX12_prints_350 rfl rfl ?_
      refine go_bipush (v := 100) (pc' := 354) dX12_prints_352 rfl (by decide) ?_
      refine gz_icmp_ne (tgt := 370) (pc' := 357) dX12_prints_354 rfl (by decide) (fun c8 => ?_) (fun c8 => ?_)
      · refine go_iload_n (i := 3) (pc' := 371) dX12_prints_370 rfl rfl rfl ?_
        refine go_iconst (v := 1) (pc' := 372) dX12_prints_371 rfl (by decide) ?_
        refine gz_icmp_ne (tgt := 381) (pc' := 375) dX12_prints_372 rfl (by decide) (fun c9 => ?_) (fun c9 => ?_)
        · refine go_goto (tgt := 72) dX12_prints_381 (by decide) ?_
          exact go_lv (lv' := [(0, .ref (L.2.1 13)), (1, .int a), (2, .int d), (3, .int y), (4, .int y2), (5, .int x5), (6, .int x6)]) rfl (K σ5 x5 x6 w5 (by omega) (by rw [gR]; exact hr) (by have cv := cnat (x := x6) (by omega); have ud := ixi_28 w5.1; have cd2 := cnat (x := σ5.1 28) (by omega); exact tk_at hh (by omega) (by omega)) (by omega) (by have cv := cnat (x := x6) (by omega); have cv5 := cnat (x := x5) (by omega); have ud := ixi_28 w5.1; have cd2 := cnat (x := σ5.1 28) (by omega); exact M_op (w := x8) hI (by omega) hc (by omega) ts.symm (by omega) (by omega) g123 pd (by unfold opF; first | (rw [if_neg (by omega)]; done) | (rw [if_pos (by omega), if_pos (by omega), if_pos (by omega)]; first | done | (rw [n95]; rfl)) | (rw [if_pos (by omega), if_pos (by omega), if_neg (by omega)]; done) | (rw [if_pos (by omega), if_neg (by omega), if_pos (by omega)]; first | done | (rw [ts]; rfl)) | (rw [if_pos (by omega), if_neg (by omega), if_neg (by omega)]; done)) (by unfold hF; first | (rw [if_neg (by omega)]; done) | (rw [if_pos (by omega), if_pos (by omega)]; omega) | (rw [if_pos (by omega), if_neg (by omega)]; omega)) e6) (by omega))
        refine go_aload_n (i := 0) (pc' := 376) dX12_prints_375 rfl rfl rfl ?_
        refine go_iload (pc' := 378) dX12_prints_376 rfl rfl ?_
        refine go_cvv (pc' := 381) lk_X12_260 (e_X12_opens _ _ _ _ (by omega) w5.1) rfl rfl (Nat.le_of_ble_eq_true rfl) (by decide) rfl rfl rfl ⟨Nat.le_of_ble_eq_true rfl, Nat.le_of_ble_eq_true rfl⟩ ⟨rfl, rfl⟩ dX12_prints_378 rfl (fun σ10 h10 => ?_)
        obtain ⟨u10, h10⟩ := h10
        have w10 := WMo_trans w5 (WMo_of_p u10)
        have gR := (u10.2.2 125 (by decide)).trans gR
        have gd10 := congrArg Int32.toInt (u10.2.1 28 (by decide))
        have g28 := (u10.2.1 28 (by decide)).trans g28
        have g123 := (u10.2.2 123 (by decide)).trans g123
        have pd := PDm_trans pd h10 rfl
        have pl := pd.2
        try simp only [List.length_append, List.length_nil, List.length_cons] at pl
        refine go_goto (tgt := 72) dX12_prints_381 (by decide) ?_
        exact go_lv (lv' := [(0, .ref (L.2.1 13)), (1, .int a), (2, .int d), (3, .int y), (4, .int y2), (5, .int x5), (6, .int x6)]) rfl (K σ10 x5 x6 w10 (by omega) (by rw [gR]; exact hr) (by have cv := cnat (x := x6) (by omega); have ud := ixi_28 w10.1; have cd2 := cnat (x := σ10.1 28) (by omega); exact tk_at hh (by omega) (by omega)) (by omega) (by have cv := cnat (x := x6) (by omega); have cv5 := cnat (x := x5) (by omega); have ud := ixi_28 w10.1; have cd2 := cnat (x := σ10.1 28) (by omega); exact M_op (w := x8) hI (by omega) hc (by omega) ts.symm (by omega) (by omega) g123 pd (by unfold opF; first | (rw [if_neg (by omega)]; done) | (rw [if_pos (by omega), if_pos (by omega), if_pos (by omega)]; first | done | (rw [n95]; rfl)) | (rw [if_pos (by omega), if_pos (by omega), if_neg (by omega)]; done) | (rw [if_pos (by omega), if_neg (by omega), if_pos (by omega)]; first | done | (rw [ts]; rfl)) | (rw [if_pos (by omega), if_neg (by omega), if_neg (by omega)]; done)) (by unfold hF; first | (rw [if_neg (by omega)]; done) | (rw [if_pos (by omega), if_pos (by omega)]; omega) | (rw [if_pos (by omega), if_neg (by omega)]; omega)) e6) (by omega))
      refine go_iload_n (i := 3) (pc' := 358) dX12_prints_357 rfl rfl rfl ?_
      refine gz_if_ne (tgt := 370) (pc' := 361) dX12_prints_358 rfl (by decide) (fun c11 => ?_) (fun c11 => ?_)
      · refine go_iload_n (i := 3) (pc' := 371) dX12_prints_370 rfl rfl rfl ?_
        refine go_iconst (v := 1) (pc' := 372) dX12_prints_371 rfl (by decide) ?_
        refine gz_icmp_ne (tgt := 381) (pc' := 375) dX12_prints_372 rfl (by decide) (fun c12 => ?_) (fun c12 => ?_)
        · refine go_goto (tgt := 72) dX12_prints_381 (by decide) ?_
          exact go_lv (lv' := [(0, .ref (L.2.1 13)), (1, .int a), (2, .int d), (3, .int y), (4, .int y2), (5, .int x5), (6, .int x6)]) rfl (K σ5 x5 x6 w5 (by omega) (by rw [gR]; exact hr) (by have cv := cnat (x := x6) (by omega); have ud := ixi_28 w5.1; have cd2 := cnat (x := σ5.1 28) (by omega); exact tk_at hh (by omega) (by omega)) (by omega) (by have cv := cnat (x := x6) (by omega); have cv5 := cnat (x := x5) (by omega); have ud := ixi_28 w5.1; have cd2 := cnat (x := σ5.1 28) (by omega); exact M_op (w := x8) hI (by omega) hc (by omega) ts.symm (by omega) (by omega) g123 pd (by unfold opF; first | (rw [if_neg (by omega)]; done) | (rw [if_pos (by omega), if_pos (by omega), if_pos (by omega)]; first | done | (rw [n95]; rfl)) | (rw [if_pos (by omega), if_pos (by omega), if_neg (by omega)]; done) | (rw [if_pos (by omega), if_neg (by omega), if_pos (by omega)]; first | done | (rw [ts]; rfl)) | (rw [if_pos (by omega), if_neg (by omega), if_neg (by omega)]; done)) (by unfold hF; first | (rw [if_neg (by omega)]; done) | (rw [if_pos (by omega), if_pos (by omega)]; omega) | (rw [if_pos (by omega), if_neg (by omega)]; omega)) e6) (by omega))
        refine go_aload_n (i := 0) (pc' := 376) dX12_prints_375 rfl rfl rfl ?_
        refine go_iload (pc' := 378) dX12_prints_376 rfl rfl ?_
        refine go_cvv (pc' := 381) lk_X12_260 (e_X12_opens _ _ _ _ (by omega) w5.1) rfl rfl (Nat.le_of_ble_eq_true rfl) (by decide) rfl rfl rfl ⟨Nat.le_of_ble_eq_true rfl, Nat.le_of_ble_eq_true rfl⟩ ⟨rfl, rfl⟩ dX12_prints_378 rfl (fun σ13 h13 => ?_)
        obtain ⟨u13, h13⟩ := h13
        have w13 := WMo_trans w5 (WMo_of_p u13)
        have gR := (u13.2.2 125 (by decide)).trans gR
        have gd13 := congrArg Int32.toInt (u13.2.1 28 (by decide))
        have g28 := (u13.2.1 28 (by decide)).trans g28
        have g123 := (u13.2.2 123 (by decide)).trans g123
        have pd := PDm_trans pd h13 rfl
        have pl := pd.2
        try simp only [List.length_append, List.length_nil, List.length_cons] at pl
        refine go_goto (tgt := 72) dX12_prints_381 (by decide) ?_
        exact go_lv (lv' := [(0, .ref (L.2.1 13)), (1, .int a), (2, .int d), (3, .int y), (4, .int y2), (5, .int x5), (6, .int x6)]) rfl (K σ13 x5 x6 w13 (by omega) (by rw [gR]; exact hr) (by have cv := cnat (x := x6) (by omega); have ud := ixi_28 w13.1; have cd2 := cnat (x := σ13.1 28) (by omega); exact tk_at hh (by omega) (by omega)) (by omega) (by have cv := cnat (x := x6) (by omega); have cv5 := cnat (x := x5) (by omega); have ud := ixi_28 w13.1; have cd2 := cnat (x := σ13.1 28) (by omega); exact M_op (w := x8) hI (by omega) hc (by omega) ts.symm (by omega) (by omega) g123 pd (by unfold opF; first | (rw [if_neg (by omega)]; done) | (rw [if_pos (by omega), if_pos (by omega), if_pos (by omega)]; first | done | (rw [n95]; rfl)) | (rw [if_pos (by omega), if_pos (by omega), if_neg (by omega)]; done) | (rw [if_pos (by omega), if_neg (by omega), if_pos (by omega)]; first | done | (rw [ts]; rfl)) | (rw [if_pos (by omega), if_neg (by omega), if_neg (by omega)]; done)) (by unfold hF; first | (rw [if_neg (by omega)]; done) | (rw [if_pos (by omega), if_pos (by omega)]; omega) | (rw [if_pos (by omega), if_neg (by omega)]; omega)) e6) (by omega))
      refine go_aload_n (i := 0) (pc' := 362) dX12_prints_361 rfl rfl rfl ?_
      refine gf_13_opened (pc' := 365) dX12_prints_362 rfl fl_X12_218 ?_
      have g14 := ixi_28 w5.1
      refine go_topz (fun y15 h15 e15 => ?_)
      refine go_istore (pc' := 367) dX12_prints_365 rfl (by decide) ?_
      refine go_goto (tgt := 381) dX12_prints_367 (by decide) ?_
      refine go_goto (tgt := 72) dX12_prints_381 (by decide) ?_
      exact go_lv (lv' := [(0, .ref (L.2.1 13)), (1, .int a), (2, .int d), (3, .int y), (4, .int y2), (5, .int y15), (6, .int x6)]) rfl (K σ5 y15 x6 w5 (by omega) (by rw [gR]; exact hr) (by have cv := cnat (x := x6) (by omega); have ud := ixi_28 w5.1; have cd2 := cnat (x := σ5.1 28) (by omega); exact tk_at hh (by omega) (by omega)) (by omega) (by have cv := cnat (x := x6) (by omega); have cv5 := cnat (x := y15) (by omega); have ud := ixi_28 w5.1; have cd2 := cnat (x := σ5.1 28) (by omega); exact M_op (w := x8) hI (by omega) hc (by omega) ts.symm (by omega) (by omega) g123 pd (by unfold opF; first | (rw [if_neg (by omega)]; done) | (rw [if_pos (by omega), if_pos (by omega), if_pos (by omega)]; first | done | (rw [n95]; rfl)) | (rw [if_pos (by omega), if_pos (by omega), if_neg (by omega)]; done) | (rw [if_pos (by omega), if_neg (by omega), if_pos (by omega)]; first | done | (rw [ts]; rfl)) | (rw [if_pos (by omega), if_neg (by omega), if_neg (by omega)]; done)) (by unfold hF; first | (rw [if_neg (by omega)]; done) | (rw [if_pos (by omega), if_pos (by omega)]; omega) | (rw [if_pos (by omega), if_neg (by omega)]; omega)) e6) (by omega))
    refine go_iload (pc' := 326) dX12_prints_324 rfl rfl ?_
    refine go_iload_n (i := 2) (pc' := 327) dX12_prints_326 rfl rfl rfl ?_
    refine gz_icmp_le (tgt := 350) (pc' := 330) dX12_prints_327 rfl (by decide) (fun c16 => ?_) (fun c16 => ?_)
    · refine go_iload (pc' := 352) dX12_prints_350 rfl rfl ?_
      refine go_bipush (v := 100) (pc' := 354) dX12_prints_352 rfl (by decide) ?_
      refine gz_icmp_ne (tgt := 370) (pc' := 357) dX12_prints_354 rfl (by decide) (fun c17 => ?_) (fun c17 => ?_)
      · refine go_iload_n (i := 3) (pc' := 371) dX12_prints_370 rfl rfl rfl ?_
        refine go_iconst (v := 1) (pc' := 372) dX12_prints_371 rfl (by decide) ?_
        refine gz_icmp_ne (tgt := 381) (pc' := 375) dX12_prints_372 rfl (by decide) (fun c18 => ?_) (fun c18 => ?_)
        · refine go_goto (tgt := 72) dX12_prints_381 (by decide) ?_
          exact go_lv (lv' := [(0, .ref (L.2.1 13)), (1, .int a), (2, .int d), (3, .int y), (4, .int y2), (5, .int x5), (6, .int x6)]) rfl (K σ5 x5 x6 w5 (by omega) (by rw [gR]; exact hr) (by have cv := cnat (x := x6) (by omega); have ud := ixi_28 w5.1; have cd2 := cnat (x := σ5.1 28) (by omega); exact tk_at hh (by omega) (by omega)) (by omega) (by have cv := cnat (x := x6) (by omega); have cv5 := cnat (x := x5) (by omega); have ud := ixi_28 w5.1; have cd2 := cnat (x := σ5.1 28) (by omega); exact M_op (w := x8) hI (by omega) hc (by omega) ts.symm (by omega) (by omega) g123 pd (by unfold opF; first | (rw [if_neg (by omega)]; done) | (rw [if_pos (by omega), if_pos (by omega), if_pos (by omega)]; first | done | (rw [n95]; rfl)) | (rw [if_pos (by omega), if_pos (by omega), if_neg (by omega)]; done) | (rw [if_pos (by omega), if_neg (by omega), if_pos (by omega)]; first | done | (rw [ts]; rfl)) | (rw [if_pos (by omega), if_neg (by omega), if_neg (by omega)]; done)) (by unfold hF; first | (rw [if_neg (by omega)]; done) | (rw [if_pos (by omega), if_pos (by omega)]; omega) | (rw [if_pos (by omega), if_neg (by omega)]; omega)) e6) (by omega))
        refine go_aload_n (i := 0) (pc' := 376) dX12_prints_375 rfl rfl rfl ?_
        refine go_iload (pc' := 378) dX12_prints_376 rfl rfl ?_
        refine go_cvv (pc' := 381) lk_X12_260 (e_X12_opens _ _ _ _ (by omega) w5.1) rfl rfl (Nat.le_of_ble_eq_true rfl) (by decide) rfl rfl rfl ⟨Nat.le_of_ble_eq_true rfl, Nat.le_of_ble_eq_true rfl⟩ ⟨rfl, rfl⟩ dX12_prints_378 rfl (fun σ19 h19 => ?_)
        obtain ⟨u19, h19⟩ := h19
        have w19 := WMo_trans w5 (WMo_of_p u19)
        have gR := (u19.2.2 125 (by decide)).trans gR
        have gd19 := congrArg Int32.toInt (u19.2.1 28 (by decide))
        have g28 := (u19.2.1 28 (by decide)).trans g28
        have g123 := (u19.2.2 123 (by decide)).trans g123
        have pd := PDm_trans pd h19 rfl
        have pl := pd.2
        try simp only [List.length_append, List.length_nil, List.length_cons] at pl
        refine go_goto (tgt := 72) dX12_prints_381 (by decide) ?_
        exact go_lv (lv' := [(0, .ref (L.2.1 13)), (1, .int a), (2, .int d), (3, .int y), (4, .int y2), (5, .int x5), (6, .int x6)]) rfl (K σ19 x5 x6 w19 (by omega) (by rw [gR]; exact hr) (by have cv := cnat (x := x6) (by omega); have ud := ixi_28 w19.1; have cd2 := cnat (x := σ19.1 28) (by omega); exact tk_at hh (by omega) (by omega)) (by omega) (by have cv := cnat (x := x6) (by omega); have cv5 := cnat (x := x5) (by omega); have ud := ixi_28 w19.1; have cd2 := cnat (x := σ19.1 28) (by omega); exact M_op (w := x8) hI (by omega) hc (by omega) ts.symm (by omega) (by omega) g123 pd (by unfold opF; first | (rw [if_neg (by omega)]; done) | (rw [if_pos (by omega), if_pos (by omega), if_pos (by omega)]; first | done | (rw [n95]; rfl)) | (rw [if_pos (by omega), if_pos (by omega), if_neg (by omega)]; done) | (rw [if_pos (by omega), if_neg (by omega), if_pos (by omega)]; first | done | (rw [ts]; rfl)) | (rw [if_pos (by omega), if_neg (by omega), if_neg (by omega)]; done)) (by unfold hF; first | (rw [if_neg (by omega)]; done) | (rw [if_pos (by omega), if_pos (by omega)]; omega) | (rw [if_pos (by omega), if_neg (by omega)]; omega)) e6) (by omega))
      refine go_iload_n (i := 3) (pc' := 358) dX12_prints_357 rfl rfl rfl ?_
      refine gz_if_ne (tgt := 370) (pc' := 361) dX12_prints_358 rfl (by decide) (fun c20 => ?_) (fun c20 => ?_)
      · refine go_iload_n (i := 3) (pc' := 371) dX12_prints_370 rfl rfl rfl ?_
        refine go_iconst (v := 1) (pc' := 372) dX12_prints_371 rfl (by decide) ?_
        refine gz_icmp_ne (tgt := 381) (pc' := 375) dX12_prints_372 rfl (by decide) (fun c21 => ?_) (fun c21 => ?_)
        · refine go_goto (tgt := 72) dX12_prints_381 (by decide) ?_
          exact go_lv (lv' := [(0, .ref (L.2.1 13)), (1, .int a), (2, .int d), (3, .int y), (4, .int y2), (5, .int x5), (6, .int x6)]) rfl (K σ5 x5 x6 w5 (by omega) (by rw [gR]; exact hr) (by have cv := cnat (x := x6) (by omega); have ud := ixi_28 w5.1; have cd2 := cnat (x := σ5.1 28) (by omega); exact tk_at hh (by omega) (by omega)) (by omega) (by have cv := cnat (x := x6) (by omega); have cv5 := cnat (x := x5) (by omega); have ud := ixi_28 w5.1; have cd2 := cnat (x := σ5.1 28) (by omega); exact M_op (w := x8) hI (by omega) hc (by omega) ts.symm (by omega) (by omega) g123 pd (by unfold opF; first | (rw [if_neg (by omega)]; done) | (rw [if_pos (by omega), if_pos (by omega), if_pos (by omega)]; first | done | (rw [n95]; rfl)) | (rw [if_pos (by omega), if_pos (by omega), if_neg (by omega)]; done) | (rw [if_pos (by omega), if_neg (by omega), if_pos (by omega)]; first | done | (rw [ts]; rfl)) | (rw [if_pos (by omega), if_neg (by omega), if_neg (by omega)]; done)) (by unfold hF; first | (rw [if_neg (by omega)]; done) | (rw [if_pos (by omega), if_pos (by omega)]; omega) | (rw [if_pos (by omega), if_neg (by omega)]; omega)) e6) (by omega))
        refine go_aload_n (i := 0) (pc' := 376) dX12_prints_375 rfl rfl rfl ?_
        refine go_iload (pc' := 378) dX12_prints_376 rfl rfl ?_
        refine go_cvv (pc' := 381) lk_X12_260 (e_X12_opens _ _ _ _ (by omega) w5.1) rfl rfl (Nat.le_of_ble_eq_true rfl) (by decide) rfl rfl rfl ⟨Nat.le_of_ble_eq_true rfl, Nat.le_of_ble_eq_true rfl⟩ ⟨rfl, rfl⟩ dX12_prints_378 rfl (fun σ22 h22 => ?_)
        obtain ⟨u22, h22⟩ := h22
        have w22 := WMo_trans w5 (WMo_of_p u22)
        have gR := (u22.2.2 125 (by decide)).trans gR
        have gd22 := congrArg Int32.toInt (u22.2.1 28 (by decide))
        have g28 := (u22.2.1 28 (by decide)).trans g28
        have g123 := (u22.2.2 123 (by decide)).trans g123
        have pd := PDm_trans pd h22 rfl
        have pl := pd.2
        try simp only [List.length_append, List.length_nil, List.length_cons] at pl
        refine go_goto (tgt := 72) dX12_prints_381 (by decide) ?_
        exact go_lv (lv' := [(0, .ref (L.2.1 13)), (1, .int a), (2, .int d), (3, .int y), (4, .int y2), (5, .int x5), (6, .int x6)]) rfl (K σ22 x5 x6 w22 (by omega) (by rw [gR]; exact hr) (by have cv := cnat (x := x6) (by omega); have ud := ixi_28 w22.1; have cd2 := cnat (x := σ22.1 28) (by omega); exact tk_at hh (by omega) (by omega)) (by omega) (by have cv := cnat (x := x6) (by omega); have cv5 := cnat (x := x5) (by omega); have ud := ixi_28 w22.1; have cd2 := cnat (x := σ22.1 28) (by omega); exact M_op (w := x8) hI (by omega) hc (by omega) ts.symm (by omega) (by omega) g123 pd (by unfold opF; first | (rw [if_neg (by omega)]; done) | (rw [if_pos (by omega), if_pos (by omega), if_pos (by omega)]; first | done | (rw [n95]; rfl)) | (rw [if_pos (by omega), if_pos (by omega), if_neg (by omega)]; done) | (rw [if_pos (by omega), if_neg (by omega), if_pos (by omega)]; first | done | (rw [ts]; rfl)) | (rw [if_pos (by omega), if_neg (by omega), if_neg (by omega)]; done)) (by unfold hF; first | (rw [if_neg (by omega)]; done) | (rw [if_pos (by omega), if_pos (by omega)]; omega) | (rw [if_pos (by omega), if_neg (by omega)]; omega)) e6) (by omega))
      refine go_aload_n (i := 0) (pc' := 362) dX12_prints_361 rfl rfl rfl ?_
      refine gf_13_opened (pc' := 365) dX12_prints_362 rfl fl_X12_218 ?_
      have g23 := ixi_28 w5.1
      refine go_topz (fun y24 h24 e24 => ?_)
      refine go_istore (pc' := 367) dX12_prints_365 rfl (by decide) ?_
      refine go_goto (tgt := 381) dX12_prints_367 (by decide) ?_
      refine go_goto (tgt := 72) dX12_prints_381 (by decide) ?_
      exact go_lv (lv' := [(0, .ref (L.2.1 13)), (1, .int a), (2, .int d), (3, .int y), (4, .int y2), (5, .int y24), (6, .int x6)]) rfl (K σ5 y24 x6 w5 (by omega) (by rw [gR]; exact hr) (by have cv := cnat (x := x6) (by omega); have ud := ixi_28 w5.1; have cd2 := cnat (x := σ5.1 28) (by omega); exact tk_at hh (by omega) (by omega)) (by omega) (by have cv := cnat (x := x6) (by omega); have cv5 := cnat (x := y24) (by omega); have ud := ixi_28 w5.1; have cd2 := cnat (x := σ5.1 28) (by omega); exact M_op (w := x8) hI (by omega) hc (by omega) ts.symm (by omega) (by omega) g123 pd (by unfold opF; first | (rw [if_neg (by omega)]; done) | (rw [if_pos (by omega), if_pos (by omega), if_pos (by omega)]; first | done | (rw [n95]; rfl)) | (rw [if_pos (by omega), if_pos (by omega), if_neg (by omega)]; done) | (rw [if_pos (by omega), if_neg (by omega), if_pos (by omega)]; first | done | (rw [ts]; rfl)) | (rw [if_pos (by omega), if_neg (by omega), if_neg (by omega)]; done)) (by unfold hF; first | (rw [if_neg (by omega)]; done) | (rw [if_pos (by omega), if_pos (by omega)]; omega) | (rw [if_pos (by omega), if_neg (by omega)]; omega)) e6) (by omega))
    refine go_iload_n (i := 3) (pc' := 331) dX12_prints_330 rfl rfl rfl ?_
    refine go_iconst (v := 1) (pc' := 332) dX12_prints_331 rfl (by decide) ?_
    refine gz_icmp_ne (tgt := 341) (pc' := 335) dX12_prints_332 rfl (by decide) (fun c25 => ?_) (fun c25 => ?_)
    · refine go_aload_n (i := 0) (pc' := 342) dX12_prints_341 rfl rfl rfl ?_
      refine gf_13_opened (pc' := 345) dX12_prints_342 rfl fl_X12_218 ?_
      have g26 := ixi_28 w5.1
      refine go_topz (fun y27 h27 e27 => ?_)
      refine go_istore (pc' := 347) dX12_prints_345 rfl (by decide) ?_
      refine go_goto (tgt := 381) dX12_prints_347 (by decide) ?_
      refine go_goto (tgt := 72) dX12_prints_381 (by decide) ?_
      exact go_lv (lv' := [(0, .ref (L.2.1 13)), (1, .int a), (2, .int d), (3, .int y), (4, .int y2), (5, .int y27), (6, .int x6)]) rfl (K σ5 y27 x6 w5 (by omega) (by rw [gR]; exact hr) (by have cv := cnat (x := x6) (by omega); have ud := ixi_28 w5.1; have cd2 := cnat (x := σ5.1 28) (by omega); exact tk_at hh (by omega) (by omega)) (by omega) (by have cv := cnat (x := x6) (by omega); have cv5 := cnat (x := y27) (by omega); have ud := ixi_28 w5.1; have cd2 := cnat (x := σ5.1 28) (by omega); exact M_op (w := x8) hI (by omega) hc (by omega) ts.symm (by omega) (by omega) g123 pd (by unfold opF; first | (rw [if_neg (by omega)]; done) | (rw [if_pos (by omega), if_pos (by omega), if_pos (by omega)]; first | done | (rw [n95]; rfl)) | (rw [if_pos (by omega), if_pos (by omega), if_neg (by omega)]; done) | (rw [if_pos (by omega), if_neg (by omega), if_pos (by omega)]; first | done | (rw [ts]; rfl)) | (rw [if_pos (by omega), if_neg (by omega), if_neg (by omega)]; done)) (by unfold hF; first | (rw [if_neg (by omega)]; done) | (rw [if_pos (by omega), if_pos (by omega)]; omega) | (rw [if_pos (by omega), if_neg (by omega)]; omega)) e6) (by omega))
    refine go_aload_n (i := 0) (pc' := 336) dX12_prints_335 rfl rfl rfl ?_
    refine go_bipush (v := 95) (pc' := 338) dX12_prints_336 rfl (by decide) ?_
    refine go_cvv (pc' := 341) lk_X12_250 (e_X12_puts _ _ _ _ (by omega) w5.1) rfl rfl (Nat.le_of_ble_eq_true rfl) (by decide) rfl rfl rfl ⟨Nat.le_of_ble_eq_true rfl, Nat.le_of_ble_eq_true rfl⟩ ⟨rfl, rfl⟩ dX12_prints_338 rfl (fun σ28 h28 => ?_)
    obtain ⟨u28, h28⟩ := h28
    have w28 := WMo_trans w5 (WMo_of_p u28)
    have gR := (u28.2.2 125 (by decide)).trans gR
    have gd28 := congrArg Int32.toInt (u28.2.1 28 (by decide))
    have g28 := (u28.2.1 28 (by decide)).trans g28
    have g123 := (u28.2.2 123 (by decide)).trans g123
    have pd := PDm_trans pd h28 rfl
    have pl := pd.2
    try simp only [List.length_append, List.length_nil, List.length_cons] at pl
    refine go_aload_n (i := 0) (pc' := 342) dX12_prints_341 rfl rfl rfl ?_
    refine gf_13_opened (pc' := 345) dX12_prints_342 rfl fl_X12_218 ?_
    have g29 := ixi_28 w28.1
    refine go_topz (fun y30 h30 e30 => ?_)
    refine go_istore (pc' := 347) dX12_prints_345 rfl (by decide) ?_
    refine go_goto (tgt := 381) dX12_prints_347 (by decide) ?_
    refine go_goto (tgt := 72) dX12_prints_381 (by decide) ?_
    exact go_lv (lv' := [(0, .ref (L.2.1 13)), (1, .int a), (2, .int d), (3, .int y), (4, .int y2), (5, .int y30), (6, .int x6)]) rfl (K σ28 y30 x6 w28 (by omega) (by rw [gR]; exact hr) (by have cv := cnat (x := x6) (by omega); have ud := ixi_28 w28.1; have cd2 := cnat (x := σ28.1 28) (by omega); exact tk_at hh (by omega) (by omega)) (by omega) (by have cv := cnat (x := x6) (by omega); have cv5 := cnat (x := y30) (by omega); have ud := ixi_28 w28.1; have cd2 := cnat (x := σ28.1 28) (by omega); exact M_op (w := x8) hI (by omega) hc (by omega) ts.symm (by omega) (by omega) g123 pd (by unfold opF; first | (rw [if_neg (by omega)]; done) | (rw [if_pos (by omega), if_pos (by omega), if_pos (by omega)]; first | done | (rw [n95]; rfl)) | (rw [if_pos (by omega), if_pos (by omega), if_neg (by omega)]; done) | (rw [if_pos (by omega), if_neg (by omega), if_pos (by omega)]; first | done | (rw [ts]; rfl)) | (rw [if_pos (by omega), if_neg (by omega), if_neg (by omega)]; done)) (by unfold hF; first | (rw [if_neg (by omega)]; done) | (rw [if_pos (by omega), if_pos (by omega)]; omega) | (rw [if_pos (by omega), if_neg (by omega)]; omega)) e6) (by omega))
  refine go_goto (tgt := 72) dX12_prints_314 (by decide) ?_
  exact go_lv (lv' := [(0, .ref (L.2.1 13)), (1, .int a), (2, .int d), (3, .int y), (4, .int y2), (5, .int x5), (6, .int x6)]) rfl (K σ5 x5 x6 w5 (by omega) (by rw [gR]; exact hr) (by have cv := cnat (x := x6) (by omega); have ud := ixi_28 w5.1; have cd2 := cnat (x := σ5.1 28) (by omega); exact tk_at hh (by omega) (by omega)) (by omega) (by have cv := cnat (x := x6) (by omega); have cv5 := cnat (x := x5) (by omega); have ud := ixi_28 w5.1; have cd2 := cnat (x := σ5.1 28) (by omega); exact M_op (w := x8) hI (by omega) hc (by omega) ts.symm (by omega) (by omega) g123 pd (by unfold opF; first | (rw [if_neg (by omega)]; done) | (rw [if_pos (by omega), if_pos (by omega), if_pos (by omega)]; first | done | (rw [n95]; rfl)) | (rw [if_pos (by omega), if_pos (by omega), if_neg (by omega)]; done) | (rw [if_pos (by omega), if_neg (by omega), if_pos (by omega)]; first | done | (rw [ts]; rfl)) | (rw [if_pos (by omega), if_neg (by omega), if_neg (by omega)]; done)) (by unfold hF; first | (rw [if_neg (by omega)]; done) | (rw [if_pos (by omega), if_pos (by omega)]; omega) | (rw [if_pos (by omega), if_neg (by omega)]; omega)) e6) (by omega))
set_option maxHeartbeats 4000000 in
set_option maxRecDepth 100000 in
theorem q_231 {F : FX} {L : WL} {Q : State → Prop} {σ σc : ST} {T : Nat → Int} {N : Nat} {a d y y2 p x5 x6 : Int32} (w0 : WMo σ σc) (hr : ROWs T N (σc.2 125)) (hN : y2.toInt = (N : Int)) (hN2 : N ≤ 160) (hpp : 0 ≤ p.toInt) (hy : y.toInt = 0 ∨ y.toInt = 1) (h5 : 0 ≤ x5.toInt) (hI : INVM T N d.toInt y.toInt p.toNatClampNeg x5.toNatClampNeg σc) (hpn : p.toInt < (N : Int)) {x8 x9 : Int32} (hc : T p.toNatClampNeg = 123) (h9 : x9.toInt = nval T (p.toNatClampNeg + 2) (dcnt T N 4 (p.toNatClampNeg + 2))) (h99 : 0 ≤ x9.toInt ∧ x9.toInt ≤ 9999) (tm : MKo T N p.toNatClampNeg (σc.1 28).toNatClampNeg) (ts : T (p.toNatClampNeg + 1) = x8.toInt) (tj : (x8.toInt = 115 ∨ x8.toInt = 110) → 1 ≤ dcnt T N 4 (p.toNatClampNeg + 2) ∧ p.toNatClampNeg + 2 + dcnt T N 4 (p.toNatClampNeg + 2) < N ∧ ¬ digP (T (p.toNatClampNeg + 2 + dcnt T N 4 (p.toNatClampNeg + 2)))) (lz : ((x8.toInt = 115 ∨ x8.toInt = 110) → x6.toNatClampNeg = p.toNatClampNeg + 2 + dcnt T N 4 (p.toNatClampNeg + 2)) ∧ (¬ (x8.toInt = 115 ∨ x8.toInt = 110) → x6.toNatClampNeg = p.toNatClampNeg + 2) ∧ 0 ≤ x6.toInt) (K : ∀ (σx : ST) (x5 : Int32) (x6 : Int32), (WMo σ σx) → (0 ≤ x6.toInt ∧ x6.toInt ≤ y2.toInt) → (ROWs T N (σx.2 125)) → (∃ f stk, tk T N f x6.toNatClampNeg (σx.1 28).toNatClampNeg stk = -1) → (0 ≤ x5.toInt) → (INVM T N d.toInt y.toInt x6.toNatClampNeg x5.toNatClampNeg σx) → (p.toInt < x6.toInt) → Go F L RX12 cX12_prints 10 rm_X12_prints none Q σx 72 [(0, .ref (L.2.1 13)), (1, .int a), (2, .int d), (3, .int y), (4, .int y2), (5, .int x5), (6, .int x6)] []) : Go F L RX12 cX12_prints 10 rm_X12_prints none Q σc 231 [(0, .ref (L.2.1 13)), (1, .int a), (2, .int d), (3, .int y), (4, .int y2), (5, .int x5), (6, .int x6), (8, .int x8), (9, .int x9)] [] := by
  have n40 : (40 : Int32).toInt = 40 := by decide
  have n41 : (41 : Int32).toInt = 41 := by decide
  have n110 : (110 : Int32).toInt = 110 := by decide
  have n115 : (115 : Int32).toInt = 115 := by decide
  have gR : σc.2 125 = σc.2 125 := rfl
  have g28 : σc.1 28 = σc.1 28 := rfl
  have g123 : σc.2 123 = σc.2 123 := rfl
  have ud := ixi_28 w0.1
  have cd := cnat (x := σc.1 28) (by omega)
  have cpp := cnat (x := p) hpp
  have c50 := cnat (x := x5) h5
  have z0 : (0 : Int32).toNatClampNeg = 0 := by decide
  have hI2 := hI.2.1
  have hI3 := hI.2.2
  have pd := PDm_rfl σc
  have pl := pd.2
  have c6 := cnat (x := x6) lz.2.2
  have tm2 := tm.2.1
  have hJ := dcnt_le T N 4 (p.toNatClampNeg + 2)
  have dl := digL_len x9.toInt
  have dl4 := digL_le4 x9.toInt
  refine go_iload (pc' := 233) dX12_prints_231 rfl rfl ?_
  refine go_bipush (v := 115) (pc' := 235) dX12_prints_233 rfl (by decide) ?_
  refine gz_icmp_eq (tgt := 245) (pc' := 238) dX12_prints_235 rfl (by decide) (fun c1 => ?_) (fun c1 => ?_)
  · refine gz_iinc (c := 1) (pc' := 248) dX12_prints_245 rfl rfl (by decide) (by decide) (by decide) (by omega) (fun v2 h2 e2 => ?_)
    refine go_iload (pc' := 250) dX12_prints_248 rfl rfl ?_
    refine go_bipush (v := 110) (pc' := 252) dX12_prints_250 rfl (by decide) ?_
    refine gz_icmp_ne (tgt := 288) (pc' := 255) dX12_prints_252 rfl (by decide) (fun c3 => ?_) (fun c3 => ?_)
    · have c64 := cnat (x := v2) (by omega)
      have e6 : (v2).toNatClampNeg = if T (p.toNatClampNeg + 1) = 115 then p.toNatClampNeg + 3 + dcnt T N 4 (p.toNatClampNeg + 2) else p.toNatClampNeg + 2 := by
        by_cases z : x8.toInt = 115
        · rw [if_pos (by omega)]
          omega
        · rw [if_neg (by omega)]
          omega
      have hh : (∃ f2 stk2, tk T N f2 (v2).toNatClampNeg ((σc.1 28).toNatClampNeg + 1) stk2 = -1) ∧ p.toInt + 2 ≤ (v2).toInt ∧ (v2).toInt ≤ (N : Int) := by
        by_cases z : x8.toInt = 115
        · have tj1 := tj (by omega)
          exact ⟨tk_at (mk_s tm (by omega)).2 (by omega) rfl, by omega, by omega⟩
        · exact ⟨tk_at (mk_o tm (by omega) (by omega)) (by omega) rfl, by omega, by omega⟩
      exact go_lv (lv' := [(0, .ref (L.2.1 13)), (1, .int a), (2, .int d), (3, .int y), (4, .int y2), (5, .int x5), (6, .int v2), (8, .int x8), (9, .int x9)]) rfl (q_mk w0 hr hN hN2 hpp hy h5 hI hpn hc ts (by have := tm.2.2.1; omega) h9 hh.2 e6 tm.1 hh.1 K)
    have hm := mk_note tm (by omega)
    have hh := hm.2
    have h1J := hm.1
    have tj1 := tj (by omega)
    refine go_iload (pc' := 257) dX12_prints_255 rfl rfl ?_
    refine gz_if_gt (tgt := 72) (pc' := 260) dX12_prints_257 rfl (by decide) (fun c4 => ?_) (fun c4 => ?_)
    · exact go_lv (lv' := [(0, .ref (L.2.1 13)), (1, .int a), (2, .int d), (3, .int y), (4, .int y2), (5, .int x5), (6, .int v2)]) rfl (K σc x5 v2 w0 (by omega) (by rw [gR]; exact hr) (by have cv := cnat (x := v2) (by omega); have ud := ixi_28 w0.1; have cd2 := cnat (x := σc.1 28) (by omega); exact tk_at hh (by omega) (by omega)) (by omega) (by have cv := cnat (x := v2) (by omega); have cv5 := cnat (x := x5) (by omega); have ud := ixi_28 w0.1; have cd2 := cnat (x := σc.1 28) (by omega); exact M_nt hI (by omega) hc (by omega) h1J g28 g123 pd (by first | (rw [if_neg (by omega)]; done) | (rw [if_pos (by omega)]; first | done | (unfold ntL; rw [n40, n41, h9]; rfl))) (by omega)) (by omega))
    refine go_iload_n (i := 3) (pc' := 261) dX12_prints_260 rfl rfl rfl ?_
    refine gz_if_ne (tgt := 267) (pc' := 264) dX12_prints_261 rfl (by decide) (fun c5 => ?_) (fun c5 => ?_)
    · refine go_aload_n (i := 0) (pc' := 268) dX12_prints_267 rfl rfl rfl ?_
      refine go_bipush (v := 40) (pc' := 270) dX12_prints_268 rfl (by decide) ?_
      refine go_cvv (pc' := 273) lk_X12_250 (e_X12_puts _ _ _ _ (by omega) w0.1) rfl rfl (Nat.le_of_ble_eq_true rfl) (by decide) rfl rfl rfl ⟨Nat.le_of_ble_eq_true rfl, Nat.le_of_ble_eq_true rfl⟩ ⟨rfl, rfl⟩ dX12_prints_270 rfl (fun σ6 h6 => ?_)
      obtain ⟨u6, h6⟩ := h6
      have w6 := WMo_trans w0 (WMo_of_p u6)
      have gR := (u6.2.2 125 (by decide)).trans gR
      have gd6 := congrArg Int32.toInt (u6.2.1 28 (by decide))
      have g28 := (u6.2.1 28 (by decide)).trans g28
      have g123 := (u6.2.2 123 (by decide)).trans g123
      have pd := PDm_trans pd h6 rfl
      have pl := pd.2
      try simp only [List.length_append, List.length_nil, List.length_cons] at pl
      refine go_aload_n (i := 0) (pc' := 274) dX12_prints_273 rfl rfl rfl ?_
      refine go_iload (pc' := 276) dX12_prints_274 rfl rfl ?_
      refine go_cvv (pc' := 279) lk_X12_257 (e_X12_number _ _ _ _ (by omega) (by omega) w6.1) rfl rfl (Nat.le_of_ble_eq_true rfl) (by decide) rfl rfl rfl ⟨Nat.le_of_ble_eq_true rfl, Nat.le_of_ble_eq_true rfl⟩ ⟨rfl, rfl⟩ dX12_prints_276 rfl (fun σ7 h7 => ?_)
      obtain ⟨u7, h7⟩ := h7
      have w7 := WMo_trans w6 (WMo_of_p u7)
      have gR := (u7.2.2 125 (by decide)).trans gR
      have gd7 := congrArg Int32.toInt (u7.2.1 28 (by decide))
      have g28 := (u7.2.1 28 (by decide)).trans g28
      have g123 := (u7.2.2 123 (by decide)).trans g123
      have pd := PDm_trans pd h7 rfl
      have pl := pd.2
      try simp only [List.length_append, List.length_nil, List.length_cons] at pl
      refine go_aload_n (i := 0) (pc' := 280) dX12_prints_279 rfl rfl rfl ?_
      refine go_bipush (v := 41) (pc' := 282) dX12_prints_280 rfl (by decide) ?_
      refine go_cvv (pc' := 285) lk_X12_250 (e_X12_puts _ _ _ _ (by omega) w7.1) rfl rfl (Nat.le_of_ble_eq_true rfl) (by decide) rfl rfl rfl ⟨Nat.le_of_ble_eq_true rfl, Nat.le_of_ble_eq_true rfl⟩ ⟨rfl, rfl⟩ dX12_prints_282 rfl (fun σ8 h8 => ?_)
      obtain ⟨u8, h8⟩ := h8
      have w8 := WMo_trans w7 (WMo_of_p u8)
      have gR := (u8.2.2 125 (by decide)).trans gR
      have gd8 := congrArg Int32.toInt (u8.2.1 28 (by decide))
      have g28 := (u8.2.1 28 (by decide)).trans g28
      have g123 := (u8.2.2 123 (by decide)).trans g123
      have pd := PDm_trans pd h8 rfl
      have pl := pd.2
      try simp only [List.length_append, List.length_nil, List.length_cons] at pl
      refine go_goto (tgt := 72) dX12_prints_285 (by decide) ?_
      exact go_lv (lv' := [(0, .ref (L.2.1 13)), (1, .int a), (2, .int d), (3, .int y), (4, .int y2), (5, .int x5), (6, .int v2)]) rfl (K σ8 x5 v2 w8 (by omega) (by rw [gR]; exact hr) (by have cv := cnat (x := v2) (by omega); have ud := ixi_28 w8.1; have cd2 := cnat (x := σ8.1 28) (by omega); exact tk_at hh (by omega) (by omega)) (by omega) (by have cv := cnat (x := v2) (by omega); have cv5 := cnat (x := x5) (by omega); have ud := ixi_28 w8.1; have cd2 := cnat (x := σ8.1 28) (by omega); exact M_nt hI (by omega) hc (by omega) h1J g28 g123 pd (by first | (rw [if_neg (by omega)]; done) | (rw [if_pos (by omega)]; first | done | (unfold ntL; rw [n40, n41, h9]; rfl))) (by omega)) (by omega))
    refine go_goto (tgt := 72) dX12_prints_264 (by decide) ?_
    exact go_lv (lv' := [(0, .ref (L.2.1 13)), (1, .int a), (2, .int d), (3, .int y), (4, .int y2), (5, .int x5), (6, .int v2)]) rfl (K σc x5 v2 w0 (by omega) (by rw [gR]; exact hr) (by have cv := cnat (x := v2) (by omega); have ud := ixi_28 w0.1; have cd2 := cnat (x := σc.1 28) (by omega); exact tk_at hh (by omega) (by omega)) (by omega) (by have cv := cnat (x := v2) (by omega); have cv5 := cnat (x := x5) (by omega); have ud := ixi_28 w0.1; have cd2 := cnat (x := σc.1 28) (by omega); exact M_nt hI (by omega) hc (by omega) h1J g28 g123 pd (by first | (rw [if_neg (by omega)]; done) | (rw [if_pos (by omega)]; first | done | (unfold ntL; rw [n40, n41, h9]; rfl))) (by omega)) (by omega))
  refine go_iload (pc' := 240) dX12_prints_238 rfl rfl ?_
  refine go_bipush (v := 110) (pc' := 242) dX12_prints_240 rfl (by decide) ?_
  refine gz_icmp_ne (tgt := 248) (pc' := 245) dX12_prints_242 rfl (by decide) (fun c9 => ?_) (fun c9 => ?_)
  · refine go_iload (pc' := 250) dX12_prints_248 rfl rfl ?_
    refine go_bipush (v := 110) (pc' := 252) dX12_prints_250 rfl (by decide) ?_
    refine gz_icmp_ne (tgt := 288) (pc' := 255) dX12_prints_252 rfl (by decide) (fun c10 => ?_) (fun c10 => ?_)
    · have c64 := cnat (x := x6) (by omega)
      have e6 : (x6).toNatClampNeg = if T (p.toNatClampNeg + 1) = 115 then p.toNatClampNeg + 3 + dcnt T N 4 (p.toNatClampNeg + 2) else p.toNatClampNeg + 2 := by
        by_cases z : x8.toInt = 115
        · rw [if_pos (by omega)]
          omega
        · rw [if_neg (by omega)]
          omega
      have hh : (∃ f2 stk2, tk T N f2 (x6).toNatClampNeg ((σc.1 28).toNatClampNeg + 1) stk2 = -1) ∧ p.toInt + 2 ≤ (x6).toInt ∧ (x6).toInt ≤ (N : Int) := by
        by_cases z : x8.toInt = 115
        · have tj1 := tj (by omega)
          exact ⟨tk_at (mk_s tm (by omega)).2 (by omega) rfl, by omega, by omega⟩
        · exact ⟨tk_at (mk_o tm (by omega) (by omega)) (by omega) rfl, by omega, by omega⟩
      exact go_lv (lv' := [(0, .ref (L.2.1 13)), (1, .int a), (2, .int d), (3, .int y), (4, .int y2), (5, .int x5), (6, .int x6), (8, .int x8), (9, .int x9)]) rfl (q_mk w0 hr hN hN2 hpp hy h5 hI hpn hc ts (by have := tm.2.2.1; omega) h9 hh.2 e6 tm.1 hh.1 K)
    have hm := mk_note tm (by omega)
    have hh := hm.2
    have h1J := hm.1
    have tj1 := tj (by omega)
    refine go_iload (pc' := 257) dX12_prints_255 rfl rfl ?_
    refine gz_if_gt (tgt := 72) (pc' := 260) dX12_prints_257 rfl (by decide) (fun c11 => ?_) (fun c11 => ?_)
    · exact go_lv (lv' := [(0, .ref (L.2.1 13)), (1, .int a), (2, .int d), (3, .int y), (4, .int y2), (5, .int x5), (6, .int x6)]) rfl (K σc x5 x6 w0 (by omega) (by rw [gR]; exact hr) (by have cv := cnat (x := x6) (by omega); have ud := ixi_28 w0.1; have cd2 := cnat (x := σc.1 28) (by omega); exact tk_at hh (by omega) (by omega)) (by omega) (by have cv := cnat (x := x6) (by omega); have cv5 := cnat (x := x5) (by omega); have ud := ixi_28 w0.1; have cd2 := cnat (x := σc.1 28) (by omega); exact M_nt hI (by omega) hc (by omega) h1J g28 g123 pd (by first | (rw [if_neg (by omega)]; done) | (rw [if_pos (by omega)]; first | done | (unfold ntL; rw [n40, n41, h9]; rfl))) (by omega)) (by omega))
    refine go_iload_n (i := 3) (pc' := 261) dX12_prints_260 rfl rfl rfl ?_
    refine gz_if_ne (tgt := 267) (pc' := 264) dX12_prints_261 rfl (by decide) (fun c12 => ?_) (fun c12 => ?_)
    · refine go_aload_n (i := 0) (pc' := 268) dX12_prints_267 rfl rfl rfl ?_
      refine go_bipush (v := 40) (pc' := 270) dX12_prints_268 rfl (by decide) ?_
      refine go_cvv (pc' := 273) lk_X12_250 (e_X12_puts _ _ _ _ (by omega) w0.1) rfl rfl (Nat.le_of_ble_eq_true rfl) (by decide) rfl rfl rfl ⟨Nat.le_of_ble_eq_true rfl, Nat.le_of_ble_eq_true rfl⟩ ⟨rfl, rfl⟩ dX12_prints_270 rfl (fun σ13 h13 => ?_)
      obtain ⟨u13, h13⟩ := h13
      have w13 := WMo_trans w0 (WMo_of_p u13)
      have gR := (u13.2.2 125 (by decide)).trans gR
      have gd13 := congrArg Int32.toInt (u13.2.1 28 (by decide))
      have g28 := (u13.2.1 28 (by decide)).trans g28
      have g123 := (u13.2.2 123 (by decide)).trans g123
      have pd := PDm_trans pd h13 rfl
      have pl := pd.2
      try simp only [List.length_append, List.length_nil, List.length_cons] at pl
      refine go_aload_n (i := 0) (pc' := 274) dX12_prints_273 rfl rfl rfl ?_
      refine go_iload (pc' := 276) dX12_prints_274 rfl rfl ?_
      refine go_cvv (pc' := 279) lk_X12_257 (e_X12_number _ _ _ _ (by omega) (by omega) w13.1) rfl rfl (Nat.le_of_ble_eq_true rfl) (by decide) rfl rfl rfl ⟨Nat.le_of_ble_eq_true rfl, Nat.le_of_ble_eq_true rfl⟩ ⟨rfl, rfl⟩ dX12_prints_276 rfl (fun σ14 h14 => ?_)
      obtain ⟨u14, h14⟩ := h14
      have w14 := WMo_trans w13 (WMo_of_p u14)
      have gR := (u14.2.2 125 (by decide)).trans gR
      have gd14 := congrArg Int32.toInt (u14.2.1 28 (by decide))
      have g28 := (u14.2.1 28 (by decide)).trans g28
      have g123 := (u14.2.2 123 (by decide)).trans g123
      have pd := PDm_trans pd h14 rfl
      have pl := pd.2
      try simp only [List.length_append, List.length_nil, List.length_cons] at pl
      refine go_aload_n (i := 0) (pc' := 280) dX12_prints_279 rfl rfl rfl ?_
      refine go_bipush (v := 41) (pc' := 282) dX12_prints_280 rfl (by decide) ?_
      refine go_cvv (pc' := 285) lk_X12_250 (e_X12_puts _ _ _ _ (by omega) w14.1) rfl rfl (Nat.le_of_ble_eq_true rfl) (by decide) rfl rfl rfl ⟨Nat.le_of_ble_eq_true rfl, Nat.le_of_ble_eq_true rfl⟩ ⟨rfl, rfl⟩ dX12_prints_282 rfl (fun σ15 h15 => ?_)
      obtain ⟨u15, h15⟩ := h15
      have w15 := WMo_trans w14 (WMo_of_p u15)
      have gR := (u15.2.2 125 (by decide)).trans gR
      have gd15 := congrArg Int32.toInt (u15.2.1 28 (by decide))
      have g28 := (u15.2.1 28 (by decide)).trans g28
      have g123 := (u15.2.2 123 (by decide)).trans g123
      have pd := PDm_trans pd h15 rfl
      have pl := pd.2
      try simp only [List.length_append, List.length_nil, List.length_cons] at pl
      refine go_goto (tgt := 72) dX12_prints_285 (by decide) ?_
      exact go_lv (lv' := [(0, .ref (L.2.1 13)), (1, .int a), (2, .int d), (3, .int y), (4, .int y2), (5, .int x5), (6, .int x6)]) rfl (K σ15 x5 x6 w15 (by omega) (by rw [gR]; exact hr) (by have cv := cnat (x := x6) (by omega); have ud := ixi_28 w15.1; have cd2 := cnat (x := σ15.1 28) (by omega); exact tk_at hh (by omega) (by omega)) (by omega) (by have cv := cnat (x := x6) (by omega); have cv5 := cnat (x := x5) (by omega); have ud := ixi_28 w15.1; have cd2 := cnat (x := σ15.1 28) (by omega); exact M_nt hI (by omega) hc (by omega) h1J g28 g123 pd (by first | (rw [if_neg (by omega)]; done) | (rw [if_pos (by omega)]; first | done | (unfold ntL; rw [n40, n41, h9]; rfl))) (by omega)) (by omega))
    refine go_goto (tgt := 72) dX12_prints_264 (by decide) ?_
    exact go_lv (lv' := [(0, .ref (L.2.1 13)), (1, .int a), (2, .int d), (3, .int y), (4, .int y2), (5, .int x5), (6, .int x6)]) rfl (K σc x5 x6 w0 (by omega) (by rw [gR]; exact hr) (by have cv := cnat (x := x6) (by omega); have ud := ixi_28 w0.1; have cd2 := cnat (x := σc.1 28) (by omega); exact tk_at hh (by omega) (by omega)) (by omega) (by have cv := cnat (x := x6) (by omega); have cv5 := cnat (x := x5) (by omega); have ud := ixi_28 w0.1; have cd2 := cnat (x := σc.1 28) (by omega); exact M_nt hI (by omega) hc (by omega) h1J g28 g123 pd (by first | (rw [if_neg (by omega)]; done) | (rw [if_pos (by omega)]; first | done | (unfold ntL; rw [n40, n41, h9]; rfl))) (by omega)) (by omega))
  refine gz_iinc (c := 1) (pc' := 248) dX12_prints_245 rfl rfl (by decide) (by decide) (by decide) (by omega) (fun v16 h16 e16 => ?_)
  refine go_iload (pc' := 250) dX12_prints_248 rfl rfl ?_
  refine go_bipush (v := 110) (pc' := 252) dX12_prints_250 rfl (by decide) ?_
  refine gz_icmp_ne (tgt := 288) (pc' := 255) dX12_prints_252 rfl (by decide) (fun c17 => ?_) (fun c17 => ?_)
  · have c64 := cnat (x := v16) (by omega)
    have e6 : (v16).toNatClampNeg = if T (p.toNatClampNeg + 1) = 115 then p.toNatClampNeg + 3 + dcnt T N 4 (p.toNatClampNeg + 2) else p.toNatClampNeg + 2 := by
      by_cases z : x8.toInt = 115
      · rw [if_pos (by omega)]
        omega
      · rw [if_neg (by omega)]
        omega
    have hh : (∃ f2 stk2, tk T N f2 (v16).toNatClampNeg ((σc.1 28).toNatClampNeg + 1) stk2 = -1) ∧ p.toInt + 2 ≤ (v16).toInt ∧ (v16).toInt ≤ (N : Int) := by
      by_cases z : x8.toInt = 115
      · have tj1 := tj (by omega)
        exact ⟨tk_at (mk_s tm (by omega)).2 (by omega) rfl, by omega, by omega⟩
      · exact ⟨tk_at (mk_o tm (by omega) (by omega)) (by omega) rfl, by omega, by omega⟩
    exact go_lv (lv' := [(0, .ref (L.2.1 13)), (1, .int a), (2, .int d), (3, .int y), (4, .int y2), (5, .int x5), (6, .int v16), (8, .int x8), (9, .int x9)]) rfl (q_mk w0 hr hN hN2 hpp hy h5 hI hpn hc ts (by have := tm.2.2.1; omega) h9 hh.2 e6 tm.1 hh.1 K)
  have hm := mk_note tm (by omega)
  have hh := hm.2
  have h1J := hm.1
  have tj1 := tj (by omega)
  refine go_iload (pc' := 257) dX12_prints_255 rfl rfl ?_
  refine gz_if_gt (tgt := 72) (pc' := 260) dX12_prints_257 rfl (by decide) (fun c18 => ?_) (fun c18 => ?_)
  · exact go_lv (lv' := [(0, .ref (L.2.1 13)), (1, .int a), (2, .int d), (3, .int y), (4, .int y2), (5, .int x5), (6, .int v16)]) rfl (K σc x5 v16 w0 (by omega) (by rw [gR]; exact hr) (by have cv := cnat (x := v16) (by omega); have ud := ixi_28 w0.1; have cd2 := cnat (x := σc.1 28) (by omega); exact tk_at hh (by omega) (by omega)) (by omega) (by have cv := cnat (x := v16) (by omega); have cv5 := cnat (x := x5) (by omega); have ud := ixi_28 w0.1; have cd2 := cnat (x := σc.1 28) (by omega); exact M_nt hI (by omega) hc (by omega) h1J g28 g123 pd (by first | (rw [if_neg (by omega)]; done) | (rw [if_pos (by omega)]; first | done | (unfold ntL; rw [n40, n41, h9]; rfl))) (by omega)) (by omega))
  refine go_iload_n (i := 3) (pc' := 261) dX12_prints_260 rfl rfl rfl ?_
  refine gz_if_ne (tgt := 267) (pc' := 264) dX12_prints_261 rfl (by decide) (fun c19 => ?_) (fun c19 => ?_)
  · refine go_aload_n (i := 0) (pc' := 268) dX12_prints_267 rfl rfl rfl ?_
    refine go_bipush (v := 40) (pc' := 270) dX12_prints_268 rfl (by decide) ?_
    refine go_cvv (pc' := 273) lk_X12_250 (e_X12_puts _ _ _ _ (by omega) w0.1) rfl rfl (Nat.le_of_ble_eq_true rfl) (by decide) rfl rfl rfl ⟨Nat.le_of_ble_eq_true rfl, Nat.le_of_ble_eq_true rfl⟩ ⟨rfl, rfl⟩ dX12_prints_270 rfl (fun σ20 h20 => ?_)
    obtain ⟨u20, h20⟩ := h20
    have w20 := WMo_trans w0 (WMo_of_p u20)
    have gR := (u20.2.2 125 (by decide)).trans gR
    have gd20 := congrArg Int32.toInt (u20.2.1 28 (by decide))
    have g28 := (u20.2.1 28 (by decide)).trans g28
    have g123 := (u20.2.2 123 (by decide)).trans g123
    have pd := PDm_trans pd h20 rfl
    have pl := pd.2
    try simp only [List.length_append, List.length_nil, List.length_cons] at pl
    refine go_aload_n (i := 0) (pc' := 274) dX12_prints_273 rfl rfl rfl ?_
    refine go_iload (pc' := 276) dX12_prints_274 rfl rfl ?_
    refine go_cvv (pc' := 279) lk_X12_257 (e_X12_number _ _ _ _ (by omega) (by omega) w20.1) rfl rfl (Nat.le_of_ble_eq_true rfl) (by decide) rfl rfl rfl ⟨Nat.le_of_ble_eq_true rfl, Nat.le_of_ble_eq_true rfl⟩ ⟨rfl, rfl⟩ dX12_prints_276 rfl (fun σ21 h21 => ?_)
    obtain ⟨u21, h21⟩ := h21
    have w21 := WMo_trans w20 (WMo_of_p u21)
    have gR := (u21.2.2 125 (by decide)).trans gR
    have gd21 := congrArg Int32.toInt (u21.2.1 28 (by decide))
    have g28 := (u21.2.1 28 (by decide)).trans g28
    have g123 := (u21.2.2 123 (by decide)).trans g123
    have pd := PDm_trans pd h21 rfl
    have pl := pd.2
    try simp only [List.length_append, List.length_nil, List.length_cons] at pl
    refine go_aload_n (i := 0) (pc' := 280) dX12_prints_279 rfl rfl rfl ?_
    refine go_bipush (v := 41) (pc' := 282) dX12_prints_280 rfl (by decide) ?_
    refine go_cvv (pc' := 285) lk_X12_250 (e_X12_puts _ _ _ _ (by omega) w21.1) rfl rfl (Nat.le_of_ble_eq_true rfl) (by decide) rfl rfl rfl ⟨Nat.le_of_ble_eq_true rfl, Nat.le_of_ble_eq_true rfl⟩ ⟨rfl, rfl⟩ dX12_prints_282 rfl (fun σ22 h22 => ?_)
    obtain ⟨u22, h22⟩ := h22
    have w22 := WMo_trans w21 (WMo_of_p u22)
    have gR := (u22.2.2 125 (by decide)).trans gR
    have gd22 := congrArg Int32.toInt (u22.2.1 28 (by decide))
    have g28 := (u22.2.1 28 (by decide)).trans g28
    have g123 := (u22.2.2 123 (by decide)).trans g123
    have pd := PDm_trans pd h22 rfl
    have pl := pd.2
    try simp only [List.length_append, List.length_nil, List.length_cons] at pl
    refine go_goto (tgt := 72) dX12_prints_285 (by decide) ?_
    exact go_lv (lv' := [(0, .ref (L.2.1 13)), (1, .int a), (2, .int d), (3, .int y), (4, .int y2), (5, .int x5), (6, .int v16)]) rfl (K σ22 x5 v16 w22 (by omega) (by rw [gR]; exact hr) (by have cv := cnat (x := v16) (by omega); have ud := ixi_28 w22.1; have cd2 := cnat (x := σ22.1 28) (by omega); exact tk_at hh (by omega) (by omega)) (by omega) (by have cv := cnat (x := v16) (by omega); have cv5 := cnat (x := x5) (by omega); have ud := ixi_28 w22.1; have cd2 := cnat (x := σ22.1 28) (by omega); exact M_nt hI (by omega) hc (by omega) h1J g28 g123 pd (by first | (rw [if_neg (by omega)]; done) | (rw [if_pos (by omega)]; first | done | (unfold ntL; rw [n40, n41, h9]; rfl))) (by omega)) (by omega))
  refine go_goto (tgt := 72) dX12_prints_264 (by decide) ?_
  exact go_lv (lv' := [(0, .ref (L.2.1 13)), (1, .int a), (2, .int d), (3, .int y), (4, .int y2), (5, .int x5), (6, .int v16)]) rfl (K σc x5 v16 w0 (by omega) (by rw [gR]; exact hr) (by have cv := cnat (x := v16) (by omega); have ud := ixi_28 w0.1; have cd2 := cnat (x := σc.1 28) (by omega); exact tk_at hh (by omega) (by omega)) (by omega) (by have cv := cnat (x := v16) (by omega); have cv5 := cnat (x := x5) (by omega); have ud := ixi_28 w0.1; have cd2 := cnat (x := σc.1 28) (by omega); exact M_nt hI (by omega) hc (by omega) h1J g28 g123 pd (by first | (rw [if_neg (by omega)]; done) | (rw [if_pos (by omega)]; first | done | (unfold ntL; rw [n40, n41, h9]; rfl))) (by omega)) (by omega))
set_option maxHeartbeats 4000000 in
set_option maxRecDepth 100000 in
theorem e_X12_prints (l : Launch) (L : WL) (σ : ST) (a d y : Int32) (ha : 0 ≤ a.toInt ∧ a.toInt < 12) (hy : y.toInt = 0 ∨ y.toInt = 1) (ix : IV σ) (tv : TV σ) : CtV l L yX12_prints cX12_prints 10 none rm_X12_prints [.ref (L.2.1 13), .int a, .int d, .int y] σ (fun σ2 => WMo σ σ2 ∧ outL (σ2.2 124) (σ2.1 29).toNatClampNeg = prF (lrT σ (a).toNatClampNeg) (σ.2 109 (a).toNatClampNeg).toNatClampNeg d.toInt y.toInt 200 0 0 (fun _ => 0) 0 ∧ (σ2.1 29).toInt ≤ 160) := by
  refine ctV_go (own := RX12) (by decide) rfl (Nat.le_of_ble_eq_true rfl) (fun F hF => ?_)
  subst hF
  have n0 : (0 : Int32).toInt = 0 := by decide
  have n1 : (1 : Int32).toInt = 1 := by decide
  have n110 : (110 : Int32).toInt = 110 := by decide
  have n115 : (115 : Int32).toInt = 115 := by decide
  have n123 : (123 : Int32).toInt = 123 := by decide
  have n125 : (125 : Int32).toInt = 125 := by decide
  have n160 : (160 : Int32).toInt = 160 := by decide
  have w0 : WMo σ σ := WMo_rfl ix
  have ca := cnat (x := a) (by omega)
  have g9 := ixa_109 ix (a).toNatClampNeg (by omega)
  have cn := cnat (x := σ.2 109 (a).toNatClampNeg) (by omega)
  have tva := tv (a).toNatClampNeg (by omega)
  refine go_aload_n (i := 0) (pc' := 1) dX12_prints_0 rfl rfl rfl ?_
  refine gf_13_length (pc' := 4) dX12_prints_1 rfl fl_X12_50 ?_
  refine go_iload_n (i := 1) (pc' := 5) dX12_prints_4 rfl rfl rfl ?_
  refine go_iald (pc' := 6) dX12_prints_5 rfl (by decide) (by decide) rfl (vin_of (n := 12) (by omega) (by omega)) ?_
  have g1 := ixa_109 ix (a).toNatClampNeg (vinlt (vin_of (n := 12) (by omega) (by omega)))
  refine go_topz (fun y2 h2 e2 => ?_)
  refine go_istore (pc' := 8) dX12_prints_6 rfl (by decide) ?_
  refine go_iconst (v := 0) (pc' := 9) dX12_prints_8 rfl (by decide) ?_
  refine go_istore (pc' := 11) dX12_prints_9 rfl (by decide) ?_
  have loop11_3 : ∀ (dd3 : Nat) (σ3 : ST) (x5_3 : Int32), WMo σ σ3 → (0 ≤ (x5_3).toInt ∧ (x5_3).toInt ≤ 161) → (∀ j : Nat, (j : Int) < (x5_3).toInt → (σ3.2 125 j).toInt = if j < (σ.2 109 (a).toNatClampNeg).toNatClampNeg then (lrT σ (a).toNatClampNeg) j else 0) → (161 - (x5_3).toInt).toNat = dd3 → Go F L RX12 cX12_prints 10 rm_X12_prints none (RV F L (fun σ2 => WMo σ σ2 ∧ outL (σ2.2 124) (σ2.1 29).toNatClampNeg = prF (lrT σ (a).toNatClampNeg) (σ.2 109 (a).toNatClampNeg).toNatClampNeg d.toInt y.toInt 200 0 0 (fun _ => 0) 0 ∧ (σ2.1 29).toInt ≤ 160)) σ3 11 [(0, .ref (L.2.1 13)), (1, .int a), (2, .int d), (3, .int y), (4, .int y2), (5, .int x5_3)] [] := by
    intro dd3
    induction dd3 using Nat.strongRecOn with
    | _ dd3 ih3 =>
      intro σ3 x5_3 w3 h_3 hr_3 hm_3
      refine go_iload (pc' := 13) dX12_prints_11 rfl rfl ?_
      refine go_sipush (v := 160) (pc' := 16) dX12_prints_13 rfl (by decide) ?_
      refine gz_icmp_gt (tgt := 56) (pc' := 19) dX12_prints_16 rfl (by decide) (fun c4 => ?_) (fun c4 => ?_)
      · have hR0 := hr_3
        refine go_aload_n (i := 0) (pc' := 57) dX12_prints_56 rfl rfl rfl ?_
        refine go_iconst (v := 0) (pc' := 58) dX12_prints_57 rfl (by decide) ?_
        refine pf_13_printMany (pc' := 61) dX12_prints_58 rfl fl_X12_247 ?_
        refine go_gen (P := fun s => WMo σ s ∧ s.2 125 = σ3.2 125 ∧ s.1 29 = (0 : Int32)) ⟨⟨ixs_29 w3.1 (by omega) (by omega), Ag_setI w3.2 (by decide)⟩, ⟨rfl, setI_same _ _ _⟩⟩ (fun σ5 z5 => ?_)
        obtain ⟨w5, g5⟩ := z5
        have gR := g5.1
        have gP29 := g5.2
        have gP := congrArg Int32.toInt g5.2
        refine go_aload_n (i := 0) (pc' := 62) dX12_prints_61 rfl rfl rfl ?_
        refine go_iconst (v := 0) (pc' := 63) dX12_prints_62 rfl (by decide) ?_
        refine pf_13_opened (pc' := 66) dX12_prints_63 rfl fl_X12_218 ?_
        refine go_gen (P := fun s => WMo σ s ∧ s.2 125 = σ5.2 125 ∧ s.1 29 = σ5.1 29 ∧ s.1 28 = (0 : Int32)) ⟨⟨ixs_28 w5.1 (by omega) (by omega), Ag_setI w5.2 (by decide)⟩, ⟨rfl, rfl, setI_same _ _ _⟩⟩ (fun σ6 z6 => ?_)
        obtain ⟨w6, g6⟩ := z6
        have gO := g6
        have gR := gO.1.trans gR
        have gq6 := congrArg Int32.toInt gO.2.1
        have gd6 := congrArg Int32.toInt gO.2.2
        have g29z := gO.2.1.trans gP29
        refine go_iconst (v := 0) (pc' := 67) dX12_prints_66 rfl (by decide) ?_
        refine go_istore (pc' := 69) dX12_prints_67 rfl (by decide) ?_
        refine go_iconst (v := 0) (pc' := 70) dX12_prints_69 rfl (by decide) ?_
        refine go_istore (pc' := 72) dX12_prints_70 rfl (by decide) ?_
        have loop72_7 : ∀ (dd7 : Nat) (σ7 : ST) (x5_7 : Int32) (x6_7 : Int32), WMo σ σ7 → (0 ≤ (x6_7).toInt ∧ (x6_7).toInt ≤ (y2).toInt) → (ROWs (lrT σ (a).toNatClampNeg) (σ.2 109 (a).toNatClampNeg).toNatClampNeg (σ7.2 125)) → (∃ f stk, tk (lrT σ (a).toNatClampNeg) (σ.2 109 (a).toNatClampNeg).toNatClampNeg f (x6_7).toNatClampNeg (σ7.1 28).toNatClampNeg stk = -1) → (0 ≤ (x5_7).toInt) → (INVM (lrT σ (a).toNatClampNeg) (σ.2 109 (a).toNatClampNeg).toNatClampNeg d.toInt y.toInt (x6_7).toNatClampNeg (x5_7).toNatClampNeg σ7) → (160 - (x6_7).toInt).toNat = dd7 → Go F L RX12 cX12_prints 10 rm_X12_prints none (RV F L (fun σ2 => WMo σ σ2 ∧ outL (σ2.2 124) (σ2.1 29).toNatClampNeg = prF (lrT σ (a).toNatClampNeg) (σ.2 109 (a).toNatClampNeg).toNatClampNeg d.toInt y.toInt 200 0 0 (fun _ => 0) 0 ∧ (σ2.1 29).toInt ≤ 160)) σ7 72 [(0, .ref (L.2.1 13)), (1, .int a), (2, .int d), (3, .int y), (4, .int y2), (5, .int x5_7), (6, .int x6_7)] [] := by
          intro dd7
          induction dd7 using Nat.strongRecOn with
          | _ dd7 ih7 =>
            intro σ7 x5_7 x6_7 w7 h_7 hr_7 ht_7 h5_7 hi_7 hm_7
            refine go_iload (pc' := 74) dX12_prints_72 rfl rfl ?_
            refine go_iload (pc' := 76) dX12_prints_74 rfl rfl ?_
            refine gz_icmp_ge (tgt := 384) (pc' := 79) dX12_prints_76 rfl (by decide) (fun c8 => ?_) (fun c8 => ?_)
            · exact go_vret dX12_prints_384 rfl (⟨w7, M_end hi_7 (by have cv := cnat (x := x6_7) (by omega); omega), by have z := hi_7.2.1; have cv := cnat (x := x6_7) (by omega); omega⟩)
            have c6 := cnat (x := x6_7) (by omega)
            have ud := ixi_28 w7.1
            have cd := cnat (x := σ7.1 28) (by omega)
            have p6 : (x6_7).toNatClampNeg < (σ.2 109 (a).toNatClampNeg).toNatClampNeg := by omega
            have rr := hr_7 (x6_7).toNatClampNeg (by omega)
            rw [if_pos p6] at rr
            have gR : σ7.2 125 = σ7.2 125 := rfl
            have g28 : σ7.1 28 = σ7.1 28 := rfl
            have g123 : σ7.2 123 = σ7.2 123 := rfl
            have pd := PDm_rfl σ7
            have hIz := hi_7.2.1
            have pl := pd.2
            have c5z := cnat (x := x5_7) (by omega)
            refine go_aload_n (i := 0) (pc' := 80) dX12_prints_79 rfl rfl rfl ?_
            refine gf_13_row (pc' := 83) dX12_prints_80 rfl fl_X12_102 ?_
            refine go_iload (pc' := 85) dX12_prints_83 rfl rfl ?_
            refine go_iald (pc' := 86) dX12_prints_85 rfl (by decide) (by decide) rfl (vin_of (n := 161) (by omega) (by omega)) ?_
            refine go_topz (fun y9 h9 e9 => ?_)
            refine go_istore (pc' := 88) dX12_prints_86 rfl (by decide) ?_
            have tp : (lrT σ (a).toNatClampNeg) (x6_7).toNatClampNeg = (y9).toInt := by omega
            refine go_iload (pc' := 90) dX12_prints_88 rfl rfl ?_
            refine go_bipush (v := 125) (pc' := 92) dX12_prints_90 rfl (by decide) ?_
            refine gz_icmp_ne (tgt := 149) (pc' := 95) dX12_prints_92 rfl (by decide) (fun c10 => ?_) (fun c10 => ?_)
            · refine go_iload (pc' := 151) dX12_prints_149 rfl rfl ?_
              refine go_bipush (v := 123) (pc' := 153) dX12_prints_151 rfl (by decide) ?_
              refine gz_icmp_eq (tgt := 173) (pc' := 156) dX12_prints_153 rfl (by decide) (fun c11 => ?_) (fun c11 => ?_)
              · have tm := tk_mk ht_7 p6 (by omega)
                have tm2 := tm.2.1
                have tm1 := tm.1
                have hro := hr_7
                refine go_aload_n (i := 0) (pc' := 174) dX12_prints_173 rfl rfl rfl ?_
                refine gf_13_row (pc' := 177) dX12_prints_174 rfl fl_X12_102 ?_
                refine go_iload (pc' := 179) dX12_prints_177 rfl rfl ?_
                refine go_iconst (v := 1) (pc' := 180) dX12_prints_179 rfl (by decide) ?_
                refine gz_iadd (pc' := 181) dX12_prints_180 rfl (by omega) (fun v12 h12 e12 => ?_)
                have ez : (v12).toNatClampNeg = (x6_7).toNatClampNeg + 1 := by have cz := cnat (x := v12) (by omega); omega
                have rs := hr_7 ((x6_7).toNatClampNeg + 1) (by omega)
                rw [if_pos tm2] at rs
                refine go_iald (pc' := 182) dX12_prints_181 rfl (by decide) (by decide) rfl (vin_of (n := 161) (by omega) (by omega)) ?_
                have r8 : ((σ7.2 125 (v12).toNatClampNeg)).toInt = (lrT σ (a).toNatClampNeg) ((x6_7).toNatClampNeg + 1) := by rw [ez]; exact rs
                refine go_topz (fun y13 h13 e13 => ?_)
                refine go_istore (pc' := 184) dX12_prints_182 rfl (by decide) ?_
                have ts : (lrT σ (a).toNatClampNeg) ((x6_7).toNatClampNeg + 1) = (y13).toInt := by omega
                have ndA := nd_all hro (by omega) tm
                refine gz_iinc (c := 2) (pc' := 187) dX12_prints_184 rfl rfl (by decide) (by decide) (by decide) (by omega) (fun v14 h14 e14 => ?_)
                have c62 := cnat (x := v14) (by omega)
                have e62 : (v14).toNatClampNeg = (x6_7).toNatClampNeg + 2 := by omega
                have gR125 : σ7.2 125 = σ7.2 125 := rfl
                refine go_aload_n (i := 0) (pc' := 188) dX12_prints_187 rfl rfl rfl ?_
                refine gf_13_row (pc' := 191) dX12_prints_188 rfl fl_X12_102 ?_
                refine go_iload (pc' := 193) dX12_prints_191 rfl rfl ?_
                refine go_csi (pc' := 196) ls_X12_243 (f_numberAt_125 _ _ _ _ (dcnt (lrT σ (a).toNatClampNeg) (σ.2 109 (a).toNatClampNeg).toNatClampNeg 4 ((x6_7).toNatClampNeg + 2)) (by omega) (dcnt_le _ _ _ _) (by rw [e62]; exact ndA.1) (by rw [e62, gR125]; exact ndA.2.2.1) (by rw [e62, gR125]; exact ndA.2.1) w7.1) rfl rfl (Nat.le_of_ble_eq_true rfl) ⟨Nat.le_of_ble_eq_true rfl, Nat.le_of_ble_eq_true rfl⟩ ⟨rfl, rfl⟩ dX12_prints_193 rfl (fun r15 σ15 h15 => ?_)
                obtain ⟨e15, h15⟩ := h15
                have e15 := e15.symm
                subst e15
                have h9v := h15
                rw [e62] at h9v
                have h9e : (r15).toInt = nval (lrT σ (a).toNatClampNeg) ((x6_7).toNatClampNeg + 2) (dcnt (lrT σ (a).toNatClampNeg) (σ.2 109 (a).toNatClampNeg).toNatClampNeg 4 ((x6_7).toNatClampNeg + 2)) := h9v.1.trans (by rw [gR125]; exact ndA.2.2.2)
                refine go_istore (pc' := 198) dX12_prints_196 rfl (by decide) ?_
                have tj : ((y13).toInt = 115 ∨ (y13).toInt = 110) → 1 ≤ dcnt (lrT σ (a).toNatClampNeg) (σ.2 109 (a).toNatClampNeg).toNatClampNeg 4 ((x6_7).toNatClampNeg + 2) ∧ (x6_7).toNatClampNeg + 2 + dcnt (lrT σ (a).toNatClampNeg) (σ.2 109 (a).toNatClampNeg).toNatClampNeg 4 ((x6_7).toNatClampNeg + 2) < (σ.2 109 (a).toNatClampNeg).toNatClampNeg ∧ ¬ digP ((lrT σ (a).toNatClampNeg) ((x6_7).toNatClampNeg + 2 + dcnt (lrT σ (a).toNatClampNeg) (σ.2 109 (a).toNatClampNeg).toNatClampNeg 4 ((x6_7).toNatClampNeg + 2))) := by
                  intro q
                  rcases tm.2.2.2 with ⟨z1, z2, z3, z4, -⟩ | ⟨z1, z2, z3, z4, -⟩ | ⟨z1, z2, -⟩
                  · exact ⟨z2, z3, by omega⟩
                  · exact ⟨z2, z3, by omega⟩
                  · exfalso; omega
                have hJ := dcnt_le (lrT σ (a).toNatClampNeg) (σ.2 109 (a).toNatClampNeg).toNatClampNeg 4 ((x6_7).toNatClampNeg + 2)
                refine go_iload (pc' := 200) dX12_prints_198 rfl rfl ?_
                refine go_bipush (v := 115) (pc' := 202) dX12_prints_200 rfl (by decide) ?_
                refine gz_icmp_eq (tgt := 212) (pc' := 205) dX12_prints_202 rfl (by decide) (fun c16 => ?_) (fun c16 => ?_)
                · have loop212_17 : ∀ (dd17 : Nat) (x6_17 : Int32), (0 ≤ (x6_17).toInt ∧ (x6_7).toNatClampNeg + 2 ≤ (x6_17).toNatClampNeg ∧ (x6_17).toNatClampNeg ≤ (x6_7).toNatClampNeg + 2 + dcnt (lrT σ (a).toNatClampNeg) (σ.2 109 (a).toNatClampNeg).toNatClampNeg 4 ((x6_7).toNatClampNeg + 2)) → (200 - (x6_17).toInt).toNat = dd17 → Go F L RX12 cX12_prints 10 rm_X12_prints none (RV F L (fun σ2 => WMo σ σ2 ∧ outL (σ2.2 124) (σ2.1 29).toNatClampNeg = prF (lrT σ (a).toNatClampNeg) (σ.2 109 (a).toNatClampNeg).toNatClampNeg d.toInt y.toInt 200 0 0 (fun _ => 0) 0 ∧ (σ2.1 29).toInt ≤ 160)) σ7 212 [(0, .ref (L.2.1 13)), (1, .int a), (2, .int d), (3, .int y), (4, .int y2), (5, .int x5_7), (6, .int x6_17), (7, .int y9), (8, .int y13), (9, .int r15)] [] := by
                    intro dd17
                    induction dd17 using Nat.strongRecOn with
                    | _ dd17 ih17 =>
                      intro x6_17 h2_17 hm_17
                      have tj1 := tj (by omega)
                      have c6l := cnat (x := x6_17) (by omega)
                      have r6 := hro (x6_17).toNatClampNeg (by omega)
                      rw [if_pos (by omega)] at r6
                      refine go_aload_n (i := 0) (pc' := 213) dX12_prints_212 rfl rfl rfl ?_
                      refine gf_13_row (pc' := 216) dX12_prints_213 rfl fl_X12_102 ?_
                      refine go_iload (pc' := 218) dX12_prints_216 rfl rfl ?_
                      refine go_iald (pc' := 219) dX12_prints_218 rfl (by decide) (by decide) rfl (vin_of (n := 161) (by omega) (by omega)) ?_
                      refine go_csi (pc' := 222) ls_X12_221 (c_X12_isDigit _ _ _ _) rfl rfl (Nat.le_of_ble_eq_true rfl) ⟨Nat.le_of_ble_eq_true rfl, Nat.le_of_ble_eq_true rfl⟩ ⟨rfl, rfl⟩ dX12_prints_219 rfl (fun r18 σ18 h18 => ?_)
                      obtain ⟨e18, h18⟩ := h18
                      have e18 := e18.symm
                      subst e18
                      refine go_eqB (tgt := 231) (pc' := 225) h18 dX12_prints_222 rfl (by decide) (fun c19 => ?_) (fun c19 => ?_)
                      · exact go_lv (lv' := [(0, .ref (L.2.1 13)), (1, .int a), (2, .int d), (3, .int y), (4, .int y2), (5, .int x5_7), (6, .int x6_17), (8, .int y13), (9, .int r15)]) rfl (q_231 w7 hro (by omega) (by omega) (p := x6_7) (by omega) hy h5_7 hi_7 (by omega) (by omega) h9e (by omega) tm ts tj (by first | exact ⟨fun q => by exfalso; omega, fun _ => by omega, by omega⟩ | exact ⟨fun _ => dg_stop r6 c19 (by omega) (by omega), fun q => by exfalso; omega, by omega⟩) (fun σx x5 x6 q1 q2 q3 q4 q5 q6 q7 => ih7 _ (by omega) σx x5 x6 q1 q2 q3 q4 q5 q6 rfl))
                      have lt := dg_more r6 c19 tj1.2.2 (by omega) (by omega)
                      refine gz_iinc (c := 1) (pc' := 228) dX12_prints_225 rfl rfl (by decide) (by decide) (by decide) (by omega) (fun v20 h20 e20 => ?_)
                      refine go_goto (tgt := 212) dX12_prints_228 (by decide) ?_
                      exact go_lv (lv' := [(0, .ref (L.2.1 13)), (1, .int a), (2, .int d), (3, .int y), (4, .int y2), (5, .int x5_7), (6, .int v20), (7, .int y9), (8, .int y13), (9, .int r15)]) rfl (ih17 _ (by omega)  v20 (by have c6v := cnat (x := v20) (by omega); omega) rfl)
                  exact go_lv (lv' := [(0, .ref (L.2.1 13)), (1, .int a), (2, .int d), (3, .int y), (4, .int y2), (5, .int x5_7), (6, .int v14), (7, .int y9), (8, .int y13), (9, .int r15)]) rfl (loop212_17 _  v14 (by have c6v := cnat (x := v14) (by omega); omega) rfl)
                refine go_iload (pc' := 207) dX12_prints_205 rfl rfl ?_
                refine go_bipush (v := 110) (pc' := 209) dX12_prints_207 rfl (by decide) ?_
                refine gz_icmp_ne (tgt := 231) (pc' := 212) dX12_prints_209 rfl (by decide) (fun c21 => ?_) (fun c21 => ?_)
                · exact go_lv (lv' := [(0, .ref (L.2.1 13)), (1, .int a), (2, .int d), (3, .int y), (4, .int y2), (5, .int x5_7), (6, .int v14), (8, .int y13), (9, .int r15)]) rfl (q_231 w7 hro (by omega) (by omega) (p := x6_7) (by omega) hy h5_7 hi_7 (by omega) (by omega) h9e (by omega) tm ts tj (by first | exact ⟨fun q => by exfalso; omega, fun _ => by omega, by omega⟩ | exact ⟨fun _ => dg_stop r6 c21 (by omega) (by omega), fun q => by exfalso; omega, by omega⟩) (fun σx x5 x6 q1 q2 q3 q4 q5 q6 q7 => ih7 _ (by omega) σx x5 x6 q1 q2 q3 q4 q5 q6 rfl))
                have loop212_22 : ∀ (dd22 : Nat) (x6_22 : Int32), (0 ≤ (x6_22).toInt ∧ (x6_7).toNatClampNeg + 2 ≤ (x6_22).toNatClampNeg ∧ (x6_22).toNatClampNeg ≤ (x6_7).toNatClampNeg + 2 + dcnt (lrT σ (a).toNatClampNeg) (σ.2 109 (a).toNatClampNeg).toNatClampNeg 4 ((x6_7).toNatClampNeg + 2)) → (200 - (x6_22).toInt).toNat = dd22 → Go F L RX12 cX12_prints 10 rm_X12_prints none (RV F L (fun σ2 => WMo σ σ2 ∧ outL (σ2.2 124) (σ2.1 29).toNatClampNeg = prF (lrT σ (a).toNatClampNeg) (σ.2 109 (a).toNatClampNeg).toNatClampNeg d.toInt y.toInt 200 0 0 (fun _ => 0) 0 ∧ (σ2.1 29).toInt ≤ 160)) σ7 212 [(0, .ref (L.2.1 13)), (1, .int a), (2, .int d), (3, .int y), (4, .int y2), (5, .int x5_7), (6, .int x6_22), (7, .int y9), (8, .int y13), (9, .int r15)] [] := by
                  intro dd22
                  induction dd22 using Nat.strongRecOn with
                  | _ dd22 ih22 =>
                    intro x6_22 h2_22 hm_22
                    have tj1 := tj (by omega)
                    have c6l := cnat (x := x6_22) (by omega)
                    have r6 := hro (x6_22).toNatClampNeg (by omega)
                    rw [if_pos (by omega)] at r6
                    refine go_aload_n (i := 0) (pc' := 213) dX12_prints_212 rfl rfl rfl ?_
                    refine gf_13_row (pc' := 216) dX12_prints_213 rfl fl_X12_102 ?_
                    refine go_iload (pc' := 218) dX12_prints_216 rfl rfl ?_
                    refine go_iald (pc' := 219) dX12_prints_218 rfl (by decide) (by decide) rfl (vin_of (n := 161) (by omega) (by omega)) ?_
                    refine go_csi (pc' := 222) ls_X12_221 (c_X12_isDigit _ _ _ _) rfl rfl (Nat.le_of_ble_eq_true rfl) ⟨Nat.le_of_ble_eq_true rfl, Nat.le_of_ble_eq_true rfl⟩ ⟨rfl, rfl⟩ dX12_prints_219 rfl (fun r23 σ23 h23 => ?_)
                    obtain ⟨e23, h23⟩ := h23
                    have e23 := e23.symm
                    subst e23
                    refine go_eqB (tgt := 231) (pc' := 225) h23 dX12_prints_222 rfl (by decide) (fun c24 => ?_) (fun c24 => ?_)
                    · exact go_lv (lv' := [(0, .ref (L.2.1 13)), (1, .int a), (2, .int d), (3, .int y), (4, .int y2), (5, .int x5_7), (6, .int x6_22), (8, .int y13), (9, .int r15)]) rfl (q_231 w7 hro (by omega) (by omega) (p := x6_7) (by omega) hy h5_7 hi_7 (by omega) (by omega) h9e (by omega) tm ts tj (by first | exact ⟨fun q => by exfalso; omega, fun _ => by omega, by omega⟩ | exact ⟨fun _ => dg_stop r6 c24 (by omega) (by omega), fun q => by exfalso; omega, by omega⟩) (fun σx x5 x6 q1 q2 q3 q4 q5 q6 q7 => ih7 _ (by omega) σx x5 x6 q1 q2 q3 q4 q5 q6 rfl))
                    have lt := dg_more r6 c24 tj1.2.2 (by omega) (by omega)
                    refine gz_iinc (c := 1) (pc' := 228) dX12_prints_225 rfl rfl (by decide) (by decide) (by decide) (by omega) (fun v25 h25 e25 => ?_)
                    refine go_goto (tgt := 212) dX12_prints_228 (by decide) ?_
                    exact go_lv (lv' := [(0, .ref (L.2.1 13)), (1, .int a), (2, .int d), (3, .int y), (4, .int y2), (5, .int x5_7), (6, .int v25), (7, .int y9), (8, .int y13), (9, .int r15)]) rfl (ih22 _ (by omega)  v25 (by have c6v := cnat (x := v25) (by omega); omega) rfl)
                exact go_lv (lv' := [(0, .ref (L.2.1 13)), (1, .int a), (2, .int d), (3, .int y), (4, .int y2), (5, .int x5_7), (6, .int v14), (7, .int y9), (8, .int y13), (9, .int r15)]) rfl (loop212_22 _  v14 (by have c6v := cnat (x := v14) (by omega); omega) rfl)
              have hh := tk_pl ht_7 p6 (by omega) (by omega)
              refine go_iload (pc' := 158) dX12_prints_156 rfl rfl ?_
              refine gz_if_ne (tgt := 167) (pc' := 161) dX12_prints_158 rfl (by decide) (fun c26 => ?_) (fun c26 => ?_)
              · refine gz_iinc (c := 1) (pc' := 170) dX12_prints_167 rfl rfl (by decide) (by decide) (by decide) (by omega) (fun v27 h27 e27 => ?_)
                refine go_goto (tgt := 72) dX12_prints_170 (by decide) ?_
                exact go_lv (lv' := [(0, .ref (L.2.1 13)), (1, .int a), (2, .int d), (3, .int y), (4, .int y2), (5, .int x5_7), (6, .int v27)]) rfl (ih7 _ (by omega) σ7 x5_7 v27 w7 (by omega) (by rw [gR]; exact hr_7) (by have cv := cnat (x := v27) (by omega); have ud := ixi_28 w7.1; have cd2 := cnat (x := σ7.1 28) (by omega); exact tk_at hh (by omega) (by omega)) (by omega) (by have cv := cnat (x := v27) (by omega); have cv5 := cnat (x := x5_7) (by omega); exact M_pl hi_7 (by omega) (by omega) (by omega) g28 g123 pd (by first | (rw [if_neg (by omega)]; done) | (rw [if_pos (by omega), tp]; rfl)) (by omega)) rfl)
              refine go_aload_n (i := 0) (pc' := 162) dX12_prints_161 rfl rfl rfl ?_
              refine go_iload (pc' := 164) dX12_prints_162 rfl rfl ?_
              refine go_cvv (pc' := 167) lk_X12_250 (e_X12_puts _ _ _ _ (by omega) w7.1) rfl rfl (Nat.le_of_ble_eq_true rfl) (by decide) rfl rfl rfl ⟨Nat.le_of_ble_eq_true rfl, Nat.le_of_ble_eq_true rfl⟩ ⟨rfl, rfl⟩ dX12_prints_164 rfl (fun σ28 h28 => ?_)
              obtain ⟨u28, h28⟩ := h28
              have w28 := WMo_trans w7 (WMo_of_p u28)
              have gR := (u28.2.2 125 (by decide)).trans gR
              have gd28 := congrArg Int32.toInt (u28.2.1 28 (by decide))
              have g28 := (u28.2.1 28 (by decide)).trans g28
              have g123 := (u28.2.2 123 (by decide)).trans g123
              have pd := PDm_trans pd h28 rfl
              have pl := pd.2
              try simp only [List.length_append, List.length_nil, List.length_cons] at pl
              refine gz_iinc (c := 1) (pc' := 170) dX12_prints_167 rfl rfl (by decide) (by decide) (by decide) (by omega) (fun v29 h29 e29 => ?_)
              refine go_goto (tgt := 72) dX12_prints_170 (by decide) ?_
              exact go_lv (lv' := [(0, .ref (L.2.1 13)), (1, .int a), (2, .int d), (3, .int y), (4, .int y2), (5, .int x5_7), (6, .int v29)]) rfl (ih7 _ (by omega) σ28 x5_7 v29 w28 (by omega) (by rw [gR]; exact hr_7) (by have cv := cnat (x := v29) (by omega); have ud := ixi_28 w28.1; have cd2 := cnat (x := σ28.1 28) (by omega); exact tk_at hh (by omega) (by omega)) (by omega) (by have cv := cnat (x := v29) (by omega); have cv5 := cnat (x := x5_7) (by omega); exact M_pl hi_7 (by omega) (by omega) (by omega) g28 g123 pd (by first | (rw [if_neg (by omega)]; done) | (rw [if_pos (by omega), tp]; rfl)) (by omega)) rfl)
            have tc := tk_cl ht_7 p6 (by omega)
            exact go_lv (lv' := [(0, .ref (L.2.1 13)), (1, .int a), (2, .int d), (3, .int y), (4, .int y2), (5, .int x5_7), (6, .int x6_7)]) rfl (q_cl w7 hr_7 (by omega) (by omega) (by omega) hy h5_7 hi_7 (by omega) rfl (by omega) tc.1 tc.2 (fun σx x5 x6 q1 q2 q3 q4 q5 q6 q7 => ih7 _ (by omega) σx x5 x6 q1 q2 q3 q4 q5 q6 rfl))
        exact go_lv (lv' := [(0, .ref (L.2.1 13)), (1, .int a), (2, .int d), (3, .int y), (4, .int y2), (5, .int (0 : Int32)), (6, .int (0 : Int32))]) rfl (loop72_7 _ σ6 (0 : Int32) (0 : Int32) w6 (by omega) (by rw [gR]; exact fun j hj => hR0 j (by omega)) ⟨200, fun _ => 0, by rw [show (σ6.1 28).toNatClampNeg = 0 from by rw [gO.2.2]; rfl]; exact tva⟩ (by omega) (by have z0 : (0 : Int32).toNatClampNeg = 0 := rfl; rw [z0]; exact M_0 (by omega) g29z gO.2.2) rfl)
      refine go_aload_n (i := 0) (pc' := 20) dX12_prints_19 rfl rfl rfl ?_
      refine gf_13_row (pc' := 23) dX12_prints_20 rfl fl_X12_102 ?_
      refine go_iload (pc' := 25) dX12_prints_23 rfl rfl ?_
      refine go_iload (pc' := 27) dX12_prints_25 rfl rfl ?_
      refine go_iload (pc' := 29) dX12_prints_27 rfl rfl ?_
      have mrg49_30 : ∀ (y0_30 : Int32), ((y0_30).toInt = if (x5_3).toNatClampNeg < (σ.2 109 (a).toNatClampNeg).toNatClampNeg then (lrT σ (a).toNatClampNeg) (x5_3).toNatClampNeg else 0) → Go F L RX12 cX12_prints 10 rm_X12_prints none (RV F L (fun σ2 => WMo σ σ2 ∧ outL (σ2.2 124) (σ2.1 29).toNatClampNeg = prF (lrT σ (a).toNatClampNeg) (σ.2 109 (a).toNatClampNeg).toNatClampNeg d.toInt y.toInt 200 0 0 (fun _ => 0) 0 ∧ (σ2.1 29).toInt ≤ 160)) σ3 49 [(0, .ref (L.2.1 13)), (1, .int a), (2, .int d), (3, .int y), (4, .int y2), (5, .int x5_3)] [.int y0_30, .int x5_3, .ref (L.2.1 125)] := by
        intro y0_30 hs_30
        refine go_iast (pc' := 50) dX12_prints_49 rfl (by decide) (by decide) rfl (vin_of (n := 161) (by omega) (by omega)) ?_
        refine go_gen (P := fun s => WMo σ s ∧ s.2 125 = upd (σ3.2 125) (x5_3).toNatClampNeg y0_30) ⟨⟨ixt_n w3.1 (by decide), Ag_setA w3.2 (by decide)⟩, setA_same _ _ _ _⟩ (fun σ31 z31 => ?_)
        obtain ⟨w31, g31⟩ := z31
        have gA := g31
        refine gz_iinc (c := 1) (pc' := 53) dX12_prints_50 rfl rfl (by decide) (by decide) (by decide) (by omega) (fun v32 h32 e32 => ?_)
        refine go_goto (tgt := 11) dX12_prints_53 (by decide) ?_
        exact go_lv (lv' := [(0, .ref (L.2.1 13)), (1, .int a), (2, .int d), (3, .int y), (4, .int y2), (5, .int v32)]) rfl (ih3 _ (by omega) σ31 v32 w31 (by omega) (upd_step (P := fun j z => z.toInt = if j < (σ.2 109 (a).toNatClampNeg).toNatClampNeg then (lrT σ (a).toNatClampNeg) j else 0) hr_3 gA hs_30 (by omega) (by omega)) rfl)
      refine gz_icmp_ge (tgt := 48) (pc' := 32) dX12_prints_29 rfl (by decide) (fun c33 => ?_) (fun c33 => ?_)
      · refine go_iconst (v := 0) (pc' := 49) dX12_prints_48 rfl (by decide) ?_
        exact go_lv (lv' := [(0, .ref (L.2.1 13)), (1, .int a), (2, .int d), (3, .int y), (4, .int y2), (5, .int x5_3)]) rfl (mrg49_30  (0 : Int32) (by have ck := cnat (x := x5_3) (by omega); first | (rw [if_pos (by omega)]; show _ = (σ.2 110 _).toInt; rw [← ez]) | (rw [if_neg (by omega)]; omega)))
      refine go_aload_n (i := 0) (pc' := 33) dX12_prints_32 rfl rfl rfl ?_
      refine gf_13_texts (pc' := 36) dX12_prints_33 rfl fl_X12_53 ?_
      refine go_sipush (v := 160) (pc' := 39) dX12_prints_36 rfl (by decide) ?_
      refine go_iload_n (i := 1) (pc' := 40) dX12_prints_39 rfl rfl rfl ?_
      refine gz_imulc (n := 160) (pc' := 41) dX12_prints_40 rfl (by decide) (by omega) (fun v34 h34 e34 => ?_)
      refine go_iload (pc' := 43) dX12_prints_41 rfl rfl ?_
      refine gz_iadd (pc' := 44) dX12_prints_43 rfl (by omega) (fun v35 h35 e35 => ?_)
      have ck5 := cnat (x := x5_3) (by omega)
      have ez : (v35).toNatClampNeg = 160 * (a).toNatClampNeg + (x5_3).toNatClampNeg := by have cz := cnat (x := v35) (by omega); omega
      refine go_iald (pc' := 45) dX12_prints_44 rfl (by decide) (by decide) rfl (vin_of (n := 1920) (by omega) (by omega)) ?_
      refine go_topq (y := (σ.2 110 (v35).toNatClampNeg)) (congrFun (w3.2.2 110 (by decide)) _) ?_
      have g36 := ixa_110 ix (v35).toNatClampNeg (vinlt (vin_of (n := 1920) (by omega) (by omega)))
      refine go_goto (tgt := 49) dX12_prints_45 (by decide) ?_
      exact go_lv (lv' := [(0, .ref (L.2.1 13)), (1, .int a), (2, .int d), (3, .int y), (4, .int y2), (5, .int x5_3)]) rfl (mrg49_30  (σ.2 110 (v35).toNatClampNeg) (by have ck := cnat (x := x5_3) (by omega); first | (rw [if_pos (by omega)]; show _ = (σ.2 110 _).toInt; rw [← ez]) | (rw [if_neg (by omega)]; omega)))
  exact go_lv (lv' := [(0, .ref (L.2.1 13)), (1, .int a), (2, .int d), (3, .int y), (4, .int y2), (5, .int (0 : Int32))]) rfl (loop11_3 _ σ (0 : Int32) w0 (by omega) (fun j hj => by exfalso; omega) rfl)
def FUM (σ : ST) (l : Nat) (dy wy : Int) : List Int := prF (lrT σ l) (σ.2 109 l).toNatClampNeg dy wy 200 0 0 (fun _ => 0) 0
def tM_print (σ : ST) (a d y r : Int32) (σ2 : ST) : Prop := WM σ σ2 ∧ ((¬ ((0 ≤ a.toInt ∧ a.toInt < (σ.1 20).toInt) ∧ (0 ≤ d.toInt ∧ d.toInt ≤ 9999) ∧ (0 ≤ y.toInt ∧ y.toInt < 2)) ∧ r = -2) ∨ (((0 ≤ a.toInt ∧ a.toInt < (σ.1 20).toInt) ∧ (0 ≤ d.toInt ∧ d.toInt ≤ 9999) ∧ (0 ≤ y.toInt ∧ y.toInt < 2)) ∧ r.toInt = ((FUM σ a.toNatClampNeg d.toInt y.toInt).length : Int)))
def tM_printed (σ : ST) (a d y i r : Int32) (σ2 : ST) : Prop := WM σ σ2 ∧ ((¬ ((0 ≤ a.toInt ∧ a.toInt < (σ.1 20).toInt) ∧ (0 ≤ d.toInt ∧ d.toInt ≤ 9999) ∧ (0 ≤ y.toInt ∧ y.toInt < 2)) ∧ r = -2) ∨ (((0 ≤ a.toInt ∧ a.toInt < (σ.1 20).toInt) ∧ (0 ≤ d.toInt ∧ d.toInt ≤ 9999) ∧ (0 ≤ y.toInt ∧ y.toInt < 2)) ∧ atP (FUM σ a.toNatClampNeg d.toInt y.toInt) i r))
theorem prm {L : List Int} {g : Nat → Int32} {m j : Nat} (e : outL g m = L) (hj : j < m) : L[j]? = some (g j).toInt := by
  rw [← e]
  exact outL_get hj
set_option maxHeartbeats 4000000 in
set_option maxRecDepth 100000 in
theorem f_X12_print (l : Launch) (L : WL) (σ : ST) (a d y : Int32) (ix : IV σ) (tv : TV σ) : CtI l L yX12_print cX12_print 4 (some .int) rm_X12_print [.ref (L.2.1 13), .int a, .int d, .int y] σ (fun r σ2 => tM_print σ a d y r σ2) := by
  refine ctI_go (own := RX12) (by decide) rfl (Nat.le_of_ble_eq_true rfl) (fun F hF => ?_)
  subst hF
  have nm2 : (-2 : Int32).toInt = -2 := by decide
  have n2 : (2 : Int32).toInt = 2 := by decide
  have w0 : WM σ σ := WM_rfl ix
  have u19 := ixi_19 ix
  have u20 := ixi_20 ix
  have u21 := ixi_21 ix
  have u22 := ixi_22 ix
  refine go_aload_n (i := 0) (pc' := 1) dX12_print_0 rfl rfl rfl ?_
  refine go_iload_n (i := 1) (pc' := 2) dX12_print_1 rfl rfl rfl ?_
  refine go_cvi (pc' := 5) lk_X12_152 (c_X12_isLetter _ _ _ _) rfl rfl (Nat.le_of_ble_eq_true rfl) (by decide) rfl rfl rfl ⟨Nat.le_of_ble_eq_true rfl, Nat.le_of_ble_eq_true rfl⟩ ⟨rfl, rfl⟩ dX12_print_2 rfl (fun r1 σ1 h1 => ?_)
  obtain ⟨e1, h1⟩ := h1
  have e1 := e1.symm
  subst e1
  refine go_eqB (tgt := 23) (pc' := 8) h1 dX12_print_5 rfl (by decide) (fun c2 => ?_) (fun c2 => ?_)
  · refine go_bipush (v := (-2)) (pc' := 25) dX12_print_23 rfl (by decide) ?_
    exact go_iret dX12_print_25 rfl (⟨w0, by first | exact Or.inl ⟨by omega, rfl⟩ | exact Or.inr ⟨by omega, by omega⟩⟩)
  refine go_iload_n (i := 2) (pc' := 9) dX12_print_8 rfl rfl rfl ?_
  refine go_csi (pc' := 12) ls_X12_149 (c_X12_isDay _ _ _ _) rfl rfl (Nat.le_of_ble_eq_true rfl) ⟨Nat.le_of_ble_eq_true rfl, Nat.le_of_ble_eq_true rfl⟩ ⟨rfl, rfl⟩ dX12_print_9 rfl (fun r3 σ3 h3 => ?_)
  obtain ⟨e3, h3⟩ := h3
  have e3 := e3.symm
  subst e3
  refine go_eqB (tgt := 23) (pc' := 15) h3 dX12_print_12 rfl (by decide) (fun c4 => ?_) (fun c4 => ?_)
  · refine go_bipush (v := (-2)) (pc' := 25) dX12_print_23 rfl (by decide) ?_
    exact go_iret dX12_print_25 rfl (⟨w0, by first | exact Or.inl ⟨by omega, rfl⟩ | exact Or.inr ⟨by omega, by omega⟩⟩)
  refine go_iload_n (i := 3) (pc' := 16) dX12_print_15 rfl rfl rfl ?_
  refine go_iconst (v := 2) (pc' := 17) dX12_print_16 rfl (by decide) ?_
  refine go_csi (pc' := 20) ls_X12_135 (c_X12_isIn _ _ _ _ _) rfl rfl (Nat.le_of_ble_eq_true rfl) ⟨Nat.le_of_ble_eq_true rfl, Nat.le_of_ble_eq_true rfl⟩ ⟨rfl, rfl⟩ dX12_print_17 rfl (fun r5 σ5 h5 => ?_)
  obtain ⟨e5, h5⟩ := h5
  have e5 := e5.symm
  subst e5
  refine go_neB (tgt := 26) (pc' := 23) h5 dX12_print_20 rfl (by decide) (fun c6 => ?_) (fun c6 => ?_)
  · refine go_aload_n (i := 0) (pc' := 27) dX12_print_26 rfl rfl rfl ?_
    refine go_iload_n (i := 1) (pc' := 28) dX12_print_27 rfl rfl rfl ?_
    refine go_iload_n (i := 2) (pc' := 29) dX12_print_28 rfl rfl rfl ?_
    refine go_iload_n (i := 3) (pc' := 30) dX12_print_29 rfl rfl rfl ?_
    refine go_cvv (pc' := 33) lk_X12_263 (e_X12_prints _ _ _ _ _ _ (by omega) (by omega) w0.1 (TV_q w0 tv)) rfl rfl (Nat.le_of_ble_eq_true rfl) (by decide) rfl rfl rfl ⟨Nat.le_of_ble_eq_true rfl, Nat.le_of_ble_eq_true rfl⟩ ⟨rfl, rfl⟩ dX12_print_30 rfl (fun σ7 h7 => ?_)
    obtain ⟨u7, h7⟩ := h7
    have w7 := WM_trans w0 (WM_of_o u7)
    have fu : outL (σ7.2 124) (σ7.1 29).toNatClampNeg = FUM σ (a).toNatClampNeg d.toInt y.toInt := h7.1
    have fl := outL_len (σ7.2 124) (σ7.1 29).toNatClampNeg
    rw [fu] at fl
    have g29 := ixi_29 w7.1
    have c29 := cnat (x := σ7.1 29) (by omega)
    refine go_aload_n (i := 0) (pc' := 34) dX12_print_33 rfl rfl rfl ?_
    refine gf_13_printMany (pc' := 37) dX12_print_34 rfl fl_X12_247 ?_
    have g8 := ixi_29 w7.1
    exact go_iret dX12_print_37 rfl (⟨w7, by first | exact Or.inl ⟨by omega, rfl⟩ | exact Or.inr ⟨by omega, by omega⟩⟩)
  refine go_bipush (v := (-2)) (pc' := 25) dX12_print_23 rfl (by decide) ?_
  exact go_iret dX12_print_25 rfl (⟨w0, by first | exact Or.inl ⟨by omega, rfl⟩ | exact Or.inr ⟨by omega, by omega⟩⟩)
set_option maxHeartbeats 4000000 in
set_option maxRecDepth 100000 in
theorem f_X12_printed (l : Launch) (L : WL) (σ : ST) (a d y i : Int32) (ix : IV σ) (tv : TV σ) : CtI l L yX12_printed cX12_printed 5 (some .int) rm_X12_printed [.ref (L.2.1 13), .int a, .int d, .int y, .int i] σ (fun r σ2 => tM_printed σ a d y i r σ2) := by
  refine ctI_go (own := RX12) (by decide) rfl (Nat.le_of_ble_eq_true rfl) (fun F hF => ?_)
  subst hF
  have nm2 : (-2 : Int32).toInt = -2 := by decide
  have nm1 : (-1 : Int32).toInt = -1 := by decide
  have n2 : (2 : Int32).toInt = 2 := by decide
  have w0 : WM σ σ := WM_rfl ix
  have u19 := ixi_19 ix
  have u20 := ixi_20 ix
  have u21 := ixi_21 ix
  have u22 := ixi_22 ix
  refine go_aload_n (i := 0) (pc' := 1) dX12_printed_0 rfl rfl rfl ?_
  refine go_iload_n (i := 1) (pc' := 2) dX12_printed_1 rfl rfl rfl ?_
  refine go_cvi (pc' := 5) lk_X12_152 (c_X12_isLetter _ _ _ _) rfl rfl (Nat.le_of_ble_eq_true rfl) (by decide) rfl rfl rfl ⟨Nat.le_of_ble_eq_true rfl, Nat.le_of_ble_eq_true rfl⟩ ⟨rfl, rfl⟩ dX12_printed_2 rfl (fun r1 σ1 h1 => ?_)
  obtain ⟨e1, h1⟩ := h1
  have e1 := e1.symm
  subst e1
  refine go_eqB (tgt := 23) (pc' := 8) h1 dX12_printed_5 rfl (by decide) (fun c2 => ?_) (fun c2 => ?_)
  · refine go_bipush (v := (-2)) (pc' := 25) dX12_printed_23 rfl (by decide) ?_
    exact go_iret dX12_printed_25 rfl (⟨w0, by first | exact Or.inl ⟨by omega, rfl⟩ | exact Or.inr ⟨by omega, Or.inr ⟨by omega, rfl⟩⟩ | exact Or.inr ⟨by omega, Or.inl ⟨by omega, by have ci := cnat (x := i) (by omega); exact prm fu (by omega)⟩⟩⟩)
  refine go_iload_n (i := 2) (pc' := 9) dX12_printed_8 rfl rfl rfl ?_
  refine go_csi (pc' := 12) ls_X12_149 (c_X12_isDay _ _ _ _) rfl rfl (Nat.le_of_ble_eq_true rfl) ⟨Nat.le_of_ble_eq_true rfl, Nat.le_of_ble_eq_true rfl⟩ ⟨rfl, rfl⟩ dX12_printed_9 rfl (fun r3 σ3 h3 => ?_)
  obtain ⟨e3, h3⟩ := h3
  have e3 := e3.symm
  subst e3
  refine go_eqB (tgt := 23) (pc' := 15) h3 dX12_printed_12 rfl (by decide) (fun c4 => ?_) (fun c4 => ?_)
  · refine go_bipush (v := (-2)) (pc' := 25) dX12_printed_23 rfl (by decide) ?_
    exact go_iret dX12_printed_25 rfl (⟨w0, by first | exact Or.inl ⟨by omega, rfl⟩ | exact Or.inr ⟨by omega, Or.inr ⟨by omega, rfl⟩⟩ | exact Or.inr ⟨by omega, Or.inl ⟨by omega, by have ci := cnat (x := i) (by omega); exact prm fu (by omega)⟩⟩⟩)
  refine go_iload_n (i := 3) (pc' := 16) dX12_printed_15 rfl rfl rfl ?_
  refine go_iconst (v := 2) (pc' := 17) dX12_printed_16 rfl (by decide) ?_
  refine go_csi (pc' := 20) ls_X12_135 (c_X12_isIn _ _ _ _ _) rfl rfl (Nat.le_of_ble_eq_true rfl) ⟨Nat.le_of_ble_eq_true rfl, Nat.le_of_ble_eq_true rfl⟩ ⟨rfl, rfl⟩ dX12_printed_17 rfl (fun r5 σ5 h5 => ?_)
  obtain ⟨e5, h5⟩ := h5
  have e5 := e5.symm
  subst e5
  refine go_neB (tgt := 26) (pc' := 23) h5 dX12_printed_20 rfl (by decide) (fun c6 => ?_) (fun c6 => ?_)
  · refine go_aload_n (i := 0) (pc' := 27) dX12_printed_26 rfl rfl rfl ?_
    refine go_iload_n (i := 1) (pc' := 28) dX12_printed_27 rfl rfl rfl ?_
    refine go_iload_n (i := 2) (pc' := 29) dX12_printed_28 rfl rfl rfl ?_
    refine go_iload_n (i := 3) (pc' := 30) dX12_printed_29 rfl rfl rfl ?_
    refine go_cvv (pc' := 33) lk_X12_263 (e_X12_prints _ _ _ _ _ _ (by omega) (by omega) w0.1 (TV_q w0 tv)) rfl rfl (Nat.le_of_ble_eq_true rfl) (by decide) rfl rfl rfl ⟨Nat.le_of_ble_eq_true rfl, Nat.le_of_ble_eq_true rfl⟩ ⟨rfl, rfl⟩ dX12_printed_30 rfl (fun σ7 h7 => ?_)
    obtain ⟨u7, h7⟩ := h7
    have w7 := WM_trans w0 (WM_of_o u7)
    have fu : outL (σ7.2 124) (σ7.1 29).toNatClampNeg = FUM σ (a).toNatClampNeg d.toInt y.toInt := h7.1
    have fl := outL_len (σ7.2 124) (σ7.1 29).toNatClampNeg
    rw [fu] at fl
    have g29 := ixi_29 w7.1
    have c29 := cnat (x := σ7.1 29) (by omega)
    refine go_iload (pc' := 35) dX12_printed_33 rfl rfl ?_
    refine go_aload_n (i := 0) (pc' := 36) dX12_printed_35 rfl rfl rfl ?_
    refine gf_13_printMany (pc' := 39) dX12_printed_36 rfl fl_X12_247 ?_
    have g8 := ixi_29 w7.1
    refine go_csi (pc' := 42) ls_X12_135 (c_X12_isIn _ _ _ _ _) rfl rfl (Nat.le_of_ble_eq_true rfl) ⟨Nat.le_of_ble_eq_true rfl, Nat.le_of_ble_eq_true rfl⟩ ⟨rfl, rfl⟩ dX12_printed_39 rfl (fun r9 σ9 h9 => ?_)
    obtain ⟨e9, h9⟩ := h9
    have e9 := e9.symm
    subst e9
    refine go_eqB (tgt := 55) (pc' := 45) h9 dX12_printed_42 rfl (by decide) (fun c10 => ?_) (fun c10 => ?_)
    · refine go_iconst (v := (-1)) (pc' := 56) dX12_printed_55 rfl (by decide) ?_
      exact go_iret dX12_printed_56 rfl (⟨w7, by first | exact Or.inl ⟨by omega, rfl⟩ | exact Or.inr ⟨by omega, Or.inr ⟨by omega, rfl⟩⟩ | exact Or.inr ⟨by omega, Or.inl ⟨by omega, by have ci := cnat (x := i) (by omega); exact prm fu (by omega)⟩⟩⟩)
    refine go_aload_n (i := 0) (pc' := 46) dX12_printed_45 rfl rfl rfl ?_
    refine gf_13_print (pc' := 49) dX12_printed_46 rfl fl_X12_99 ?_
    refine go_iload (pc' := 51) dX12_printed_49 rfl rfl ?_
    refine go_iald (pc' := 52) dX12_printed_51 rfl (by decide) (by decide) rfl (vin_of (n := 320) (by omega) (by omega)) ?_
    refine go_goto (tgt := 56) dX12_printed_52 (by decide) ?_
    exact go_iret dX12_printed_56 rfl (⟨w7, by first | exact Or.inl ⟨by omega, rfl⟩ | exact Or.inr ⟨by omega, Or.inr ⟨by omega, rfl⟩⟩ | exact Or.inr ⟨by omega, Or.inl ⟨by omega, by have ci := cnat (x := i) (by omega); exact prm fu (by omega)⟩⟩⟩)
  refine go_bipush (v := (-2)) (pc' := 25) dX12_printed_23 rfl (by decide) ?_
  exact go_iret dX12_printed_25 rfl (⟨w0, by first | exact Or.inl ⟨by omega, rfl⟩ | exact Or.inr ⟨by omega, Or.inr ⟨by omega, rfl⟩⟩ | exact Or.inr ⟨by omega, Or.inl ⟨by omega, by have ci := cnat (x := i) (by omega); exact prm fu (by omega)⟩⟩⟩)
