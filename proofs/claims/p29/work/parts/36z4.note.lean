/-- a note stands at k -/
abbrev isN (t : Nat → Int) (n k : Nat) : Prop := k + 1 < n ∧ t k = 123 ∧ t (k + 1) = 110
/-- so many notes stand ahead of k -/
def cntN (t : Nat → Int) (n : Nat) : Nat → Nat
  | 0 => 0
  | k + 1 => cntN t n k + if isN t n k then 1 else 0
theorem cntN_y {t : Nat → Int} {n k : Nat} (h : isN t n k) : cntN t n (k + 1) = cntN t n k + 1 := by
  show cntN t n k + (if isN t n k then 1 else 0) = _
  rw [if_pos h]
theorem cntN_n {t : Nat → Int} {n k : Nat} (h : ¬ isN t n k) : cntN t n (k + 1) = cntN t n k := by
  show cntN t n k + (if isN t n k then 1 else 0) = _
  rw [if_neg h, Nat.add_zero]
theorem cntN_up (t : Nat → Int) (n k : Nat) : cntN t n k ≤ cntN t n (k + 1) ∧ cntN t n (k + 1) ≤ cntN t n k + 1 := by
  by_cases h : isN t n k
  · rw [cntN_y h]
    omega
  · rw [cntN_n h]
    omega
theorem cntN_mono (t : Nat → Int) (n a : Nat) : ∀ m : Nat, cntN t n a ≤ cntN t n (a + m)
  | 0 => Nat.le_refl _
  | m + 1 => Nat.le_trans (cntN_mono t n a m) (cntN_up t n (a + m)).1
theorem cntN_le (t : Nat → Int) (n : Nat) : ∀ k : Nat, cntN t n k ≤ k
  | 0 => Nat.le_refl _
  | k + 1 => by
    have := cntN_le t n k
    have := (cntN_up t n k).2
    omega
theorem cntN_lt {t : Nat → Int} {n a b : Nat} (h : isN t n a) (hab : a < b) : cntN t n a < cntN t n b := by
  have z := cntN_mono t n (a + 1) (b - (a + 1))
  rw [show a + 1 + (b - (a + 1)) = b by omega, cntN_y h] at z
  omega
theorem cntN_same {t : Nat → Int} {n a : Nat} : ∀ m : Nat, (∀ k : Nat, a ≤ k → k < a + m → ¬ isN t n k) → cntN t n (a + m) = cntN t n a
  | 0, _ => rfl
  | m + 1, h => by
    have z := cntN_same m (fun k h1 h2 => h k h1 (by omega))
    rw [← z]
    exact cntN_n (h (a + m) (by omega) (by omega))
/-- what note answers -/
def nteP (t : Nat → Int) (n : Nat) (i r : Int32) : Prop := (∃ k : Nat, isN t n k ∧ (cntN t n k : Int) = i.toInt ∧ r.toInt = nval t (k + 2) (dcnt t n 4 (k + 2))) ∨ ((∀ k : Nat, isN t n k → (cntN t n k : Int) ≠ i.toInt) ∧ r = -1)
theorem nteP_one {t : Nat → Int} {n : Nat} {i r r2 : Int32} (h : nteP t n i r) (g : nteP t n i r2) : r = r2 := by
  rcases h with ⟨k, a, b, c⟩ | ⟨a, b⟩ <;> rcases g with ⟨k2, d, e, f⟩ | ⟨d, e⟩
  · have : k = k2 := by
      rcases Nat.lt_trichotomy k k2 with z | z | z
      · have := cntN_lt a z
        omega
      · exact z
      · have := cntN_lt d z
        omega
    subst this
    exact Int32.toInt_inj.mp (c.trans f.symm)
  · exact absurd b (d k a)
  · exact absurd e (a k2 d)
  · exact b.trans e.symm
theorem isN_cg {t t2 : Nat → Int} {n : Nat} (e : ∀ j : Nat, j < n → t j = t2 j) (k : Nat) : isN t n k ↔ isN t2 n k := by
  by_cases z : k + 1 < n
  · unfold isN
    rw [e k (by omega), e (k + 1) z]
  · exact ⟨fun q => absurd q.1 z, fun q => absurd q.1 z⟩
theorem cntN_cg {t t2 : Nat → Int} {n : Nat} (e : ∀ j : Nat, j < n → t j = t2 j) : ∀ k : Nat, cntN t n k = cntN t2 n k
  | 0 => rfl
  | k + 1 => by
    by_cases z : isN t n k
    · rw [cntN_y z, cntN_y ((isN_cg e k).mp z), cntN_cg e k]
    · rw [cntN_n z, cntN_n (fun q => z ((isN_cg e k).mpr q)), cntN_cg e k]
theorem nvl_cg {t t2 : Nat → Int} {p j : Nat} (h : ∀ i : Nat, i < j → t (p + i) = t2 (p + i)) : nval t p j = nval t2 p j := by
  induction j with
  | zero => rfl
  | succ j ih =>
    simp only [nval]
    rw [ih (fun i hi => h i (by omega)), h j (by omega)]
theorem nteP_cg {t t2 : Nat → Int} {n : Nat} {i r : Int32} (e : ∀ j : Nat, j < n → t j = t2 j) (h : nteP t n i r) : nteP t2 n i r := by
  rcases h with ⟨k, a, b, c⟩ | ⟨a, b⟩
  · refine Or.inl ⟨k, (isN_cg e k).mp a, by rw [← cntN_cg e]; exact b, ?_⟩
    rw [c, dcnt_congr e]
    exact nvl_cg (fun q hq => e _ (dcnt_dig (by rw [← dcnt_congr e] at hq; exact hq)).1)
  · exact Or.inr ⟨fun k q => by rw [← cntN_cg e]; exact a k ((isN_cg e k).mpr q), b⟩
theorem aut_q {t : Nat → Int} {n i q : Nat} {s : ST} (h : AUT t n i q s) : s.1 12 = 0 → q = i := by
  obtain ⟨-, ⟨m0, e⟩ | ⟨-, ⟨m1, e⟩ | ⟨m2, -⟩⟩⟩ := h
  · exact fun _ => e
  · exact fun z => absurd (m1.symm.trans z) (by decide)
  · exact fun z => absurd (m2.symm.trans z) (by decide)
/-- the class's reader at place p, so many notes seen, none of them the i-th -/
def NTX (t : Nat → Int) (n : Nat) (i : Int) (p : Nat) (sn : Int) (s : ST) : Prop := ∃ q : Nat, q ≤ p ∧ AUT t n p q s ∧ sn = (cntN t n q : Int) ∧ ∀ k : Nat, k < q → isN t n k → (cntN t n k : Int) ≠ i
theorem NT_rng {t : Nat → Int} {n p : Nat} {i sn : Int} {s : ST} (h : NTX t n i p sn s) : 0 ≤ sn ∧ sn ≤ (p : Int) := by
  obtain ⟨q, h1, -, h2, -⟩ := h
  have := cntN_le t n q
  omega
def NTK (t : Nat → Int) (n : Nat) (i : Int) (p : Nat) (sn : Int) (s2 : ST) (r : Int32) : Prop := (r.toInt ≠ 4 → NTX t n i (p + 1) sn s2) ∧ (r.toInt = 4 → (sn = i → ∃ k : Nat, isN t n k ∧ (cntN t n k : Int) = i ∧ (s2.1 9).toInt = nval t (k + 2) (dcnt t n 4 (k + 2))) ∧ (sn ≠ i → NTX t n i (p + 1) (sn + 1) s2))
theorem NT_take {t : Nat → Int} {n p : Nat} {i sn : Int} {s s2 : ST} {sg pp r : Int32} (iv : IV s) (h : NTX t n i p sn s) (hv : VT t n) (hi : p < n) (hs : sg.toInt = t p) (hp : pp.toInt = (p : Int)) (ht : sX_take s sg pp r s2) : NTK t n i p sn s2 r := by
  obtain ⟨q, hq, ha, hsn, hno⟩ := h
  have tA := (AUT_take iv ha hi hs hp ht).resolve_left (fun z => by
    have e : tk t n 200 0 0 (fun _ => 0) = -1 := hv
    omega)
  obtain ⟨-, q2, hqq, ha2, no, n4, r4⟩ := tA
  have le2 := AUT_le ha2
  have gone : ∀ k : Nat, q < k → k < q2 → ¬ isN t n k := fun k h1 h2 z => no k h1 h2 z.2.1
  refine ⟨fun hr => ?_, fun hr => ?_⟩
  · have nq : ∀ k : Nat, q ≤ k → k < q2 → ¬ isN t n k := fun k h1 h2 z => by
      by_cases e : k = q
      · rw [e] at z h2
        exact hr (n4 z.2.1 z.2.2 h2)
      · exact gone k (by omega) h2 z
    have c := cntN_same (t := t) (n := n) (a := q) (q2 - q) (fun k h1 h2 => nq k h1 (by omega))
    rw [show q + (q2 - q) = q2 by omega] at c
    exact ⟨q2, le2, ha2, by rw [c]; exact hsn, fun k hk z => by
      by_cases e : k < q
      · exact hno k e z
      · exact absurd z (nq k (by omega) hk)⟩
  · obtain ⟨e2, t1, t2, t3, v9, -⟩ := r4 hr
    have hN : isN t n q := ⟨t3, t1, t2⟩
    refine ⟨fun e => ⟨q, hN, by omega, v9⟩, fun e => ?_⟩
    have c := cntN_same (t := t) (n := n) (a := q + 1) (q2 - (q + 1)) (fun k h1 h2 => gone k (by omega) (by omega))
    rw [show q + 1 + (q2 - (q + 1)) = q2 by omega, cntN_y hN] at c
    exact ⟨q2, le2, ha2, by rw [c]; omega, fun k hk z => by
      by_cases e3 : k < q
      · exact hno k e3 z
      · by_cases e4 : k = q
        · rw [e4]
          omega
        · exact absurd z (gone k (by omega) hk)⟩
theorem NT_end {t : Nat → Int} {n : Nat} {i sn : Int} {s : ST} (h : NTX t n i n sn s) (hv : VT t n) : ∀ k : Nat, isN t n k → (cntN t n k : Int) ≠ i := fun k hk => by
  obtain ⟨q, hq, ha, hsn, hno⟩ := h
  have e : tk t n 200 0 0 (fun _ => 0) = -1 := hv
  by_cases z : s.1 12 = 0
  · have := aut_q ha z
    have := hk.1
    exact hno k (by omega) hk
  · have := (AUT_end ha).2 z
    omega
theorem NT_0 {t : Nat → Int} {n : Nat} {i : Int} {s s2 : ST} (hn : n ≤ 160) (h : s2 = setI (setI s 7 0) 12 0) : NTX t n i 0 0 s2 := by
  rw [h]
  exact ⟨0, Nat.le_refl _, ⟨HK_0 hn, Or.inl ⟨rfl, rfl⟩⟩, rfl, fun k hk => absurd hk (Nat.not_lt_zero _)⟩
def txN (σ : ST) (l : Nat) : Nat → Int := fun j => (σ.2 (56 + l) j &&& 255).toInt
def TVN (σ : ST) : Prop := ∀ l : Nat, l < 12 → VT (txN σ l) (σ.2 32 l).toNatClampNeg
def tX_note (σ : ST) (a i r : Int32) (σ2 : ST) : Prop := WX σ σ2 ∧ ((¬ (0 ≤ a.toInt ∧ a.toInt < (σ.1 3).toInt) ∧ r = -2) ∨ ((0 ≤ a.toInt ∧ a.toInt < (σ.1 3).toInt) ∧ nteP (txN σ (a).toNatClampNeg) (σ.2 32 (a).toNatClampNeg).toNatClampNeg i r))
def tM_note (σ : ST) (a i r : Int32) (σ2 : ST) : Prop := WM σ σ2 ∧ ((¬ (0 ≤ a.toInt ∧ a.toInt < (σ.1 20).toInt) ∧ r = -2) ∨ ((0 ≤ a.toInt ∧ a.toInt < (σ.1 20).toInt) ∧ nteP (lrT σ (a).toNatClampNeg) (σ.2 109 (a).toNatClampNeg).toNatClampNeg i r))
theorem nvl_step {t : Nat → Int} {p a b : Nat} (h : b = a + 1) : nval t p b = nval t p a * 10 + t (p + a) - 48 := by
  subst h
  rfl
set_option maxHeartbeats 4000000 in
set_option maxRecDepth 100000 in
theorem f_X11_note (l : Launch) (L : WL) (σ : ST) (a b : Int32) (ix : IV σ) (tv : TVN σ) : CtI l L yX11_note cX11_note 6 (some .int) rm_X11_note [.ref (L.2.1 0), .int a, .int b] σ (fun r σ2 => tX_note σ a b r σ2) := by
  refine ctI_go (own := RX11) (by decide) rfl (Nat.le_of_ble_eq_true rfl) (fun F hF => ?_)
  subst hF
  have nm2 : (-2 : Int32).toInt = -2 := by decide
  have nm1 : (-1 : Int32).toInt = -1 := by decide
  have n0 : (0 : Int32).toInt = 0 := by decide
  have n4 : (4 : Int32).toInt = 4 := by decide
  have n255 : (255 : Int32).toInt = 255 := by decide
  have w0 : WX σ σ := WX_rfl ix
  have gl := ixi_3 ix
  have z0 : (0 : Int32).toNatClampNeg = 0 := rfl
  refine go_aload_n (i := 0) (pc' := 1) dX11_note_0 rfl rfl rfl ?_
  refine gf_0_letters (pc' := 4) dX11_note_1 rfl fl_X11_19 ?_
  refine go_iload_n (i := 1) (pc' := 5) dX11_note_4 rfl rfl rfl ?_
  refine go_cvi (pc' := 8) lk_X11_130 (c_X2_has _ _ _ _) rfl rfl (Nat.le_of_ble_eq_true rfl) (by decide) rfl rfl rfl ⟨Nat.le_of_ble_eq_true rfl, Nat.le_of_ble_eq_true rfl⟩ ⟨rfl, rfl⟩ dX11_note_5 rfl (fun r1 σ1 h1 => ?_)
  obtain ⟨e1, h1⟩ := h1
  have e1 := e1.symm
  subst e1
  refine go_neB (tgt := 14) (pc' := 11) h1 dX11_note_8 rfl (by decide) (fun c2 => ?_) (fun c2 => ?_)
  · refine go_aload_n (i := 0) (pc' := 15) dX11_note_14 rfl rfl rfl ?_
    refine gf_0_letters (pc' := 18) dX11_note_15 rfl fl_X11_19 ?_
    refine gf_2_texts (pc' := 21) dX11_note_18 rfl fl_X11_267 ?_
    refine go_iload_n (i := 1) (pc' := 22) dX11_note_21 rfl rfl rfl ?_
    have p3 : (a).toNatClampNeg < 12 := vinlt (vin_of (n := 12) (by omega) (by omega))
    refine go_aald (b := 56) (pc' := 23) dX11_note_22 rfl (by decide) (by decide) ⟨_, rfl⟩ (vin_of (n := 12) (by omega) (by omega)) rfl ?_
    refine go_astore_n (i := 3) (pc' := 24) dX11_note_23 rfl rfl (by decide) ?_
    refine go_iconst (v := 0) (pc' := 25) dX11_note_24 rfl (by decide) ?_
    refine go_istore (pc' := 27) dX11_note_25 rfl (by decide) ?_
    refine go_aload_n (i := 0) (pc' := 28) dX11_note_27 rfl rfl rfl ?_
    refine gf_0_reader (pc' := 31) dX11_note_28 rfl fl_X11_54 ?_
    refine go_cvv (pc' := 34) lk_X11_271 (e_X3_begin _ _ _ w0.1) rfl rfl (Nat.le_of_ble_eq_true rfl) (by decide) rfl rfl rfl ⟨Nat.le_of_ble_eq_true rfl, Nat.le_of_ble_eq_true rfl⟩ ⟨rfl, rfl⟩ dX11_note_31 rfl (fun σ4 h4 => ?_)
    have w4 := WX_trans w0 ((fun z => begin_WX w0.1 z) h4)
    have hbg := h4
    have ca := cnat (x := a) (by omega)
    have g32 := ixa_32 ix (a).toNatClampNeg (by omega)
    have c32 := cnat g32.1
    have hv := tv (a).toNatClampNeg (by omega)
    refine go_iconst (v := 0) (pc' := 35) dX11_note_34 rfl (by decide) ?_
    refine go_istore (pc' := 37) dX11_note_35 rfl (by decide) ?_
    have loop37_5 : ∀ (dd5 : Nat) (σ5 : ST) (x4_5 : Int32) (x5_5 : Int32), WX σ σ5 → (0 ≤ (x5_5).toInt ∧ (x5_5).toInt ≤ (σ.2 32 (a).toNatClampNeg).toInt) → (NTX (txN σ (a).toNatClampNeg) (σ.2 32 (a).toNatClampNeg).toNatClampNeg b.toInt (x5_5).toNatClampNeg (x4_5).toInt σ5) → (160 - (x5_5).toInt).toNat = dd5 → Go F L RX11 cX11_note 6 rm_X11_note (some .int) (RI F L (fun r σ2 => tX_note σ a b r σ2)) σ5 37 [(0, .ref (L.2.1 0)), (1, .int a), (2, .int b), (3, .ref (L.2.1 (56 + (a).toNatClampNeg))), (4, .int x4_5), (5, .int x5_5)] [] := by
      intro dd5
      induction dd5 using Nat.strongRecOn with
      | _ dd5 ih5 =>
        intro σ5 x4_5 x5_5 w5 h_5 hI_5 hm_5
        refine go_iload (pc' := 39) dX11_note_37 rfl rfl ?_
        refine go_aload_n (i := 0) (pc' := 40) dX11_note_39 rfl rfl rfl ?_
        refine gf_0_letters (pc' := 43) dX11_note_40 rfl fl_X11_19 ?_
        refine gf_2_sizes (pc' := 46) dX11_note_43 rfl fl_X11_155 ?_
        refine go_iload_n (i := 1) (pc' := 47) dX11_note_46 rfl rfl rfl ?_
        refine go_iald (pc' := 48) dX11_note_47 rfl (by decide) (by decide) rfl (vin_of (n := 12) (by omega) (by omega)) ?_
        refine go_rngA (ixa_32 w5.1) (vinlt (vin_of (n := 12) (by omega) (by omega))) (fun g6 => ?_)
        have e32 : σ5.2 32 = σ.2 32 := w5.2.2 32 (by decide)
        have e32i := congrArg Int32.toInt (congrFun e32 (a).toNatClampNeg)
        have c5 := cnat (x := x5_5) (by omega)
        refine gz_icmp_ge (tgt := 95) (pc' := 51) dX11_note_48 rfl (by decide) (fun c7 => ?_) (fun c7 => ?_)
        · refine go_iconst (v := (-1)) (pc' := 96) dX11_note_95 rfl (by decide) ?_
          exact go_iret dX11_note_96 rfl (⟨w5, Or.inr ⟨by omega, Or.inr ⟨NT_end (by have z := hI_5; rw [show (x5_5).toNatClampNeg = (σ.2 32 (a).toNatClampNeg).toNatClampNeg from by omega] at z; exact z) hv, rfl⟩⟩⟩)
        have rs := NT_rng hI_5
        have ivp := w5.1
        have erow : σ5.2 (56 + (a).toNatClampNeg) = σ.2 (56 + (a).toNatClampNeg) := w5.2.2 _ (row_sx (by omega))
        have sg : (σ5.2 (56 + (a).toNatClampNeg) (x5_5).toNatClampNeg &&& 255).toInt = (txN σ (a).toNatClampNeg) (x5_5).toNatClampNeg := by rw [erow]; rfl
        refine go_aload_n (i := 0) (pc' := 52) dX11_note_51 rfl rfl rfl ?_
        refine gf_0_reader (pc' := 55) dX11_note_52 rfl fl_X11_54 ?_
        refine go_aload_n (i := 3) (pc' := 56) dX11_note_55 rfl rfl rfl ?_
        refine go_iload (pc' := 58) dX11_note_56 rfl rfl ?_
        refine go_bald (pc' := 59) dX11_note_58 rfl (by omega) (by omega) (rowt_56 p3) (by rw [rowl_56 p3]; exact (vin_of (n := 160) (by omega) (by omega))) ?_
        refine go_rngA (ixr_56 w5.1 p3) (vinlt (vin_of (n := 160) (by omega) (by omega))) (fun g8 => ?_)
        refine go_sipush (v := 255) (pc' := 62) dX11_note_59 rfl (by decide) ?_
        refine go_iand (pc' := 63) dX11_note_62 rfl ?_
        refine go_iload (pc' := 65) dX11_note_63 rfl rfl ?_
        refine go_cvi (pc' := 68) lk_X11_274 (e_X3_take _ _ _ _ _ w5.1) rfl rfl (Nat.le_of_ble_eq_true rfl) (by decide) rfl rfl rfl ⟨Nat.le_of_ble_eq_true rfl, Nat.le_of_ble_eq_true rfl⟩ ⟨rfl, rfl⟩ dX11_note_65 rfl (fun r9 σ9 h9 => ?_)
        have w9 := WX_trans w5 ((fun z => take_WX w5.1 z) h9)
        have tA := NT_take ivp hI_5 hv (by omega) sg (by omega) h9
        refine go_iconst (v := 4) (pc' := 69) dX11_note_68 rfl (by decide) ?_
        refine gz_icmp_ne (tgt := 89) (pc' := 72) dX11_note_69 rfl (by decide) (fun c10 => ?_) (fun c10 => ?_)
        · have nt : NTX (txN σ (a).toNatClampNeg) (σ.2 32 (a).toNatClampNeg).toNatClampNeg b.toInt ((x5_5).toNatClampNeg + 1) (x4_5).toInt σ9 := by
            first
            | exact tA.1 (by omega)
            | (have z := (tA.2 (by omega)).2 (by omega)
               rw [show (x4_5).toInt = (x4_5).toInt + 1 from by omega]
               exact z)
          refine gz_iinc (c := 1) (pc' := 92) dX11_note_89 rfl rfl (by decide) (by decide) (by decide) (by omega) (fun v11 h11 e11 => ?_)
          refine go_goto (tgt := 37) dX11_note_92 (by decide) ?_
          exact go_lv (lv' := [(0, .ref (L.2.1 0)), (1, .int a), (2, .int b), (3, .ref (L.2.1 (56 + (a).toNatClampNeg))), (4, .int x4_5), (5, .int v11)]) rfl (ih5 _ (by omega) σ9 x4_5 v11 w9 (by omega) (by have cv := cnat (x := v11) (by omega); rw [show (v11).toNatClampNeg = (x5_5).toNatClampNeg + 1 from by omega]; exact nt) rfl)
        refine go_iload (pc' := 74) dX11_note_72 rfl rfl ?_
        refine go_iload_n (i := 2) (pc' := 75) dX11_note_74 rfl rfl rfl ?_
        refine gz_icmp_ne (tgt := 86) (pc' := 78) dX11_note_75 rfl (by decide) (fun c12 => ?_) (fun c12 => ?_)
        · refine gz_iinc (c := 1) (pc' := 89) dX11_note_86 rfl rfl (by decide) (by decide) (by decide) (by omega) (fun v13 h13 e13 => ?_)
          have nt : NTX (txN σ (a).toNatClampNeg) (σ.2 32 (a).toNatClampNeg).toNatClampNeg b.toInt ((x5_5).toNatClampNeg + 1) (v13).toInt σ9 := by
            first
            | exact tA.1 (by omega)
            | (have z := (tA.2 (by omega)).2 (by omega)
               rw [show (v13).toInt = (x4_5).toInt + 1 from by omega]
               exact z)
          refine gz_iinc (c := 1) (pc' := 92) dX11_note_89 rfl rfl (by decide) (by decide) (by decide) (by omega) (fun v14 h14 e14 => ?_)
          refine go_goto (tgt := 37) dX11_note_92 (by decide) ?_
          exact go_lv (lv' := [(0, .ref (L.2.1 0)), (1, .int a), (2, .int b), (3, .ref (L.2.1 (56 + (a).toNatClampNeg))), (4, .int v13), (5, .int v14)]) rfl (ih5 _ (by omega) σ9 v13 v14 w9 (by omega) (by have cv := cnat (x := v14) (by omega); rw [show (v14).toNatClampNeg = (x5_5).toNatClampNeg + 1 from by omega]; exact nt) rfl)
        refine go_aload_n (i := 0) (pc' := 79) dX11_note_78 rfl rfl rfl ?_
        refine gf_0_reader (pc' := 82) dX11_note_79 rfl fl_X11_54 ?_
        refine gf_7_number (pc' := 85) dX11_note_82 rfl fl_X11_277 ?_
        exact go_iret dX11_note_85 rfl (⟨w9, Or.inr ⟨by omega, Or.inl ((tA.2 (by omega)).1 (by omega))⟩⟩)
    exact go_lv (lv' := [(0, .ref (L.2.1 0)), (1, .int a), (2, .int b), (3, .ref (L.2.1 (56 + (a).toNatClampNeg))), (4, .int (0 : Int32)), (5, .int (0 : Int32))]) rfl (loop37_5 _ σ4 (0 : Int32) (0 : Int32) w4 (by omega) (by rw [z0, n0]; exact NT_0 (by omega) hbg) rfl)
  refine go_bipush (v := (-2)) (pc' := 13) dX11_note_11 rfl (by decide) ?_
  exact go_iret dX11_note_13 rfl (⟨w0, Or.inl ⟨by omega, rfl⟩⟩)
set_option maxHeartbeats 4000000 in
set_option maxRecDepth 100000 in
theorem f_X12_note (l : Launch) (L : WL) (σ : ST) (a b : Int32) (ix : IV σ) (tv : TV σ) : CtI l L yX12_note cX12_note 7 (some .int) rm_X12_note [.ref (L.2.1 13), .int a, .int b] σ (fun r σ2 => tM_note σ a b r σ2) := by
  refine ctI_go (own := RX12) (by decide) rfl (Nat.le_of_ble_eq_true rfl) (fun F hF => ?_)
  subst hF
  have nm2 : (-2 : Int32).toInt = -2 := by decide
  have nm1 : (-1 : Int32).toInt = -1 := by decide
  have n0 : (0 : Int32).toInt = 0 := by decide
  have n1 : (1 : Int32).toInt = 1 := by decide
  have n2 : (2 : Int32).toInt = 2 := by decide
  have n10 : (10 : Int32).toInt = 10 := by decide
  have n48 : (48 : Int32).toInt = 48 := by decide
  have n110 : (110 : Int32).toInt = 110 := by decide
  have n123 : (123 : Int32).toInt = 123 := by decide
  have n160 : (160 : Int32).toInt = 160 := by decide
  have w0 : WM σ σ := WM_rfl ix
  have u19 := ixi_19 ix
  have u20 := ixi_20 ix
  have u21 := ixi_21 ix
  have u22 := ixi_22 ix
  have z0 : (0 : Int32).toNatClampNeg = 0 := rfl
  have lb := Int32.le_toInt b
  have rb := Int32.toInt_lt b
  refine go_aload_n (i := 0) (pc' := 1) dX12_note_0 rfl rfl rfl ?_
  refine go_iload_n (i := 1) (pc' := 2) dX12_note_1 rfl rfl rfl ?_
  refine go_cvi (pc' := 5) lk_X12_152 (c_X12_isLetter _ _ _ _) rfl rfl (Nat.le_of_ble_eq_true rfl) (by decide) rfl rfl rfl ⟨Nat.le_of_ble_eq_true rfl, Nat.le_of_ble_eq_true rfl⟩ ⟨rfl, rfl⟩ dX12_note_2 rfl (fun r1 σ1 h1 => ?_)
  obtain ⟨e1, h1⟩ := h1
  have e1 := e1.symm
  subst e1
  refine go_neB (tgt := 11) (pc' := 8) h1 dX12_note_5 rfl (by decide) (fun c2 => ?_) (fun c2 => ?_)
  · refine go_iload_n (i := 2) (pc' := 12) dX12_note_11 rfl rfl rfl ?_
    refine go_istore_n (i := 3) (pc' := 13) dX12_note_12 rfl rfl (by decide) ?_
    refine go_iconst (v := 0) (pc' := 14) dX12_note_13 rfl (by decide) ?_
    refine go_istore (pc' := 16) dX12_note_14 rfl (by decide) ?_
    have loop16_3 : ∀ (dd3 : Nat) (x3_3 : Int32) (x4_3 : Int32), (0 ≤ (x4_3).toInt ∧ (x4_3).toInt ≤ 160) → (0 ≤ b.toInt → (x3_3).toInt = b.toInt - (cntN (lrT σ (a).toNatClampNeg) (σ.2 109 (a).toNatClampNeg).toNatClampNeg (x4_3).toNatClampNeg : Int)) → (∀ k : Nat, k < (x4_3).toNatClampNeg → isN (lrT σ (a).toNatClampNeg) (σ.2 109 (a).toNatClampNeg).toNatClampNeg k → (cntN (lrT σ (a).toNatClampNeg) (σ.2 109 (a).toNatClampNeg).toNatClampNeg k : Int) ≠ b.toInt) → (160 - (x4_3).toInt).toNat = dd3 → Go F L RX12 cX12_note 7 rm_X12_note (some .int) (RI F L (fun r σ2 => tM_note σ a b r σ2)) σ 16 [(0, .ref (L.2.1 13)), (1, .int a), (2, .int b), (3, .int x3_3), (4, .int x4_3)] [] := by
      intro dd3
      induction dd3 using Nat.strongRecOn with
      | _ dd3 ih3 =>
        intro x3_3 x4_3 h_3 hl_3 hn_3 hm_3
        refine go_iload (pc' := 18) dX12_note_16 rfl rfl ?_
        have ck4 := cnat (x := x4_3) (by omega)
        have cle := cntN_le (lrT σ (a).toNatClampNeg) (σ.2 109 (a).toNatClampNeg).toNatClampNeg (x4_3).toNatClampNeg
        refine go_iconst (v := 1) (pc' := 19) dX12_note_18 rfl (by decide) ?_
        refine gz_iadd (pc' := 20) dX12_note_19 rfl (by omega) (fun v4 h4 e4 => ?_)
        refine go_aload_n (i := 0) (pc' := 21) dX12_note_20 rfl rfl rfl ?_
        refine gf_13_length (pc' := 24) dX12_note_21 rfl fl_X12_50 ?_
        refine go_iload_n (i := 1) (pc' := 25) dX12_note_24 rfl rfl rfl ?_
        refine go_iald (pc' := 26) dX12_note_25 rfl (by decide) (by decide) rfl (vin_of (n := 12) (by omega) (by omega)) ?_
        have g5 := ixa_109 ix (a).toNatClampNeg (vinlt (vin_of (n := 12) (by omega) (by omega)))
        have c109 : (((σ.2 109 (a).toNatClampNeg)).toNatClampNeg : Int) = ((σ.2 109 (a).toNatClampNeg)).toInt := cnat (by omega)
        refine gz_icmp_ge (tgt := 148) (pc' := 29) dX12_note_26 rfl (by decide) (fun c6 => ?_) (fun c6 => ?_)
        · refine go_iconst (v := (-1)) (pc' := 149) dX12_note_148 rfl (by decide) ?_
          exact go_iret dX12_note_149 rfl (⟨w0, Or.inr ⟨by omega, Or.inr ⟨fun k q => by have q1 := q.1; by_cases e : k < (x4_3).toNatClampNeg; exact hn_3 k e q; omega, rfl⟩⟩⟩)
        refine go_iload_n (i := 2) (pc' := 30) dX12_note_29 rfl rfl rfl ?_
        refine gz_if_lt (tgt := 148) (pc' := 33) dX12_note_30 rfl (by decide) (fun c7 => ?_) (fun c7 => ?_)
        · refine go_iconst (v := (-1)) (pc' := 149) dX12_note_148 rfl (by decide) ?_
          exact go_iret dX12_note_149 rfl (⟨w0, Or.inr ⟨by omega, Or.inr ⟨fun k q => by have q1 := q.1; by_cases e : k < (x4_3).toNatClampNeg; exact hn_3 k e q; omega, rfl⟩⟩⟩)
        refine go_aload_n (i := 0) (pc' := 34) dX12_note_33 rfl rfl rfl ?_
        refine gf_13_texts (pc' := 37) dX12_note_34 rfl fl_X12_53 ?_
        refine go_sipush (v := 160) (pc' := 40) dX12_note_37 rfl (by decide) ?_
        refine go_iload_n (i := 1) (pc' := 41) dX12_note_40 rfl rfl rfl ?_
        refine gz_imulc (n := 160) (pc' := 42) dX12_note_41 rfl (by decide) (by omega) (fun v8 h8 e8 => ?_)
        refine go_iload (pc' := 44) dX12_note_42 rfl rfl ?_
        refine gz_iadd (pc' := 45) dX12_note_44 rfl (by omega) (fun v9 h9 e9 => ?_)
        have ca := cnat (x := a) (by omega)
        have ez : (v9).toNatClampNeg = 160 * (a).toNatClampNeg + (x4_3).toNatClampNeg := by have cz := cnat (x := v9) (by omega); omega
        refine go_iald (pc' := 46) dX12_note_45 rfl (by decide) (by decide) rfl (vin_of (n := 1920) (by omega) (by omega)) ?_
        have g10 := ixa_110 ix (v9).toNatClampNeg (vinlt (vin_of (n := 1920) (by omega) (by omega)))
        have et0 : ((σ.2 110 (v9).toNatClampNeg)).toInt = (lrT σ (a).toNatClampNeg) (x4_3).toNatClampNeg := by rw [ez]; rfl
        refine go_bipush (v := 123) (pc' := 48) dX12_note_46 rfl (by decide) ?_
        refine gz_icmp_ne (tgt := 142) (pc' := 51) dX12_note_48 rfl (by decide) (fun c11 => ?_) (fun c11 => ?_)
        · have st : (0 ≤ b.toInt → (x3_3).toInt = b.toInt - (cntN (lrT σ (a).toNatClampNeg) (σ.2 109 (a).toNatClampNeg).toNatClampNeg ((x4_3).toNatClampNeg + 1) : Int)) ∧ ∀ k : Nat, k < (x4_3).toNatClampNeg + 1 → isN (lrT σ (a).toNatClampNeg) (σ.2 109 (a).toNatClampNeg).toNatClampNeg k → (cntN (lrT σ (a).toNatClampNeg) (σ.2 109 (a).toNatClampNeg).toNatClampNeg k : Int) ≠ b.toInt := by
            first
            | (have y1 := yk.1
               rw [cntN_y yk]
               have hl := hl_3 (by omega)
               refine ⟨fun _ => by omega, fun k hk q => ?_⟩
               by_cases e : k = (x4_3).toNatClampNeg
               · rw [e]
                 omega
               · exact hn_3 k (by omega) q)
            | (have nk : ¬ isN (lrT σ (a).toNatClampNeg) (σ.2 109 (a).toNatClampNeg).toNatClampNeg (x4_3).toNatClampNeg := by
                 intro q
                 have q1 := q.2.1
                 have q2 := q.2.2
                 omega
               rw [cntN_n nk]
               refine ⟨hl_3, fun k hk q => ?_⟩
               by_cases e : k = (x4_3).toNatClampNeg
               · rw [e] at q
                 exact absurd q nk
               · exact hn_3 k (by omega) q)
          refine gz_iinc (c := 1) (pc' := 145) dX12_note_142 rfl rfl (by decide) (by decide) (by decide) (by omega) (fun v12 h12 e12 => ?_)
          refine go_goto (tgt := 16) dX12_note_145 (by decide) ?_
          exact go_lv (lv' := [(0, .ref (L.2.1 13)), (1, .int a), (2, .int b), (3, .int x3_3), (4, .int v12)]) rfl (ih3 _ (by omega)  x3_3 v12 (by omega) (fun z => by have cv := cnat (x := v12) (by omega); rw [show (v12).toNatClampNeg = (x4_3).toNatClampNeg + 1 from by omega]; exact st.1 z) (by have cv := cnat (x := v12) (by omega); rw [show (v12).toNatClampNeg = (x4_3).toNatClampNeg + 1 from by omega]; exact st.2) rfl)
        refine go_aload_n (i := 0) (pc' := 52) dX12_note_51 rfl rfl rfl ?_
        refine gf_13_texts (pc' := 55) dX12_note_52 rfl fl_X12_53 ?_
        refine go_sipush (v := 160) (pc' := 58) dX12_note_55 rfl (by decide) ?_
        refine go_iload_n (i := 1) (pc' := 59) dX12_note_58 rfl rfl rfl ?_
        refine gz_imulc (n := 160) (pc' := 60) dX12_note_59 rfl (by decide) (by omega) (fun v13 h13 e13 => ?_)
        refine go_iload (pc' := 62) dX12_note_60 rfl rfl ?_
        refine gz_iadd (pc' := 63) dX12_note_62 rfl (by omega) (fun v14 h14 e14 => ?_)
        refine go_iconst (v := 1) (pc' := 64) dX12_note_63 rfl (by decide) ?_
        refine gz_iadd (pc' := 65) dX12_note_64 rfl (by omega) (fun v15 h15 e15 => ?_)
        have ez : (v15).toNatClampNeg = 160 * (a).toNatClampNeg + ((x4_3).toNatClampNeg + 1) := by have cz := cnat (x := v15) (by omega); omega
        refine go_iald (pc' := 66) dX12_note_65 rfl (by decide) (by decide) rfl (vin_of (n := 1920) (by omega) (by omega)) ?_
        have g16 := ixa_110 ix (v15).toNatClampNeg (vinlt (vin_of (n := 1920) (by omega) (by omega)))
        have et1 : ((σ.2 110 (v15).toNatClampNeg)).toInt = (lrT σ (a).toNatClampNeg) ((x4_3).toNatClampNeg + 1) := by rw [ez]; rfl
        refine go_bipush (v := 110) (pc' := 68) dX12_note_66 rfl (by decide) ?_
        refine gz_icmp_eq (tgt := 74) (pc' := 71) dX12_note_68 rfl (by decide) (fun c17 => ?_) (fun c17 => ?_)
        · have yk : isN (lrT σ (a).toNatClampNeg) (σ.2 109 (a).toNatClampNeg).toNatClampNeg (x4_3).toNatClampNeg := ⟨by omega, by omega, by omega⟩
          refine go_iload_n (i := 3) (pc' := 75) dX12_note_74 rfl rfl rfl ?_
          refine gz_if_ne (tgt := 139) (pc' := 78) dX12_note_75 rfl (by decide) (fun c18 => ?_) (fun c18 => ?_)
          · refine gz_iinc (c := (-1)) (pc' := 142) dX12_note_139 rfl rfl (by decide) (by decide) (by decide) (by omega) (fun v19 h19 e19 => ?_)
            have st : (0 ≤ b.toInt → (v19).toInt = b.toInt - (cntN (lrT σ (a).toNatClampNeg) (σ.2 109 (a).toNatClampNeg).toNatClampNeg ((x4_3).toNatClampNeg + 1) : Int)) ∧ ∀ k : Nat, k < (x4_3).toNatClampNeg + 1 → isN (lrT σ (a).toNatClampNeg) (σ.2 109 (a).toNatClampNeg).toNatClampNeg k → (cntN (lrT σ (a).toNatClampNeg) (σ.2 109 (a).toNatClampNeg).toNatClampNeg k : Int) ≠ b.toInt := by
              first
              | (have y1 := yk.1
                 rw [cntN_y yk]
                 have hl := hl_3 (by omega)
                 refine ⟨fun _ => by omega, fun k hk q => ?_⟩
                 by_cases e : k = (x4_3).toNatClampNeg
                 · rw [e]
                   omega
                 · exact hn_3 k (by omega) q)
              | (have nk : ¬ isN (lrT σ (a).toNatClampNeg) (σ.2 109 (a).toNatClampNeg).toNatClampNeg (x4_3).toNatClampNeg := by
                   intro q
                   have q1 := q.2.1
                   have q2 := q.2.2
                   omega
                 rw [cntN_n nk]
                 refine ⟨hl_3, fun k hk q => ?_⟩
                 by_cases e : k = (x4_3).toNatClampNeg
                 · rw [e] at q
                   exact absurd q nk
                 · exact hn_3 k (by omega) q)
            refine gz_iinc (c := 1) (pc' := 145) dX12_note_142 rfl rfl (by decide) (by decide) (by decide) (by omega) (fun v20 h20 e20 => ?_)
            refine go_goto (tgt := 16) dX12_note_145 (by decide) ?_
            exact go_lv (lv' := [(0, .ref (L.2.1 13)), (1, .int a), (2, .int b), (3, .int v19), (4, .int v20)]) rfl (ih3 _ (by omega)  v19 v20 (by omega) (fun z => by have cv := cnat (x := v20) (by omega); rw [show (v20).toNatClampNeg = (x4_3).toNatClampNeg + 1 from by omega]; exact st.1 z) (by have cv := cnat (x := v20) (by omega); rw [show (v20).toNatClampNeg = (x4_3).toNatClampNeg + 1 from by omega]; exact st.2) rfl)
          have tn := tk_note (t := (lrT σ (a).toNatClampNeg)) (n := (σ.2 109 (a).toNatClampNeg).toNatClampNeg) (k := (x4_3).toNatClampNeg) yk.1 yk.2.1 yk.2.2 (x4_3).toNatClampNeg 0 0 200 _ (by omega) (tv (a).toNatClampNeg (by omega))
          have hJ := dcnt_le (lrT σ (a).toNatClampNeg) (σ.2 109 (a).toNatClampNeg).toNatClampNeg 4 ((x4_3).toNatClampNeg + 2)
          refine go_iconst (v := 0) (pc' := 79) dX12_note_78 rfl (by decide) ?_
          refine go_istore (pc' := 81) dX12_note_79 rfl (by decide) ?_
          refine go_iload (pc' := 83) dX12_note_81 rfl rfl ?_
          refine go_iconst (v := 2) (pc' := 84) dX12_note_83 rfl (by decide) ?_
          refine gz_iadd (pc' := 85) dX12_note_84 rfl (by omega) (fun v21 h21 e21 => ?_)
          refine go_istore (pc' := 87) dX12_note_85 rfl (by decide) ?_
          have loop87_22 : ∀ (dd22 : Nat) (x5_22 : Int32) (x6_22 : Int32), (0 ≤ (x6_22).toInt ∧ (x4_3).toNatClampNeg + 2 ≤ (x6_22).toNatClampNeg ∧ (x6_22).toNatClampNeg ≤ (x4_3).toNatClampNeg + 2 + dcnt (lrT σ (a).toNatClampNeg) (σ.2 109 (a).toNatClampNeg).toNatClampNeg 4 ((x4_3).toNatClampNeg + 2)) → ((x5_22).toInt = nval (lrT σ (a).toNatClampNeg) ((x4_3).toNatClampNeg + 2) ((x6_22).toNatClampNeg - ((x4_3).toNatClampNeg + 2))) → (200 - (x6_22).toInt).toNat = dd22 → Go F L RX12 cX12_note 7 rm_X12_note (some .int) (RI F L (fun r σ2 => tM_note σ a b r σ2)) σ 87 [(0, .ref (L.2.1 13)), (1, .int a), (2, .int b), (3, .int x3_3), (4, .int x4_3), (5, .int x5_22), (6, .int x6_22)] [] := by
            intro dd22
            induction dd22 using Nat.strongRecOn with
            | _ dd22 ih22 =>
              intro x5_22 x6_22 h_22 hv_22 hm_22
              have c6 := cnat (x := x6_22) (by omega)
              have rg := nval_rng (t := (lrT σ (a).toNatClampNeg)) (p := (x4_3).toNatClampNeg + 2) (j := (x6_22).toNatClampNeg - ((x4_3).toNatClampNeg + 2)) (fun i hi => (dcnt_dig (show i < dcnt (lrT σ (a).toNatClampNeg) (σ.2 109 (a).toNatClampNeg).toNatClampNeg 4 ((x4_3).toNatClampNeg + 2) by omega)).2) (by omega)
              refine go_aload_n (i := 0) (pc' := 88) dX12_note_87 rfl rfl rfl ?_
              refine gf_13_texts (pc' := 91) dX12_note_88 rfl fl_X12_53 ?_
              refine go_sipush (v := 160) (pc' := 94) dX12_note_91 rfl (by decide) ?_
              refine go_iload_n (i := 1) (pc' := 95) dX12_note_94 rfl rfl rfl ?_
              refine gz_imulc (n := 160) (pc' := 96) dX12_note_95 rfl (by decide) (by omega) (fun v23 h23 e23 => ?_)
              refine go_iload (pc' := 98) dX12_note_96 rfl rfl ?_
              refine gz_iadd (pc' := 99) dX12_note_98 rfl (by omega) (fun v24 h24 e24 => ?_)
              have ez : (v24).toNatClampNeg = 160 * (a).toNatClampNeg + (x6_22).toNatClampNeg := by have cz := cnat (x := v24) (by omega); omega
              refine go_iald (pc' := 100) dX12_note_99 rfl (by decide) (by decide) rfl (vin_of (n := 1920) (by omega) (by omega)) ?_
              have g25 := ixa_110 ix (v24).toNatClampNeg (vinlt (vin_of (n := 1920) (by omega) (by omega)))
              have et6 : ((σ.2 110 (v24).toNatClampNeg)).toInt = (lrT σ (a).toNatClampNeg) (x6_22).toNatClampNeg := by rw [ez]; rfl
              refine go_csi (pc' := 103) ls_X12_221 (c_X12_isDigit _ _ _ _) rfl rfl (Nat.le_of_ble_eq_true rfl) ⟨Nat.le_of_ble_eq_true rfl, Nat.le_of_ble_eq_true rfl⟩ ⟨rfl, rfl⟩ dX12_note_100 rfl (fun r26 σ26 h26 => ?_)
              obtain ⟨e26, h26⟩ := h26
              have e26 := e26.symm
              subst e26
              refine go_eqB (tgt := 136) (pc' := 106) h26 dX12_note_103 rfl (by decide) (fun c27 => ?_) (fun c27 => ?_)
              · have eD := dg_stop (t := (lrT σ (a).toNatClampNeg)) (n := (σ.2 109 (a).toNatClampNeg).toNatClampNeg) (i := (x4_3).toNatClampNeg + 2) (A := (x6_22).toNatClampNeg) et6 c27 (by omega) (by omega)
                refine go_iload (pc' := 138) dX12_note_136 rfl rfl ?_
                exact go_iret dX12_note_138 rfl (⟨w0, Or.inr ⟨by omega, Or.inl ⟨(x4_3).toNatClampNeg, yk, by have hl := hl_3 (by omega); omega, by rw [hv_22, show (x6_22).toNatClampNeg - ((x4_3).toNatClampNeg + 2) = dcnt (lrT σ (a).toNatClampNeg) (σ.2 109 (a).toNatClampNeg).toNatClampNeg 4 ((x4_3).toNatClampNeg + 2) from by omega]⟩⟩⟩)
              have lt := dg_more (t := (lrT σ (a).toNatClampNeg)) (n := (σ.2 109 (a).toNatClampNeg).toNatClampNeg) (i := (x4_3).toNatClampNeg + 2) (A := (x6_22).toNatClampNeg) et6 c27 (by rw [tn.2.2]; decide) (by omega) (by omega)
              refine go_bipush (v := 10) (pc' := 108) dX12_note_106 rfl (by decide) ?_
              refine go_iload (pc' := 110) dX12_note_108 rfl rfl ?_
              refine gz_imulc (n := 10) (pc' := 111) dX12_note_110 rfl (by decide) (by omega) (fun v28 h28 e28 => ?_)
              refine go_aload_n (i := 0) (pc' := 112) dX12_note_111 rfl rfl rfl ?_
              refine gf_13_texts (pc' := 115) dX12_note_112 rfl fl_X12_53 ?_
              refine go_sipush (v := 160) (pc' := 118) dX12_note_115 rfl (by decide) ?_
              refine go_iload_n (i := 1) (pc' := 119) dX12_note_118 rfl rfl rfl ?_
              refine gz_imulc (n := 160) (pc' := 120) dX12_note_119 rfl (by decide) (by omega) (fun v29 h29 e29 => ?_)
              refine go_iload (pc' := 122) dX12_note_120 rfl rfl ?_
              refine gz_iadd (pc' := 123) dX12_note_122 rfl (by omega) (fun v30 h30 e30 => ?_)
              have ez2 : (v30).toNatClampNeg = 160 * (a).toNatClampNeg + (x6_22).toNatClampNeg := by have cz := cnat (x := v30) (by omega); omega
              refine go_iald (pc' := 124) dX12_note_123 rfl (by decide) (by decide) rfl (vin_of (n := 1920) (by omega) (by omega)) ?_
              have g31 := ixa_110 ix (v30).toNatClampNeg (vinlt (vin_of (n := 1920) (by omega) (by omega)))
              have et7 : ((σ.2 110 (v30).toNatClampNeg)).toInt = (lrT σ (a).toNatClampNeg) (x6_22).toNatClampNeg := by rw [ez2]; rfl
              refine gz_iadd (pc' := 125) dX12_note_124 rfl (by omega) (fun v32 h32 e32 => ?_)
              refine go_bipush (v := 48) (pc' := 127) dX12_note_125 rfl (by decide) ?_
              refine gz_isub (pc' := 128) dX12_note_127 rfl (by omega) (fun v33 h33 e33 => ?_)
              refine go_istore (pc' := 130) dX12_note_128 rfl (by decide) ?_
              refine gz_iinc (c := 1) (pc' := 133) dX12_note_130 rfl rfl (by decide) (by decide) (by decide) (by omega) (fun v34 h34 e34 => ?_)
              refine go_goto (tgt := 87) dX12_note_133 (by decide) ?_
              exact go_lv (lv' := [(0, .ref (L.2.1 13)), (1, .int a), (2, .int b), (3, .int x3_3), (4, .int x4_3), (5, .int v33), (6, .int v34)]) rfl (ih22 _ (by omega)  v33 v34 (by have c6v := cnat (x := v34) (by omega); omega) (by have c6v := cnat (x := v34) (by omega); rw [nvl_step (show (v34).toNatClampNeg - ((x4_3).toNatClampNeg + 2) = ((x6_22).toNatClampNeg - ((x4_3).toNatClampNeg + 2)) + 1 from by omega), show (x4_3).toNatClampNeg + 2 + ((x6_22).toNatClampNeg - ((x4_3).toNatClampNeg + 2)) = (x6_22).toNatClampNeg from by omega]; omega) rfl)
          exact go_lv (lv' := [(0, .ref (L.2.1 13)), (1, .int a), (2, .int b), (3, .int x3_3), (4, .int x4_3), (5, .int (0 : Int32)), (6, .int v21)]) rfl (loop87_22 _  (0 : Int32) v21 (by have c6v := cnat (x := v21) (by omega); omega) (by have c6v := cnat (x := v21) (by omega); rw [show (v21).toNatClampNeg - ((x4_3).toNatClampNeg + 2) = 0 from by omega]; exact n0) rfl)
        refine go_goto (tgt := 142) dX12_note_71 (by decide) ?_
        have st : (0 ≤ b.toInt → (x3_3).toInt = b.toInt - (cntN (lrT σ (a).toNatClampNeg) (σ.2 109 (a).toNatClampNeg).toNatClampNeg ((x4_3).toNatClampNeg + 1) : Int)) ∧ ∀ k : Nat, k < (x4_3).toNatClampNeg + 1 → isN (lrT σ (a).toNatClampNeg) (σ.2 109 (a).toNatClampNeg).toNatClampNeg k → (cntN (lrT σ (a).toNatClampNeg) (σ.2 109 (a).toNatClampNeg).toNatClampNeg k : Int) ≠ b.toInt := by
          first
          | (have y1 := yk.1
             rw [cntN_y yk]
             have hl := hl_3 (by omega)
             refine ⟨fun _ => by omega, fun k hk q => ?_⟩
             by_cases e : k = (x4_3).toNatClampNeg
             · rw [e]
               omega
             · exact hn_3 k (by omega) q)
          | (have nk : ¬ isN (lrT σ (a).toNatClampNeg) (σ.2 109 (a).toNatClampNeg).toNatClampNeg (x4_3).toNatClampNeg := by
               intro q
               have q1 := q.2.1
               have q2 := q.2.2
               omega
             rw [cntN_n nk]
             refine ⟨hl_3, fun k hk q => ?_⟩
             by_cases e : k = (x4_3).toNatClampNeg
             · rw [e] at q
               exact absurd q nk
             · exact hn_3 k (by omega) q)
        refine gz_iinc (c := 1) (pc' := 145) dX12_note_142 rfl rfl (by decide) (by decide) (by decide) (by omega) (fun v35 h35 e35 => ?_)
        refine go_goto (tgt := 16) dX12_note_145 (by decide) ?_
        exact go_lv (lv' := [(0, .ref (L.2.1 13)), (1, .int a), (2, .int b), (3, .int x3_3), (4, .int v35)]) rfl (ih3 _ (by omega)  x3_3 v35 (by omega) (fun z => by have cv := cnat (x := v35) (by omega); rw [show (v35).toNatClampNeg = (x4_3).toNatClampNeg + 1 from by omega]; exact st.1 z) (by have cv := cnat (x := v35) (by omega); rw [show (v35).toNatClampNeg = (x4_3).toNatClampNeg + 1 from by omega]; exact st.2) rfl)
    exact go_lv (lv' := [(0, .ref (L.2.1 13)), (1, .int a), (2, .int b), (3, .int b), (4, .int (0 : Int32))]) rfl (loop16_3 _  b (0 : Int32) (by omega) (fun _ => by rw [z0]; show b.toInt = b.toInt - ((0 : Nat) : Int); omega) (fun k hk => by exfalso; rw [z0] at hk; omega) rfl)
  refine go_bipush (v := (-2)) (pc' := 10) dX12_note_8 rfl (by decide) ?_
  exact go_iret dX12_note_10 rfl (⟨w0, Or.inl ⟨by omega, rfl⟩⟩)
theorem TVN_of {σ : ST} (tv : TV σ) (rt : RT σ) : TVN σ := fun l hl => by
  have z := tv l hl
  have e := (rt.2.2.1 l hl).1
  unfold VT at z ⊢
  rw [e]
  rw [← z]
  refine tk_congr (fun j hj => ?_) _ _ _ _
  unfold txN lrT
  rw [rt.2.2.2.1 l j hl (by have z : (σ.2 109 l).toNatClampNeg = (σ.2 109 l).toInt.toNat := rfl; omega)]
theorem t_note {σ σ1 σ2 : ST} {a i r1 r2 : Int32} (h : INVT σ) (s : tX_note σ a i r1 σ1) (m : tM_note σ1 a i r2 σ2) : INVT σ2 ∧ r1 = r2 := by
  have h1 := INVT_WX h s.1
  have h2 := INVT_WM h1 m.1
  refine ⟨h2, ?_⟩
  have i3 := congrArg Int32.toInt h.1.2.2.2.2.1
  have g3 := ixi_3 h.1.1
  have e20 := congrArg Int32.toInt (s.1.2.1 20 (by decide))
  rcases s.2 with ⟨c, y⟩ | ⟨c, y⟩ <;> rcases m.2 with ⟨d, z⟩ | ⟨d, z⟩
  · exact y.trans z.symm
  · exfalso
    omega
  · exfalso
    omega
  · have ca := cnat c.1
    have rt := h.2.2
    have e := (rt.2.2.1 a.toNatClampNeg (by omega)).1
    have el : lrT σ1 a.toNatClampNeg = lrT σ a.toNatClampNeg := by
      unfold lrT
      rw [s.1.2.2 110 (by decide)]
    rw [el, s.1.2.2 109 (by decide), ← e] at z
    refine nteP_one (nteP_cg (fun j hj => ?_) y) z
    unfold txN lrT
    rw [rt.2.2.2.1 _ j (by omega) (by have q : (σ.2 32 a.toNatClampNeg).toNatClampNeg = (σ.2 32 a.toNatClampNeg).toInt.toNat := rfl; rw [← e]; omega)]
