theorem open_WX {s s2 : ST} {r : Int32} (iv : IV s) (h : sX_open s r s2) : WX s s2 := by
  have u7 := ixi_7 iv
  rcases h with ⟨c, -, f⟩ | ⟨c, -, f⟩
  · rw [f]
    exact ⟨ixs_n iv (by decide), Ag_setI (Ag_rfl s) (by decide)⟩
  · have p := inc1 (x := s.1 7) (by omega)
    rw [f]
    exact ⟨ixs_n (ixs_7 (ixt_n iv (by decide)) (by omega) (by omega)) (by decide), Ag_setI (Ag_setI (Ag_setA (Ag_rfl s) (by decide)) (by decide)) (by decide)⟩
theorem take_WX {s s2 : ST} {g p r : Int32} (iv : IV s) (h : sX_take s g p r s2) : WX s s2 := by
  have u7 := ixi_7 iv
  rcases h with ⟨-, h⟩ | ⟨-, h⟩ | ⟨-, -, h⟩
  · rcases h with ⟨-, -, f⟩ | ⟨-, -, -, f⟩ | ⟨-, -, -, -, f⟩ | ⟨-, -, -, z⟩
    · rw [f]
      exact ⟨ixs_n iv (by decide), Ag_setI (Ag_rfl s) (by decide)⟩
    · rw [f]
      exact ⟨ixs_n iv (by decide), Ag_setI (Ag_rfl s) (by decide)⟩
    · rw [f]
      exact ⟨ixs_n (ixs_n (ixs_n (ixs_n iv (by decide)) (by decide)) (by decide)) (by decide), Ag_setI (Ag_setI (Ag_setI (Ag_setI (Ag_rfl s) (by decide)) (by decide)) (by decide)) (by decide)⟩
    · exact WX_trans (σ2 := setI s 8 g) ⟨ixs_n iv (by decide), Ag_setI (Ag_rfl s) (by decide)⟩ (open_WX (ixs_n iv (by decide)) z)
  · rcases h with ⟨-, -, f⟩ | ⟨-, -, -, f⟩ | ⟨-, -, -, -, z⟩ | ⟨-, -, -, -, -, f⟩
    · rw [f]
      exact ⟨ixs_n (ixs_n iv (by decide)) (by decide), Ag_setI (Ag_setI (Ag_rfl s) (by decide)) (by decide)⟩
    · rw [f]
      exact ⟨ixs_n iv (by decide), Ag_setI (Ag_rfl s) (by decide)⟩
    · exact open_WX iv z
    · rw [f]
      exact ⟨ixs_n iv (by decide), Ag_setI (Ag_rfl s) (by decide)⟩
  · rcases h with ⟨-, -, f⟩ | ⟨c, -, f⟩ | ⟨-, -, f⟩ | ⟨-, -, f⟩
    · rw [f]
      exact WX_rfl iv
    · have p := dec1 (x := s.1 7) (by omega)
      rw [f]
      exact ⟨ixs_n (ixs_7 iv (by omega) (by omega)) (by decide), Ag_setI (Ag_setI (Ag_rfl s) (by decide)) (by decide)⟩
    · rw [f]
      exact ⟨ixs_n (ixs_n iv (by decide)) (by decide), Ag_setI (Ag_setI (Ag_rfl s) (by decide)) (by decide)⟩
    · rw [f]
      exact ⟨ixs_n iv (by decide), Ag_setI (Ag_rfl s) (by decide)⟩
/-- the class's tape, as signs -/
def tpX (σ : ST) : Nat → Int := fun j => (σ.2 43 j &&& 255).toInt
/-- at k stands a note to a LETTER that is not there -/
def cnd2 (T : Nat → Int) (n : Nat) (L : Int) (k : Nat) : Prop := k + 1 < n ∧ T k = 123 ∧ T (k + 1) = 110 ∧ L ≤ nval T (k + 2) (dcnt T n 4 (k + 2))
/-- of the places below m: kind and place of the first fault of kind 2 -/
def FSX (T : Nat → Int) (n : Nat) (L : Int) (m : Nat) (kd pl : Int) : Prop := (kd = 0 ∧ pl = -1 ∧ ∀ k : Nat, k < m → ¬ cnd2 T n L k) ∨ (kd = 2 ∧ ∃ q : Nat, pl = (q : Int) ∧ q < m ∧ cnd2 T n L q ∧ ∀ k : Nat, k < q → ¬ cnd2 T n L k)
theorem FSX_up {T : Nat → Int} {n : Nat} {L : Int} {m m2 : Nat} {kd pl : Int} (h : FSX T n L m kd pl) (hm : m ≤ m2) (hn : ∀ k : Nat, m ≤ k → k < m2 → ¬ cnd2 T n L k) : FSX T n L m2 kd pl := by
  rcases h with ⟨a, b, c⟩ | ⟨a, q, b, c, d, e⟩
  · exact Or.inl ⟨a, b, fun k hk => by
      by_cases z : k < m
      · exact c k z
      · exact hn k (by omega) hk⟩
  · exact Or.inr ⟨a, q, b, by omega, d, e⟩
/-- kind and place of a tape's fault -/
def FLT (T : Nat → Int) (n : Nat) (L : Int) (kd pl : Int) : Prop := (0 ≤ tk T n 200 0 0 (fun _ => 0) ∧ kd = 1 ∧ pl = tk T n 200 0 0 (fun _ => 0)) ∨ (tk T n 200 0 0 (fun _ => 0) = -1 ∧ FSX T n L n kd pl)
theorem FLT_one {T : Nat → Int} {n : Nat} {L k1 p1 k2 p2 : Int} (h : FLT T n L k1 p1) (g : FLT T n L k2 p2) : k1 = k2 ∧ p1 = p2 := by
  rcases h with ⟨a, b, c⟩ | ⟨a, h⟩ <;> rcases g with ⟨d, e, f⟩ | ⟨d, g⟩
  · exact ⟨by omega, by omega⟩
  · omega
  · omega
  · rcases h with ⟨b, c, e⟩ | ⟨b, q, c, e, f, i⟩ <;> rcases g with ⟨b2, c2, e2⟩ | ⟨b2, q2, c2, e2, f2, i2⟩
    · exact ⟨by omega, by omega⟩
    · exact absurd f2 (e q2 e2)
    · exact absurd f (e2 q e)
    · have : q = q2 := by
        rcases Nat.lt_trichotomy q q2 with z | z | z
        · exact absurd f (i2 q z)
        · exact z
        · exact absurd f2 (i q2 z)
      subst this
      exact ⟨by omega, by omega⟩
theorem FLT_congr {T T2 : Nat → Int} {n : Nat} {L kd pl : Int} (e : ∀ j : Nat, j < n → T j = T2 j) (h : FLT T n L kd pl) : FLT T2 n L kd pl := by
  have ek : tk T n 200 0 0 (fun _ => 0) = tk T2 n 200 0 0 (fun _ => 0) := tk_congr e _ _ _ _
  have ev : ∀ p j : Nat, p + j ≤ n → nval T p j = nval T2 p j := fun p j => by
    induction j with
    | zero => exact fun _ => rfl
    | succ j ih =>
      intro hj
      simp only [nval]
      rw [ih (by omega), e (p + j) (by omega)]
  have dl : ∀ p : Nat, p ≤ n → p + dcnt T2 n 4 p ≤ n := fun p hp => by
    by_cases z : dcnt T2 n 4 p = 0
    · omega
    · have := (dcnt_dig (t := T2) (n := n) (k := 4) (i := p) (j := dcnt T2 n 4 p - 1) (by omega)).1
      omega
  have ec : ∀ k : Nat, cnd2 T n L k ↔ cnd2 T2 n L k := fun k => by
    unfold cnd2
    by_cases z : k + 1 < n
    · rw [e k (by omega), e (k + 1) z, dcnt_congr e, ev (k + 2) _ (dl (k + 2) (by omega))]
    · constructor
      · intro q
        exact absurd q.1 z
      · intro q
        exact absurd q.1 z
  unfold FLT FSX at h ⊢
  rw [← ek]
  simp only [← ec]
  exact h
theorem AUT_le {T : Nat → Int} {n i q : Nat} {s : ST} (h : AUT T n i q s) : q ≤ i := by
  obtain ⟨-, ⟨-, e⟩ | ⟨-, ⟨-, e⟩ | ⟨-, -, -, -, -, -, g, -, -, e, -⟩⟩⟩ := h
  · exact Nat.le_of_eq e
  · rw [e]
    exact Nat.le_succ q
  · rw [e]
    exact Nat.le_trans (Nat.le_add_right q 2) (Nat.le_add_right _ g)
def HAX (T : Nat → Int) (n : Nat) (L : Int) (i : Nat) (s : ST) : Prop := ∃ q : Nat, q ≤ i ∧ AUT T n i q s ∧ FSX T n L q (s.1 0).toInt (s.1 1).toInt
theorem ex_stop {T : Nat → Int} {n : Nat} {L kd pl : Int} (h1 : kd = 1) (h2 : pl = tk T n 200 0 0 (fun _ => 0)) (h3 : 0 ≤ pl) : FLT T n L kd pl := Or.inl ⟨by omega, h1, h2⟩
/-- scratch and the faults of the class have changed -/
abbrev seI (i : Nat) : Prop := i = 0 ∨ i = 1 ∨ sxI i
def WXe (σ σ2 : ST) : Prop := IV σ2 ∧ Ag seI sxA σ σ2
theorem WXe_rfl {σ : ST} (h : IV σ) : WXe σ σ := ⟨h, Ag_rfl σ⟩
theorem WXe_trans {σ σ2 σ3 : ST} (h : WXe σ σ2) (h2 : WXe σ2 σ3) : WXe σ σ3 := ⟨h2.1, Ag_trans h.2 h2.2⟩
theorem WXe_of {σ σ2 : ST} (h : WX σ σ2) : WXe σ σ2 := ⟨h.1, ⟨fun i hi => h.2.1 i (fun q => hi (Or.inr (Or.inr q))), fun k hk => h.2.2 k hk⟩⟩
theorem WXt_ofe {σ σ2 : ST} (h : WXe σ σ2) : WXt σ σ2 := ⟨h.1, ⟨fun i hi => h.2.1 i (fun q => hi (by rcases q with q | q | q; exact Or.inl q; exact Or.inr (Or.inl q); exact Or.inr (Or.inr (Or.inr q)))), fun k hk => h.2.2 k (fun q => hk (Or.inr (Or.inr q)))⟩⟩
theorem begin_WX {s s2 : ST} (iv : IV s) (h : s2 = setI (setI s 7 0) 12 0) : WX s s2 := by
  have v0 : (0 : Int32).toInt = 0 := by decide
  rw [h]
  exact ⟨ixs_n (ixs_7 iv (by omega) (by omega)) (by decide), Ag_setI (Ag_setI (Ag_rfl s) (by decide)) (by decide)⟩
/-- the reader is as it was -/
def RK (s s2 : ST) : Prop := s2.1 7 = s.1 7 ∧ s2.1 8 = s.1 8 ∧ s2.1 9 = s.1 9 ∧ s2.1 10 = s.1 10 ∧ s2.1 11 = s.1 11 ∧ s2.1 12 = s.1 12 ∧ s2.1 13 = s.1 13 ∧ s2.2 44 = s.2 44
theorem AUT_e {T : Nat → Int} {n i q : Nat} {s s2 : ST} (e : RK s s2) (h : AUT T n i q s) : AUT T n i q s2 := by
  obtain ⟨e7, e8, e9, e10, -, e12, e13, e44⟩ := e
  unfold AUT
  rw [e7, e8, e9, e10, e12, e13, e44]
  exact h
theorem FSX_two {T : Nat → Int} {n : Nat} {L : Int} {m m2 : Nat} {kd pl : Int} (h : FSX T n L m kd pl) (hm : m ≤ m2) (hk : kd ≠ 0) : FSX T n L m2 kd pl := by
  rcases h with ⟨a, -⟩ | ⟨a, q, b, c, d, e⟩
  · exact absurd a hk
  · exact Or.inr ⟨a, q, b, by omega, d, e⟩
theorem FSX_new {T : Nat → Int} {n : Nat} {L : Int} {m m2 : Nat} {kd pl kd2 pl2 : Int} (h : FSX T n L m kd pl) (hm : m < m2) (hk : kd = 0) (hc : cnd2 T n L m) (h2 : kd2 = 2) (h3 : pl2 = (m : Int)) : FSX T n L m2 kd2 pl2 := by
  rcases h with ⟨-, -, a⟩ | ⟨a, -⟩
  · exact Or.inr ⟨h2, m, h3, hm, hc, a⟩
  · omega
set_option maxHeartbeats 4000000 in
set_option maxRecDepth 100000 in
theorem e_X3_begin (l : Launch) (L : WL) (σ : ST)  (ix : IV σ) : CtV l L yX3_begin cX3_begin 1 none rm_X3_begin [.ref (L.2.1 7)] σ (fun σ2 => σ2 = setI (setI σ 7 0) 12 0) := by
  refine ctV_go (own := RX3) (by decide) rfl (Nat.le_of_ble_eq_true rfl) (fun F hF => ?_)
  subst hF
  have n0 : (0 : Int32).toInt = 0 := by decide
  have w0 : WX σ σ := WX_rfl ix
  refine go_aload_n (i := 0) (pc' := 1) dX3_begin_0 rfl rfl rfl ?_
  refine go_iconst (v := 0) (pc' := 2) dX3_begin_1 rfl (by decide) ?_
  refine pf_7_depth (pc' := 5) dX3_begin_2 rfl fl_X3_7 ?_
  refine go_aload_n (i := 0) (pc' := 6) dX3_begin_5 rfl rfl rfl ?_
  refine go_iconst (v := 0) (pc' := 7) dX3_begin_6 rfl (by decide) ?_
  refine pf_7_state (pc' := 10) dX3_begin_7 rfl fl_X3_29 ?_
  exact go_vret dX3_begin_10 rfl (rfl)
set_option maxHeartbeats 4000000 in
set_option maxRecDepth 100000 in
theorem e_X3_isWhole (l : Launch) (L : WL) (σ : ST)  (ix : IV σ) : CtI l L yX3_isWhole cX3_isWhole 1 (some .boolean) rm_X3_isWhole [.ref (L.2.1 7)] σ (fun r σ2 => σ2 = σ ∧ bq (σ.1 12 = 0 ∧ (σ.1 7).toInt = 0) r) := by
  refine ctI_go (own := RX3) (by decide) rfl (Nat.le_of_ble_eq_true rfl) (fun F hF => ?_)
  subst hF
  have n0 : (0 : Int32).toInt = 0 := by decide
  have n1 : (1 : Int32).toInt = 1 := by decide
  have w0 : WX σ σ := WX_rfl ix
  have v0 : (0 : Int32).toInt = 0 := by decide
  refine go_aload_n (i := 0) (pc' := 1) dX3_isWhole_0 rfl rfl rfl ?_
  refine gf_7_state (pc' := 4) dX3_isWhole_1 rfl fl_X3_29 ?_
  refine gz_if_ne (tgt := 18) (pc' := 7) dX3_isWhole_4 rfl (by decide) (fun c1 => ?_) (fun c1 => ?_)
  · refine go_iconst (v := 0) (pc' := 19) dX3_isWhole_18 rfl (by decide) ?_
    exact go_zret dX3_isWhole_19 rfl rfl (⟨rfl, by first | exact bq_t ⟨Int32.toInt_inj.mp (by omega), by omega⟩ | exact bq_f (fun q => by have z := congrArg Int32.toInt q.1; omega)⟩)
  refine go_aload_n (i := 0) (pc' := 8) dX3_isWhole_7 rfl rfl rfl ?_
  refine gf_7_depth (pc' := 11) dX3_isWhole_8 rfl fl_X3_7 ?_
  have g2 := ixi_7 w0.1
  refine gz_if_ne (tgt := 18) (pc' := 14) dX3_isWhole_11 rfl (by decide) (fun c3 => ?_) (fun c3 => ?_)
  · refine go_iconst (v := 0) (pc' := 19) dX3_isWhole_18 rfl (by decide) ?_
    exact go_zret dX3_isWhole_19 rfl rfl (⟨rfl, by first | exact bq_t ⟨Int32.toInt_inj.mp (by omega), by omega⟩ | exact bq_f (fun q => by have z := congrArg Int32.toInt q.1; omega)⟩)
  refine go_iconst (v := 1) (pc' := 15) dX3_isWhole_14 rfl (by decide) ?_
  refine go_goto (tgt := 19) dX3_isWhole_15 (by decide) ?_
  exact go_zret dX3_isWhole_19 rfl rfl (⟨rfl, by first | exact bq_t ⟨Int32.toInt_inj.mp (by omega), by omega⟩ | exact bq_f (fun q => by have z := congrArg Int32.toInt q.1; omega)⟩)
set_option maxHeartbeats 4000000 in
set_option maxRecDepth 100000 in
theorem f_X11_examineTape (l : Launch) (L : WL) (σ : ST)  (ix : IV σ) : CtV l L yX11_examineTape cX11_examineTape 3 none rm_X11_examineTape [.ref (L.2.1 0)] σ (fun σ2 => (WXe σ σ2 ∧ σ2.1 6 = σ.1 6) ∧ FLT (tpX σ) (σ.1 6).toNatClampNeg (σ.1 3).toInt (σ2.1 0).toInt (σ2.1 1).toInt) := by
  refine ctV_go (own := RX11) (by decide) rfl (Nat.le_of_ble_eq_true rfl) (fun F hF => ?_)
  subst hF
  have nm1 : (-1 : Int32).toInt = -1 := by decide
  have n0 : (0 : Int32).toInt = 0 := by decide
  have n1 : (1 : Int32).toInt = 1 := by decide
  have n2 : (2 : Int32).toInt = 2 := by decide
  have n4 : (4 : Int32).toInt = 4 := by decide
  have n5 : (5 : Int32).toInt = 5 := by decide
  have n255 : (255 : Int32).toInt = 255 := by decide
  have w0 : WXe σ σ := WXe_rfl ix
  have u6 := ixi_6 ix
  have c6 := cnat (x := σ.1 6) (by omega)
  have v0 : (0 : Int32).toInt = 0 := by decide
  refine go_aload_n (i := 0) (pc' := 1) dX11_examineTape_0 rfl rfl rfl ?_
  refine go_iconst (v := 0) (pc' := 2) dX11_examineTape_1 rfl (by decide) ?_
  refine pf_0_faultKind (pc' := 5) dX11_examineTape_2 rfl fl_X11_89 ?_
  refine go_gen (P := fun s => WXe σ s ∧ s.1 6 = σ.1 6 ∧ s.1 0 = (0 : Int32)) ⟨⟨ixs_n w0.1 (by decide), Ag_setI w0.2 (by decide)⟩, ⟨rfl, setI_same _ _ _⟩⟩ (fun σ1 z1 => ?_)
  obtain ⟨w1, g1⟩ := z1
  have gA := g1
  refine go_aload_n (i := 0) (pc' := 6) dX11_examineTape_5 rfl rfl rfl ?_
  refine go_iconst (v := (-1)) (pc' := 7) dX11_examineTape_6 rfl (by decide) ?_
  refine pf_0_faultPlace (pc' := 10) dX11_examineTape_7 rfl fl_X11_93 ?_
  refine go_gen (P := fun s => WXe σ s ∧ s.1 6 = σ1.1 6 ∧ s.1 0 = σ1.1 0 ∧ s.1 1 = (-1 : Int32)) ⟨⟨ixs_n w1.1 (by decide), Ag_setI w1.2 (by decide)⟩, ⟨rfl, rfl, setI_same _ _ _⟩⟩ (fun σ2 z2 => ?_)
  obtain ⟨w2, g2⟩ := z2
  have gB := g2
  have kd0 := (congrArg Int32.toInt (gB.2.1.trans gA.2)).trans n0
  have pl0 := (congrArg Int32.toInt gB.2.2).trans nm1
  have s60 := gB.1.trans gA.1
  refine go_aload_n (i := 0) (pc' := 11) dX11_examineTape_10 rfl rfl rfl ?_
  refine gf_0_reader (pc' := 14) dX11_examineTape_11 rfl fl_X11_54 ?_
  refine go_cvv (pc' := 17) lk_X11_271 (e_X3_begin _ _ _ w2.1) rfl rfl (Nat.le_of_ble_eq_true rfl) (by decide) rfl rfl rfl ⟨Nat.le_of_ble_eq_true rfl, Nat.le_of_ble_eq_true rfl⟩ ⟨rfl, rfl⟩ dX11_examineTape_14 rfl (fun σ3 h3 => ?_)
  have w3 := WXe_trans w2 ((fun z => WXe_of (begin_WX w2.1 z)) h3)
  have gC := h3
  refine go_iconst (v := 0) (pc' := 18) dX11_examineTape_17 rfl (by decide) ?_
  refine go_istore_n (i := 1) (pc' := 19) dX11_examineTape_18 rfl rfl (by decide) ?_
  have loop19_4 : ∀ (dd4 : Nat) (σ4 : ST) (x1_4 : Int32), WXe σ σ4 → (0 ≤ (x1_4).toInt ∧ (x1_4).toInt ≤ (σ.1 6).toInt) → (σ4.1 6 = σ.1 6) → (HAX (tpX σ) (σ.1 6).toNatClampNeg (σ.1 3).toInt (x1_4).toNatClampNeg σ4) → (160 - (x1_4).toInt).toNat = dd4 → Go F L RX11 cX11_examineTape 3 rm_X11_examineTape none (RV F L (fun σ2 => (WXe σ σ2 ∧ σ2.1 6 = σ.1 6) ∧ FLT (tpX σ) (σ.1 6).toNatClampNeg (σ.1 3).toInt (σ2.1 0).toInt (σ2.1 1).toInt)) σ4 19 [(0, .ref (L.2.1 0)), (1, .int x1_4)] [] := by
    intro dd4
    induction dd4 using Nat.strongRecOn with
    | _ dd4 ih4 =>
      intro σ4 x1_4 w4 h_4 hq_4 ha_4 hm_4
      refine go_iload_n (i := 1) (pc' := 20) dX11_examineTape_19 rfl rfl rfl ?_
      refine go_aload_n (i := 0) (pc' := 21) dX11_examineTape_20 rfl rfl rfl ?_
      refine gf_0_tape (pc' := 24) dX11_examineTape_21 rfl fl_X11_47 ?_
      refine gf_6_size (pc' := 27) dX11_examineTape_24 rfl fl_X11_234 ?_
      have g5 := ixi_6 w4.1
      have z6 := congrArg Int32.toInt hq_4
      refine gz_icmp_ge (tgt := 125) (pc' := 30) dX11_examineTape_27 rfl (by decide) (fun c6 => ?_) (fun c6 => ?_)
      · obtain ⟨q, hqq, hA, hF⟩ := ha_4
        have c1 := cnat (x := x1_4) (by omega)
        have en : (x1_4).toNatClampNeg = (σ.1 6).toNatClampNeg := by omega
        rw [en] at hA
        have aE := AUT_end hA
        have u7 := ixi_7 w4.1
        have c7 := cnat (x := σ4.1 7) (by omega)
        refine go_aload_n (i := 0) (pc' := 126) dX11_examineTape_125 rfl rfl rfl ?_
        refine gf_0_reader (pc' := 129) dX11_examineTape_126 rfl fl_X11_54 ?_
        refine go_cvi (pc' := 132) lk_X11_326 (e_X3_isWhole _ _ _ w4.1) rfl rfl (Nat.le_of_ble_eq_true rfl) (by decide) rfl rfl rfl ⟨Nat.le_of_ble_eq_true rfl, Nat.le_of_ble_eq_true rfl⟩ ⟨rfl, rfl⟩ dX11_examineTape_129 rfl (fun r7 σ7 h7 => ?_)
        obtain ⟨e7, h7⟩ := h7
        have e7 := e7.symm
        subst e7
        refine go_neB (tgt := 151) (pc' := 135) h7 dX11_examineTape_132 rfl (by decide) (fun c8 => ?_) (fun c8 => ?_)
        · exact go_vret dX11_examineTape_151 rfl (⟨⟨w4, hq_4⟩, Or.inr ⟨(aE.1 c8.1).trans (if_pos (by have z := c8.2; omega)), hA.2.elim (fun z => by have y := hF; rw [z.2] at y; exact y) (fun z => z.2.elim (fun y => absurd (c8.1.symm.trans y.1) (by decide)) (fun y => absurd (c8.1.symm.trans y.1) (by decide)))⟩⟩)
        have cw := c8
        have fE : tk (tpX σ) (σ.1 6).toNatClampNeg 200 0 0 (fun _ => 0) = (((σ.1 6).toNatClampNeg : Nat) : Int) := by
          by_cases z : σ4.1 12 = 0
          · rw [aE.1 z]
            exact if_neg (fun y => cw ⟨z, by omega⟩)
          · exact aE.2 z
        refine go_aload_n (i := 0) (pc' := 136) dX11_examineTape_135 rfl rfl rfl ?_
        refine go_iconst (v := 1) (pc' := 137) dX11_examineTape_136 rfl (by decide) ?_
        refine pf_0_faultKind (pc' := 140) dX11_examineTape_137 rfl fl_X11_89 ?_
        refine go_gen (P := fun s => WXe σ s ∧ s.1 6 = σ4.1 6 ∧ s.1 0 = (1 : Int32)) ⟨⟨ixs_n w4.1 (by decide), Ag_setI w4.2 (by decide)⟩, ⟨rfl, setI_same _ _ _⟩⟩ (fun σ9 z9 => ?_)
        obtain ⟨w9, g9⟩ := z9
        have gH := g9
        refine go_aload_n (i := 0) (pc' := 141) dX11_examineTape_140 rfl rfl rfl ?_
        refine go_aload_n (i := 0) (pc' := 142) dX11_examineTape_141 rfl rfl rfl ?_
        refine gf_0_tape (pc' := 145) dX11_examineTape_142 rfl fl_X11_47 ?_
        refine gf_6_size (pc' := 148) dX11_examineTape_145 rfl fl_X11_234 ?_
        have g10 := ixi_6 w9.1
        refine pf_0_faultPlace (pc' := 151) dX11_examineTape_148 rfl fl_X11_93 ?_
        refine go_gen (P := fun s => WXe σ s ∧ s.1 6 = σ9.1 6 ∧ s.1 0 = σ9.1 0 ∧ s.1 1 = (σ9.1 6)) ⟨⟨ixs_n w9.1 (by decide), Ag_setI w9.2 (by decide)⟩, ⟨rfl, rfl, setI_same _ _ _⟩⟩ (fun σ11 z11 => ?_)
        obtain ⟨w11, g11⟩ := z11
        have gI := g11
        exact go_vret dX11_examineTape_151 rfl (⟨⟨w11, gI.1.trans (gH.1.trans hq_4)⟩, Or.inl ⟨by rw [fE]; omega, by rw [gI.2.1, gH.2]; exact n1, by rw [fE, gI.2.2, gH.1, hq_4]; omega⟩⟩)
      obtain ⟨q, hqq, hA, hF⟩ := ha_4
      have c1 := cnat (x := x1_4) (by omega)
      have ivp := w4.1
      have sg : (σ4.2 43 (x1_4).toNatClampNeg &&& 255).toInt = tpX σ (x1_4).toNatClampNeg := by unfold tpX; rw [w4.2.2 43 (by decide)]
      refine go_aload_n (i := 0) (pc' := 31) dX11_examineTape_30 rfl rfl rfl ?_
      refine gf_0_reader (pc' := 34) dX11_examineTape_31 rfl fl_X11_54 ?_
      refine go_aload_n (i := 0) (pc' := 35) dX11_examineTape_34 rfl rfl rfl ?_
      refine gf_0_tape (pc' := 38) dX11_examineTape_35 rfl fl_X11_47 ?_
      refine gf_6_bytes (pc' := 41) dX11_examineTape_38 rfl fl_X11_241 ?_
      refine go_iload_n (i := 1) (pc' := 42) dX11_examineTape_41 rfl rfl rfl ?_
      refine go_bald (pc' := 43) dX11_examineTape_42 rfl (by decide) (by decide) rfl (vin_of (n := 160) (by omega) (by omega)) ?_
      refine go_rngA (ixa_43 w4.1) (vinlt (vin_of (n := 160) (by omega) (by omega))) (fun g12 => ?_)
      refine go_sipush (v := 255) (pc' := 46) dX11_examineTape_43 rfl (by decide) ?_
      refine go_iand (pc' := 47) dX11_examineTape_46 rfl ?_
      refine go_iload_n (i := 1) (pc' := 48) dX11_examineTape_47 rfl rfl rfl ?_
      refine go_cvi (pc' := 51) lk_X11_274 (e_X3_take _ _ _ _ _ w4.1) rfl rfl (Nat.le_of_ble_eq_true rfl) (by decide) rfl rfl rfl ⟨Nat.le_of_ble_eq_true rfl, Nat.le_of_ble_eq_true rfl⟩ ⟨rfl, rfl⟩ dX11_examineTape_48 rfl (fun r13 σ13 h13 => ?_)
      have w13 := WXe_trans w4 ((fun z => WXe_of (take_WX w4.1 z)) h13)
      have tA := AUT_take ivp hA (by omega) sg (by omega) h13
      have tw := take_WX ivp h13
      have w6 := (tw.2.1 6 (by decide)).trans hq_4
      have k0 := congrArg Int32.toInt (tw.2.1 0 (by decide))
      have k1 := congrArg Int32.toInt (tw.2.1 1 (by decide))
      have k3 : σ13.1 3 = σ.1 3 := w13.2.1 3 (by decide)
      refine go_istore_n (i := 2) (pc' := 52) dX11_examineTape_51 rfl rfl (by decide) ?_
      refine go_iload_n (i := 2) (pc' := 53) dX11_examineTape_52 rfl rfl rfl ?_
      refine go_iconst (v := 5) (pc' := 54) dX11_examineTape_53 rfl (by decide) ?_
      refine gz_icmp_ne (tgt := 74) (pc' := 57) dX11_examineTape_54 rfl (by decide) (fun c14 => ?_) (fun c14 => ?_)
      · obtain ⟨q2, t1, t2, t3, t4, t6⟩ := (tA.resolve_left (fun z => c14 (z.1.trans n5.symm))).2
        rw [← k0, ← k1] at hF
        clear tA
        refine go_iload_n (i := 2) (pc' := 75) dX11_examineTape_74 rfl rfl rfl ?_
        refine go_iconst (v := 4) (pc' := 76) dX11_examineTape_75 rfl (by decide) ?_
        refine gz_icmp_ne (tgt := 119) (pc' := 79) dX11_examineTape_76 rfl (by decide) (fun c15 => ?_) (fun c15 => ?_)
        · have ha2 : HAX (tpX σ) (σ.1 6).toNatClampNeg (σ.1 3).toInt ((x1_4).toNatClampNeg + 1) σ13 := by
            first
            | exact ⟨q2, AUT_le t2, AUT_e gG.2.2.2 (AUT_e gF.2.2 t2), FSX_new hF (by omega) (by omega) ⟨t7.2.2.2.1, t7.2.1, t7.2.2.1, by rw [← t79]; have z := congrArg Int32.toInt k3; omega⟩ (by rw [gG.2.1, gF.2.1]; exact n2) (by rw [gG.2.2.1, gF.2.2.2.2.2.1]; exact mk4)⟩
            | exact ⟨q2, AUT_le t2, t2, FSX_two hF t1 c15⟩
            | (have _ := t79
               exact ⟨q2, AUT_le t2, t2, FSX_up hF t1 (fun k h1 h2 z => by
                by_cases e : k = q
                · rw [e] at z
                  have y := z.2.2.2
                  rw [← t79] at y
                  have z3 := congrArg Int32.toInt k3
                  omega
                · exact t3 k (by omega) h2 z.2.1)⟩)
            | exact ⟨q2, AUT_le t2, t2, FSX_up hF t1 (fun k h1 h2 z => by
                by_cases e : k = q
                · rw [e] at z
                  exact c15 ((t4 z.2.1 z.2.2.1 (by omega)).trans n4.symm)
                · exact t3 k (by omega) h2 z.2.1)⟩
          have hq2 : σ13.1 6 = σ.1 6 := by first | exact w6 | exact gG.1.trans (gF.1.trans w6)
          refine gz_iinc (c := 1) (pc' := 122) dX11_examineTape_119 rfl rfl (by decide) (by decide) (by decide) (by omega) (fun v16 h16 e16 => ?_)
          refine go_goto (tgt := 19) dX11_examineTape_122 (by decide) ?_
          exact go_lv (lv' := [(0, .ref (L.2.1 0)), (1, .int v16)]) rfl (ih4 _ (by omega) σ13 v16 w13 (by omega) hq2 (by have cv := cnat (x := v16) (by omega); rw [show (v16).toNatClampNeg = (x1_4).toNatClampNeg + 1 from by omega]; exact ha2) rfl)
        have t7 := t6 (c15.trans n4)
        have nr := nval_rng (t := tpX σ) (p := q + 2) (j := dcnt (tpX σ) (σ.1 6).toNatClampNeg 4 (q + 2)) (fun i hi => (dcnt_dig hi).2) (dcnt_le _ _ _ _)
        have t79 := t7.2.2.2.2.1
        refine go_aload_n (i := 0) (pc' := 80) dX11_examineTape_79 rfl rfl rfl ?_
        refine gf_0_faultKind (pc' := 83) dX11_examineTape_80 rfl fl_X11_89 ?_
        refine gz_if_ne (tgt := 119) (pc' := 86) dX11_examineTape_83 rfl (by decide) (fun c17 => ?_) (fun c17 => ?_)
        · have ha2 : HAX (tpX σ) (σ.1 6).toNatClampNeg (σ.1 3).toInt ((x1_4).toNatClampNeg + 1) σ13 := by
            first
            | exact ⟨q2, AUT_le t2, AUT_e gG.2.2.2 (AUT_e gF.2.2 t2), FSX_new hF (by omega) (by omega) ⟨t7.2.2.2.1, t7.2.1, t7.2.2.1, by rw [← t79]; have z := congrArg Int32.toInt k3; omega⟩ (by rw [gG.2.1, gF.2.1]; exact n2) (by rw [gG.2.2.1, gF.2.2.2.2.2.1]; exact mk4)⟩
            | exact ⟨q2, AUT_le t2, t2, FSX_two hF t1 c17⟩
            | (have _ := t79
               exact ⟨q2, AUT_le t2, t2, FSX_up hF t1 (fun k h1 h2 z => by
                by_cases e : k = q
                · rw [e] at z
                  have y := z.2.2.2
                  rw [← t79] at y
                  have z3 := congrArg Int32.toInt k3
                  omega
                · exact t3 k (by omega) h2 z.2.1)⟩)
            | exact ⟨q2, AUT_le t2, t2, FSX_up hF t1 (fun k h1 h2 z => by
                by_cases e : k = q
                · rw [e] at z
                  exact c17 ((t4 z.2.1 z.2.2.1 (by omega)).trans n4.symm)
                · exact t3 k (by omega) h2 z.2.1)⟩
          have hq2 : σ13.1 6 = σ.1 6 := by first | exact w6 | exact gG.1.trans (gF.1.trans w6)
          refine gz_iinc (c := 1) (pc' := 122) dX11_examineTape_119 rfl rfl (by decide) (by decide) (by decide) (by omega) (fun v18 h18 e18 => ?_)
          refine go_goto (tgt := 19) dX11_examineTape_122 (by decide) ?_
          exact go_lv (lv' := [(0, .ref (L.2.1 0)), (1, .int v18)]) rfl (ih4 _ (by omega) σ13 v18 w13 (by omega) hq2 (by have cv := cnat (x := v18) (by omega); rw [show (v18).toNatClampNeg = (x1_4).toNatClampNeg + 1 from by omega]; exact ha2) rfl)
        refine go_aload_n (i := 0) (pc' := 87) dX11_examineTape_86 rfl rfl rfl ?_
        refine gf_0_letters (pc' := 90) dX11_examineTape_87 rfl fl_X11_19 ?_
        refine go_aload_n (i := 0) (pc' := 91) dX11_examineTape_90 rfl rfl rfl ?_
        refine gf_0_reader (pc' := 94) dX11_examineTape_91 rfl fl_X11_54 ?_
        refine gf_7_number (pc' := 97) dX11_examineTape_94 rfl fl_X11_277 ?_
        refine go_cvi (pc' := 100) lk_X11_130 (c_X2_has _ _ _ _) rfl rfl (Nat.le_of_ble_eq_true rfl) (by decide) rfl rfl rfl ⟨Nat.le_of_ble_eq_true rfl, Nat.le_of_ble_eq_true rfl⟩ ⟨rfl, rfl⟩ dX11_examineTape_97 rfl (fun r19 σ19 h19 => ?_)
        obtain ⟨e19, h19⟩ := h19
        have e19 := e19.symm
        subst e19
        refine go_neB (tgt := 119) (pc' := 103) h19 dX11_examineTape_100 rfl (by decide) (fun c20 => ?_) (fun c20 => ?_)
        · have ha2 : HAX (tpX σ) (σ.1 6).toNatClampNeg (σ.1 3).toInt ((x1_4).toNatClampNeg + 1) σ13 := by
            first
            | exact ⟨q2, AUT_le t2, AUT_e gG.2.2.2 (AUT_e gF.2.2 t2), FSX_new hF (by omega) (by omega) ⟨t7.2.2.2.1, t7.2.1, t7.2.2.1, by rw [← t79]; have z := congrArg Int32.toInt k3; omega⟩ (by rw [gG.2.1, gF.2.1]; exact n2) (by rw [gG.2.2.1, gF.2.2.2.2.2.1]; exact mk4)⟩
            | exact ⟨q2, AUT_le t2, t2, FSX_two hF t1 c20⟩
            | (have _ := t79
               exact ⟨q2, AUT_le t2, t2, FSX_up hF t1 (fun k h1 h2 z => by
                by_cases e : k = q
                · rw [e] at z
                  have y := z.2.2.2
                  rw [← t79] at y
                  have z3 := congrArg Int32.toInt k3
                  omega
                · exact t3 k (by omega) h2 z.2.1)⟩)
            | exact ⟨q2, AUT_le t2, t2, FSX_up hF t1 (fun k h1 h2 z => by
                by_cases e : k = q
                · rw [e] at z
                  exact c20 ((t4 z.2.1 z.2.2.1 (by omega)).trans n4.symm)
                · exact t3 k (by omega) h2 z.2.1)⟩
          have hq2 : σ13.1 6 = σ.1 6 := by first | exact w6 | exact gG.1.trans (gF.1.trans w6)
          refine gz_iinc (c := 1) (pc' := 122) dX11_examineTape_119 rfl rfl (by decide) (by decide) (by decide) (by omega) (fun v21 h21 e21 => ?_)
          refine go_goto (tgt := 19) dX11_examineTape_122 (by decide) ?_
          exact go_lv (lv' := [(0, .ref (L.2.1 0)), (1, .int v21)]) rfl (ih4 _ (by omega) σ13 v21 w13 (by omega) hq2 (by have cv := cnat (x := v21) (by omega); rw [show (v21).toNatClampNeg = (x1_4).toNatClampNeg + 1 from by omega]; exact ha2) rfl)
        have nh := c20
        have mk4 := t7.2.2.2.2.2
        refine go_aload_n (i := 0) (pc' := 104) dX11_examineTape_103 rfl rfl rfl ?_
        refine go_iconst (v := 2) (pc' := 105) dX11_examineTape_104 rfl (by decide) ?_
        refine pf_0_faultKind (pc' := 108) dX11_examineTape_105 rfl fl_X11_89 ?_
        refine go_gen (P := fun s => WXe σ s ∧ s.1 6 = σ13.1 6 ∧ s.1 0 = (2 : Int32) ∧ RK σ13 s) ⟨⟨ixs_n w13.1 (by decide), Ag_setI w13.2 (by decide)⟩, ⟨rfl, setI_same _ _ _, ⟨rfl, rfl, rfl, rfl, rfl, rfl, rfl, rfl⟩⟩⟩ (fun σ22 z22 => ?_)
        obtain ⟨w22, g22⟩ := z22
        have gF := g22
        refine go_aload_n (i := 0) (pc' := 109) dX11_examineTape_108 rfl rfl rfl ?_
        refine go_aload_n (i := 0) (pc' := 110) dX11_examineTape_109 rfl rfl rfl ?_
        refine gf_0_reader (pc' := 113) dX11_examineTape_110 rfl fl_X11_54 ?_
        refine gf_7_markAt (pc' := 116) dX11_examineTape_113 rfl fl_X11_323 ?_
        refine pf_0_faultPlace (pc' := 119) dX11_examineTape_116 rfl fl_X11_93 ?_
        refine go_gen (P := fun s => WXe σ s ∧ s.1 6 = σ22.1 6 ∧ s.1 0 = σ22.1 0 ∧ s.1 1 = (σ22.1 10) ∧ RK σ22 s) ⟨⟨ixs_n w22.1 (by decide), Ag_setI w22.2 (by decide)⟩, ⟨rfl, rfl, setI_same _ _ _, ⟨rfl, rfl, rfl, rfl, rfl, rfl, rfl, rfl⟩⟩⟩ (fun σ23 z23 => ?_)
        obtain ⟨w23, g23⟩ := z23
        have gG := g23
        have ha2 : HAX (tpX σ) (σ.1 6).toNatClampNeg (σ.1 3).toInt ((x1_4).toNatClampNeg + 1) σ23 := by
          first
          | exact ⟨q2, AUT_le t2, AUT_e gG.2.2.2 (AUT_e gF.2.2 t2), FSX_new hF (by omega) (by omega) ⟨t7.2.2.2.1, t7.2.1, t7.2.2.1, by rw [← t79]; have z := congrArg Int32.toInt k3; omega⟩ (by rw [gG.2.1, gF.2.1]; exact n2) (by rw [gG.2.2.1, gF.2.2.2.2.2.1]; exact mk4)⟩
          | exact ⟨q2, AUT_le t2, t2, FSX_two hF t1 c20⟩
          | (have _ := t79
             exact ⟨q2, AUT_le t2, t2, FSX_up hF t1 (fun k h1 h2 z => by
              by_cases e : k = q
              · rw [e] at z
                have y := z.2.2.2
                rw [← t79] at y
                have z3 := congrArg Int32.toInt k3
                omega
              · exact t3 k (by omega) h2 z.2.1)⟩)
          | exact ⟨q2, AUT_le t2, t2, FSX_up hF t1 (fun k h1 h2 z => by
              by_cases e : k = q
              · rw [e] at z
                exact c20 ((t4 z.2.1 z.2.2.1 (by omega)).trans n4.symm)
              · exact t3 k (by omega) h2 z.2.1)⟩
        have hq2 : σ23.1 6 = σ.1 6 := by first | exact w6 | exact gG.1.trans (gF.1.trans w6)
        refine gz_iinc (c := 1) (pc' := 122) dX11_examineTape_119 rfl rfl (by decide) (by decide) (by decide) (by omega) (fun v24 h24 e24 => ?_)
        refine go_goto (tgt := 19) dX11_examineTape_122 (by decide) ?_
        exact go_lv (lv' := [(0, .ref (L.2.1 0)), (1, .int v24)]) rfl (ih4 _ (by omega) σ23 v24 w23 (by omega) hq2 (by have cv := cnat (x := v24) (by omega); rw [show (v24).toNatClampNeg = (x1_4).toNatClampNeg + 1 from by omega]; exact ha2) rfl)
      have tF := tA.resolve_right (fun z => z.1 (c14.trans n5))
      refine go_aload_n (i := 0) (pc' := 58) dX11_examineTape_57 rfl rfl rfl ?_
      refine go_iconst (v := 1) (pc' := 59) dX11_examineTape_58 rfl (by decide) ?_
      refine pf_0_faultKind (pc' := 62) dX11_examineTape_59 rfl fl_X11_89 ?_
      refine go_gen (P := fun s => WXe σ s ∧ s.1 6 = σ13.1 6 ∧ s.1 0 = (1 : Int32) ∧ s.1 11 = σ13.1 11) ⟨⟨ixs_n w13.1 (by decide), Ag_setI w13.2 (by decide)⟩, ⟨rfl, setI_same _ _ _, rfl⟩⟩ (fun σ25 z25 => ?_)
      obtain ⟨w25, g25⟩ := z25
      have gD := g25
      refine go_aload_n (i := 0) (pc' := 63) dX11_examineTape_62 rfl rfl rfl ?_
      refine go_aload_n (i := 0) (pc' := 64) dX11_examineTape_63 rfl rfl rfl ?_
      refine gf_0_reader (pc' := 67) dX11_examineTape_64 rfl fl_X11_54 ?_
      refine gf_7_wrongAt (pc' := 70) dX11_examineTape_67 rfl fl_X11_320 ?_
      refine pf_0_faultPlace (pc' := 73) dX11_examineTape_70 rfl fl_X11_93 ?_
      refine go_gen (P := fun s => WXe σ s ∧ s.1 6 = σ25.1 6 ∧ s.1 0 = σ25.1 0 ∧ s.1 1 = (σ25.1 11)) ⟨⟨ixs_n w25.1 (by decide), Ag_setI w25.2 (by decide)⟩, ⟨rfl, rfl, setI_same _ _ _⟩⟩ (fun σ26 z26 => ?_)
      obtain ⟨w26, g26⟩ := z26
      have gE := g26
      exact go_vret dX11_examineTape_73 rfl (⟨⟨w26, gE.1.trans (gD.1.trans w6)⟩, ex_stop (by rw [gE.2.1, gD.2.1]; exact n1) (by rw [gE.2.2, gD.2.2]; exact tF.2.1) (by rw [gE.2.2, gD.2.2]; exact tF.2.2)⟩)
  exact go_lv (lv' := [(0, .ref (L.2.1 0)), (1, .int (0 : Int32))]) rfl (loop19_4 _ σ3 (0 : Int32) w3 (by omega) (by rw [gC]; exact s60) (by rw [gC]; exact ⟨0, Nat.zero_le _, ⟨HK_0 (by omega), Or.inl ⟨rfl, rfl⟩⟩, Or.inl ⟨kd0, pl0, fun k hk => absurd hk (Nat.not_lt_zero _)⟩⟩) rfl)
