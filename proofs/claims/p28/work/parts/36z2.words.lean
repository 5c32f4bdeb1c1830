/-- signs of a list -/
def lsP (L : List Int) : Nat → Int := fun j => L.getD j 0
theorem outL_ls {g : Nat → Int32} {m : Nat} {L : List Int} (h : outL g m = L) : ∀ j : Nat, j < m → (g j).toInt = lsP L j := fun j hj => by
  have q := outL_get (g := g) hj
  rw [h] at q
  unfold lsP
  rw [List.getD_eq_getElem?_getD, q]
  rfl
theorem pl_app {L M : List Int} (h : ∀ x ∈ L, plainP x) (g : ∀ x ∈ M, plainP x) : ∀ x ∈ L ++ M, plainP x := fun x hx => by
  rcases List.mem_append.mp hx with q | q
  · exact h x q
  · exact g x q
theorem pl_0 : ∀ x ∈ ([] : List Int), plainP x := fun x hx => absurd hx (List.not_mem_nil)
theorem pl_1 {v : Int} (h : plainP v) : ∀ x ∈ [v], plainP x := fun x hx => by
  rw [List.mem_singleton.mp hx]
  exact h
theorem pl_if {c : Prop} [Decidable c] {L M : List Int} (h : ∀ x ∈ L, plainP x) (g : ∀ x ∈ M, plainP x) : ∀ x ∈ (if c then L else M), plainP x := by
  split
  · exact h
  · exact g
theorem pl_ifn {c : Prop} [Decidable c] {L : List Int} (h : ¬ c) : ∀ x ∈ (if c then L else []), plainP x := by
  rw [if_neg h]
  exact pl_0
theorem opF_0 (dy s v : Int) (k : Nat) : opF dy 0 s v k = [] := by
  unfold opF
  by_cases h : k = 0
  · rw [if_pos h]
    by_cases q : hidP dy 0 s v
    · rw [if_pos q, if_neg (show ¬ (0 : Int) = 1 by decide)]
    · rw [if_neg q, if_neg (show ¬ (0 : Int) = 1 by decide)]
  · rw [if_neg h]
theorem tk_pl2 {t : Nat → Int} {n p d : Nat} (h : ∃ f stk, tk t n f p d stk = -1) (hp : p < n) (c : t p ≠ 125) (c2 : t p ≠ 123) : plainP (t p) := by
  obtain ⟨f, stk, h⟩ := h
  rcases tk_inv h hp with ⟨q, -⟩ | ⟨-, -, q, -⟩ | ⟨q, -⟩
  · exact absurd q c
  · exact q
  · exact absurd q c2
/-- PLAIN gives letters, blanks, points alone -/
theorem prF_pl {t : Nat → Int} {n : Nat} {dy : Int} : ∀ (g p d k : Nat) (stk : Nat → Int), (∃ f st2, tk t n f p d st2 = -1) → ∀ x ∈ prF t n dy 0 g p d stk k, plainP x
  | 0, _, _, _, _, _ => pl_0
  | g + 1, p, d, k, stk, h => by
    by_cases hn : n ≤ p
    · have e : prF t n dy 0 (g + 1) p d stk k = [] := by
        unfold prF
        exact if_pos hn
      rw [e]
      exact pl_0
    · have hp : p < n := by omega
      unfold prF
      rw [if_neg hn]
      by_cases c1 : t p = 125
      · rw [if_pos c1]
        exact pl_app (pl_if pl_0 (pl_ifn (fun q => absurd q.2 (by decide)))) (prF_pl g _ _ _ _ (tk_cl h hp c1).2)
      · rw [if_neg c1]
        by_cases c2 : t p ≠ 123
        · rw [if_pos c2]
          exact pl_app (pl_if (pl_1 (tk_pl2 h hp c1 c2)) pl_0) (prF_pl g _ _ _ _ (tk_pl h hp c1 c2))
        · rw [if_neg c2]
          have tm := tk_mk h hp (by omega)
          by_cases c3 : t (p + 1) = 110
          · rw [if_pos c3]
            exact pl_app (pl_ifn (fun q => absurd q.2 (by decide))) (prF_pl g _ _ _ _ (mk_note tm c3).2)
          · rw [if_neg c3, opF_0, List.nil_append]
            by_cases c4 : t (p + 1) = 115
            · rw [if_pos c4]
              exact prF_pl g _ _ _ _ (mk_s tm c4).2
            · rw [if_neg c4]
              exact prF_pl g _ _ _ _ (mk_o tm c3 c4)
theorem VT_pl {t : Nat → Int} {n : Nat} {dy : Int} (h : VT t n) : ∀ j : Nat, j < (prF t n dy 0 200 0 0 (fun _ => 0) 0).length → plainP (lsP (prF t n dy 0 200 0 0 (fun _ => 0) 0) j) := fun j hj => by
  have q := prF_pl (dy := dy) 200 0 0 0 (fun _ => 0) ⟨200, fun _ => 0, h⟩
  unfold lsP
  rw [List.getD_eq_getElem?_getD, List.getElem?_eq_getElem hj]
  exact q _ (List.getElem_mem hj)
theorem WDp_cg {P P2 : Nat → Int} {i : Nat} {n : Int} {S E : Nat → Int32} (h : ∀ j : Nat, j < i → P j = P2 j) (w : WDp P i n S E) : WDp P2 i n S E := by
  obtain ⟨a, b, c⟩ := WD_congr h
  unfold WDp at w ⊢
  rw [← a, ← b, ← c]
  exact w
/-- a row of WORDS holds those of a list -/
def WRD (L : List Int) (n : Int32) (B S E : Nat → Int32) : Prop := WDp (lsP L) L.length n.toInt S E ∧ ∀ j : Nat, j < L.length → (B j).toInt = lsP L j
/-- the words of two lists, which are the same; by how much they differ -/
def sLL (LA LB : List Int) (i j : Nat) : Prop := smP (lsP LA) (wS (lsP LA) LA.length i) (wE (lsP LA) LA.length i) (lsP LB) (wS (lsP LB) LB.length j) (wE (lsP LB) LB.length j)
noncomputable def DIF (LA LB : List Int) : Nat := dl (sLL LA LB) (wN (lsP LA) LA.length) (wN (lsP LB) LB.length)
theorem sm_go {P P2 Q Q2 : Nat → Int} {a b c d n m : Nat} (hP : ∀ k : Nat, k < n → P k = P2 k) (hQ : ∀ k : Nat, k < m → Q k = Q2 k) (hb : b ≤ n) (hd : d ≤ m) (h : smP P a b Q c d) : smP P2 a b Q2 c d := ⟨h.1, fun k hk => by
  have h1 := h.1
  have z := h.2 k hk
  rw [hP _ (by omega), hQ _ (by omega)] at z
  exact z⟩
theorem sm_eq {P P2 Q Q2 : Nat → Int} {a b c d n m : Nat} (hP : ∀ k : Nat, k < n → P k = P2 k) (hQ : ∀ k : Nat, k < m → Q k = Q2 k) (hb : b ≤ n) (hd : d ≤ m) : smP P a b Q c d ↔ smP P2 a b Q2 c d := ⟨sm_go hP hQ hb hd, sm_go (fun k hk => (hP k hk).symm) (fun k hk => (hQ k hk).symm) hb hd⟩
theorem dp_step {s : Nat → Nat → Prop} {I J J2 n ix : Nat} {C C2 : Nat → Int32} {v : Int32} (hc : ∀ q : Nat, q ≤ n → (q ≤ J → (C q).toInt = (dl s (I + 1) q : Int)) ∧ (J < q → (C q).toInt = (dl s I q : Int))) (e : C2 = upd C ix v) (hix : ix = J + 1) (eJ : J2 = J + 1) (hv : v.toInt = (dl s (I + 1) (J + 1) : Int)) : ∀ q : Nat, q ≤ n → (q ≤ J2 → (C2 q).toInt = (dl s (I + 1) q : Int)) ∧ (J2 < q → (C2 q).toInt = (dl s I q : Int)) := fun q hq => by
  subst eJ
  subst hix
  rw [e]
  by_cases z : q = J + 1
  · rw [z, upd_eq]
    exact ⟨fun _ => hv, fun y => absurd y (Nat.lt_irrefl _)⟩
  · rw [upd_ne z]
    exact ⟨fun y => (hc q hq).1 (by omega), fun y => (hc q hq).2 (by omega)⟩
theorem dp_0 {s : Nat → Nat → Prop} {I n ix : Nat} {C C2 : Nat → Int32} {v : Int32} (hc : ∀ q : Nat, q ≤ n → (C q).toInt = (dl s I q : Int)) (e : C2 = upd C ix v) (hix : ix = 0) (hv : v.toInt = (I : Int) + 1) : ∀ q : Nat, q ≤ n → (q ≤ 0 → (C2 q).toInt = (dl s (I + 1) q : Int)) ∧ (0 < q → (C2 q).toInt = (dl s I q : Int)) := fun q hq => by
  subst hix
  rw [e]
  by_cases z : q = 0
  · rw [z, upd_eq, dl_0]
    exact ⟨fun _ => by omega, fun y => absurd y (Nat.lt_irrefl _)⟩
  · rw [upd_ne z]
    exact ⟨fun y => absurd y (by omega), fun _ => hc q hq⟩
def smX (σ : ST) (i j : Nat) : Prop := smP (fun k => (σ.2 46 k).toInt) (σ.2 47 i).toNatClampNeg (σ.2 48 i).toNatClampNeg (fun k => (σ.2 50 k).toInt) (σ.2 51 j).toNatClampNeg (σ.2 52 j).toNatClampNeg
abbrev wdA (k : Nat) : Prop := k = 49
def WXd (σ σ2 : ST) : Prop := IV σ2 ∧ Ag noI wdA σ σ2
theorem WXd_rfl {σ : ST} (h : IV σ) : WXd σ σ := ⟨h, Ag_rfl σ⟩
theorem WXd_trans {σ σ2 σ3 : ST} (h : WXd σ σ2) (h2 : WXd σ2 σ3) : WXd σ σ3 := ⟨h2.1, Ag_trans h.2 h2.2⟩
theorem WX_of_d {σ σ2 : ST} (h : WXd σ σ2) : WX σ σ2 := ⟨h.1, ⟨fun i _ => h.2.1 i (fun q => q), fun k hk => h.2.2 k (fun q => hk (by rw [q]; decide))⟩⟩
theorem smX_e {σ σ2 : ST} (h : WXd σ σ2) (i j : Nat) : smX σ2 i j ↔ smX σ i j := by
  unfold smX
  rw [h.2.2 46 (by decide), h.2.2 47 (by decide), h.2.2 48 (by decide), h.2.2 50 (by decide), h.2.2 51 (by decide), h.2.2 52 (by decide)]
theorem TVX_q {σ σ2 : ST} (h : WX σ σ2) (tv : TVX σ) : TVX σ2 := fun l hl => by
  have z := tv l hl
  unfold txX at z ⊢
  rw [h.2.2 (56 + l) (row_sx hl), h.2.2 32 (by decide)]
  exact z
theorem FUX_q {σ σ2 : ST} (h : WX σ σ2) {l : Nat} (hl : l < 12) (dy wy : Int) : FUX σ2 l dy wy = FUX σ l dy wy := by
  unfold FUX txX
  rw [h.2.2 (56 + l) (row_sx hl), h.2.2 32 (by decide)]
def tX_words (σ : ST) (a r : Int32) (σ2 : ST) : Prop := WX σ σ2 ∧ ((¬ (0 ≤ a.toInt ∧ a.toInt < (σ.1 3).toInt) ∧ r = -2) ∨ ((0 ≤ a.toInt ∧ a.toInt < (σ.1 3).toInt) ∧ r.toInt = (wN (lsP (FUX σ (a).toNatClampNeg 9999 0)) (FUX σ (a).toNatClampNeg 9999 0).length : Int)))
def tX_differ (σ : ST) (a b r : Int32) (σ2 : ST) : Prop := WX σ σ2 ∧ ((¬ ((0 ≤ a.toInt ∧ a.toInt < (σ.1 3).toInt) ∧ (0 ≤ b.toInt ∧ b.toInt < (σ.1 3).toInt)) ∧ r = -2) ∨ (((0 ≤ a.toInt ∧ a.toInt < (σ.1 3).toInt) ∧ (0 ≤ b.toInt ∧ b.toInt < (σ.1 3).toInt)) ∧ r.toInt = (DIF (FUX σ (a).toNatClampNeg 9999 0) (FUX σ (b).toNatClampNeg 9999 0) : Int)))
set_option maxHeartbeats 4000000 in
set_option maxRecDepth 100000 in
theorem e_X11_readWords_9 (l : Launch) (L : WL) (σ : ST) (a : Int32) (ha : 0 ≤ a.toInt ∧ a.toInt < 12) (ix : IV σ) (tv : TVX σ) : CtV l L yX11_readWords cX11_readWords 3 none rm_X11_readWords [.ref (L.2.1 0), .int a, .ref (L.2.1 9)] σ (fun σ2 => WX σ σ2 ∧ WRD (FUX σ (a).toNatClampNeg 9999 0) (σ2.1 15) (σ2.2 46) (σ2.2 47) (σ2.2 48) ∧ (∀ q : Nat, ¬ (q = 44 ∨ q = 45 ∨ q = 46 ∨ q = 47 ∨ q = 48) → σ2.2 q = σ.2 q) ∧ ∀ q : Nat, ¬ (7 ≤ q ∧ q ≤ 14) → q ≠ 15 → σ2.1 q = σ.1 q) := by
  refine ctV_go (own := RX11) (by decide) rfl (Nat.le_of_ble_eq_true rfl) (fun F hF => ?_)
  subst hF
  have n0 : (0 : Int32).toInt = 0 := by decide
  have n9999 : (9999 : Int32).toInt = 9999 := by decide
  have w0 : WX σ σ := WX_rfl ix
  refine go_aload_n (i := 0) (pc' := 1) dX11_readWords_0 rfl rfl rfl ?_
  refine go_iload_n (i := 1) (pc' := 2) dX11_readWords_1 rfl rfl rfl ?_
  refine go_sipush (v := 9999) (pc' := 5) dX11_readWords_2 rfl (by decide) ?_
  refine go_iconst (v := 0) (pc' := 6) dX11_readWords_5 rfl (by decide) ?_
  refine go_cvv (pc' := 9) lk_X11_252 (e_X11_printText _ _ _ _ _ _ (by omega) (Or.inl n0) w0.1 tv) rfl rfl (Nat.le_of_ble_eq_true rfl) (by decide) rfl rfl rfl ⟨Nat.le_of_ble_eq_true rfl, Nat.le_of_ble_eq_true rfl⟩ ⟨rfl, rfl⟩ dX11_readWords_6 rfl (fun σ1 h1 => ?_)
  obtain ⟨u1, h1⟩ := h1
  have w1 := WX_trans w0 (WX_of_o u1)
  have fu : outL (σ1.2 45) (σ1.1 14).toNatClampNeg = (FUX σ (a).toNatClampNeg 9999 0) := by
    rw [n9999, n0] at h1
    exact h1
  have fl := outL_len (σ1.2 45) (σ1.1 14).toNatClampNeg
  rw [fu] at fl
  have fs := outL_ls fu
  have fo := u1
  have g14 := ixi_14 w1.1
  refine go_aload_n (i := 2) (pc' := 10) dX11_readWords_9 rfl rfl rfl ?_
  refine go_aload_n (i := 0) (pc' := 11) dX11_readWords_10 rfl rfl rfl ?_
  refine gf_0_printer (pc' := 14) dX11_readWords_11 rfl fl_X11_61 ?_
  refine gf_8_bytes (pc' := 17) dX11_readWords_14 rfl fl_X11_257 ?_
  refine go_aload_n (i := 0) (pc' := 18) dX11_readWords_17 rfl rfl rfl ?_
  refine gf_0_printer (pc' := 21) dX11_readWords_18 rfl fl_X11_61 ?_
  refine gf_8_size (pc' := 24) dX11_readWords_21 rfl fl_X11_256 ?_
  have g2 := ixi_14 w1.1
  refine go_cvv (pc' := 27) lk_X11_334 (e_X10_split_9 _ _ _ _ (by omega) w1.1) rfl rfl (Nat.le_of_ble_eq_true rfl) (by decide) rfl rfl rfl ⟨Nat.le_of_ble_eq_true rfl, Nat.le_of_ble_eq_true rfl⟩ ⟨rfl, rfl⟩ dX11_readWords_24 rfl (fun σ3 h3 => ?_)
  obtain ⟨u3, h3⟩ := h3
  have w3 := WX_trans w1 u3
  have sp := h3
  exact go_vret dX11_readWords_27 rfl (by
      obtain ⟨sp1, sp2, sp3, sp4⟩ := sp
      refine ⟨w3, ⟨?_, fun j hj => ?_⟩, fun q hq => ?_, fun q h1 h2 => ?_⟩
      · rw [fl]
        exact WDp_cg (fun j hj => fs j hj) sp1
      · have c14 := cnat (x := σ1.1 14) (by omega)
        rw [sp2 j (by omega)]
        exact fs j (by omega)
      · rw [sp3 q (by omega) (by omega) (by omega)]
        exact fo.2.2 q (fun z => by unfold soA at z; omega)
      · rw [sp4 q h2]
        exact fo.2.1 q (fun z => by unfold soI at z; omega))
set_option maxHeartbeats 4000000 in
set_option maxRecDepth 100000 in
theorem e_X11_readWords_10 (l : Launch) (L : WL) (σ : ST) (a : Int32) (ha : 0 ≤ a.toInt ∧ a.toInt < 12) (ix : IV σ) (tv : TVX σ) : CtV l L yX11_readWords cX11_readWords 3 none rm_X11_readWords [.ref (L.2.1 0), .int a, .ref (L.2.1 10)] σ (fun σ2 => WX σ σ2 ∧ WRD (FUX σ (a).toNatClampNeg 9999 0) (σ2.1 16) (σ2.2 50) (σ2.2 51) (σ2.2 52) ∧ (∀ q : Nat, ¬ (q = 44 ∨ q = 45 ∨ q = 50 ∨ q = 51 ∨ q = 52) → σ2.2 q = σ.2 q) ∧ ∀ q : Nat, ¬ (7 ≤ q ∧ q ≤ 14) → q ≠ 16 → σ2.1 q = σ.1 q) := by
  refine ctV_go (own := RX11) (by decide) rfl (Nat.le_of_ble_eq_true rfl) (fun F hF => ?_)
  subst hF
  have n0 : (0 : Int32).toInt = 0 := by decide
  have n9999 : (9999 : Int32).toInt = 9999 := by decide
  have w0 : WX σ σ := WX_rfl ix
  refine go_aload_n (i := 0) (pc' := 1) dX11_readWords_0 rfl rfl rfl ?_
  refine go_iload_n (i := 1) (pc' := 2) dX11_readWords_1 rfl rfl rfl ?_
  refine go_sipush (v := 9999) (pc' := 5) dX11_readWords_2 rfl (by decide) ?_
  refine go_iconst (v := 0) (pc' := 6) dX11_readWords_5 rfl (by decide) ?_
  refine go_cvv (pc' := 9) lk_X11_252 (e_X11_printText _ _ _ _ _ _ (by omega) (Or.inl n0) w0.1 tv) rfl rfl (Nat.le_of_ble_eq_true rfl) (by decide) rfl rfl rfl ⟨Nat.le_of_ble_eq_true rfl, Nat.le_of_ble_eq_true rfl⟩ ⟨rfl, rfl⟩ dX11_readWords_6 rfl (fun σ1 h1 => ?_)
  obtain ⟨u1, h1⟩ := h1
  have w1 := WX_trans w0 (WX_of_o u1)
  have fu : outL (σ1.2 45) (σ1.1 14).toNatClampNeg = (FUX σ (a).toNatClampNeg 9999 0) := by
    rw [n9999, n0] at h1
    exact h1
  have fl := outL_len (σ1.2 45) (σ1.1 14).toNatClampNeg
  rw [fu] at fl
  have fs := outL_ls fu
  have fo := u1
  have g14 := ixi_14 w1.1
  refine go_aload_n (i := 2) (pc' := 10) dX11_readWords_9 rfl rfl rfl ?_
  refine go_aload_n (i := 0) (pc' := 11) dX11_readWords_10 rfl rfl rfl ?_
  refine gf_0_printer (pc' := 14) dX11_readWords_11 rfl fl_X11_61 ?_
  refine gf_8_bytes (pc' := 17) dX11_readWords_14 rfl fl_X11_257 ?_
  refine go_aload_n (i := 0) (pc' := 18) dX11_readWords_17 rfl rfl rfl ?_
  refine gf_0_printer (pc' := 21) dX11_readWords_18 rfl fl_X11_61 ?_
  refine gf_8_size (pc' := 24) dX11_readWords_21 rfl fl_X11_256 ?_
  have g2 := ixi_14 w1.1
  refine go_cvv (pc' := 27) lk_X11_334 (e_X10_split_10 _ _ _ _ (by omega) w1.1) rfl rfl (Nat.le_of_ble_eq_true rfl) (by decide) rfl rfl rfl ⟨Nat.le_of_ble_eq_true rfl, Nat.le_of_ble_eq_true rfl⟩ ⟨rfl, rfl⟩ dX11_readWords_24 rfl (fun σ3 h3 => ?_)
  obtain ⟨u3, h3⟩ := h3
  have w3 := WX_trans w1 u3
  have sp := h3
  exact go_vret dX11_readWords_27 rfl (by
      obtain ⟨sp1, sp2, sp3, sp4⟩ := sp
      refine ⟨w3, ⟨?_, fun j hj => ?_⟩, fun q hq => ?_, fun q h1 h2 => ?_⟩
      · rw [fl]
        exact WDp_cg (fun j hj => fs j hj) sp1
      · have c14 := cnat (x := σ1.1 14) (by omega)
        rw [sp2 j (by omega)]
        exact fs j (by omega)
      · rw [sp3 q (by omega) (by omega) (by omega)]
        exact fo.2.2 q (fun z => by unfold soA at z; omega)
      · rw [sp4 q h2]
        exact fo.2.1 q (fun z => by unfold soI at z; omega))
set_option maxHeartbeats 4000000 in
set_option maxRecDepth 100000 in
theorem f_X11_words (l : Launch) (L : WL) (σ : ST) (a : Int32) (ix : IV σ) (tv : TVX σ) : CtI l L yX11_words cX11_words 2 (some .int) rm_X11_words [.ref (L.2.1 0), .int a] σ (fun r σ2 => tX_words σ a r σ2) := by
  refine ctI_go (own := RX11) (by decide) rfl (Nat.le_of_ble_eq_true rfl) (fun F hF => ?_)
  subst hF
  have nm2 : (-2 : Int32).toInt = -2 := by decide
  have w0 : WX σ σ := WX_rfl ix
  have gl := ixi_3 ix
  refine go_aload_n (i := 0) (pc' := 1) dX11_words_0 rfl rfl rfl ?_
  refine gf_0_letters (pc' := 4) dX11_words_1 rfl fl_X11_19 ?_
  refine go_iload_n (i := 1) (pc' := 5) dX11_words_4 rfl rfl rfl ?_
  refine go_cvi (pc' := 8) lk_X11_130 (c_X2_has _ _ _ _) rfl rfl (Nat.le_of_ble_eq_true rfl) (by decide) rfl rfl rfl ⟨Nat.le_of_ble_eq_true rfl, Nat.le_of_ble_eq_true rfl⟩ ⟨rfl, rfl⟩ dX11_words_5 rfl (fun r1 σ1 h1 => ?_)
  obtain ⟨e1, h1⟩ := h1
  have e1 := e1.symm
  subst e1
  refine go_neB (tgt := 14) (pc' := 11) h1 dX11_words_8 rfl (by decide) (fun c2 => ?_) (fun c2 => ?_)
  · refine go_aload_n (i := 0) (pc' := 15) dX11_words_14 rfl rfl rfl ?_
    refine go_iload_n (i := 1) (pc' := 16) dX11_words_15 rfl rfl rfl ?_
    refine go_aload_n (i := 0) (pc' := 17) dX11_words_16 rfl rfl rfl ?_
    refine gf_0_someWords (pc' := 20) dX11_words_17 rfl fl_X11_68 ?_
    refine go_cvv (pc' := 23) lk_X11_258 (e_X11_readWords_9 _ _ _ _ (by omega) w0.1 tv) rfl rfl (Nat.le_of_ble_eq_true rfl) (by decide) rfl rfl rfl ⟨Nat.le_of_ble_eq_true rfl, Nat.le_of_ble_eq_true rfl⟩ ⟨rfl, rfl⟩ dX11_words_20 rfl (fun σ3 h3 => ?_)
    obtain ⟨u3, h3⟩ := h3
    have w3 := WX_trans w0 u3
    have rw9 := h3
    refine go_aload_n (i := 0) (pc' := 24) dX11_words_23 rfl rfl rfl ?_
    refine gf_0_someWords (pc' := 27) dX11_words_24 rfl fl_X11_68 ?_
    refine gf_9_size (pc' := 30) dX11_words_27 rfl fl_X11_262 ?_
    have g4 := ixi_15 w3.1
    exact go_iret dX11_words_30 rfl (⟨w3, Or.inr ⟨by omega, rw9.1.1.1⟩⟩)
  refine go_bipush (v := (-2)) (pc' := 13) dX11_words_11 rfl (by decide) ?_
  exact go_iret dX11_words_13 rfl (⟨w0, Or.inl ⟨by omega, rfl⟩⟩)
set_option maxHeartbeats 4000000 in
set_option maxRecDepth 100000 in
theorem e_X10_isAlike (l : Launch) (L : WL) (σ : ST) (a b : Int32) (ha : 0 ≤ a.toInt ∧ a.toInt < 80) (hb : 0 ≤ b.toInt ∧ b.toInt < 80) (h1 : (σ.2 47 (a).toNatClampNeg).toInt ≤ (σ.2 48 (a).toNatClampNeg).toInt) (h2 : (σ.2 51 (b).toNatClampNeg).toInt ≤ (σ.2 52 (b).toNatClampNeg).toInt) (ix : IV σ) : CtI l L yX10_isAlike cX10_isAlike 6 (some .boolean) rm_X10_isAlike [.ref (L.2.1 9), .int a, .ref (L.2.1 10), .int b] σ (fun r σ2 => σ2 = σ ∧ bq (smX σ (a).toNatClampNeg (b).toNatClampNeg) r) := by
  refine ctI_go (own := RX10) (by decide) rfl (Nat.le_of_ble_eq_true rfl) (fun F hF => ?_)
  subst hF
  have n0 : (0 : Int32).toInt = 0 := by decide
  have n1 : (1 : Int32).toInt = 1 := by decide
  have w0 : WX σ σ := WX_rfl ix
  have g47 := ixa_47 ix (a).toNatClampNeg (vinlt (vin_of (n := 80) ha.1 ha.2))
  have g48 := ixa_48 ix (a).toNatClampNeg (vinlt (vin_of (n := 80) ha.1 ha.2))
  have g51 := ixa_51 ix (b).toNatClampNeg (vinlt (vin_of (n := 80) hb.1 hb.2))
  have g52 := ixa_52 ix (b).toNatClampNeg (vinlt (vin_of (n := 80) hb.1 hb.2))
  have c47 := cnat g47.1
  have c48 := cnat g48.1
  have c51 := cnat g51.1
  have c52 := cnat g52.1
  have z0 : (0 : Int32).toNatClampNeg = 0 := rfl
  refine go_aload_n (i := 0) (pc' := 1) dX10_isAlike_0 rfl rfl rfl ?_
  refine gf_9_ends (pc' := 4) dX10_isAlike_1 rfl fl_X10_23 ?_
  refine go_iload_n (i := 1) (pc' := 5) dX10_isAlike_4 rfl rfl rfl ?_
  refine go_iald (pc' := 6) dX10_isAlike_5 rfl (by decide) (by decide) rfl (vin_of (n := 80) (by omega) (by omega)) ?_
  refine go_rngA (ixa_48 w0.1) (vinlt (vin_of (n := 80) (by omega) (by omega))) (fun g1 => ?_)
  refine go_aload_n (i := 0) (pc' := 7) dX10_isAlike_6 rfl rfl rfl ?_
  refine gf_9_starts (pc' := 10) dX10_isAlike_7 rfl fl_X10_19 ?_
  refine go_iload_n (i := 1) (pc' := 11) dX10_isAlike_10 rfl rfl rfl ?_
  refine go_iald (pc' := 12) dX10_isAlike_11 rfl (by decide) (by decide) rfl (vin_of (n := 80) (by omega) (by omega)) ?_
  refine go_rngA (ixa_47 w0.1) (vinlt (vin_of (n := 80) (by omega) (by omega))) (fun g2 => ?_)
  refine gz_isub (pc' := 13) dX10_isAlike_12 rfl (by omega) (fun v3 h3 e3 => ?_)
  refine go_istore (pc' := 15) dX10_isAlike_13 rfl (by decide) ?_
  refine go_iload (pc' := 17) dX10_isAlike_15 rfl rfl ?_
  refine go_aload_n (i := 2) (pc' := 18) dX10_isAlike_17 rfl rfl rfl ?_
  refine gf_10_ends (pc' := 21) dX10_isAlike_18 rfl fl_X10_23 ?_
  refine go_iload_n (i := 3) (pc' := 22) dX10_isAlike_21 rfl rfl rfl ?_
  refine go_iald (pc' := 23) dX10_isAlike_22 rfl (by decide) (by decide) rfl (vin_of (n := 80) (by omega) (by omega)) ?_
  refine go_rngA (ixa_52 w0.1) (vinlt (vin_of (n := 80) (by omega) (by omega))) (fun g4 => ?_)
  refine go_aload_n (i := 2) (pc' := 24) dX10_isAlike_23 rfl rfl rfl ?_
  refine gf_10_starts (pc' := 27) dX10_isAlike_24 rfl fl_X10_19 ?_
  refine go_iload_n (i := 3) (pc' := 28) dX10_isAlike_27 rfl rfl rfl ?_
  refine go_iald (pc' := 29) dX10_isAlike_28 rfl (by decide) (by decide) rfl (vin_of (n := 80) (by omega) (by omega)) ?_
  refine go_rngA (ixa_51 w0.1) (vinlt (vin_of (n := 80) (by omega) (by omega))) (fun g5 => ?_)
  refine gz_isub (pc' := 30) dX10_isAlike_29 rfl (by omega) (fun v6 h6 e6 => ?_)
  refine gz_icmp_eq (tgt := 35) (pc' := 33) dX10_isAlike_30 rfl (by decide) (fun c7 => ?_) (fun c7 => ?_)
  · refine go_iconst (v := 0) (pc' := 36) dX10_isAlike_35 rfl (by decide) ?_
    refine go_istore (pc' := 38) dX10_isAlike_36 rfl (by decide) ?_
    have loop38_8 : ∀ (dd8 : Nat) (x5_8 : Int32), (0 ≤ (x5_8).toInt ∧ (x5_8).toInt ≤ (v3).toInt) → (∀ k : Nat, (k : Int) < (x5_8).toInt → (σ.2 46 ((σ.2 47 (a).toNatClampNeg).toNatClampNeg + k)).toInt = (σ.2 50 ((σ.2 51 (b).toNatClampNeg).toNatClampNeg + k)).toInt) → ((v3).toInt - (x5_8).toInt).toNat = dd8 → Go F L RX10 cX10_isAlike 6 rm_X10_isAlike (some .boolean) (RI F L (fun r σ2 => σ2 = σ ∧ bq (smX σ (a).toNatClampNeg (b).toNatClampNeg) r)) σ 38 [(0, .ref (L.2.1 9)), (1, .int a), (2, .ref (L.2.1 10)), (3, .int b), (4, .int v3), (5, .int x5_8)] [] := by
      intro dd8
      induction dd8 using Nat.strongRecOn with
      | _ dd8 ih8 =>
        intro x5_8 h_8 ha_8 hm_8
        refine go_iload (pc' := 40) dX10_isAlike_38 rfl rfl ?_
        refine go_iload (pc' := 42) dX10_isAlike_40 rfl rfl ?_
        refine gz_icmp_ge (tgt := 84) (pc' := 45) dX10_isAlike_42 rfl (by decide) (fun c9 => ?_) (fun c9 => ?_)
        · refine go_iconst (v := 1) (pc' := 85) dX10_isAlike_84 rfl (by decide) ?_
          exact go_zret dX10_isAlike_85 rfl rfl (⟨rfl, bq_t ⟨by omega, fun k hk => ha_8 k (by omega)⟩⟩)
        refine go_aload_n (i := 0) (pc' := 46) dX10_isAlike_45 rfl rfl rfl ?_
        refine gf_9_bytes (pc' := 49) dX10_isAlike_46 rfl fl_X10_15 ?_
        refine go_aload_n (i := 0) (pc' := 50) dX10_isAlike_49 rfl rfl rfl ?_
        refine gf_9_starts (pc' := 53) dX10_isAlike_50 rfl fl_X10_19 ?_
        refine go_iload_n (i := 1) (pc' := 54) dX10_isAlike_53 rfl rfl rfl ?_
        refine go_iald (pc' := 55) dX10_isAlike_54 rfl (by decide) (by decide) rfl (vin_of (n := 80) (by omega) (by omega)) ?_
        refine go_rngA (ixa_47 w0.1) (vinlt (vin_of (n := 80) (by omega) (by omega))) (fun g10 => ?_)
        refine go_iload (pc' := 57) dX10_isAlike_55 rfl rfl ?_
        refine gz_iadd (pc' := 58) dX10_isAlike_57 rfl (by omega) (fun v11 h11 e11 => ?_)
        have c5 := cnat (x := x5_8) (by omega)
        have ez1 : (v11).toNatClampNeg = (σ.2 47 (a).toNatClampNeg).toNatClampNeg + (x5_8).toNatClampNeg := by have cz := cnat (x := v11) (by omega); omega
        refine go_bald (pc' := 59) dX10_isAlike_58 rfl (by decide) (by decide) rfl (vin_of (n := 160) (by omega) (by omega)) ?_
        refine go_rngA (ixa_46 w0.1) (vinlt (vin_of (n := 160) (by omega) (by omega))) (fun g12 => ?_)
        refine go_aload_n (i := 2) (pc' := 60) dX10_isAlike_59 rfl rfl rfl ?_
        refine gf_10_bytes (pc' := 63) dX10_isAlike_60 rfl fl_X10_15 ?_
        refine go_aload_n (i := 2) (pc' := 64) dX10_isAlike_63 rfl rfl rfl ?_
        refine gf_10_starts (pc' := 67) dX10_isAlike_64 rfl fl_X10_19 ?_
        refine go_iload_n (i := 3) (pc' := 68) dX10_isAlike_67 rfl rfl rfl ?_
        refine go_iald (pc' := 69) dX10_isAlike_68 rfl (by decide) (by decide) rfl (vin_of (n := 80) (by omega) (by omega)) ?_
        refine go_rngA (ixa_51 w0.1) (vinlt (vin_of (n := 80) (by omega) (by omega))) (fun g13 => ?_)
        refine go_iload (pc' := 71) dX10_isAlike_69 rfl rfl ?_
        refine gz_iadd (pc' := 72) dX10_isAlike_71 rfl (by omega) (fun v14 h14 e14 => ?_)
        have ez2 : (v14).toNatClampNeg = (σ.2 51 (b).toNatClampNeg).toNatClampNeg + (x5_8).toNatClampNeg := by have cz := cnat (x := v14) (by omega); omega
        refine go_bald (pc' := 73) dX10_isAlike_72 rfl (by decide) (by decide) rfl (vin_of (n := 160) (by omega) (by omega)) ?_
        refine go_rngA (ixa_50 w0.1) (vinlt (vin_of (n := 160) (by omega) (by omega))) (fun g15 => ?_)
        refine gz_icmp_eq (tgt := 78) (pc' := 76) dX10_isAlike_73 rfl (by decide) (fun c16 => ?_) (fun c16 => ?_)
        · refine gz_iinc (c := 1) (pc' := 81) dX10_isAlike_78 rfl rfl (by decide) (by decide) (by decide) (by omega) (fun v17 h17 e17 => ?_)
          refine go_goto (tgt := 38) dX10_isAlike_81 (by decide) ?_
          exact go_lv (lv' := [(0, .ref (L.2.1 9)), (1, .int a), (2, .ref (L.2.1 10)), (3, .int b), (4, .int v3), (5, .int v17)]) rfl (ih8 _ (by omega)  v17 (by omega) (all_step (P := fun k => (σ.2 46 ((σ.2 47 (a).toNatClampNeg).toNatClampNeg + k)).toInt = (σ.2 50 ((σ.2 51 (b).toNatClampNeg).toNatClampNeg + k)).toInt) ha_8 (by omega) (by omega) (by rw [← ez1, ← ez2]; omega)) rfl)
        refine go_iconst (v := 0) (pc' := 77) dX10_isAlike_76 rfl (by decide) ?_
        exact go_zret dX10_isAlike_77 rfl rfl (⟨rfl, bq_f (fun q => by have z : (σ.2 46 ((σ.2 47 (a).toNatClampNeg).toNatClampNeg + (x5_8).toNatClampNeg)).toInt = (σ.2 50 ((σ.2 51 (b).toNatClampNeg).toNatClampNeg + (x5_8).toNatClampNeg)).toInt := q.2 (x5_8).toNatClampNeg (by omega); rw [← ez1, ← ez2] at z; exact c16 z)⟩)
    exact go_lv (lv' := [(0, .ref (L.2.1 9)), (1, .int a), (2, .ref (L.2.1 10)), (3, .int b), (4, .int v3), (5, .int (0 : Int32))]) rfl (loop38_8 _  (0 : Int32) (by omega) (fun k hk => by exfalso; omega) rfl)
  refine go_iconst (v := 0) (pc' := 34) dX10_isAlike_33 rfl (by decide) ?_
  exact go_zret dX10_isAlike_34 rfl rfl (⟨rfl, bq_f (fun q => by have z := q.1; omega)⟩)
set_option maxHeartbeats 4000000 in
set_option maxRecDepth 100000 in
theorem e_X10_stepsTo (l : Launch) (L : WL) (σ : ST) (m n : Nat) (hm : (σ.1 15).toInt = (m : Int)) (hn : (σ.1 16).toInt = (n : Int)) (r1 : ∀ i : Nat, i < m → (σ.2 47 i).toInt ≤ (σ.2 48 i).toInt) (r2 : ∀ j : Nat, j < n → (σ.2 51 j).toInt ≤ (σ.2 52 j).toInt) (ix : IV σ) : CtI l L yX10_stepsTo cX10_stepsTo 6 (some .int) rm_X10_stepsTo [.ref (L.2.1 9), .ref (L.2.1 10)] σ (fun r σ2 => WXd σ σ2 ∧ r.toInt = (dl (smX σ) m n : Int)) := by
  refine ctI_go (own := RX10) (by decide) rfl (Nat.le_of_ble_eq_true rfl) (fun F hF => ?_)
  subst hF
  have n0 : (0 : Int32).toInt = 0 := by decide
  have n1 : (1 : Int32).toInt = 1 := by decide
  have w0 : WXd σ σ := WXd_rfl ix
  have u15 := ixi_15 ix
  have u16 := ixi_16 ix
  have z0 : (0 : Int32).toNatClampNeg = 0 := rfl
  refine go_iconst (v := 0) (pc' := 1) dX10_stepsTo_0 rfl (by decide) ?_
  refine go_istore_n (i := 2) (pc' := 2) dX10_stepsTo_1 rfl rfl (by decide) ?_
  have loop2_1 : ∀ (dd1 : Nat) (σ1 : ST) (x2_1 : Int32), WXd σ σ1 → (0 ≤ (x2_1).toInt ∧ (x2_1).toInt ≤ (n : Int) + 1) → (∀ q : Nat, (q : Int) < (x2_1).toInt → (σ1.2 49 q).toInt = (q : Int)) → (81 - (x2_1).toInt).toNat = dd1 → Go F L RX10 cX10_stepsTo 6 rm_X10_stepsTo (some .int) (RI F L (fun r σ2 => WXd σ σ2 ∧ r.toInt = (dl (smX σ) m n : Int))) σ1 2 [(0, .ref (L.2.1 9)), (1, .ref (L.2.1 10)), (2, .int x2_1)] [] := by
    intro dd1
    induction dd1 using Nat.strongRecOn with
    | _ dd1 ih1 =>
      intro σ1 x2_1 w1 h_1 hc_1 hm_1
      refine go_iload_n (i := 2) (pc' := 3) dX10_stepsTo_2 rfl rfl rfl ?_
      refine go_aload_n (i := 1) (pc' := 4) dX10_stepsTo_3 rfl rfl rfl ?_
      refine gf_10_size (pc' := 7) dX10_stepsTo_4 rfl fl_X10_9 ?_
      have g2 := ixi_16 w1.1
      have k16 := congrArg Int32.toInt (w1.2.1 16 (fun q => q))
      refine gz_icmp_gt (tgt := 23) (pc' := 10) dX10_stepsTo_7 rfl (by decide) (fun c3 => ?_) (fun c3 => ?_)
      · refine go_iconst (v := 0) (pc' := 24) dX10_stepsTo_23 rfl (by decide) ?_
        refine go_istore_n (i := 2) (pc' := 25) dX10_stepsTo_24 rfl rfl (by decide) ?_
        have loop25_4 : ∀ (dd4 : Nat) (σ4 : ST) (x2_4 : Int32), WXd σ σ4 → (0 ≤ (x2_4).toInt ∧ (x2_4).toInt ≤ (m : Int)) → (∀ q : Nat, q ≤ n → (σ4.2 49 q).toInt = (dl (smX σ) (x2_4).toNatClampNeg q : Int)) → (80 - (x2_4).toInt).toNat = dd4 → Go F L RX10 cX10_stepsTo 6 rm_X10_stepsTo (some .int) (RI F L (fun r σ2 => WXd σ σ2 ∧ r.toInt = (dl (smX σ) m n : Int))) σ4 25 [(0, .ref (L.2.1 9)), (1, .ref (L.2.1 10)), (2, .int x2_4)] [] := by
          intro dd4
          induction dd4 using Nat.strongRecOn with
          | _ dd4 ih4 =>
            intro σ4 x2_4 w4 h_4 hc_4 hm_4
            refine go_iload_n (i := 2) (pc' := 26) dX10_stepsTo_25 rfl rfl rfl ?_
            refine go_aload_n (i := 0) (pc' := 27) dX10_stepsTo_26 rfl rfl rfl ?_
            refine gf_9_size (pc' := 30) dX10_stepsTo_27 rfl fl_X10_9 ?_
            have g5 := ixi_15 w4.1
            have k15 := congrArg Int32.toInt (w4.2.1 15 (fun q => q))
            refine gz_icmp_ge (tgt := 130) (pc' := 33) dX10_stepsTo_30 rfl (by decide) (fun c6 => ?_) (fun c6 => ?_)
            · refine go_aload_n (i := 0) (pc' := 131) dX10_stepsTo_130 rfl rfl rfl ?_
              refine gf_9_costs (pc' := 134) dX10_stepsTo_131 rfl fl_X10_26 ?_
              refine go_aload_n (i := 1) (pc' := 135) dX10_stepsTo_134 rfl rfl rfl ?_
              refine gf_10_size (pc' := 138) dX10_stepsTo_135 rfl fl_X10_9 ?_
              have g7 := ixi_16 w4.1
              refine go_iald (pc' := 139) dX10_stepsTo_138 rfl (by decide) (by decide) rfl (vin_of (n := 81) (by omega) (by omega)) ?_
              exact go_iret dX10_stepsTo_139 rfl (⟨w4, by have k16 := w4.2.1 16 (fun q => q); have c2 := cnat (x := x2_4) (by omega); have c16 := cnat (x := σ.1 16) (by omega); rw [k16, show (σ.1 16).toNatClampNeg = n from by omega, hc_4 n (Nat.le_refl n), show (x2_4).toNatClampNeg = m from by omega]⟩)
            have c2 := cnat (x := x2_4) (by omega)
            have d0 := hc_4 0 (by omega)
            rw [dl_0] at d0
            refine go_aload_n (i := 0) (pc' := 34) dX10_stepsTo_33 rfl rfl rfl ?_
            refine gf_9_costs (pc' := 37) dX10_stepsTo_34 rfl fl_X10_26 ?_
            refine go_iconst (v := 0) (pc' := 38) dX10_stepsTo_37 rfl (by decide) ?_
            refine go_iald (pc' := 39) dX10_stepsTo_38 rfl (by decide) (by decide) rfl (vin_of (n := 81) (by omega) (by omega)) ?_
            have e39 : ((σ4.2 49 ((0 : Int32)).toNatClampNeg)).toInt = ((x2_4).toNatClampNeg : Int) := by rw [z0]; exact d0
            refine go_topz (fun y8 h8 e8 => ?_)
            refine go_istore_n (i := 3) (pc' := 40) dX10_stepsTo_39 rfl rfl (by decide) ?_
            refine go_aload_n (i := 0) (pc' := 41) dX10_stepsTo_40 rfl rfl rfl ?_
            refine gf_9_costs (pc' := 44) dX10_stepsTo_41 rfl fl_X10_26 ?_
            refine go_iconst (v := 0) (pc' := 45) dX10_stepsTo_44 rfl (by decide) ?_
            refine go_iload_n (i := 2) (pc' := 46) dX10_stepsTo_45 rfl rfl rfl ?_
            refine go_iconst (v := 1) (pc' := 47) dX10_stepsTo_46 rfl (by decide) ?_
            refine gz_iadd (pc' := 48) dX10_stepsTo_47 rfl (by omega) (fun v9 h9 e9 => ?_)
            refine go_iast (pc' := 49) dX10_stepsTo_48 rfl (by decide) (by decide) rfl (vin_of (n := 81) (by omega) (by omega)) ?_
            refine go_gen (P := fun s => WXd σ s ∧ s.2 49 = upd (σ4.2 49) ((0 : Int32)).toNatClampNeg v9) ⟨⟨ixt_n w4.1 (by decide), Ag_setA w4.2 (by decide)⟩, setA_same _ _ _ _⟩ (fun σ10 z10 => ?_)
            obtain ⟨w10, g10⟩ := z10
            have gB := g10
            refine go_iconst (v := 0) (pc' := 50) dX10_stepsTo_49 rfl (by decide) ?_
            refine go_istore (pc' := 52) dX10_stepsTo_50 rfl (by decide) ?_
            have loop52_11 : ∀ (dd11 : Nat) (σ11 : ST) (x3_11 : Int32) (x4_11 : Int32), WXd σ σ11 → (0 ≤ (x4_11).toInt ∧ (x4_11).toInt ≤ (n : Int)) → ((x3_11).toInt = (dl (smX σ) (x2_4).toNatClampNeg (x4_11).toNatClampNeg : Int)) → (∀ q : Nat, q ≤ n → (q ≤ (x4_11).toNatClampNeg → (σ11.2 49 q).toInt = (dl (smX σ) ((x2_4).toNatClampNeg + 1) q : Int)) ∧ ((x4_11).toNatClampNeg < q → (σ11.2 49 q).toInt = (dl (smX σ) (x2_4).toNatClampNeg q : Int))) → (80 - (x4_11).toInt).toNat = dd11 → Go F L RX10 cX10_stepsTo 6 rm_X10_stepsTo (some .int) (RI F L (fun r σ2 => WXd σ σ2 ∧ r.toInt = (dl (smX σ) m n : Int))) σ11 52 [(0, .ref (L.2.1 9)), (1, .ref (L.2.1 10)), (2, .int x2_4), (3, .int x3_11), (4, .int x4_11)] [] := by
              intro dd11
              induction dd11 using Nat.strongRecOn with
              | _ dd11 ih11 =>
                intro σ11 x3_11 x4_11 w11 h_11 hd_11 hc_11 hm_11
                refine go_iload (pc' := 54) dX10_stepsTo_52 rfl rfl ?_
                refine go_aload_n (i := 1) (pc' := 55) dX10_stepsTo_54 rfl rfl rfl ?_
                refine gf_10_size (pc' := 58) dX10_stepsTo_55 rfl fl_X10_9 ?_
                have g12 := ixi_16 w11.1
                have k16 := congrArg Int32.toInt (w11.2.1 16 (fun q => q))
                have c4 := cnat (x := x4_11) (by omega)
                refine gz_icmp_ge (tgt := 124) (pc' := 61) dX10_stepsTo_58 rfl (by decide) (fun c13 => ?_) (fun c13 => ?_)
                · refine gz_iinc (c := 1) (pc' := 127) dX10_stepsTo_124 rfl rfl (by decide) (by decide) (by decide) (by omega) (fun v14 h14 e14 => ?_)
                  refine go_goto (tgt := 25) dX10_stepsTo_127 (by decide) ?_
                  exact go_lv (lv' := [(0, .ref (L.2.1 9)), (1, .ref (L.2.1 10)), (2, .int v14)]) rfl (ih4 _ (by omega) σ11 v14 w11 (by omega) (fun q hq => by have cv := cnat (x := v14) (by omega); rw [show (v14).toNatClampNeg = (x2_4).toNatClampNeg + 1 from by omega]; exact (hc_11 q hq).1 (by omega)) rfl)
                have dA := dl_le (smX σ) (x2_4).toNatClampNeg ((x4_11).toNatClampNeg + 1)
                have dB := dl_le (smX σ) ((x2_4).toNatClampNeg + 1) (x4_11).toNatClampNeg
                have dC := dl_le (smX σ) (x2_4).toNatClampNeg (x4_11).toNatClampNeg
                have qa := (hc_11 ((x4_11).toNatClampNeg + 1) (by omega)).2 (by omega)
                have qb := (hc_11 (x4_11).toNatClampNeg (by omega)).1 (by omega)
                have sme := smX_e w11 (x2_4).toNatClampNeg (x4_11).toNatClampNeg
                have e47 : σ11.2 47 = σ.2 47 := w11.2.2 47 (by decide)
                have e48 : σ11.2 48 = σ.2 48 := w11.2.2 48 (by decide)
                have e51 : σ11.2 51 = σ.2 51 := w11.2.2 51 (by decide)
                have e52 : σ11.2 52 = σ.2 52 := w11.2.2 52 (by decide)
                refine go_aload_n (i := 0) (pc' := 62) dX10_stepsTo_61 rfl rfl rfl ?_
                refine go_iload_n (i := 2) (pc' := 63) dX10_stepsTo_62 rfl rfl rfl ?_
                refine go_aload_n (i := 1) (pc' := 64) dX10_stepsTo_63 rfl rfl rfl ?_
                refine go_iload (pc' := 66) dX10_stepsTo_64 rfl rfl ?_
                refine go_cvi (pc' := 69) lk_X10_35 (e_X10_isAlike _ _ _ _ _ (by omega) (by omega) (by rw [e47, e48]; exact r1 _ (by omega)) (by rw [e51, e52]; exact r2 _ (by omega)) w11.1) rfl rfl (Nat.le_of_ble_eq_true rfl) (by decide) rfl rfl rfl ⟨Nat.le_of_ble_eq_true rfl, Nat.le_of_ble_eq_true rfl⟩ ⟨rfl, rfl⟩ dX10_stepsTo_66 rfl (fun r15 σ15 h15 => ?_)
                obtain ⟨e15, h15⟩ := h15
                have e15 := e15.symm
                subst e15
                refine go_eqB (tgt := 76) (pc' := 72) h15 dX10_stepsTo_69 rfl (by decide) (fun c16 => ?_) (fun c16 => ?_)
                · refine go_iload_n (i := 3) (pc' := 77) dX10_stepsTo_76 rfl rfl rfl ?_
                  refine go_iconst (v := 1) (pc' := 78) dX10_stepsTo_77 rfl (by decide) ?_
                  refine gz_iadd (pc' := 79) dX10_stepsTo_78 rfl (by omega) (fun v17 h17 e17 => ?_)
                  refine go_istore (pc' := 81) dX10_stepsTo_79 rfl (by decide) ?_
                  obtain ⟨de, ds1, ds2⟩ : ∃ e : Nat, (v17).toInt = (dl (smX σ) (x2_4).toNatClampNeg (x4_11).toNatClampNeg : Int) + e ∧ dl (smX σ) ((x2_4).toNatClampNeg + 1) ((x4_11).toNatClampNeg + 1) = min (min (dl (smX σ) (x2_4).toNatClampNeg ((x4_11).toNatClampNeg + 1)) (dl (smX σ) ((x2_4).toNatClampNeg + 1) (x4_11).toNatClampNeg) + 1) (dl (smX σ) (x2_4).toNatClampNeg (x4_11).toNatClampNeg + e) := by
                    first
                    | exact ⟨0, by omega, dl_step rfl rfl rfl (Or.inl ⟨sme.mp c16, rfl⟩)⟩
                    | exact ⟨1, by omega, dl_step rfl rfl rfl (Or.inr ⟨fun q => c16 (sme.mpr q), rfl⟩)⟩
                  refine go_aload_n (i := 0) (pc' := 82) dX10_stepsTo_81 rfl rfl rfl ?_
                  refine gf_9_costs (pc' := 85) dX10_stepsTo_82 rfl fl_X10_26 ?_
                  refine go_iload (pc' := 87) dX10_stepsTo_85 rfl rfl ?_
                  refine go_iconst (v := 1) (pc' := 88) dX10_stepsTo_87 rfl (by decide) ?_
                  refine gz_iadd (pc' := 89) dX10_stepsTo_88 rfl (by omega) (fun v18 h18 e18 => ?_)
                  have ez9 : (v18).toNatClampNeg = (x4_11).toNatClampNeg + 1 := by have cz := cnat (x := v18) (by omega); omega
                  refine go_iald (pc' := 90) dX10_stepsTo_89 rfl (by decide) (by decide) rfl (vin_of (n := 81) (by omega) (by omega)) ?_
                  rw [ez9]
                  refine go_topz (fun y19 h19 e19 => ?_)
                  refine go_istore_n (i := 3) (pc' := 91) dX10_stepsTo_90 rfl rfl (by decide) ?_
                  refine go_aload_n (i := 0) (pc' := 92) dX10_stepsTo_91 rfl rfl rfl ?_
                  refine gf_9_costs (pc' := 95) dX10_stepsTo_92 rfl fl_X10_26 ?_
                  refine go_iload (pc' := 97) dX10_stepsTo_95 rfl rfl ?_
                  refine go_iconst (v := 1) (pc' := 98) dX10_stepsTo_97 rfl (by decide) ?_
                  refine gz_iadd (pc' := 99) dX10_stepsTo_98 rfl (by omega) (fun v20 h20 e20 => ?_)
                  have ez : (v20).toNatClampNeg = (x4_11).toNatClampNeg + 1 := by have cz := cnat (x := v20) (by omega); omega
                  refine go_iload (pc' := 101) dX10_stepsTo_99 rfl rfl ?_
                  refine go_iload_n (i := 3) (pc' := 102) dX10_stepsTo_101 rfl rfl rfl ?_
                  refine go_aload_n (i := 0) (pc' := 103) dX10_stepsTo_102 rfl rfl rfl ?_
                  refine gf_9_costs (pc' := 106) dX10_stepsTo_103 rfl fl_X10_26 ?_
                  refine go_iload (pc' := 108) dX10_stepsTo_106 rfl rfl ?_
                  refine go_iald (pc' := 109) dX10_stepsTo_108 rfl (by decide) (by decide) rfl (vin_of (n := 81) (by omega) (by omega)) ?_
                  refine gz_min (pc' := 112) dX10_stepsTo_109 rfl ml_X10_39 (Nat.le_of_ble_eq_true rfl) (Nat.le_of_ble_eq_true rfl) (fun v21 h21 e21 => ?_)
                  refine go_iconst (v := 1) (pc' := 113) dX10_stepsTo_112 rfl (by decide) ?_
                  refine gz_iadd (pc' := 114) dX10_stepsTo_113 rfl (by omega) (fun v22 h22 e22 => ?_)
                  refine gz_min (pc' := 117) dX10_stepsTo_114 rfl ml_X10_39 (Nat.le_of_ble_eq_true rfl) (Nat.le_of_ble_eq_true rfl) (fun v23 h23 e23 => ?_)
                  refine go_iast (pc' := 118) dX10_stepsTo_117 rfl (by decide) (by decide) rfl (vin_of (n := 81) (by omega) (by omega)) ?_
                  refine go_gen (P := fun s => WXd σ s ∧ s.2 49 = upd (σ11.2 49) (v20).toNatClampNeg v23) ⟨⟨ixt_n w11.1 (by decide), Ag_setA w11.2 (by decide)⟩, setA_same _ _ _ _⟩ (fun σ24 z24 => ?_)
                  obtain ⟨w24, g24⟩ := z24
                  have gC := g24
                  refine gz_iinc (c := 1) (pc' := 121) dX10_stepsTo_118 rfl rfl (by decide) (by decide) (by decide) (by omega) (fun v25 h25 e25 => ?_)
                  refine go_goto (tgt := 52) dX10_stepsTo_121 (by decide) ?_
                  exact go_lv (lv' := [(0, .ref (L.2.1 9)), (1, .ref (L.2.1 10)), (2, .int x2_4), (3, .int y19), (4, .int v25)]) rfl (ih11 _ (by omega) σ24 y19 v25 w24 (by omega) (by have cv := cnat (x := v25) (by omega); rw [show (v25).toNatClampNeg = (x4_11).toNatClampNeg + 1 from by omega]; omega) (by have cv := cnat (x := v25) (by omega); exact dp_step hc_11 gC ez (by omega) (by omega)) rfl)
                refine go_iload_n (i := 3) (pc' := 73) dX10_stepsTo_72 rfl rfl rfl ?_
                refine go_goto (tgt := 79) dX10_stepsTo_73 (by decide) ?_
                refine go_istore (pc' := 81) dX10_stepsTo_79 rfl (by decide) ?_
                obtain ⟨de, ds1, ds2⟩ : ∃ e : Nat, (x3_11).toInt = (dl (smX σ) (x2_4).toNatClampNeg (x4_11).toNatClampNeg : Int) + e ∧ dl (smX σ) ((x2_4).toNatClampNeg + 1) ((x4_11).toNatClampNeg + 1) = min (min (dl (smX σ) (x2_4).toNatClampNeg ((x4_11).toNatClampNeg + 1)) (dl (smX σ) ((x2_4).toNatClampNeg + 1) (x4_11).toNatClampNeg) + 1) (dl (smX σ) (x2_4).toNatClampNeg (x4_11).toNatClampNeg + e) := by
                  first
                  | exact ⟨0, by omega, dl_step rfl rfl rfl (Or.inl ⟨sme.mp c16, rfl⟩)⟩
                  | exact ⟨1, by omega, dl_step rfl rfl rfl (Or.inr ⟨fun q => c16 (sme.mpr q), rfl⟩)⟩
                refine go_aload_n (i := 0) (pc' := 82) dX10_stepsTo_81 rfl rfl rfl ?_
                refine gf_9_costs (pc' := 85) dX10_stepsTo_82 rfl fl_X10_26 ?_
                refine go_iload (pc' := 87) dX10_stepsTo_85 rfl rfl ?_
                refine go_iconst (v := 1) (pc' := 88) dX10_stepsTo_87 rfl (by decide) ?_
                refine gz_iadd (pc' := 89) dX10_stepsTo_88 rfl (by omega) (fun v26 h26 e26 => ?_)
                have ez9 : (v26).toNatClampNeg = (x4_11).toNatClampNeg + 1 := by have cz := cnat (x := v26) (by omega); omega
                refine go_iald (pc' := 90) dX10_stepsTo_89 rfl (by decide) (by decide) rfl (vin_of (n := 81) (by omega) (by omega)) ?_
                rw [ez9]
                refine go_topz (fun y27 h27 e27 => ?_)
                refine go_istore_n (i := 3) (pc' := 91) dX10_stepsTo_90 rfl rfl (by decide) ?_
                refine go_aload_n (i := 0) (pc' := 92) dX10_stepsTo_91 rfl rfl rfl ?_
                refine gf_9_costs (pc' := 95) dX10_stepsTo_92 rfl fl_X10_26 ?_
                refine go_iload (pc' := 97) dX10_stepsTo_95 rfl rfl ?_
                refine go_iconst (v := 1) (pc' := 98) dX10_stepsTo_97 rfl (by decide) ?_
                refine gz_iadd (pc' := 99) dX10_stepsTo_98 rfl (by omega) (fun v28 h28 e28 => ?_)
                have ez : (v28).toNatClampNeg = (x4_11).toNatClampNeg + 1 := by have cz := cnat (x := v28) (by omega); omega
                refine go_iload (pc' := 101) dX10_stepsTo_99 rfl rfl ?_
                refine go_iload_n (i := 3) (pc' := 102) dX10_stepsTo_101 rfl rfl rfl ?_
                refine go_aload_n (i := 0) (pc' := 103) dX10_stepsTo_102 rfl rfl rfl ?_
                refine gf_9_costs (pc' := 106) dX10_stepsTo_103 rfl fl_X10_26 ?_
                refine go_iload (pc' := 108) dX10_stepsTo_106 rfl rfl ?_
                refine go_iald (pc' := 109) dX10_stepsTo_108 rfl (by decide) (by decide) rfl (vin_of (n := 81) (by omega) (by omega)) ?_
                refine gz_min (pc' := 112) dX10_stepsTo_109 rfl ml_X10_39 (Nat.le_of_ble_eq_true rfl) (Nat.le_of_ble_eq_true rfl) (fun v29 h29 e29 => ?_)
                refine go_iconst (v := 1) (pc' := 113) dX10_stepsTo_112 rfl (by decide) ?_
                refine gz_iadd (pc' := 114) dX10_stepsTo_113 rfl (by omega) (fun v30 h30 e30 => ?_)
                refine gz_min (pc' := 117) dX10_stepsTo_114 rfl ml_X10_39 (Nat.le_of_ble_eq_true rfl) (Nat.le_of_ble_eq_true rfl) (fun v31 h31 e31 => ?_)
                refine go_iast (pc' := 118) dX10_stepsTo_117 rfl (by decide) (by decide) rfl (vin_of (n := 81) (by omega) (by omega)) ?_
                refine go_gen (P := fun s => WXd σ s ∧ s.2 49 = upd (σ11.2 49) (v28).toNatClampNeg v31) ⟨⟨ixt_n w11.1 (by decide), Ag_setA w11.2 (by decide)⟩, setA_same _ _ _ _⟩ (fun σ32 z32 => ?_)
                obtain ⟨w32, g32⟩ := z32
                have gC := g32
                refine gz_iinc (c := 1) (pc' := 121) dX10_stepsTo_118 rfl rfl (by decide) (by decide) (by decide) (by omega) (fun v33 h33 e33 => ?_)
                refine go_goto (tgt := 52) dX10_stepsTo_121 (by decide) ?_
                exact go_lv (lv' := [(0, .ref (L.2.1 9)), (1, .ref (L.2.1 10)), (2, .int x2_4), (3, .int y27), (4, .int v33)]) rfl (ih11 _ (by omega) σ32 y27 v33 w32 (by omega) (by have cv := cnat (x := v33) (by omega); rw [show (v33).toNatClampNeg = (x4_11).toNatClampNeg + 1 from by omega]; omega) (by have cv := cnat (x := v33) (by omega); exact dp_step hc_11 gC ez (by omega) (by omega)) rfl)
            exact go_lv (lv' := [(0, .ref (L.2.1 9)), (1, .ref (L.2.1 10)), (2, .int x2_4), (3, .int y8), (4, .int (0 : Int32))]) rfl (loop52_11 _ σ10 y8 (0 : Int32) w10 (by omega) (by rw [z0, dl_0]; omega) (by rw [z0]; exact dp_0 hc_4 gB z0 (by omega)) rfl)
        exact go_lv (lv' := [(0, .ref (L.2.1 9)), (1, .ref (L.2.1 10)), (2, .int (0 : Int32))]) rfl (loop25_4 _ σ1 (0 : Int32) w1 (by omega) (fun q hq => by rw [z0]; exact hc_1 q (by omega)) rfl)
      refine go_aload_n (i := 0) (pc' := 11) dX10_stepsTo_10 rfl rfl rfl ?_
      refine gf_9_costs (pc' := 14) dX10_stepsTo_11 rfl fl_X10_26 ?_
      refine go_iload_n (i := 2) (pc' := 15) dX10_stepsTo_14 rfl rfl rfl ?_
      refine go_iload_n (i := 2) (pc' := 16) dX10_stepsTo_15 rfl rfl rfl ?_
      refine go_iast (pc' := 17) dX10_stepsTo_16 rfl (by decide) (by decide) rfl (vin_of (n := 81) (by omega) (by omega)) ?_
      refine go_gen (P := fun s => WXd σ s ∧ s.2 49 = upd (σ1.2 49) (x2_1).toNatClampNeg x2_1) ⟨⟨ixt_n w1.1 (by decide), Ag_setA w1.2 (by decide)⟩, setA_same _ _ _ _⟩ (fun σ34 z34 => ?_)
      obtain ⟨w34, g34⟩ := z34
      have gA := g34
      refine gz_iinc (c := 1) (pc' := 20) dX10_stepsTo_17 rfl rfl (by decide) (by decide) (by decide) (by omega) (fun v35 h35 e35 => ?_)
      refine go_goto (tgt := 2) dX10_stepsTo_20 (by decide) ?_
      exact go_lv (lv' := [(0, .ref (L.2.1 9)), (1, .ref (L.2.1 10)), (2, .int v35)]) rfl (ih1 _ (by omega) σ34 v35 w34 (by omega) (upd_step (P := fun q z => z.toInt = (q : Int)) hc_1 gA (by have cz := cnat (x := x2_1) (by omega); omega) (by omega) (by omega)) rfl)
  exact go_lv (lv' := [(0, .ref (L.2.1 9)), (1, .ref (L.2.1 10)), (2, .int (0 : Int32))]) rfl (loop2_1 _ σ (0 : Int32) w0 (by omega) (fun q hq => by exfalso; omega) rfl)
set_option maxHeartbeats 4000000 in
set_option maxRecDepth 100000 in
theorem f_X11_differ (l : Launch) (L : WL) (σ : ST) (a b : Int32) (ix : IV σ) (tv : TVX σ) : CtI l L yX11_differ cX11_differ 3 (some .int) rm_X11_differ [.ref (L.2.1 0), .int a, .int b] σ (fun r σ2 => tX_differ σ a b r σ2) := by
  refine ctI_go (own := RX11) (by decide) rfl (Nat.le_of_ble_eq_true rfl) (fun F hF => ?_)
  subst hF
  have nm2 : (-2 : Int32).toInt = -2 := by decide
  have w0 : WX σ σ := WX_rfl ix
  have gl := ixi_3 ix
  refine go_aload_n (i := 0) (pc' := 1) dX11_differ_0 rfl rfl rfl ?_
  refine gf_0_letters (pc' := 4) dX11_differ_1 rfl fl_X11_19 ?_
  refine go_iload_n (i := 1) (pc' := 5) dX11_differ_4 rfl rfl rfl ?_
  refine go_cvi (pc' := 8) lk_X11_130 (c_X2_has _ _ _ _) rfl rfl (Nat.le_of_ble_eq_true rfl) (by decide) rfl rfl rfl ⟨Nat.le_of_ble_eq_true rfl, Nat.le_of_ble_eq_true rfl⟩ ⟨rfl, rfl⟩ dX11_differ_5 rfl (fun r1 σ1 h1 => ?_)
  obtain ⟨e1, h1⟩ := h1
  have e1 := e1.symm
  subst e1
  refine go_eqB (tgt := 22) (pc' := 11) h1 dX11_differ_8 rfl (by decide) (fun c2 => ?_) (fun c2 => ?_)
  · refine go_bipush (v := (-2)) (pc' := 24) dX11_differ_22 rfl (by decide) ?_
    exact go_iret dX11_differ_24 rfl (⟨w0, Or.inl ⟨by omega, rfl⟩⟩)
  refine go_aload_n (i := 0) (pc' := 12) dX11_differ_11 rfl rfl rfl ?_
  refine gf_0_letters (pc' := 15) dX11_differ_12 rfl fl_X11_19 ?_
  refine go_iload_n (i := 2) (pc' := 16) dX11_differ_15 rfl rfl rfl ?_
  refine go_cvi (pc' := 19) lk_X11_130 (c_X2_has _ _ _ _) rfl rfl (Nat.le_of_ble_eq_true rfl) (by decide) rfl rfl rfl ⟨Nat.le_of_ble_eq_true rfl, Nat.le_of_ble_eq_true rfl⟩ ⟨rfl, rfl⟩ dX11_differ_16 rfl (fun r3 σ3 h3 => ?_)
  obtain ⟨e3, h3⟩ := h3
  have e3 := e3.symm
  subst e3
  refine go_neB (tgt := 25) (pc' := 22) h3 dX11_differ_19 rfl (by decide) (fun c4 => ?_) (fun c4 => ?_)
  · refine go_aload_n (i := 0) (pc' := 26) dX11_differ_25 rfl rfl rfl ?_
    refine go_iload_n (i := 1) (pc' := 27) dX11_differ_26 rfl rfl rfl ?_
    refine go_aload_n (i := 0) (pc' := 28) dX11_differ_27 rfl rfl rfl ?_
    refine gf_0_someWords (pc' := 31) dX11_differ_28 rfl fl_X11_68 ?_
    refine go_cvv (pc' := 34) lk_X11_258 (e_X11_readWords_9 _ _ _ _ (by omega) w0.1 tv) rfl rfl (Nat.le_of_ble_eq_true rfl) (by decide) rfl rfl rfl ⟨Nat.le_of_ble_eq_true rfl, Nat.le_of_ble_eq_true rfl⟩ ⟨rfl, rfl⟩ dX11_differ_31 rfl (fun σ5 h5 => ?_)
    obtain ⟨u5, h5⟩ := h5
    have w5 := WX_trans w0 u5
    have rA := h5
    have u9 := u5
    refine go_aload_n (i := 0) (pc' := 35) dX11_differ_34 rfl rfl rfl ?_
    refine go_iload_n (i := 2) (pc' := 36) dX11_differ_35 rfl rfl rfl ?_
    refine go_aload_n (i := 0) (pc' := 37) dX11_differ_36 rfl rfl rfl ?_
    refine gf_0_otherWords (pc' := 40) dX11_differ_37 rfl fl_X11_72 ?_
    refine go_cvv (pc' := 43) lk_X11_258 (e_X11_readWords_10 _ _ _ _ (by omega) w5.1 (TVX_q w5 tv)) rfl rfl (Nat.le_of_ble_eq_true rfl) (by decide) rfl rfl rfl ⟨Nat.le_of_ble_eq_true rfl, Nat.le_of_ble_eq_true rfl⟩ ⟨rfl, rfl⟩ dX11_differ_40 rfl (fun σ6 h6 => ?_)
    obtain ⟨u6, h6⟩ := h6
    have w6 := WX_trans w5 u6
    have rB := h6
    rw [FUX_q u9 (show (b).toNatClampNeg < 12 by have cb := cnat (x := b) (by omega); omega)] at rB
    have q15 : σ6.1 15 = σ5.1 15 := rB.2.2 15 (by omega) (by omega)
    have q46 : σ6.2 46 = σ5.2 46 := rB.2.1 46 (by omega)
    have q47 : σ6.2 47 = σ5.2 47 := rB.2.1 47 (by omega)
    have q48 : σ6.2 48 = σ5.2 48 := rB.2.1 48 (by omega)
    have wa : WRD (FUX σ (a).toNatClampNeg 9999 0) (σ6.1 15) (σ6.2 46) (σ6.2 47) (σ6.2 48) := by rw [q15, q46, q47, q48]; exact rA.1
    have wb := rB.1
    have ra := wd_rng (lsP (FUX σ (a).toNatClampNeg 9999 0)) (FUX σ (a).toNatClampNeg 9999 0).length
    have rb := wd_rng (lsP (FUX σ (b).toNatClampNeg 9999 0)) (FUX σ (b).toNatClampNeg 9999 0).length
    refine go_aload_n (i := 0) (pc' := 44) dX11_differ_43 rfl rfl rfl ?_
    refine gf_0_someWords (pc' := 47) dX11_differ_44 rfl fl_X11_68 ?_
    refine go_aload_n (i := 0) (pc' := 48) dX11_differ_47 rfl rfl rfl ?_
    refine gf_0_otherWords (pc' := 51) dX11_differ_48 rfl fl_X11_72 ?_
    refine go_cvi (pc' := 54) lk_X11_263 (e_X10_stepsTo _ _ _ (wN (lsP (FUX σ (a).toNatClampNeg 9999 0)) (FUX σ (a).toNatClampNeg 9999 0).length) (wN (lsP (FUX σ (b).toNatClampNeg 9999 0)) (FUX σ (b).toNatClampNeg 9999 0).length) wa.1.1 wb.1.1 (fun i hi => by have y := wa.1.2 i hi; have z := ra i hi; omega) (fun i hi => by have y := wb.1.2 i hi; have z := rb i hi; omega) w6.1) rfl rfl (Nat.le_of_ble_eq_true rfl) (by decide) rfl rfl rfl ⟨Nat.le_of_ble_eq_true rfl, Nat.le_of_ble_eq_true rfl⟩ ⟨rfl, rfl⟩ dX11_differ_51 rfl (fun r7 σ7 h7 => ?_)
    obtain ⟨u7, h7⟩ := h7
    have w7 := WX_trans w6 (WX_of_d u7)
    have st := h7
    exact go_iret dX11_differ_54 rfl (by
        refine ⟨w7, Or.inr ⟨by omega, ?_⟩⟩
        rw [st]
        unfold DIF
        congr 1
        refine dl_congr (fun i j hi hj => ?_) _ _ (Nat.le_refl _) (Nat.le_refl _)
        have ya := wa.1.2 i hi
        have za := ra i hi
        have yb := wb.1.2 j hj
        have zb := rb j hj
        unfold smX sLL
        have e1 : (σ6.2 47 i).toNatClampNeg = wS (lsP (FUX σ (a).toNatClampNeg 9999 0)) (FUX σ (a).toNatClampNeg 9999 0).length i := by have q := cnat (x := σ6.2 47 i) (by omega); omega
        have e2 : (σ6.2 48 i).toNatClampNeg = wE (lsP (FUX σ (a).toNatClampNeg 9999 0)) (FUX σ (a).toNatClampNeg 9999 0).length i := by have q := cnat (x := σ6.2 48 i) (by omega); omega
        have e3 : (σ6.2 51 j).toNatClampNeg = wS (lsP (FUX σ (b).toNatClampNeg 9999 0)) (FUX σ (b).toNatClampNeg 9999 0).length j := by have q := cnat (x := σ6.2 51 j) (by omega); omega
        have e4 : (σ6.2 52 j).toNatClampNeg = wE (lsP (FUX σ (b).toNatClampNeg 9999 0)) (FUX σ (b).toNatClampNeg 9999 0).length j := by have q := cnat (x := σ6.2 52 j) (by omega); omega
        rw [e1, e2, e3, e4]
        exact sm_eq wa.2 wb.2 za.2 zb.2)
  refine go_bipush (v := (-2)) (pc' := 24) dX11_differ_22 rfl (by decide) ?_
  exact go_iret dX11_differ_24 rfl (⟨w0, Or.inl ⟨by omega, rfl⟩⟩)
