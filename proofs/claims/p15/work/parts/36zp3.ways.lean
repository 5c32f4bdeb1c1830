abbrev rtM (σ : ST) (j : Nat) : Nat := rtF (σ.2 108) j
abbrev frM (σ : ST) (k : Nat) : Nat := (σ.2 111 k).toNatClampNeg
abbrev toM (σ : ST) (k : Nat) : Nat := (σ.2 112 k).toNatClampNeg
abbrev shM (σ : ST) (k : Nat) : Int := (σ.2 113 k).toInt
def FDM (σ : ST) : Prop := (∀ j : Nat, (j : Int) < (σ.1 20).toInt → (rtM σ j : Int) < (σ.1 20).toInt ∧ (σ.2 108 (rtM σ j)).toInt < 0) ∧ ∀ k : Nat, (k : Int) < (σ.1 21).toInt → (frM σ k : Int) < (σ.1 20).toInt ∧ (toM σ k : Int) < (σ.1 20).toInt
def EdM (σ : ST) (kp : Nat → Prop) : Nat → Nat → Int → Prop := EdG (σ.2 108) (σ.2 111) (σ.2 112) (σ.2 113) (σ.1 21).toInt kp
theorem rtM_r {σ : ST} (fd : FDM σ) {j : Nat} (hj : (j : Int) < (σ.1 20).toInt) : rtM σ (rtM σ j) = rtM σ j := if_pos (fd.1 j hj).2
theorem FSM_rt {σ : ST} {kp : Nat → Prop} {x : Nat → Int} (h : FSM σ kp x) {j : Nat} (hj : (j : Int) < (σ.1 20).toInt) : x j = x (rtM σ j) := by
  by_cases c : (σ.2 108 j).toInt < 0
  · rw [show rtM σ j = j from if_pos c]
  · rw [show rtM σ j = (σ.2 108 j).toNatClampNeg from if_neg c]
    exact (h.1 j hj).2.2.2 (by omega)
def dM (s : ST) (a b : Nat) : Int := (s.2 122 (12 * a + b)).toInt
/-- a way from A to B of d is known now -/
def UPD (n : Nat) (D D2 : Nat → Nat → Int) (A B : Nat) (d : Int) : Prop := D2 A B = max (D A B) d ∧ ∀ a b : Nat, a < n → b < n → ¬ (a = A ∧ b = B) → D2 a b = D a b
theorem UP_keep {n : Nat} {D D2 : Nat → Nat → Int} {A B : Nat} {d : Int} (u : UPD n D D2 A B d) (hd : -500 ≤ d) {a b : Nat} {v : Int} (ha : a < n) (hb : b < n) (q : D a b ≠ (-1000000) ∧ v ≤ D a b) : D2 a b ≠ (-1000000) ∧ v ≤ D2 a b := by
  by_cases c : a = A ∧ b = B
  · obtain ⟨rfl, rfl⟩ := c
    rw [u.1]
    omega
  · rw [u.2 a b ha hb c]
    exact q
theorem UP_new {n : Nat} {D D2 : Nat → Nat → Int} {A B : Nat} {d : Int} (u : UPD n D D2 A B d) (hd : -500 ≤ d) : D2 A B ≠ (-1000000) ∧ d ≤ D2 A B := by
  rw [u.1]
  omega
/-- sizes, and what is told of each way -/
def P23 (n : Nat) (x : Nat → Int) (G : Nat → Nat → Int → Prop) (D : Nat → Nat → Int) : Prop := (∀ a b : Nat, a < n → b < n → D a b ≠ (-1000000) → -500 ≤ D a b ∧ D a b ≤ x b - x a) ∧ GI n G D
theorem P23_up {n : Nat} {x : Nat → Int} {G : Nat → Nat → Int → Prop} {D D2 : Nat → Nat → Int} {A B : Nat} {d : Int} (h : P23 n x G D) (u : UPD n D D2 A B d) (hd : -500 ≤ d) (hx : d ≤ x B - x A) (g : G A B d) : P23 n x G D2 := by
  refine ⟨fun a b ha hb f => ?_, fun a b ha hb f => ?_⟩
  · by_cases c : a = A ∧ b = B
    · obtain ⟨rfl, rfl⟩ := c
      rw [u.1]
      by_cases z : D a b = (-1000000)
      · omega
      · have q := h.1 a b ha hb z
        omega
    · rw [u.2 a b ha hb c] at f ⊢
      exact h.1 a b ha hb f
  · by_cases c : a = A ∧ b = B
    · obtain ⟨rfl, rfl⟩ := c
      by_cases z : d ≤ D a b
      · have e : D2 a b = D a b := by
          rw [u.1]
          omega
        rw [e] at f ⊢
        exact h.2 a b ha hb f
      · have e : D2 a b = d := by
          rw [u.1]
          omega
        rw [e]
        exact g
    · rw [u.2 a b ha hb c] at f ⊢
      exact h.2 a b ha hb f
theorem UP_no {n : Nat} {D D2 : Nat → Nat → Int} (h : ∀ a b : Nat, a < n → b < n → D2 a b = D a b) {x : Nat → Int} {G : Nat → Nat → Int → Prop} (p : P23 n x G D) : P23 n x G D2 := ⟨fun a b ha hb f => by
  rw [h a b ha hb] at f ⊢
  exact p.1 a b ha hb f, GI_cg h p.2⟩
def GM (σ : ST) (kp : Nat → Prop) (a b : Nat) (s : Int) : Prop := ∃ m : Nat, WKn (EdM σ kp) m (rtM σ a) (rtM σ b) s
/-- those that are one by FOUND -/
def LKM (σ : ST) (l : Nat) (D : Nat → Nat → Int) : Prop := ∀ j : Nat, j < l → (j : Int) < (σ.1 20).toInt → ¬ (σ.2 108 j).toInt < 0 → (D j (rtM σ j) ≠ (-1000000) ∧ 0 ≤ D j (rtM σ j)) ∧ (D (rtM σ j) j ≠ (-1000000) ∧ 0 ≤ D (rtM σ j) j)
def BDM (σ : ST) (k : Nat) (D : Nat → Nat → Int) : Prop := ∀ e : Nat, e < k → (e : Int) < (σ.1 21).toInt → D (frM σ e) (toM σ e) ≠ (-1000000) ∧ shM σ e ≤ D (frM σ e) (toM σ e)
def SIM (σ : ST) (kp : Nat → Prop) (x : Nat → Int) (n k : Nat) (D : Nat → Nat → Int) : Prop := FWI n k x D ∧ GI n (GM σ kp) D ∧ LKM σ n D ∧ BDM σ 20 D
theorem SIM_0 {σ : ST} {kp : Nat → Prop} {x : Nat → Int} {n k l : Nat} {D : Nat → Nat → Int} (p : P23 n x (GM σ kp) D) (hl : LKM σ l D) (hb : BDM σ k D) (en : n ≤ l) (ek : (σ.1 21).toInt ≤ (k : Int)) : SIM σ kp x n 0 D := ⟨⟨fun a b ha hb f => (p.1 a b ha hb f).2, fun m a b hm => absurd hm (Nat.not_lt_zero _), fun a b ha hb f => ⟨fun _ => false, fun v hv => absurd (show false = true from hv) Bool.false_ne_true, by
  have := (p.1 a b ha hb f).1
  have e : rk (fun _ => false) 0 = 0 := rfl
  rw [e]
  omega⟩⟩, p.2, fun j hj => hl j (by omega), fun e _ he => hb e (by omega) he⟩
theorem SIM_s {σ : ST} {kp : Nat → Prop} {x : Nat → Int} {n k k2 : Nat} {D D2 : Nat → Nat → Int} (fd : FDM σ) (h : SIM σ kp x n k D) (hn : n ≤ 12) (en : (n : Int) = (σ.1 20).toInt) (hk : k < n) (e2 : k2 = k + 1) (e : ∀ a b : Nat, a < n → b < n → D2 a b = fwS k D a b) : SIM σ kp x n k2 D2 := by
  subst e2
  have keep : ∀ {a b : Nat} {v : Int}, a < n → b < n → (D a b ≠ (-1000000) ∧ v ≤ D a b) → D2 a b ≠ (-1000000) ∧ v ≤ D2 a b := fun {a b v} ha hb q => by
    rw [e a b ha hb]
    exact ⟨fw_fin h.1 hk hn ha hb (Or.inl q.1), Int.le_trans q.2 (fw_ge k D a b)⟩
  refine ⟨FWI_cg e (by omega) (FW_step h.1 hk hn), GI_cg e (GI_step h.1 hk hn h.2.1 (fun a b s t p q => ?_)), fun j hj hN hr => ?_, fun b hb hB => ?_⟩
  · obtain ⟨m1, p⟩ := p
    obtain ⟨m2, q⟩ := q
    exact ⟨m1 + m2, WK_tr p m2 _ _ q⟩
  · have z := h.2.2.1 j hj hN hr
    have r := (fd.1 j hN).1
    exact ⟨keep hj (by omega) z.1, keep (by omega) hj z.2⟩
  · have z := fd.2 b hB
    exact keep (by omega) (by omega) (h.2.2.2 b hb hB)
theorem SIM_lk {σ : ST} {kp : Nat → Prop} {x : Nat → Int} {n : Nat} {D : Nat → Nat → Int} (fd : FDM σ) (h : SIM σ kp x n n D) (en : (n : Int) = (σ.1 20).toInt) {i b : Nat} (hi : i < n) (hb : b < n) (ne : i ≠ b) (e : rtM σ i = rtM σ b) : D i b ≠ (-1000000) ∧ 0 ≤ D i b := by
  by_cases ci : (σ.2 108 i).toInt < 0
  · have ei : rtM σ i = i := if_pos ci
    by_cases cb : (σ.2 108 b).toInt < 0
    · have eb : rtM σ b = b := if_pos cb
      omega
    · have z := (h.2.2.1 b hb (by omega) cb).2
      rw [← e, ei] at z
      exact z
  · by_cases cb : (σ.2 108 b).toInt < 0
    · have eb : rtM σ b = b := if_pos cb
      have z := (h.2.2.1 i hi (by omega) ci).1
      rw [e, eb] at z
      exact z
    · have z1 := (h.2.2.1 i hi (by omega) ci).1
      have z2 := (h.2.2.1 b hb (by omega) cb).2
      rw [← e] at z2
      have r := (fd.1 i (by omega)).1
      have y := h.1.2.1 (rtM σ i) i b (by omega) (by omega) hi hb z1.1 z2.1
      exact ⟨y.1, by omega⟩
theorem SIM_wk {σ : ST} {kp : Nat → Prop} {x : Nat → Int} {n : Nat} {D : Nat → Nat → Int} (u21 : (σ.1 21).toInt ≤ 20) (fd : FDM σ) (h : SIM σ kp x n n D) (en : (n : Int) = (σ.1 20).toInt) {i : Nat} (hi : i < n) : ∀ (m c : Nat) (s : Int), WKn (EdM σ kp) m (rtM σ i) c s → ∀ b : Nat, b < n → rtM σ b = c → (i = b ∧ s ≤ 0) ∨ (D i b ≠ (-1000000) ∧ s ≤ D i b)
  | 0, c, s, w, b, hb, eb => by
    obtain ⟨rfl, rfl⟩ := w
    by_cases e : i = b
    · exact Or.inl ⟨e, Int.le_refl _⟩
    · exact Or.inr (SIM_lk fd h en hi hb e eb.symm)
  | m + 1, c, s, w, b, hb, eb => by
    obtain ⟨c1, t, u, w1, ⟨k, hk, -, e1, e2, rfl⟩, rfl⟩ := w
    have fk := fd.2 k hk
    have q := SIM_wk u21 fd h en hi m c1 t w1 (frM σ k) (by omega) e1.symm
    have z := h.2.2.2 k (by omega) hk
    have st : D i (toM σ k) ≠ (-1000000) ∧ t + shM σ k ≤ D i (toM σ k) := by
      rcases q with ⟨q1, q2⟩ | q
      · rw [q1]
        exact ⟨z.1, by omega⟩
      · have y := h.1.2.1 (frM σ k) i (toM σ k) (by omega) (by omega) hi (by omega) q.1 z.1
        exact ⟨y.1, by omega⟩
    by_cases e : toM σ k = b
    · rw [← e]
      exact Or.inr st
    · have l := SIM_lk fd h en (i := toM σ k) (by omega) hb e (by rw [eb]; exact e2.symm)
      have y := h.1.2.1 (toM σ k) i b (by omega) (by omega) hi hb st.1 l.1
      exact Or.inr ⟨y.1, by show t + shM σ k ≤ _; omega⟩
theorem SIM_end {σ : ST} {kp : Nat → Prop} {x : Nat → Int} {n : Nat} {D : Nat → Nat → Int} (u21 : (σ.1 21).toInt ≤ 20) (fd : FDM σ) (h : SIM σ kp x n n D) (en : (n : Int) = (σ.1 20).toInt) {i j : Nat} (hi : i < n) (hj : j < n) : 0 < D i j ↔ LDS (EdM σ kp) (rtM σ i) (rtM σ j) := by
  constructor
  · intro z
    have f : D i j ≠ (-1000000) := by omega
    obtain ⟨m, w⟩ := h.2.1 i j hi hj f
    exact ⟨m, _, w, z⟩
  · rintro ⟨m, s, w, z⟩
    rcases SIM_wk u21 fd h en hi m _ s w j hj rfl with q | q <;> omega
/-- only ways have changed -/
abbrev wwA (k : Nat) : Prop := k = 122
def WMw (σ σ2 : ST) : Prop := IV σ2 ∧ Ag noI wwA σ σ2
theorem WMw_rfl {σ : ST} (h : IV σ) : WMw σ σ := ⟨h, Ag_rfl σ⟩
theorem WMw_trans {σ σ2 σ3 : ST} (h : WMw σ σ2) (h2 : WMw σ2 σ3) : WMw σ σ3 := ⟨h2.1, Ag_trans h.2 h2.2⟩
theorem WM_of_w {σ σ2 : ST} (h : WMw σ σ2) : WM σ σ2 := ⟨h.1, ⟨fun i _ => h.2.1 i (fun q => q), fun k hk => h.2.2 k (fun q => hk (by rw [q]; decide))⟩⟩
def LDm (σ : ST) (A B : Nat) (d : Int) (σ2 : ST) : Prop := (∃ (k : Nat) (v : Int32), σ2 = setA σ 122 k v) ∧ UPD 12 (dM σ) (dM σ2) A B d
theorem LDm_W {σ σ2 : ST} {A B : Nat} {d : Int} (iv : IV σ) (h : LDm σ A B d σ2) : WMw σ σ2 := by
  obtain ⟨⟨k, v, e⟩, -⟩ := h
  rw [e]
  exact ⟨ixt_n iv (by decide), Ag_setA (Ag_rfl σ) (by decide)⟩
theorem LD_of {σ σ2 : ST} {A B k : Nat} {v : Int32} {d : Int} (e : σ2 = setA σ 122 k v) (ek : k = 12 * A + B) (hB : B < 12) (hv : v.toInt = max (dM σ A B) d) : LDm σ A B d σ2 := by
  refine ⟨⟨k, v, e⟩, ?_, fun a b _ hb c => ?_⟩
  · unfold dM
    rw [e, setA_same, ek, upd_eq]
    exact hv
  · unfold dM
    rw [e, setA_same, upd_ne (by omega)]
theorem UPD_12 {n : Nat} {D D2 : Nat → Nat → Int} {A B : Nat} {d : Int} (hn : n ≤ 12) (h : UPD 12 D D2 A B d) : UPD n D D2 A B d := ⟨h.1, fun a b ha hb => h.2 a b (by omega) (by omega)⟩
def tM_before (σ : ST) (a b r : Int32) (σ2 : ST) : Prop := WM σ σ2 ∧ ((¬ ((0 ≤ a.toInt ∧ a.toInt < (σ.1 20).toInt) ∧ (0 ≤ b.toInt ∧ b.toInt < (σ.1 20).toInt) ∧ a.toInt ≠ b.toInt) ∧ r = -2) ∨ (((0 ≤ a.toInt ∧ a.toInt < (σ.1 20).toInt) ∧ (0 ≤ b.toInt ∧ b.toInt < (σ.1 20).toInt) ∧ a.toInt ≠ b.toInt) ∧ BFR (FSM σ (kpF (allS (σ.1 21)))) (EdM σ (kpF (allS (σ.1 21)))) (σ.1 20).toInt (a).toNatClampNeg (b).toNatClampNeg (rtM σ (a).toNatClampNeg) (rtM σ (b).toNatClampNeg) r))
theorem FDM_e {σ σ2 : ST} (h : WM σ σ2) (fd : FDM σ) : FDM σ2 := by
  unfold FDM rtM frM toM
  rw [h.2.1 20 (by decide), h.2.1 21 (by decide), h.2.2 108 (by decide), h.2.2 111 (by decide), h.2.2 112 (by decide)]
  exact fd
theorem EdM_e {σ σ2 : ST} (h : WM σ σ2) (kp : Nat → Prop) : EdM σ2 kp = EdM σ kp := by
  unfold EdM
  rw [h.2.1 21 (by decide), h.2.2 108 (by decide), h.2.2 111 (by decide), h.2.2 112 (by decide), h.2.2 113 (by decide)]
set_option maxHeartbeats 4000000 in
set_option maxRecDepth 100000 in
theorem f_X12_leads (l : Launch) (L : WL) (σ : ST) (a b d : Int32) (ha : 0 ≤ a.toInt ∧ a.toInt < 12) (hb : 0 ≤ b.toInt ∧ b.toInt < 12) (ix : IV σ) : CtV l L yX12_leads cX12_leads 4 none rm_X12_leads [.ref (L.2.1 13), .int a, .int b, .int d] σ (fun σ2 => LDm σ (a).toNatClampNeg (b).toNatClampNeg d.toInt σ2) := by
  refine ctV_go (own := RX12) (by decide) rfl (Nat.le_of_ble_eq_true rfl) (fun F hF => ?_)
  subst hF
  have n12 : (12 : Int32).toInt = 12 := by decide
  have w0 : WM σ σ := WM_rfl ix
  have ca := cnat ha.1
  have cb := cnat hb.1
  refine go_aload_n (i := 0) (pc' := 1) dX12_leads_0 rfl rfl rfl ?_
  refine gf_13_way (pc' := 4) dX12_leads_1 rfl fl_X12_89 ?_
  refine go_bipush (v := 12) (pc' := 6) dX12_leads_4 rfl (by decide) ?_
  refine go_iload_n (i := 1) (pc' := 7) dX12_leads_6 rfl rfl rfl ?_
  refine gz_imulc (n := 12) (pc' := 8) dX12_leads_7 rfl (by decide) (by omega) (fun v1 h1 e1 => ?_)
  refine go_iload_n (i := 2) (pc' := 9) dX12_leads_8 rfl rfl rfl ?_
  refine gz_iadd (pc' := 10) dX12_leads_9 rfl (by omega) (fun v2 h2 e2 => ?_)
  have e1 : (v2).toNatClampNeg = 12 * (a).toNatClampNeg + (b).toNatClampNeg := by have cz := cnat (x := v2) (by omega); omega
  refine go_aload_n (i := 0) (pc' := 11) dX12_leads_10 rfl rfl rfl ?_
  refine gf_13_way (pc' := 14) dX12_leads_11 rfl fl_X12_89 ?_
  refine go_bipush (v := 12) (pc' := 16) dX12_leads_14 rfl (by decide) ?_
  refine go_iload_n (i := 1) (pc' := 17) dX12_leads_16 rfl rfl rfl ?_
  refine gz_imulc (n := 12) (pc' := 18) dX12_leads_17 rfl (by decide) (by omega) (fun v3 h3 e3 => ?_)
  refine go_iload_n (i := 2) (pc' := 19) dX12_leads_18 rfl rfl rfl ?_
  refine gz_iadd (pc' := 20) dX12_leads_19 rfl (by omega) (fun v4 h4 e4 => ?_)
  have e2 : (v4).toNatClampNeg = 12 * (a).toNatClampNeg + (b).toNatClampNeg := by have cz := cnat (x := v4) (by omega); omega
  refine go_iald (pc' := 21) dX12_leads_20 rfl (by decide) (by decide) rfl (vin_of (n := 144) (by omega) (by omega)) ?_
  have q21 : ((σ.2 122 (v4).toNatClampNeg)).toInt = dM σ (a).toNatClampNeg (b).toNatClampNeg := by rw [e2]; rfl
  refine go_iload_n (i := 3) (pc' := 22) dX12_leads_21 rfl rfl rfl ?_
  refine gz_max (pc' := 25) dX12_leads_22 rfl ml_X12_175 (Nat.le_of_ble_eq_true rfl) (Nat.le_of_ble_eq_true rfl) (fun v5 h5 e5 => ?_)
  refine go_iast (pc' := 26) dX12_leads_25 rfl (by decide) (by decide) rfl (vin_of (n := 144) (by omega) (by omega)) ?_
  exact go_vret dX12_leads_26 rfl (LD_of rfl e1 (by omega) (by omega))
set_option maxHeartbeats 4000000 in
set_option maxRecDepth 100000 in
theorem f_X12_findWays (l : Launch) (L : WL) (σ : ST) (N : Nat) (eN : (N : Int) = (σ.1 20).toInt) {kp : Nat → Prop} {x : Nat → Int} (ix : IV σ) (fd : FDM σ) (ka : ∀ k : Nat, (k : Int) < (σ.1 21).toInt → kp k) (hx : FSM σ kp x) : CtV l L yX12_findWays cX12_findWays 4 none rm_X12_findWays [.ref (L.2.1 13)] σ (fun σ2 => WMw σ σ2 ∧ ∀ i j : Nat, i < N → j < N → (0 < dM σ2 i j ↔ LDS (EdM σ kp) (rtM σ i) (rtM σ j))) := by
  refine ctV_go (own := RX12) (by decide) rfl (Nat.le_of_ble_eq_true rfl) (fun F hF => ?_)
  subst hF
  have nm1000000 : (-1000000 : Int32).toInt = -1000000 := by decide
  have n0 : (0 : Int32).toInt = 0 := by decide
  have n12 : (12 : Int32).toInt = 12 := by decide
  have n144 : (144 : Int32).toInt = 144 := by decide
  have w0 : WMw σ σ := WMw_rfl ix
  have u20 := ixi_20 ix
  have u21 := ixi_21 ix
  have z0 : (0 : Int32).toNatClampNeg = 0 := rfl
  have hx9 : ∀ a : Nat, a < N → 0 ≤ x a ∧ x a ≤ 9999 := fun a ha => by
    have q := hx.1 a (by omega)
    have g8 := ixa_105 ix a (by omega)
    have g9 := ixa_106 ix a (by omega)
    omega
  refine go_iconst (v := 0) (pc' := 1) dX12_findWays_0 rfl (by decide) ?_
  refine go_istore_n (i := 1) (pc' := 2) dX12_findWays_1 rfl rfl (by decide) ?_
  have loop2_1 : ∀ (dd1 : Nat) (σ1 : ST) (x1_1 : Int32), WMw σ σ1 → (0 ≤ (x1_1).toInt ∧ (x1_1).toInt ≤ 144) → (∀ q : Nat, (q : Int) < (x1_1).toInt → (σ1.2 122 q).toInt = (-1000000)) → (144 - (x1_1).toInt).toNat = dd1 → Go F L RX12 cX12_findWays 4 rm_X12_findWays none (RV F L (fun σ2 => WMw σ σ2 ∧ ∀ i j : Nat, i < N → j < N → (0 < dM σ2 i j ↔ LDS (EdM σ kp) (rtM σ i) (rtM σ j)))) σ1 2 [(0, .ref (L.2.1 13)), (1, .int x1_1)] [] := by
    intro dd1
    induction dd1 using Nat.strongRecOn with
    | _ dd1 ih1 =>
      intro σ1 x1_1 w1 h_1 hf_1 hm_1
      refine go_iload_n (i := 1) (pc' := 3) dX12_findWays_2 rfl rfl rfl ?_
      refine go_sipush (v := 144) (pc' := 6) dX12_findWays_3 rfl (by decide) ?_
      refine gz_icmp_ge (tgt := 23) (pc' := 9) dX12_findWays_6 rfl (by decide) (fun c2 => ?_) (fun c2 => ?_)
      · refine go_iconst (v := 0) (pc' := 24) dX12_findWays_23 rfl (by decide) ?_
        refine go_istore_n (i := 1) (pc' := 25) dX12_findWays_24 rfl rfl (by decide) ?_
        have loop25_3 : ∀ (dd3 : Nat) (σ3 : ST) (x1_3 : Int32), WMw σ σ3 → (0 ≤ (x1_3).toInt ∧ (x1_3).toInt ≤ (N : Int)) → (P23 N x (GM σ kp) (dM σ3)) → (LKM σ (x1_3).toNatClampNeg (dM σ3)) → (12 - (x1_3).toInt).toNat = dd3 → Go F L RX12 cX12_findWays 4 rm_X12_findWays none (RV F L (fun σ2 => WMw σ σ2 ∧ ∀ i j : Nat, i < N → j < N → (0 < dM σ2 i j ↔ LDS (EdM σ kp) (rtM σ i) (rtM σ j)))) σ3 25 [(0, .ref (L.2.1 13)), (1, .int x1_3)] [] := by
          intro dd3
          induction dd3 using Nat.strongRecOn with
          | _ dd3 ih3 =>
            intro σ3 x1_3 w3 h_3 hp_3 hl_3 hm_3
            refine go_iload_n (i := 1) (pc' := 26) dX12_findWays_25 rfl rfl rfl ?_
            refine go_aload_n (i := 0) (pc' := 27) dX12_findWays_26 rfl rfl rfl ?_
            refine gf_13_letters (pc' := 30) dX12_findWays_27 rfl fl_X12_142 ?_
            refine go_topq (y := σ.1 20) (w3.2.1 20 (by decide)) ?_
            have g4 := ixi_20 ix
            refine gz_icmp_ge (tgt := 75) (pc' := 33) dX12_findWays_30 rfl (by decide) (fun c5 => ?_) (fun c5 => ?_)
            · have hlN : LKM σ N (dM σ3) := by have c1 := cnat (x := x1_3) (by omega); rw [show N = (x1_3).toNatClampNeg from by omega]; exact hl_3
              refine go_iconst (v := 0) (pc' := 76) dX12_findWays_75 rfl (by decide) ?_
              refine go_istore_n (i := 1) (pc' := 77) dX12_findWays_76 rfl rfl (by decide) ?_
              have loop77_6 : ∀ (dd6 : Nat) (σ6 : ST) (x1_6 : Int32), WMw σ σ6 → (0 ≤ (x1_6).toInt ∧ (x1_6).toInt ≤ (σ.1 21).toInt) → (P23 N x (GM σ kp) (dM σ6)) → (LKM σ N (dM σ6)) → (BDM σ (x1_6).toNatClampNeg (dM σ6)) → (20 - (x1_6).toInt).toNat = dd6 → Go F L RX12 cX12_findWays 4 rm_X12_findWays none (RV F L (fun σ2 => WMw σ σ2 ∧ ∀ i j : Nat, i < N → j < N → (0 < dM σ2 i j ↔ LDS (EdM σ kp) (rtM σ i) (rtM σ j)))) σ6 77 [(0, .ref (L.2.1 13)), (1, .int x1_6)] [] := by
                intro dd6
                induction dd6 using Nat.strongRecOn with
                | _ dd6 ih6 =>
                  intro σ6 x1_6 w6 h_6 hp_6 hl_6 hb_6 hm_6
                  refine go_iload_n (i := 1) (pc' := 78) dX12_findWays_77 rfl rfl rfl ?_
                  refine go_aload_n (i := 0) (pc' := 79) dX12_findWays_78 rfl rfl rfl ?_
                  refine gf_13_bounds (pc' := 82) dX12_findWays_79 rfl fl_X12_155 ?_
                  refine go_topq (y := σ.1 21) (w6.2.1 21 (by decide)) ?_
                  have g7 := ixi_21 ix
                  refine gz_icmp_ge (tgt := 113) (pc' := 85) dX12_findWays_82 rfl (by decide) (fun c8 => ?_) (fun c8 => ?_)
                  · refine go_iconst (v := 0) (pc' := 114) dX12_findWays_113 rfl (by decide) ?_
                    refine go_istore_n (i := 1) (pc' := 115) dX12_findWays_114 rfl rfl (by decide) ?_
                    have loop115_9 : ∀ (dd9 : Nat) (σ9 : ST) (x1_9 : Int32), WMw σ σ9 → (0 ≤ (x1_9).toInt ∧ (x1_9).toInt ≤ (N : Int)) → (SIM σ kp x N (x1_9).toNatClampNeg (dM σ9)) → (12 - (x1_9).toInt).toNat = dd9 → Go F L RX12 cX12_findWays 4 rm_X12_findWays none (RV F L (fun σ2 => WMw σ σ2 ∧ ∀ i j : Nat, i < N → j < N → (0 < dM σ2 i j ↔ LDS (EdM σ kp) (rtM σ i) (rtM σ j)))) σ9 115 [(0, .ref (L.2.1 13)), (1, .int x1_9)] [] := by
                      intro dd9
                      induction dd9 using Nat.strongRecOn with
                      | _ dd9 ih9 =>
                        intro σ9 x1_9 w9 h_9 hS_9 hm_9
                        refine go_iload_n (i := 1) (pc' := 116) dX12_findWays_115 rfl rfl rfl ?_
                        refine go_aload_n (i := 0) (pc' := 117) dX12_findWays_116 rfl rfl rfl ?_
                        refine gf_13_letters (pc' := 120) dX12_findWays_117 rfl fl_X12_142 ?_
                        refine go_topq (y := σ.1 20) (w9.2.1 20 (by decide)) ?_
                        have g10 := ixi_20 ix
                        have c1 := cnat (x := x1_9) (by omega)
                        refine gz_icmp_ge (tgt := 222) (pc' := 123) dX12_findWays_120 rfl (by decide) (fun c11 => ?_) (fun c11 => ?_)
                        · exact go_vret dX12_findWays_222 rfl (⟨w9, fun i j hi hj => by have c1 := cnat (x := x1_9) (by omega); have z := hS_9; rw [show (x1_9).toNatClampNeg = N from by omega] at z; exact SIM_end u21.2 fd z eN hi hj⟩)
                        refine go_iconst (v := 0) (pc' := 124) dX12_findWays_123 rfl (by decide) ?_
                        refine go_istore_n (i := 2) (pc' := 125) dX12_findWays_124 rfl rfl (by decide) ?_
                        have loop125_12 : ∀ (dd12 : Nat) (σ12 : ST) (x2_12 : Int32), WMw σ σ12 → (0 ≤ (x2_12).toInt ∧ (x2_12).toInt ≤ (N : Int)) → (FWP N (x1_9).toNatClampNeg (x2_12).toNatClampNeg 0 (dM σ9) (dM σ12)) → (12 - (x2_12).toInt).toNat = dd12 → Go F L RX12 cX12_findWays 4 rm_X12_findWays none (RV F L (fun σ2 => WMw σ σ2 ∧ ∀ i j : Nat, i < N → j < N → (0 < dM σ2 i j ↔ LDS (EdM σ kp) (rtM σ i) (rtM σ j)))) σ12 125 [(0, .ref (L.2.1 13)), (1, .int x1_9), (2, .int x2_12)] [] := by
                          intro dd12
                          induction dd12 using Nat.strongRecOn with
                          | _ dd12 ih12 =>
                            intro σ12 x2_12 w12 h_12 hw_12 hm_12
                            refine go_iload_n (i := 2) (pc' := 126) dX12_findWays_125 rfl rfl rfl ?_
                            refine go_aload_n (i := 0) (pc' := 127) dX12_findWays_126 rfl rfl rfl ?_
                            refine gf_13_letters (pc' := 130) dX12_findWays_127 rfl fl_X12_142 ?_
                            refine go_topq (y := σ.1 20) (w12.2.1 20 (by decide)) ?_
                            have g13 := ixi_20 ix
                            have c2 := cnat (x := x2_12) (by omega)
                            refine gz_icmp_ge (tgt := 216) (pc' := 133) dX12_findWays_130 rfl (by decide) (fun c14 => ?_) (fun c14 => ?_)
                            · refine gz_iinc (c := 1) (pc' := 219) dX12_findWays_216 rfl rfl (by decide) (by decide) (by decide) (by omega) (fun v15 h15 e15 => ?_)
                              refine go_goto (tgt := 115) dX12_findWays_219 (by decide) ?_
                              exact go_lv (lv' := [(0, .ref (L.2.1 13)), (1, .int v15)]) rfl (ih9 _ (by omega) σ12 v15 w12 (by omega) (SIM_s fd hS_9 (by omega) eN (by omega) (by have cv := cnat (x := v15) (by omega); omega) (FWP_end (by have y := hw_12; rw [show (x2_12).toNatClampNeg = N from by have c2 := cnat (x := x2_12) (by omega); omega] at y; exact y))) rfl)
                            refine go_iconst (v := 0) (pc' := 134) dX12_findWays_133 rfl (by decide) ?_
                            refine go_istore_n (i := 3) (pc' := 135) dX12_findWays_134 rfl rfl (by decide) ?_
                            have loop135_16 : ∀ (dd16 : Nat) (σ16 : ST) (x3_16 : Int32), WMw σ σ16 → (0 ≤ (x3_16).toInt ∧ (x3_16).toInt ≤ (N : Int)) → (FWP N (x1_9).toNatClampNeg (x2_12).toNatClampNeg (x3_16).toNatClampNeg (dM σ9) (dM σ16)) → (12 - (x3_16).toInt).toNat = dd16 → Go F L RX12 cX12_findWays 4 rm_X12_findWays none (RV F L (fun σ2 => WMw σ σ2 ∧ ∀ i j : Nat, i < N → j < N → (0 < dM σ2 i j ↔ LDS (EdM σ kp) (rtM σ i) (rtM σ j)))) σ16 135 [(0, .ref (L.2.1 13)), (1, .int x1_9), (2, .int x2_12), (3, .int x3_16)] [] := by
                              intro dd16
                              induction dd16 using Nat.strongRecOn with
                              | _ dd16 ih16 =>
                                intro σ16 x3_16 w16 h_16 hw_16 hm_16
                                refine go_iload_n (i := 3) (pc' := 136) dX12_findWays_135 rfl rfl rfl ?_
                                refine go_aload_n (i := 0) (pc' := 137) dX12_findWays_136 rfl rfl rfl ?_
                                refine gf_13_letters (pc' := 140) dX12_findWays_137 rfl fl_X12_142 ?_
                                refine go_topq (y := σ.1 20) (w16.2.1 20 (by decide)) ?_
                                have g17 := ixi_20 ix
                                have c3 := cnat (x := x3_16) (by omega)
                                refine gz_icmp_ge (tgt := 210) (pc' := 143) dX12_findWays_140 rfl (by decide) (fun c18 => ?_) (fun c18 => ?_)
                                · refine gz_iinc (c := 1) (pc' := 213) dX12_findWays_210 rfl rfl (by decide) (by decide) (by decide) (by omega) (fun v19 h19 e19 => ?_)
                                  refine go_goto (tgt := 125) dX12_findWays_213 (by decide) ?_
                                  exact go_lv (lv' := [(0, .ref (L.2.1 13)), (1, .int x1_9), (2, .int v19)]) rfl (ih12 _ (by omega) σ16 v19 w16 (by omega) (by have cv := cnat (x := v19) (by omega); have z := FWP_row (n := N) (by have y := hw_16; rw [show (x3_16).toNatClampNeg = N from by have c3 := cnat (x := x3_16) (by omega); omega] at y; exact y); rw [show (x2_12).toNatClampNeg + 1 = (v19).toNatClampNeg from by omega] at z; exact z) rfl)
                                have gg := FWP_get hS_9.1 (show (x1_9).toNatClampNeg < N by omega) hw_16 (i := (x2_12).toNatClampNeg) (j := (x3_16).toNatClampNeg) (by omega) (by omega)
                                have x1 := hx9 (x1_9).toNatClampNeg (by omega)
                                have x2 := hx9 (x2_12).toNatClampNeg (by omega)
                                have x3 := hx9 (x3_16).toNatClampNeg (by omega)
                                refine go_aload_n (i := 0) (pc' := 144) dX12_findWays_143 rfl rfl rfl ?_
                                refine gf_13_way (pc' := 147) dX12_findWays_144 rfl fl_X12_89 ?_
                                refine go_bipush (v := 12) (pc' := 149) dX12_findWays_147 rfl (by decide) ?_
                                refine go_iload_n (i := 2) (pc' := 150) dX12_findWays_149 rfl rfl rfl ?_
                                refine gz_imulc (n := 12) (pc' := 151) dX12_findWays_150 rfl (by decide) (by omega) (fun v20 h20 e20 => ?_)
                                refine go_iload_n (i := 1) (pc' := 152) dX12_findWays_151 rfl rfl rfl ?_
                                refine gz_iadd (pc' := 153) dX12_findWays_152 rfl (by omega) (fun v21 h21 e21 => ?_)
                                have ea : (v21).toNatClampNeg = 12 * (x2_12).toNatClampNeg + (x1_9).toNatClampNeg := by have cz := cnat (x := v21) (by omega); omega
                                refine go_iald (pc' := 154) dX12_findWays_153 rfl (by decide) (by decide) rfl (vin_of (n := 144) (by omega) (by omega)) ?_
                                have da : ((σ16.2 122 (v21).toNatClampNeg)).toInt = dM σ9 (x2_12).toNatClampNeg (x1_9).toNatClampNeg := by rw [ea]; exact gg.1
                                refine go_ldc (pc' := 156) dX12_findWays_154 rfl cst_X12_188 ?_
                                refine gz_icmp_le (tgt := 204) (pc' := 159) dX12_findWays_156 rfl (by decide) (fun c22 => ?_) (fun c22 => ?_)
                                · have st204 : ∀ j2 : Nat, j2 = (x3_16).toNatClampNeg + 1 → FWP N (x1_9).toNatClampNeg (x2_12).toNatClampNeg j2 (dM σ9) (dM σ16) := fun j2 ej => by
                                    first
                                    | exact FWP_set hw_16 ej (by rw [uC.1, fw_y f1 f2, gg.2.2, eS]) (fun a b ha hb z => uC.2 a b (by omega) (by omega) z)
                                    | (have lo1 : dM σ9 (x2_12).toNatClampNeg (x1_9).toNatClampNeg ≠ (-1000000) → -6500 ≤ dM σ9 (x2_12).toNatClampNeg (x1_9).toNatClampNeg := fun z => FW_lo hS_9.1 (by omega) (show (x2_12).toNatClampNeg < N by omega) (show (x1_9).toNatClampNeg < N by omega) z
                                       have lo2 : dM σ9 (x1_9).toNatClampNeg (x3_16).toNatClampNeg ≠ (-1000000) → -6500 ≤ dM σ9 (x1_9).toNatClampNeg (x3_16).toNatClampNeg := fun z => FW_lo hS_9.1 (by omega) (show (x1_9).toNatClampNeg < N by omega) (show (x3_16).toNatClampNeg < N by omega) z
                                       exact FWP_set hw_16 ej (by rw [fw_n (fun z => by have z1 := lo1 z.1; have z2 := lo2 z.2; omega)]; exact gg.2.2) (fun a b _ _ _ => rfl))
                                  refine gz_iinc (c := 1) (pc' := 207) dX12_findWays_204 rfl rfl (by decide) (by decide) (by decide) (by omega) (fun v23 h23 e23 => ?_)
                                  refine go_goto (tgt := 135) dX12_findWays_207 (by decide) ?_
                                  exact go_lv (lv' := [(0, .ref (L.2.1 13)), (1, .int x1_9), (2, .int x2_12), (3, .int v23)]) rfl (ih16 _ (by omega) σ16 v23 w16 (by omega) (st204 _ (by have cv := cnat (x := v23) (by omega); omega)) rfl)
                                refine go_aload_n (i := 0) (pc' := 160) dX12_findWays_159 rfl rfl rfl ?_
                                refine gf_13_way (pc' := 163) dX12_findWays_160 rfl fl_X12_89 ?_
                                refine go_bipush (v := 12) (pc' := 165) dX12_findWays_163 rfl (by decide) ?_
                                refine go_iload_n (i := 1) (pc' := 166) dX12_findWays_165 rfl rfl rfl ?_
                                refine gz_imulc (n := 12) (pc' := 167) dX12_findWays_166 rfl (by decide) (by omega) (fun v24 h24 e24 => ?_)
                                refine go_iload_n (i := 3) (pc' := 168) dX12_findWays_167 rfl rfl rfl ?_
                                refine gz_iadd (pc' := 169) dX12_findWays_168 rfl (by omega) (fun v25 h25 e25 => ?_)
                                have eb : (v25).toNatClampNeg = 12 * (x1_9).toNatClampNeg + (x3_16).toNatClampNeg := by have cz := cnat (x := v25) (by omega); omega
                                refine go_iald (pc' := 170) dX12_findWays_169 rfl (by decide) (by decide) rfl (vin_of (n := 144) (by omega) (by omega)) ?_
                                have db : ((σ16.2 122 (v25).toNatClampNeg)).toInt = dM σ9 (x1_9).toNatClampNeg (x3_16).toNatClampNeg := by rw [eb]; exact gg.2.1
                                refine go_ldc (pc' := 172) dX12_findWays_170 rfl cst_X12_188 ?_
                                refine gz_icmp_le (tgt := 204) (pc' := 175) dX12_findWays_172 rfl (by decide) (fun c26 => ?_) (fun c26 => ?_)
                                · have st204 : ∀ j2 : Nat, j2 = (x3_16).toNatClampNeg + 1 → FWP N (x1_9).toNatClampNeg (x2_12).toNatClampNeg j2 (dM σ9) (dM σ16) := fun j2 ej => by
                                    first
                                    | exact FWP_set hw_16 ej (by rw [uC.1, fw_y f1 f2, gg.2.2, eS]) (fun a b ha hb z => uC.2 a b (by omega) (by omega) z)
                                    | (have lo1 : dM σ9 (x2_12).toNatClampNeg (x1_9).toNatClampNeg ≠ (-1000000) → -6500 ≤ dM σ9 (x2_12).toNatClampNeg (x1_9).toNatClampNeg := fun z => FW_lo hS_9.1 (by omega) (show (x2_12).toNatClampNeg < N by omega) (show (x1_9).toNatClampNeg < N by omega) z
                                       have lo2 : dM σ9 (x1_9).toNatClampNeg (x3_16).toNatClampNeg ≠ (-1000000) → -6500 ≤ dM σ9 (x1_9).toNatClampNeg (x3_16).toNatClampNeg := fun z => FW_lo hS_9.1 (by omega) (show (x1_9).toNatClampNeg < N by omega) (show (x3_16).toNatClampNeg < N by omega) z
                                       exact FWP_set hw_16 ej (by rw [fw_n (fun z => by have z1 := lo1 z.1; have z2 := lo2 z.2; omega)]; exact gg.2.2) (fun a b _ _ _ => rfl))
                                  refine gz_iinc (c := 1) (pc' := 207) dX12_findWays_204 rfl rfl (by decide) (by decide) (by decide) (by omega) (fun v27 h27 e27 => ?_)
                                  refine go_goto (tgt := 135) dX12_findWays_207 (by decide) ?_
                                  exact go_lv (lv' := [(0, .ref (L.2.1 13)), (1, .int x1_9), (2, .int x2_12), (3, .int v27)]) rfl (ih16 _ (by omega) σ16 v27 w16 (by omega) (st204 _ (by have cv := cnat (x := v27) (by omega); omega)) rfl)
                                have f1 : dM σ9 (x2_12).toNatClampNeg (x1_9).toNatClampNeg ≠ (-1000000) := by omega
                                have f2 : dM σ9 (x1_9).toNatClampNeg (x3_16).toNatClampNeg ≠ (-1000000) := by omega
                                have l1 := FW_lo hS_9.1 (by omega) (show (x2_12).toNatClampNeg < N by omega) (show (x1_9).toNatClampNeg < N by omega) f1
                                have l2 := FW_lo hS_9.1 (by omega) (show (x1_9).toNatClampNeg < N by omega) (show (x3_16).toNatClampNeg < N by omega) f2
                                have q1 := hS_9.1.1 (x2_12).toNatClampNeg (x1_9).toNatClampNeg (by omega) (by omega) f1
                                have q2 := hS_9.1.1 (x1_9).toNatClampNeg (x3_16).toNatClampNeg (by omega) (by omega) f2
                                refine go_aload_n (i := 0) (pc' := 176) dX12_findWays_175 rfl rfl rfl ?_
                                refine go_iload_n (i := 2) (pc' := 177) dX12_findWays_176 rfl rfl rfl ?_
                                refine go_iload_n (i := 3) (pc' := 178) dX12_findWays_177 rfl rfl rfl ?_
                                refine go_aload_n (i := 0) (pc' := 179) dX12_findWays_178 rfl rfl rfl ?_
                                refine gf_13_way (pc' := 182) dX12_findWays_179 rfl fl_X12_89 ?_
                                refine go_bipush (v := 12) (pc' := 184) dX12_findWays_182 rfl (by decide) ?_
                                refine go_iload_n (i := 2) (pc' := 185) dX12_findWays_184 rfl rfl rfl ?_
                                refine gz_imulc (n := 12) (pc' := 186) dX12_findWays_185 rfl (by decide) (by omega) (fun v28 h28 e28 => ?_)
                                refine go_iload_n (i := 1) (pc' := 187) dX12_findWays_186 rfl rfl rfl ?_
                                refine gz_iadd (pc' := 188) dX12_findWays_187 rfl (by omega) (fun v29 h29 e29 => ?_)
                                have ec : (v29).toNatClampNeg = 12 * (x2_12).toNatClampNeg + (x1_9).toNatClampNeg := by have cz := cnat (x := v29) (by omega); omega
                                refine go_iald (pc' := 189) dX12_findWays_188 rfl (by decide) (by decide) rfl (vin_of (n := 144) (by omega) (by omega)) ?_
                                have dc : ((σ16.2 122 (v29).toNatClampNeg)).toInt = dM σ9 (x2_12).toNatClampNeg (x1_9).toNatClampNeg := by rw [ec]; exact gg.1
                                refine go_aload_n (i := 0) (pc' := 190) dX12_findWays_189 rfl rfl rfl ?_
                                refine gf_13_way (pc' := 193) dX12_findWays_190 rfl fl_X12_89 ?_
                                refine go_bipush (v := 12) (pc' := 195) dX12_findWays_193 rfl (by decide) ?_
                                refine go_iload_n (i := 1) (pc' := 196) dX12_findWays_195 rfl rfl rfl ?_
                                refine gz_imulc (n := 12) (pc' := 197) dX12_findWays_196 rfl (by decide) (by omega) (fun v30 h30 e30 => ?_)
                                refine go_iload_n (i := 3) (pc' := 198) dX12_findWays_197 rfl rfl rfl ?_
                                refine gz_iadd (pc' := 199) dX12_findWays_198 rfl (by omega) (fun v31 h31 e31 => ?_)
                                have ed : (v31).toNatClampNeg = 12 * (x1_9).toNatClampNeg + (x3_16).toNatClampNeg := by have cz := cnat (x := v31) (by omega); omega
                                refine go_iald (pc' := 200) dX12_findWays_199 rfl (by decide) (by decide) rfl (vin_of (n := 144) (by omega) (by omega)) ?_
                                have dd : ((σ16.2 122 (v31).toNatClampNeg)).toInt = dM σ9 (x1_9).toNatClampNeg (x3_16).toNatClampNeg := by rw [ed]; exact gg.2.1
                                refine gz_iadd (pc' := 201) dX12_findWays_200 rfl (by omega) (fun v32 h32 e32 => ?_)
                                refine go_cvv (pc' := 204) lk_X12_189 (f_X12_leads _ _ _ _ _ _ (by omega) (by omega) w16.1) rfl rfl (Nat.le_of_ble_eq_true rfl) (by decide) rfl rfl rfl ⟨Nat.le_of_ble_eq_true rfl, Nat.le_of_ble_eq_true rfl⟩ ⟨rfl, rfl⟩ dX12_findWays_201 rfl (fun σ33 h33 => ?_)
                                have w33 := WMw_trans w16 ((fun z => LDm_W w16.1 z) h33)
                                have uC := UPD_12 (n := N) (by omega) h33.2
                                have eS : (v32).toInt = dM σ9 (x2_12).toNatClampNeg (x1_9).toNatClampNeg + dM σ9 (x1_9).toNatClampNeg (x3_16).toNatClampNeg := by omega
                                have st204 : ∀ j2 : Nat, j2 = (x3_16).toNatClampNeg + 1 → FWP N (x1_9).toNatClampNeg (x2_12).toNatClampNeg j2 (dM σ9) (dM σ33) := fun j2 ej => by
                                  first
                                  | exact FWP_set hw_16 ej (by rw [uC.1, fw_y f1 f2, gg.2.2, eS]) (fun a b ha hb z => uC.2 a b (by omega) (by omega) z)
                                  | (have lo1 : dM σ9 (x2_12).toNatClampNeg (x1_9).toNatClampNeg ≠ (-1000000) → -6500 ≤ dM σ9 (x2_12).toNatClampNeg (x1_9).toNatClampNeg := fun z => FW_lo hS_9.1 (by omega) (show (x2_12).toNatClampNeg < N by omega) (show (x1_9).toNatClampNeg < N by omega) z
                                     have lo2 : dM σ9 (x1_9).toNatClampNeg (x3_16).toNatClampNeg ≠ (-1000000) → -6500 ≤ dM σ9 (x1_9).toNatClampNeg (x3_16).toNatClampNeg := fun z => FW_lo hS_9.1 (by omega) (show (x1_9).toNatClampNeg < N by omega) (show (x3_16).toNatClampNeg < N by omega) z
                                     exact FWP_set hw_16 ej (by rw [fw_n (fun z => by have z1 := lo1 z.1; have z2 := lo2 z.2; omega)]; exact gg.2.2) (fun a b _ _ _ => rfl))
                                refine gz_iinc (c := 1) (pc' := 207) dX12_findWays_204 rfl rfl (by decide) (by decide) (by decide) (by omega) (fun v34 h34 e34 => ?_)
                                refine go_goto (tgt := 135) dX12_findWays_207 (by decide) ?_
                                exact go_lv (lv' := [(0, .ref (L.2.1 13)), (1, .int x1_9), (2, .int x2_12), (3, .int v34)]) rfl (ih16 _ (by omega) σ33 v34 w33 (by omega) (st204 _ (by have cv := cnat (x := v34) (by omega); omega)) rfl)
                            exact go_lv (lv' := [(0, .ref (L.2.1 13)), (1, .int x1_9), (2, .int x2_12), (3, .int (0 : Int32))]) rfl (loop135_16 _ σ12 (0 : Int32) w12 (by omega) (by rw [z0]; exact hw_12) rfl)
                        exact go_lv (lv' := [(0, .ref (L.2.1 13)), (1, .int x1_9), (2, .int (0 : Int32))]) rfl (loop125_12 _ σ9 (0 : Int32) w9 (by omega) (by rw [z0]; exact FWP_0 _ _ _) rfl)
                    exact go_lv (lv' := [(0, .ref (L.2.1 13)), (1, .int (0 : Int32))]) rfl (loop115_9 _ σ6 (0 : Int32) w6 (by omega) (by rw [z0]; exact SIM_0 hp_6 hl_6 hb_6 (Nat.le_refl N) (by have c1 := cnat (x := x1_6) (by omega); omega)) rfl)
                  have c1 := cnat (x := x1_6) (by omega)
                  have fk := fd.2 (x1_6).toNatClampNeg (by omega)
                  have g3 : -500 ≤ shM σ (x1_6).toNatClampNeg ∧ shM σ (x1_6).toNatClampNeg ≤ 500 := ixa_113 ix (x1_6).toNatClampNeg (by omega)
                  have g11 := ixa_111 ix (x1_6).toNatClampNeg (by omega)
                  have g12 := ixa_112 ix (x1_6).toNatClampNeg (by omega)
                  have c11 := cnat g11.1
                  have c12 := cnat g12.1
                  have bd : x (frM σ (x1_6).toNatClampNeg) + shM σ (x1_6).toNatClampNeg ≤ x (toM σ (x1_6).toNatClampNeg) := hx.2 (x1_6).toNatClampNeg (by omega) (ka _ (by omega))
                  have gm : GM σ kp (frM σ (x1_6).toNatClampNeg) (toM σ (x1_6).toNatClampNeg) (shM σ (x1_6).toNatClampNeg) := ⟨1, rtM σ (frM σ (x1_6).toNatClampNeg), 0, _, ⟨rfl, rfl⟩, ⟨(x1_6).toNatClampNeg, by omega, ka _ (by omega), rfl, rfl, rfl⟩, (Int.zero_add _).symm⟩
                  refine go_aload_n (i := 0) (pc' := 86) dX12_findWays_85 rfl rfl rfl ?_
                  refine go_aload_n (i := 0) (pc' := 87) dX12_findWays_86 rfl rfl rfl ?_
                  refine gf_13_boundA (pc' := 90) dX12_findWays_87 rfl fl_X12_56 ?_
                  refine go_iload_n (i := 1) (pc' := 91) dX12_findWays_90 rfl rfl rfl ?_
                  refine go_iald (pc' := 92) dX12_findWays_91 rfl (by decide) (by decide) rfl (vin_of (n := 20) (by omega) (by omega)) ?_
                  refine go_topq (y := (σ.2 111 (x1_6).toNatClampNeg)) (congrFun (w6.2.2 111 (by decide)) _) ?_
                  have g35 := ixa_111 ix (x1_6).toNatClampNeg (vinlt (vin_of (n := 20) (by omega) (by omega)))
                  refine go_aload_n (i := 0) (pc' := 93) dX12_findWays_92 rfl rfl rfl ?_
                  refine gf_13_boundB (pc' := 96) dX12_findWays_93 rfl fl_X12_59 ?_
                  refine go_iload_n (i := 1) (pc' := 97) dX12_findWays_96 rfl rfl rfl ?_
                  refine go_iald (pc' := 98) dX12_findWays_97 rfl (by decide) (by decide) rfl (vin_of (n := 20) (by omega) (by omega)) ?_
                  refine go_topq (y := (σ.2 112 (x1_6).toNatClampNeg)) (congrFun (w6.2.2 112 (by decide)) _) ?_
                  have g36 := ixa_112 ix (x1_6).toNatClampNeg (vinlt (vin_of (n := 20) (by omega) (by omega)))
                  refine go_aload_n (i := 0) (pc' := 99) dX12_findWays_98 rfl rfl rfl ?_
                  refine gf_13_boundBy (pc' := 102) dX12_findWays_99 rfl fl_X12_62 ?_
                  refine go_iload_n (i := 1) (pc' := 103) dX12_findWays_102 rfl rfl rfl ?_
                  refine go_iald (pc' := 104) dX12_findWays_103 rfl (by decide) (by decide) rfl (vin_of (n := 20) (by omega) (by omega)) ?_
                  refine go_topq (y := (σ.2 113 (x1_6).toNatClampNeg)) (congrFun (w6.2.2 113 (by decide)) _) ?_
                  have g37 := ixa_113 ix (x1_6).toNatClampNeg (vinlt (vin_of (n := 20) (by omega) (by omega)))
                  refine go_cvv (pc' := 107) lk_X12_189 (f_X12_leads _ _ _ _ _ _ (by omega) (by omega) w6.1) rfl rfl (Nat.le_of_ble_eq_true rfl) (by decide) rfl rfl rfl ⟨Nat.le_of_ble_eq_true rfl, Nat.le_of_ble_eq_true rfl⟩ ⟨rfl, rfl⟩ dX12_findWays_104 rfl (fun σ38 h38 => ?_)
                  have w38 := WMw_trans w6 ((fun z => LDm_W w6.1 z) h38)
                  have u12 : UPD N (dM σ6) (dM σ38) (frM σ (x1_6).toNatClampNeg) (toM σ (x1_6).toNatClampNeg) (shM σ (x1_6).toNatClampNeg) := UPD_12 (by omega) h38.2
                  refine gz_iinc (c := 1) (pc' := 110) dX12_findWays_107 rfl rfl (by decide) (by decide) (by decide) (by omega) (fun v39 h39 e39 => ?_)
                  refine go_goto (tgt := 77) dX12_findWays_110 (by decide) ?_
                  exact go_lv (lv' := [(0, .ref (L.2.1 13)), (1, .int v39)]) rfl (ih6 _ (by omega) σ38 v39 w38 (by omega) (P23_up hp_6 u12 (by omega) (by omega) gm) (fun j h1 h2 h3 => ⟨UP_keep u12 (by omega) h1 (by have z := (fd.1 j h2).1; omega) (hl_6 j h1 h2 h3).1, UP_keep u12 (by omega) (by have z := (fd.1 j h2).1; omega) h1 (hl_6 j h1 h2 h3).2⟩) (fun e h1 h2 => by have cv := cnat (x := v39) (by omega); have fe := fd.2 e h2; by_cases c : e = (x1_6).toNatClampNeg; (rw [c]; exact UP_new u12 (by omega)); exact UP_keep u12 (by omega) (by omega) (by omega) (hb_6 e (by omega) h2)) rfl)
              exact go_lv (lv' := [(0, .ref (L.2.1 13)), (1, .int (0 : Int32))]) rfl (loop77_6 _ σ3 (0 : Int32) w3 (by omega) hp_3 hlN (fun j hj => by exfalso; rw [z0] at hj; omega) rfl)
            have c1 := cnat (x := x1_3) (by omega)
            have hpA := hp_3
            have hlA := hl_3
            refine go_aload_n (i := 0) (pc' := 34) dX12_findWays_33 rfl rfl rfl ?_
            refine gf_13_is (pc' := 37) dX12_findWays_34 rfl fl_X12_47 ?_
            refine go_iload_n (i := 1) (pc' := 38) dX12_findWays_37 rfl rfl rfl ?_
            refine go_iald (pc' := 39) dX12_findWays_38 rfl (by decide) (by decide) rfl (vin_of (n := 12) (by omega) (by omega)) ?_
            refine go_topq (y := (σ.2 108 (x1_3).toNatClampNeg)) (congrFun (w3.2.2 108 (by decide)) _) ?_
            have g40 := ixa_108 ix (x1_3).toNatClampNeg (vinlt (vin_of (n := 12) (by omega) (by omega)))
            refine gz_if_ge (tgt := 45) (pc' := 42) dX12_findWays_39 rfl (by decide) (fun c41 => ?_) (fun c41 => ?_)
            · have nr : ¬ (σ.2 108 (x1_3).toNatClampNeg).toInt < 0 := by omega
              have er : rtM σ (x1_3).toNatClampNeg = (σ.2 108 (x1_3).toNatClampNeg).toNatClampNeg := if_neg nr
              have fr := fd.1 (x1_3).toNatClampNeg (by omega)
              have c8 := cnat (x := σ.2 108 (x1_3).toNatClampNeg) (by omega)
              have r2 := rtM_r fd (j := (x1_3).toNatClampNeg) (by omega)
              have xr := FSM_rt hx (j := (x1_3).toNatClampNeg) (by omega)
              refine go_aload_n (i := 0) (pc' := 46) dX12_findWays_45 rfl rfl rfl ?_
              refine go_iload_n (i := 1) (pc' := 47) dX12_findWays_46 rfl rfl rfl ?_
              refine go_aload_n (i := 0) (pc' := 48) dX12_findWays_47 rfl rfl rfl ?_
              refine gf_13_is (pc' := 51) dX12_findWays_48 rfl fl_X12_47 ?_
              refine go_iload_n (i := 1) (pc' := 52) dX12_findWays_51 rfl rfl rfl ?_
              refine go_iald (pc' := 53) dX12_findWays_52 rfl (by decide) (by decide) rfl (vin_of (n := 12) (by omega) (by omega)) ?_
              refine go_topq (y := (σ.2 108 (x1_3).toNatClampNeg)) (congrFun (w3.2.2 108 (by decide)) _) ?_
              have g42 := ixa_108 ix (x1_3).toNatClampNeg (vinlt (vin_of (n := 12) (by omega) (by omega)))
              refine go_iconst (v := 0) (pc' := 54) dX12_findWays_53 rfl (by decide) ?_
              refine go_cvv (pc' := 57) lk_X12_189 (f_X12_leads _ _ _ _ _ _ (by omega) (by omega) w3.1) rfl rfl (Nat.le_of_ble_eq_true rfl) (by decide) rfl rfl rfl ⟨Nat.le_of_ble_eq_true rfl, Nat.le_of_ble_eq_true rfl⟩ ⟨rfl, rfl⟩ dX12_findWays_54 rfl (fun σ43 h43 => ?_)
              have w43 := WMw_trans w3 ((fun z => LDm_W w3.1 z) h43)
              have uA : UPD N (dM σ3) (dM σ43) (x1_3).toNatClampNeg (σ.2 108 (x1_3).toNatClampNeg).toNatClampNeg 0 := UPD_12 (by omega) (by have z := h43.2; rw [n0] at z; exact z)
              refine go_aload_n (i := 0) (pc' := 58) dX12_findWays_57 rfl rfl rfl ?_
              refine go_aload_n (i := 0) (pc' := 59) dX12_findWays_58 rfl rfl rfl ?_
              refine gf_13_is (pc' := 62) dX12_findWays_59 rfl fl_X12_47 ?_
              refine go_iload_n (i := 1) (pc' := 63) dX12_findWays_62 rfl rfl rfl ?_
              refine go_iald (pc' := 64) dX12_findWays_63 rfl (by decide) (by decide) rfl (vin_of (n := 12) (by omega) (by omega)) ?_
              refine go_topq (y := (σ.2 108 (x1_3).toNatClampNeg)) (congrFun (w43.2.2 108 (by decide)) _) ?_
              have g44 := ixa_108 ix (x1_3).toNatClampNeg (vinlt (vin_of (n := 12) (by omega) (by omega)))
              refine go_iload_n (i := 1) (pc' := 65) dX12_findWays_64 rfl rfl rfl ?_
              refine go_iconst (v := 0) (pc' := 66) dX12_findWays_65 rfl (by decide) ?_
              refine go_cvv (pc' := 69) lk_X12_189 (f_X12_leads _ _ _ _ _ _ (by omega) (by omega) w43.1) rfl rfl (Nat.le_of_ble_eq_true rfl) (by decide) rfl rfl rfl ⟨Nat.le_of_ble_eq_true rfl, Nat.le_of_ble_eq_true rfl⟩ ⟨rfl, rfl⟩ dX12_findWays_66 rfl (fun σ45 h45 => ?_)
              have w45 := WMw_trans w43 ((fun z => LDm_W w43.1 z) h45)
              have uB : UPD N (dM σ43) (dM σ45) (σ.2 108 (x1_3).toNatClampNeg).toNatClampNeg (x1_3).toNatClampNeg 0 := UPD_12 (by omega) (by have z := h45.2; rw [n0] at z; exact z)
              have st69 : P23 N x (GM σ kp) (dM σ45) ∧ LKM σ ((x1_3).toNatClampNeg + 1) (dM σ45) := by
                first
                | (have g0 : GM σ kp (x1_3).toNatClampNeg (rtM σ (x1_3).toNatClampNeg) 0 := ⟨0, r2.symm, rfl⟩
                   have g1 : GM σ kp (rtM σ (x1_3).toNatClampNeg) (x1_3).toNatClampNeg 0 := ⟨0, r2, rfl⟩
                   have p1 := P23_up hpA uA (by omega) (by rw [← er]; omega) (by rw [← er]; exact g0)
                   have p2 := P23_up p1 uB (by omega) (by rw [← er]; omega) (by rw [← er]; exact g1)
                   refine ⟨p2, fun j h1 h2 h3 => ?_⟩
                   have rj := (fd.1 j h2).1
                   have nA := UP_new uA (by omega)
                   have nB := UP_new uB (by omega)
                   rw [← er] at nA nB
                   by_cases c : j = (x1_3).toNatClampNeg
                   · rw [c]
                     exact ⟨UP_keep uB (by omega) (by omega) (by omega) nA, nB⟩
                   · have q := hlA j (by omega) h2 h3
                     exact ⟨UP_keep uB (by omega) (by omega) (by omega) (UP_keep uA (by omega) (by omega) (by omega) q.1), UP_keep uB (by omega) (by omega) (by omega) (UP_keep uA (by omega) (by omega) (by omega) q.2)⟩)
                | (refine ⟨hpA, fun j h1 h2 h3 => ?_⟩
                   have c : j ≠ (x1_3).toNatClampNeg := fun c => by
                     rw [c] at h3
                     omega
                   exact hlA j (by omega) h2 h3)
              refine gz_iinc (c := 1) (pc' := 72) dX12_findWays_69 rfl rfl (by decide) (by decide) (by decide) (by omega) (fun v46 h46 e46 => ?_)
              refine go_goto (tgt := 25) dX12_findWays_72 (by decide) ?_
              exact go_lv (lv' := [(0, .ref (L.2.1 13)), (1, .int v46)]) rfl (ih3 _ (by omega) σ45 v46 w45 (by omega) st69.1 (by have cv := cnat (x := v46) (by omega); rw [show (v46).toNatClampNeg = (x1_3).toNatClampNeg + 1 from by omega]; exact st69.2) rfl)
            refine go_goto (tgt := 69) dX12_findWays_42 (by decide) ?_
            have st69 : P23 N x (GM σ kp) (dM σ3) ∧ LKM σ ((x1_3).toNatClampNeg + 1) (dM σ3) := by
              first
              | (have g0 : GM σ kp (x1_3).toNatClampNeg (rtM σ (x1_3).toNatClampNeg) 0 := ⟨0, r2.symm, rfl⟩
                 have g1 : GM σ kp (rtM σ (x1_3).toNatClampNeg) (x1_3).toNatClampNeg 0 := ⟨0, r2, rfl⟩
                 have p1 := P23_up hpA uA (by omega) (by rw [← er]; omega) (by rw [← er]; exact g0)
                 have p2 := P23_up p1 uB (by omega) (by rw [← er]; omega) (by rw [← er]; exact g1)
                 refine ⟨p2, fun j h1 h2 h3 => ?_⟩
                 have rj := (fd.1 j h2).1
                 have nA := UP_new uA (by omega)
                 have nB := UP_new uB (by omega)
                 rw [← er] at nA nB
                 by_cases c : j = (x1_3).toNatClampNeg
                 · rw [c]
                   exact ⟨UP_keep uB (by omega) (by omega) (by omega) nA, nB⟩
                 · have q := hlA j (by omega) h2 h3
                   exact ⟨UP_keep uB (by omega) (by omega) (by omega) (UP_keep uA (by omega) (by omega) (by omega) q.1), UP_keep uB (by omega) (by omega) (by omega) (UP_keep uA (by omega) (by omega) (by omega) q.2)⟩)
              | (refine ⟨hpA, fun j h1 h2 h3 => ?_⟩
                 have c : j ≠ (x1_3).toNatClampNeg := fun c => by
                   rw [c] at h3
                   omega
                 exact hlA j (by omega) h2 h3)
            refine gz_iinc (c := 1) (pc' := 72) dX12_findWays_69 rfl rfl (by decide) (by decide) (by decide) (by omega) (fun v47 h47 e47 => ?_)
            refine go_goto (tgt := 25) dX12_findWays_72 (by decide) ?_
            exact go_lv (lv' := [(0, .ref (L.2.1 13)), (1, .int v47)]) rfl (ih3 _ (by omega) σ3 v47 w3 (by omega) st69.1 (by have cv := cnat (x := v47) (by omega); rw [show (v47).toNatClampNeg = (x1_3).toNatClampNeg + 1 from by omega]; exact st69.2) rfl)
        exact go_lv (lv' := [(0, .ref (L.2.1 13)), (1, .int (0 : Int32))]) rfl (loop25_3 _ σ1 (0 : Int32) w1 (by omega) ⟨fun a b ha hb f => absurd (hf_1 (12 * a + b) (by omega)) f, fun a b ha hb f => absurd (hf_1 (12 * a + b) (by omega)) f⟩ (fun j hj => by exfalso; rw [z0] at hj; omega) rfl)
      refine go_aload_n (i := 0) (pc' := 10) dX12_findWays_9 rfl rfl rfl ?_
      refine gf_13_way (pc' := 13) dX12_findWays_10 rfl fl_X12_89 ?_
      refine go_iload_n (i := 1) (pc' := 14) dX12_findWays_13 rfl rfl rfl ?_
      refine go_ldc (pc' := 16) dX12_findWays_14 rfl cst_X12_188 ?_
      refine go_iast (pc' := 17) dX12_findWays_16 rfl (by decide) (by decide) rfl (vin_of (n := 144) (by omega) (by omega)) ?_
      refine go_gen (P := fun s => WMw σ s ∧ s.2 122 = upd (σ1.2 122) (x1_1).toNatClampNeg (-1000000 : Int32)) ⟨⟨ixt_n w1.1 (by decide), Ag_setA w1.2 (by decide)⟩, setA_same _ _ _ _⟩ (fun σ48 z48 => ?_)
      obtain ⟨w48, g48⟩ := z48
      have ga := g48
      refine gz_iinc (c := 1) (pc' := 20) dX12_findWays_17 rfl rfl (by decide) (by decide) (by decide) (by omega) (fun v49 h49 e49 => ?_)
      refine go_goto (tgt := 2) dX12_findWays_20 (by decide) ?_
      exact go_lv (lv' := [(0, .ref (L.2.1 13)), (1, .int v49)]) rfl (ih1 _ (by omega) σ48 v49 w48 (by omega) (upd_step (P := fun q z => z.toInt = (-1000000)) hf_1 ga nm1000000 (by omega) (by omega)) rfl)
  exact go_lv (lv' := [(0, .ref (L.2.1 13)), (1, .int (0 : Int32))]) rfl (loop2_1 _ σ (0 : Int32) w0 (by omega) (fun q hq => by exfalso; omega) rfl)
set_option maxHeartbeats 4000000 in
set_option maxRecDepth 100000 in
theorem f_X12_before (l : Launch) (L : WL) (σ : ST) (a b : Int32) (ix : IV σ) (im : IM σ) (fd : FDM σ) : CtI l L yX12_before cX12_before 3 (some .int) rm_X12_before [.ref (L.2.1 13), .int a, .int b] σ (fun r σ2 => tM_before σ a b r σ2) := by
  refine ctI_go (own := RX12) (by decide) rfl (Nat.le_of_ble_eq_true rfl) (fun F hF => ?_)
  subst hF
  have nm2 : (-2 : Int32).toInt = -2 := by decide
  have n0 : (0 : Int32).toInt = 0 := by decide
  have n1 : (1 : Int32).toInt = 1 := by decide
  have w0 : WM σ σ := WM_rfl ix
  have u19 := ixi_19 ix
  have u20 := ixi_20 ix
  have u21 := ixi_21 ix
  have u22 := ixi_22 ix
  have c20 := cnat u20.1
  refine go_aload_n (i := 0) (pc' := 1) dX12_before_0 rfl rfl rfl ?_
  refine go_iload_n (i := 1) (pc' := 2) dX12_before_1 rfl rfl rfl ?_
  refine go_cvi (pc' := 5) lk_X12_152 (c_X12_isLetter _ _ _ _) rfl rfl (Nat.le_of_ble_eq_true rfl) (by decide) rfl rfl rfl ⟨Nat.le_of_ble_eq_true rfl, Nat.le_of_ble_eq_true rfl⟩ ⟨rfl, rfl⟩ dX12_before_2 rfl (fun r1 σ1 h1 => ?_)
  obtain ⟨e1, h1⟩ := h1
  have e1 := e1.symm
  subst e1
  refine go_eqB (tgt := 21) (pc' := 8) h1 dX12_before_5 rfl (by decide) (fun c2 => ?_) (fun c2 => ?_)
  · refine go_bipush (v := (-2)) (pc' := 23) dX12_before_21 rfl (by decide) ?_
    exact go_iret dX12_before_23 rfl (⟨w0, Or.inl ⟨by omega, rfl⟩⟩)
  refine go_aload_n (i := 0) (pc' := 9) dX12_before_8 rfl rfl rfl ?_
  refine go_iload_n (i := 2) (pc' := 10) dX12_before_9 rfl rfl rfl ?_
  refine go_cvi (pc' := 13) lk_X12_152 (c_X12_isLetter _ _ _ _) rfl rfl (Nat.le_of_ble_eq_true rfl) (by decide) rfl rfl rfl ⟨Nat.le_of_ble_eq_true rfl, Nat.le_of_ble_eq_true rfl⟩ ⟨rfl, rfl⟩ dX12_before_10 rfl (fun r3 σ3 h3 => ?_)
  obtain ⟨e3, h3⟩ := h3
  have e3 := e3.symm
  subst e3
  refine go_eqB (tgt := 21) (pc' := 16) h3 dX12_before_13 rfl (by decide) (fun c4 => ?_) (fun c4 => ?_)
  · refine go_bipush (v := (-2)) (pc' := 23) dX12_before_21 rfl (by decide) ?_
    exact go_iret dX12_before_23 rfl (⟨w0, Or.inl ⟨by omega, rfl⟩⟩)
  refine go_iload_n (i := 1) (pc' := 17) dX12_before_16 rfl rfl rfl ?_
  refine go_iload_n (i := 2) (pc' := 18) dX12_before_17 rfl rfl rfl ?_
  refine gz_icmp_ne (tgt := 24) (pc' := 21) dX12_before_18 rfl (by decide) (fun c5 => ?_) (fun c5 => ?_)
  · refine go_aload_n (i := 0) (pc' := 25) dX12_before_24 rfl rfl rfl ?_
    refine go_cvi (pc' := 28) lk_X12_184 (f_X12_clashAll _ _ _ w0.1 (IM_q w0 im)) rfl rfl (Nat.le_of_ble_eq_true rfl) (by decide) rfl rfl rfl ⟨Nat.le_of_ble_eq_true rfl, Nat.le_of_ble_eq_true rfl⟩ ⟨rfl, rfl⟩ dX12_before_25 rfl (fun r6 σ6 h6 => ?_)
    obtain ⟨u6, h6⟩ := h6
    have w6 := WM_trans w0 (WM_of_l u6)
    have st := h6
    have us := WM_of_l u6
    refine gz_if_eq (tgt := 33) (pc' := 31) dX12_before_28 rfl (by decide) (fun c7 => ?_) (fun c7 => ?_)
    · have lg := LGM_LG st (by omega)
      refine go_aload_n (i := 0) (pc' := 34) dX12_before_33 rfl rfl rfl ?_
      refine go_cvv (pc' := 37) lk_X12_193 (f_X12_findWays (kp := kpF (allS (σ.1 21))) _ _ _ (σ.1 20).toNatClampNeg (by rw [us.2.1 20 (by decide)]; omega) w6.1 (FDM_e us fd) (fun k hk => kp_allN (by omega) (by rw [us.2.1 21 (by decide)] at hk; exact hk)) ((FSM_e us).mpr lg.1)) rfl rfl (Nat.le_of_ble_eq_true rfl) (by decide) rfl rfl rfl ⟨Nat.le_of_ble_eq_true rfl, Nat.le_of_ble_eq_true rfl⟩ ⟨rfl, rfl⟩ dX12_before_34 rfl (fun σ8 h8 => ?_)
      obtain ⟨u8, h8⟩ := h8
      have w8 := WM_trans w6 (WM_of_w u8)
      have mp := h8
      have um := u8
      refine go_aload_n (i := 0) (pc' := 38) dX12_before_37 rfl rfl rfl ?_
      refine go_iload_n (i := 1) (pc' := 39) dX12_before_38 rfl rfl rfl ?_
      refine go_iload_n (i := 2) (pc' := 40) dX12_before_39 rfl rfl rfl ?_
      refine go_cvi (pc' := 43) lk_X12_196 (c_X12_isBefore _ _ _ _ _ (by omega) (by omega) w8.1) rfl rfl (Nat.le_of_ble_eq_true rfl) (by decide) rfl rfl rfl ⟨Nat.le_of_ble_eq_true rfl, Nat.le_of_ble_eq_true rfl⟩ ⟨rfl, rfl⟩ dX12_before_40 rfl (fun r9 σ9 h9 => ?_)
      obtain ⟨e9, h9⟩ := h9
      have e9 := e9.symm
      subst e9
      refine go_eqB (tgt := 50) (pc' := 46) h9 dX12_before_43 rfl (by decide) (fun c10 => ?_) (fun c10 => ?_)
      · refine go_iconst (v := 0) (pc' := 51) dX12_before_50 rfl (by decide) ?_
        exact go_iret dX12_before_51 rfl (by
            have ca := cnat (x := a) (by omega)
            have cb := cnat (x := b) (by omega)
            have key : BEF σ8 (a).toNatClampNeg (b).toNatClampNeg ↔ (higM σ6 (a).toNatClampNeg < lowM σ6 (b).toNatClampNeg ∨ LDS (EdM σ (kpF (allS (σ.1 21)))) (rtM σ (a).toNatClampNeg) (rtM σ (b).toNatClampNeg)) := by
              have z := mp (a).toNatClampNeg (b).toNatClampNeg (by omega) (by omega)
              rw [EdM_e us] at z
              unfold rtM at z
              rw [us.2.2 108 (by decide)] at z
              unfold BEF higM lowM
              rw [um.2.2 120 (by decide), um.2.2 121 (by decide)]
              exact or_congr Iff.rfl z
            first
            | exact ⟨w8, Or.inr ⟨by omega, Or.inr ⟨_, _, lg, Or.inl ⟨rfl, key.mp c10⟩⟩⟩⟩
            | exact ⟨w8, Or.inr ⟨by omega, Or.inr ⟨_, _, lg, Or.inr ⟨rfl, fun z => c10 (key.mpr z)⟩⟩⟩⟩)
      refine go_iconst (v := 1) (pc' := 47) dX12_before_46 rfl (by decide) ?_
      refine go_goto (tgt := 51) dX12_before_47 (by decide) ?_
      exact go_iret dX12_before_51 rfl (by
          have ca := cnat (x := a) (by omega)
          have cb := cnat (x := b) (by omega)
          have key : BEF σ8 (a).toNatClampNeg (b).toNatClampNeg ↔ (higM σ6 (a).toNatClampNeg < lowM σ6 (b).toNatClampNeg ∨ LDS (EdM σ (kpF (allS (σ.1 21)))) (rtM σ (a).toNatClampNeg) (rtM σ (b).toNatClampNeg)) := by
            have z := mp (a).toNatClampNeg (b).toNatClampNeg (by omega) (by omega)
            rw [EdM_e us] at z
            unfold rtM at z
            rw [us.2.2 108 (by decide)] at z
            unfold BEF higM lowM
            rw [um.2.2 120 (by decide), um.2.2 121 (by decide)]
            exact or_congr Iff.rfl z
          first
          | exact ⟨w8, Or.inr ⟨by omega, Or.inr ⟨_, _, lg, Or.inl ⟨rfl, key.mp c10⟩⟩⟩⟩
          | exact ⟨w8, Or.inr ⟨by omega, Or.inr ⟨_, _, lg, Or.inr ⟨rfl, fun z => c10 (key.mpr z)⟩⟩⟩⟩)
    refine go_iconst (v := 0) (pc' := 32) dX12_before_31 rfl (by decide) ?_
    exact go_iret dX12_before_32 rfl (⟨w6, Or.inr ⟨by omega, Or.inl ⟨LGM_no st (by omega), rfl⟩⟩⟩)
  refine go_bipush (v := (-2)) (pc' := 23) dX12_before_21 rfl (by decide) ?_
  exact go_iret dX12_before_23 rfl (⟨w0, Or.inl ⟨by omega, rfl⟩⟩)
theorem FD_M {σ : ST} (h : INVD σ) : FDM σ := by
  have fd := FK_FD h.1.1 h.2.2
  obtain ⟨r2, r3, r4, r5, r6, r24, r25, r31, -⟩ := h.1.2.2.2
  obtain ⟨d19, d20, d26, d27, d28, d29, d30, d35, d36, d37, -⟩ := h.2.1
  have u3 := ixi_3 h.1.1
  have u4 := ixi_4 h.1.1
  refine ⟨fun j hj => ?_, fun k hk => ?_⟩
  · have z := fd.1 j (by rw [r3]; exact hj)
    unfold ROOT rtX at z
    rw [r3, r31] at z
    exact z
  · rw [← r4] at hk
    have z := fd.2 k hk
    have g5 := cnat (ixa_35 h.1.1 k (by omega)).1
    have g6 := cnat (ixa_36 h.1.1 k (by omega)).1
    unfold frM toM
    rw [← d35, ← d36, ← r3]
    omega
theorem EdXM {σ : ST} (h : INVD σ) (kp : Nat → Prop) : EdM σ kp = EdX σ kp := by
  obtain ⟨r2, r3, r4, r5, r6, r24, r25, r31, -⟩ := h.1.2.2.2
  obtain ⟨d19, d20, d26, d27, d28, d29, d30, d35, d36, d37, -⟩ := h.2.1
  unfold EdM
  rw [← r4, ← r31, ← d35, ← d36, ← d37]
  rfl
theorem EdM_x {σ σ2 : ST} (h : WX σ σ2) (kp : Nat → Prop) : EdM σ2 kp = EdM σ kp := by
  unfold EdM
  rw [h.2.1 21 (by decide), h.2.2 108 (by decide), h.2.2 111 (by decide), h.2.2 112 (by decide), h.2.2 113 (by decide)]
theorem BFR_cg {F G : (Nat → Int) → Prop} {E : Nat → Nat → Int → Prop} {n : Int} {a b ra rb : Nat} {r : Int32} (e : ∀ x : Nat → Int, F x ↔ G x) (h : BFR F E n a b ra rb r) : BFR G E n a b ra rb r := by
  rcases h with ⟨p, q⟩ | ⟨L, H, p, q⟩
  · exact Or.inl ⟨fun x z => p x ((e x).mpr z), q⟩
  · exact Or.inr ⟨L, H, LG_cg e p, q⟩
theorem t_before {σ σ1 σ2 : ST} {a b r1 r2 : Int32} (h : INVD σ) (s : tX_before σ a b r1 σ1) (m : tM_before σ1 a b r2 σ2) : INVD σ2 ∧ r1 = r2 := by
  refine ⟨INVD_WM (INVD_WX h s.1) m.1, ?_⟩
  have i3 := congrArg Int32.toInt h.1.2.2.2.2.1
  have e20 := s.1.2.1 20 (by decide)
  have e21 := s.1.2.1 21 (by decide)
  have e8 := s.1.2.2 108 (by decide)
  have i20 := congrArg Int32.toInt e20
  rcases s.2 with ⟨c, y⟩ | ⟨c, y⟩ <;> rcases m.2 with ⟨d, z⟩ | ⟨d, z⟩
  · exact y.trans z.symm
  · exfalso
    omega
  · exfalso
    omega
  · have ca := cnat c.1.1
    have cb := cnat c.2.1.1
    unfold rtM at z
    rw [EdM_x s.1, EdXM h, e20, e21, e8, ← h.1.2.2.2.2.1, ← h.1.2.2.2.2.2.1, ← h.1.2.2.2.2.2.2.2.2.2.2.1] at z
    exact BFR_one (by omega) (by omega) y (BFR_cg (fun x => (FSM_x s.1 _ x).trans (FS_XM h _ x).symm) z)
