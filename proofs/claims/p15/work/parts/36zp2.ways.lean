/-- BOUNDS of roots -/
def EdG (fo ba bb bd : Nat → Int32) (K : Int) (kp : Nat → Prop) (a c : Nat) (s : Int) : Prop := ∃ k : Nat, (k : Int) < K ∧ kp k ∧ a = rtF fo (ba k).toNatClampNeg ∧ c = rtF fo (bb k).toNatClampNeg ∧ s = (bd k).toInt
def dX (s : ST) (a b : Nat) : Int := (s.2 (68 + a) b).toInt
theorem dX_set {s s2 : ST} {I J : Nat} {v : Int32} (g : (∀ q : Nat, q ≠ 68 + I → s2.2 q = s.2 q) ∧ s2.2 (68 + I) = upd (s.2 (68 + I)) J v) : dX s2 I J = v.toInt ∧ ∀ a b : Nat, ¬ (a = I ∧ b = J) → dX s2 a b = dX s a b := by
  unfold dX
  refine ⟨by rw [g.2, upd_eq], fun a b h => ?_⟩
  by_cases e : a = I
  · rw [e, g.2, upd_ne (fun z => h ⟨e, z⟩)]
  · rw [g.1 _ (by omega)]
abbrev WXqA (k : Nat) : Prop := 68 ≤ k ∧ k < 80
def WXq (σ σ2 : ST) : Prop := IV σ2 ∧ Ag noI WXqA σ σ2
theorem WXq_rfl {σ : ST} (h : IV σ) : WXq σ σ := ⟨h, Ag_rfl σ⟩
theorem WXq_trans {σ σ2 σ3 : ST} (h : WXq σ σ2) (h2 : WXq σ2 σ3) : WXq σ σ3 := ⟨h2.1, Ag_trans h.2 h2.2⟩
theorem WXq_WX {σ σ2 : ST} (h : WXq σ σ2) : WX σ σ2 := ⟨h.1, ⟨fun i _ => h.2.1 i (fun q => q), fun k hk => h.2.2 k (fun q => hk (by unfold sxA; unfold WXqA at q; omega))⟩⟩
theorem WXq_SD {σ σ2 : ST} (h : WXq σ σ2) : SD σ σ2 := SD_Ag h.2 (by decide) (by decide)
theorem QP_path {n : Nat} (h : n < 12) : WXqA (68 + n) := by
  unfold WXqA
  omega
/-- behind the first k BOUNDS -/
def BIX (σ : ST) (kp : Nat → Prop) (x : Nat → Int) (n k : Nat) (D : Nat → Nat → Int) : Prop := (∀ a : Nat, a < n → D a a ≠ (-1000000) ∧ 0 ≤ D a a) ∧ (∀ a b : Nat, a < n → b < n → D a b ≠ (-1000000) → -500 ≤ D a b ∧ D a b ≤ x b - x a) ∧ GI n (fun a b s => ∃ m : Nat, WKn (EdX σ kp) m a b s) D ∧ ∀ e : Nat, e < k → (e : Int) < (σ.1 4).toInt → D (srX σ e) (dsX σ e) ≠ (-1000000) ∧ shX σ e ≤ D (srX σ e) (dsX σ e)
theorem BIX_0 {σ : ST} {kp : Nat → Prop} {x : Nat → Int} {n : Nat} {D : Nat → Nat → Int} (h : ∀ a b : Nat, a < n → b < n → D a b = if a = b then 0 else (-1000000)) : BIX σ kp x n 0 D := by
  refine ⟨fun a ha => ?_, fun a b ha hb f => ?_, fun a b ha hb f => ?_, fun e he => absurd he (Nat.not_lt_zero _)⟩
  · rw [h a a ha ha, if_pos rfl]
    exact ⟨by decide, by decide⟩
  · rw [h a b ha hb] at f ⊢
    by_cases e : a = b
    · rw [if_pos e, e]
      omega
    · rw [if_neg e] at f
      exact absurd rfl f
  · rw [h a b ha hb] at f ⊢
    by_cases e : a = b
    · rw [if_pos e]
      exact ⟨0, e, rfl⟩
    · rw [if_neg e] at f
      exact absurd rfl f
theorem BIX_s {σ : ST} {kp : Nat → Prop} {x : Nat → Int} {n k k2 : Nat} {D D2 : Nat → Nat → Int} (iv : IV σ) (fd : FDX σ) (ka : ∀ k : Nat, (k : Int) < (σ.1 4).toInt → kp k) (hx : FSX σ kp x) (h : BIX σ kp x n k D) (e2 : k2 = k + 1) (hk : (k : Int) < (σ.1 4).toInt) (h1 : D2 (srX σ k) (dsX σ k) = max (D (srX σ k) (dsX σ k)) (shX σ k)) (h2 : ∀ a b : Nat, ¬ (a = srX σ k ∧ b = dsX σ k) → D2 a b = D a b) : BIX σ kp x n k2 D2 := by
  subst e2
  have u4 := ixi_4 iv
  have g7 : -500 ≤ shX σ k ∧ shX σ k ≤ 500 := ixa_37 iv k (by omega)
  have bd := FSX_bd fd iv hx hk (ka k hk)
  have le : ∀ a b : Nat, D a b ≤ D2 a b := fun a b => by
    by_cases c : a = srX σ k ∧ b = dsX σ k
    · rw [c.1, c.2, h1]
      omega
    · rw [h2 a b c]
      exact Int.le_refl _
  have fin : ∀ a b : Nat, a < n → b < n → D a b ≠ (-1000000) → D2 a b ≠ (-1000000) := fun a b ha hb f => by
    by_cases c : a = srX σ k ∧ b = dsX σ k
    · rw [c.1, c.2, h1]
      omega
    · rw [h2 a b c]
      exact f
  refine ⟨fun a ha => ?_, fun a b ha hb f => ?_, fun a b ha hb f => ?_, fun e he hE => ?_⟩
  · have q := h.1 a ha
    have := le a a
    exact ⟨fin a a ha ha q.1, by omega⟩
  · by_cases c : a = srX σ k ∧ b = dsX σ k
    · rw [c.1, c.2, h1]
      by_cases z : D a b = (-1000000)
      · rw [c.1, c.2] at z
        omega
      · have q := h.2.1 a b ha hb z
        rw [c.1, c.2] at q
        omega
    · rw [h2 a b c] at f ⊢
      exact h.2.1 a b ha hb f
  · by_cases c : a = srX σ k ∧ b = dsX σ k
    · by_cases z : shX σ k ≤ D a b
      · have e : D2 a b = D a b := by
          rw [c.1, c.2, h1]
          rw [c.1, c.2] at z
          omega
        rw [e] at f ⊢
        exact h.2.2.1 a b ha hb f
      · have e : D2 a b = shX σ k := by
          rw [c.1, c.2, h1]
          rw [c.1, c.2] at z
          omega
        rw [e]
        exact ⟨1, a, 0, shX σ k, ⟨rfl, rfl⟩, ⟨k, hk, ka k hk, c.1, c.2, rfl⟩, by omega⟩
    · rw [h2 a b c] at f ⊢
      exact h.2.2.1 a b ha hb f
  · by_cases c : e = k
    · rw [c, h1]
      omega
    · have q := h.2.2.2 e (by omega) hE
      by_cases d : srX σ e = srX σ k ∧ dsX σ e = dsX σ k
      · rw [d.1, d.2] at q ⊢
        rw [h1]
        omega
      · rw [h2 _ _ d]
        exact q
/-- behind k LETTERS -/
def SIX (σ : ST) (kp : Nat → Prop) (x : Nat → Int) (n k : Nat) (D : Nat → Nat → Int) : Prop := FWI n k x D ∧ GI n (fun a b s => ∃ m : Nat, WKn (EdX σ kp) m a b s) D ∧ (∀ a : Nat, a < n → D a a ≠ (-1000000) ∧ 0 ≤ D a a) ∧ ∀ e : Nat, (e : Int) < (σ.1 4).toInt → D (srX σ e) (dsX σ e) ≠ (-1000000) ∧ shX σ e ≤ D (srX σ e) (dsX σ e)
theorem SIX_0 {σ : ST} {kp : Nat → Prop} {x : Nat → Int} {n k : Nat} {D : Nat → Nat → Int} (h : BIX σ kp x n k D) (hk : (σ.1 4).toInt ≤ (k : Int)) : SIX σ kp x n 0 D := ⟨⟨fun a b ha hb f => (h.2.1 a b ha hb f).2, fun m a b hm => absurd hm (Nat.not_lt_zero _), fun a b ha hb f => ⟨fun _ => false, fun v hv => absurd (show false = true from hv) Bool.false_ne_true, by
  have := (h.2.1 a b ha hb f).1
  have e : rk (fun _ => false) 0 = 0 := rfl
  rw [e]
  omega⟩⟩, h.2.2.1, h.1, fun e he => h.2.2.2 e (by omega) he⟩
theorem SIX_s {σ : ST} {kp : Nat → Prop} {x : Nat → Int} {n k k2 : Nat} {D D2 : Nat → Nat → Int} (iv : IV σ) (fd : FDX σ) (h : SIX σ kp x n k D) (hn : n ≤ 12) (en : (n : Int) = (σ.1 3).toInt) (hk : k < n) (e2 : k2 = k + 1) (e : ∀ a b : Nat, a < n → b < n → D2 a b = fwS k D a b) : SIX σ kp x n k2 D2 := by
  subst e2
  have keep : ∀ {a b : Nat} {v : Int}, a < n → b < n → (D a b ≠ (-1000000) ∧ v ≤ D a b) → D2 a b ≠ (-1000000) ∧ v ≤ D2 a b := fun {a b v} ha hb q => by
    rw [e a b ha hb]
    exact ⟨fw_fin h.1 hk hn ha hb (Or.inl q.1), Int.le_trans q.2 (fw_ge k D a b)⟩
  refine ⟨FWI_cg e (by omega) (FW_step h.1 hk hn), GI_cg e (GI_step h.1 hk hn h.2.1 (fun a b s t p q => ?_)), fun a ha => keep ha ha (h.2.2.1 a ha), fun b hb => ?_⟩
  · obtain ⟨m1, p⟩ := p
    obtain ⟨m2, q⟩ := q
    exact ⟨m1 + m2, WK_tr p m2 _ _ q⟩
  · have sr := sr_root fd iv hb
    have r1 := sr.1.1
    have r2 := sr.2.1.1
    exact keep (by omega) (by omega) (h.2.2.2 b hb)
theorem SIX_wk {σ : ST} {kp : Nat → Prop} {x : Nat → Int} {n : Nat} {D : Nat → Nat → Int} (iv : IV σ) (fd : FDX σ) (h : SIX σ kp x n n D) (en : (n : Int) = (σ.1 3).toInt) {i : Nat} (hi : i < n) : ∀ (m j : Nat) (s : Int), WKn (EdX σ kp) m i j s → j < n ∧ D i j ≠ (-1000000) ∧ s ≤ D i j
  | 0, j, s, w => by
    obtain ⟨rfl, rfl⟩ := w
    have q := h.2.2.1 i hi
    exact ⟨hi, q.1, q.2⟩
  | m + 1, j, s, w => by
    obtain ⟨c, t, u, w1, ⟨k, hk, -, rfl, rfl, rfl⟩, rfl⟩ := w
    have q := SIX_wk iv fd h en hi m _ t w1
    have sr := sr_root fd iv hk
    have r1 := sr.1.1
    have r2 := sr.2.1.1
    have z := h.2.2.2 k hk
    have y := h.1.2.1 (srX σ k) i (dsX σ k) (by omega) (by omega) hi (by omega) q.2.1 z.1
    exact ⟨by omega, y.1, by omega⟩
theorem SIX_end {σ : ST} {kp : Nat → Prop} {x : Nat → Int} {n : Nat} {D : Nat → Nat → Int} (iv : IV σ) (fd : FDX σ) (h : SIX σ kp x n n D) (en : (n : Int) = (σ.1 3).toInt) {i j : Nat} (hi : i < n) (hj : j < n) : 0 < D i j ↔ LDS (EdX σ kp) i j := by
  constructor
  · intro z
    have f : D i j ≠ (-1000000) := by omega
    obtain ⟨m, w⟩ := h.2.1 i j hi hj f
    exact ⟨m, _, w, z⟩
  · rintro ⟨m, s, w, z⟩
    have q := SIX_wk iv fd h en hi m j s w
    omega
/-- what before answers: F: which choices of DAYS there are, E: the BOUNDS of roots -/
def BFR (F : (Nat → Int) → Prop) (E : Nat → Nat → Int → Prop) (n : Int) (a b ra rb : Nat) (r : Int32) : Prop := ((∀ x : Nat → Int, ¬ F x) ∧ r = 0) ∨ ∃ L H : Nat → Int, LG F n L H ∧ ((r = 1 ∧ (H a < L b ∨ LDS E ra rb)) ∨ (r = 0 ∧ ¬ (H a < L b ∨ LDS E ra rb)))
theorem BFR_one {F : (Nat → Int) → Prop} {E : Nat → Nat → Int → Prop} {n : Int} {a b ra rb : Nat} {r r2 : Int32} (ha : (a : Int) < n) (hb : (b : Int) < n) (h : BFR F E n a b ra rb r) (g : BFR F E n a b ra rb r2) : r = r2 := by
  rcases h with ⟨p, q⟩ | ⟨L, H, p, q⟩ <;> rcases g with ⟨c, d⟩ | ⟨L2, H2, c, d⟩
  · exact q.trans d.symm
  · exact absurd c.1 (p _)
  · exact absurd p.1 (c _)
  · have e1 := LG_one p c ha
    have e2 := LG_one p c hb
    rw [e1.2, e2.1] at q
    rcases q with ⟨q1, q2⟩ | ⟨q1, q2⟩ <;> rcases d with ⟨d1, d2⟩ | ⟨d1, d2⟩
    · exact q1.trans d1.symm
    · exact absurd q2 d2
    · exact absurd d2 q2
    · exact q1.trans d1.symm
def tX_before (σ : ST) (a b r : Int32) (σ2 : ST) : Prop := WX σ σ2 ∧ ((¬ ((0 ≤ a.toInt ∧ a.toInt < (σ.1 3).toInt) ∧ (0 ≤ b.toInt ∧ b.toInt < (σ.1 3).toInt) ∧ a.toInt ≠ b.toInt) ∧ r = -2) ∨ (((0 ≤ a.toInt ∧ a.toInt < (σ.1 3).toInt) ∧ (0 ≤ b.toInt ∧ b.toInt < (σ.1 3).toInt) ∧ a.toInt ≠ b.toInt) ∧ BFR (FSX σ (kpF (allS (σ.1 4)))) (EdX σ (kpF (allS (σ.1 4)))) (σ.1 3).toInt (a).toNatClampNeg (b).toNatClampNeg (rtX σ (a).toNatClampNeg) (rtX σ (b).toNatClampNeg) r))
theorem EdX_e {σ s : ST} {kp : Nat → Prop} (h : SD σ s) : EdX s kp = EdX σ kp := by
  obtain ⟨a, b, c, d, e, f, g, i, j⟩ := h
  unfold EdX srX dsX shX rtX
  rw [b, f, g, i, j]
set_option maxHeartbeats 4000000 in
set_option maxRecDepth 100000 in
theorem f_X0_joinPaths (l : Launch) (L : WL) (σ : ST) (n k : Int32) (N K : Nat) (hn : n.toInt = (N : Int)) (hk : k.toInt = (K : Int)) (hK : K < N) (hN : N ≤ 12) (x : Nat → Int) (hx : ∀ a : Nat, a < N → 0 ≤ x a ∧ x a ≤ 9999) (wi : FWI N K x (dX σ)) (ix : IV σ) : CtV l L yX0_joinPaths cX0_joinPaths 5 none rm_X0_joinPaths [.ref (L.2.1 3), .int n, .int k] σ (fun σ2 => WXq σ σ2 ∧ ∀ a b : Nat, a < N → b < N → dX σ2 a b = fwS K (dX σ) a b) := by
  refine ctV_go (own := RX0) (by decide) rfl (Nat.le_of_ble_eq_true rfl) (fun F hF => ?_)
  subst hF
  have nm1000000 : (-1000000 : Int32).toInt = -1000000 := by decide
  have n0 : (0 : Int32).toInt = 0 := by decide
  have w0 : WXq σ σ := WXq_rfl ix
  have z0 : (0 : Int32).toNatClampNeg = 0 := rfl
  have ck := cnat (x := k) (by omega)
  have eK : (k).toNatClampNeg = K := by omega
  refine go_iconst (v := 0) (pc' := 1) dX0_joinPaths_0 rfl (by decide) ?_
  refine go_istore_n (i := 3) (pc' := 2) dX0_joinPaths_1 rfl rfl (by decide) ?_
  have loop2_1 : ∀ (dd1 : Nat) (σ1 : ST) (x3_1 : Int32), WXq σ σ1 → (0 ≤ (x3_1).toInt ∧ (x3_1).toInt ≤ (N : Int)) → (FWP N K (x3_1).toNatClampNeg 0 (dX σ) (dX σ1)) → (12 - (x3_1).toInt).toNat = dd1 → Go F L RX0 cX0_joinPaths 5 rm_X0_joinPaths none (RV F L (fun σ2 => WXq σ σ2 ∧ ∀ a b : Nat, a < N → b < N → dX σ2 a b = fwS K (dX σ) a b)) σ1 2 [(0, .ref (L.2.1 3)), (1, .int n), (2, .int k), (3, .int x3_1)] [] := by
    intro dd1
    induction dd1 using Nat.strongRecOn with
    | _ dd1 ih1 =>
      intro σ1 x3_1 w1 h_1 hp_1 hm_1
      refine go_iload_n (i := 3) (pc' := 3) dX0_joinPaths_2 rfl rfl rfl ?_
      refine go_iload_n (i := 1) (pc' := 4) dX0_joinPaths_3 rfl rfl rfl ?_
      refine gz_icmp_ge (tgt := 94) (pc' := 7) dX0_joinPaths_4 rfl (by decide) (fun c2 => ?_) (fun c2 => ?_)
      · exact go_vret dX0_joinPaths_94 rfl (⟨w1, by have c3 := cnat (x := x3_1) (by omega); have z := hp_1; rw [show (x3_1).toNatClampNeg = N from by omega] at z; exact FWP_end z⟩)
      refine go_iconst (v := 0) (pc' := 8) dX0_joinPaths_7 rfl (by decide) ?_
      refine go_istore (pc' := 10) dX0_joinPaths_8 rfl (by decide) ?_
      have loop10_3 : ∀ (dd3 : Nat) (σ3 : ST) (x4_3 : Int32), WXq σ σ3 → (0 ≤ (x4_3).toInt ∧ (x4_3).toInt ≤ (N : Int)) → (FWP N K (x3_1).toNatClampNeg (x4_3).toNatClampNeg (dX σ) (dX σ3)) → (12 - (x4_3).toInt).toNat = dd3 → Go F L RX0 cX0_joinPaths 5 rm_X0_joinPaths none (RV F L (fun σ2 => WXq σ σ2 ∧ ∀ a b : Nat, a < N → b < N → dX σ2 a b = fwS K (dX σ) a b)) σ3 10 [(0, .ref (L.2.1 3)), (1, .int n), (2, .int k), (3, .int x3_1), (4, .int x4_3)] [] := by
        intro dd3
        induction dd3 using Nat.strongRecOn with
        | _ dd3 ih3 =>
          intro σ3 x4_3 w3 h_3 hp_3 hm_3
          refine go_iload (pc' := 12) dX0_joinPaths_10 rfl rfl ?_
          have c4 := cnat (x := x4_3) (by omega)
          have c3 := cnat (x := x3_1) (by omega)
          refine go_iload_n (i := 1) (pc' := 13) dX0_joinPaths_12 rfl rfl rfl ?_
          refine gz_icmp_ge (tgt := 88) (pc' := 16) dX0_joinPaths_13 rfl (by decide) (fun c4 => ?_) (fun c4 => ?_)
          · refine gz_iinc (c := 1) (pc' := 91) dX0_joinPaths_88 rfl rfl (by decide) (by decide) (by decide) (by omega) (fun v5 h5 e5 => ?_)
            refine go_goto (tgt := 2) dX0_joinPaths_91 (by decide) ?_
            exact go_lv (lv' := [(0, .ref (L.2.1 3)), (1, .int n), (2, .int k), (3, .int v5)]) rfl (ih1 _ (by omega) σ3 v5 w3 (by omega) (by have cv := cnat (x := v5) (by omega); have z := FWP_row (n := N) (by have y := hp_3; rw [show (x4_3).toNatClampNeg = N from by omega] at y; exact y); rw [show (x3_1).toNatClampNeg + 1 = (v5).toNatClampNeg from by omega] at z; exact z) rfl)
          have gg := FWP_get wi hK hp_3 (i := (x3_1).toNatClampNeg) (j := (x4_3).toNatClampNeg) (by omega) (by omega)
          have d1 : (σ3.2 (68 + (x3_1).toNatClampNeg) (k).toNatClampNeg).toInt = dX σ (x3_1).toNatClampNeg K := by rw [eK]; exact gg.1
          have d2 : (σ3.2 (68 + (k).toNatClampNeg) (x4_3).toNatClampNeg).toInt = dX σ K (x4_3).toNatClampNeg := by rw [eK]; exact gg.2.1
          have d3 : (σ3.2 (68 + (x3_1).toNatClampNeg) (x4_3).toNatClampNeg).toInt = dX σ (x3_1).toNatClampNeg (x4_3).toNatClampNeg := gg.2.2
          have x1 := hx (x3_1).toNatClampNeg (by omega)
          have x2 := hx K hK
          have x3 := hx (x4_3).toNatClampNeg (by omega)
          refine go_aload_n (i := 0) (pc' := 17) dX0_joinPaths_16 rfl rfl rfl ?_
          refine gf_3_paths (pc' := 20) dX0_joinPaths_17 rfl fl_X0_41 ?_
          refine go_iload_n (i := 3) (pc' := 21) dX0_joinPaths_20 rfl rfl rfl ?_
          have p6 : (x3_1).toNatClampNeg < 12 := vinlt (vin_of (n := 12) (by omega) (by omega))
          refine go_aald (b := 68) (pc' := 22) dX0_joinPaths_21 rfl (by decide) (by decide) ⟨_, rfl⟩ (vin_of (n := 12) (by omega) (by omega)) rfl ?_
          refine go_iload_n (i := 2) (pc' := 23) dX0_joinPaths_22 rfl rfl rfl ?_
          refine go_iald (pc' := 24) dX0_joinPaths_23 rfl (by omega) (by omega) (rowt_68 p6) (by rw [rowl_68 p6]; exact (vin_of (n := 12) (by omega) (by omega))) ?_
          refine go_ldc (pc' := 26) dX0_joinPaths_24 rfl cst_X0_56 ?_
          refine gz_icmp_eq (tgt := 82) (pc' := 29) dX0_joinPaths_26 rfl (by decide) (fun c7 => ?_) (fun c7 => ?_)
          · have st82 : ∀ j2 : Nat, j2 = (x4_3).toNatClampNeg + 1 → FWP N K (x3_1).toNatClampNeg j2 (dX σ) (dX σ3) := fun j2 ej => by
              first
              | exact FWP_set hp_3 ej (by rw [gsd.1, fw_y f1 f2]; omega) (fun a b _ _ z => gsd.2 a b z)
              | exact FWP_set hp_3 ej (by rw [fw_n (fun z => by have z1 := z.1; have z2 := z.2; omega)]; exact gg.2.2) (fun a b _ _ _ => rfl)
            refine gz_iinc (c := 1) (pc' := 85) dX0_joinPaths_82 rfl rfl (by decide) (by decide) (by decide) (by omega) (fun v8 h8 e8 => ?_)
            refine go_goto (tgt := 10) dX0_joinPaths_85 (by decide) ?_
            exact go_lv (lv' := [(0, .ref (L.2.1 3)), (1, .int n), (2, .int k), (3, .int x3_1), (4, .int v8)]) rfl (ih3 _ (by omega) σ3 v8 w3 (by omega) (st82 _ (by have cv := cnat (x := v8) (by omega); omega)) rfl)
          refine go_aload_n (i := 0) (pc' := 30) dX0_joinPaths_29 rfl rfl rfl ?_
          refine gf_3_paths (pc' := 33) dX0_joinPaths_30 rfl fl_X0_41 ?_
          refine go_iload_n (i := 2) (pc' := 34) dX0_joinPaths_33 rfl rfl rfl ?_
          have p9 : (k).toNatClampNeg < 12 := vinlt (vin_of (n := 12) (by omega) (by omega))
          refine go_aald (b := 68) (pc' := 35) dX0_joinPaths_34 rfl (by decide) (by decide) ⟨_, rfl⟩ (vin_of (n := 12) (by omega) (by omega)) rfl ?_
          refine go_iload (pc' := 37) dX0_joinPaths_35 rfl rfl ?_
          refine go_iald (pc' := 38) dX0_joinPaths_37 rfl (by omega) (by omega) (rowt_68 p9) (by rw [rowl_68 p9]; exact (vin_of (n := 12) (by omega) (by omega))) ?_
          refine go_ldc (pc' := 40) dX0_joinPaths_38 rfl cst_X0_56 ?_
          refine gz_icmp_eq (tgt := 82) (pc' := 43) dX0_joinPaths_40 rfl (by decide) (fun c10 => ?_) (fun c10 => ?_)
          · have st82 : ∀ j2 : Nat, j2 = (x4_3).toNatClampNeg + 1 → FWP N K (x3_1).toNatClampNeg j2 (dX σ) (dX σ3) := fun j2 ej => by
              first
              | exact FWP_set hp_3 ej (by rw [gsd.1, fw_y f1 f2]; omega) (fun a b _ _ z => gsd.2 a b z)
              | exact FWP_set hp_3 ej (by rw [fw_n (fun z => by have z1 := z.1; have z2 := z.2; omega)]; exact gg.2.2) (fun a b _ _ _ => rfl)
            refine gz_iinc (c := 1) (pc' := 85) dX0_joinPaths_82 rfl rfl (by decide) (by decide) (by decide) (by omega) (fun v11 h11 e11 => ?_)
            refine go_goto (tgt := 10) dX0_joinPaths_85 (by decide) ?_
            exact go_lv (lv' := [(0, .ref (L.2.1 3)), (1, .int n), (2, .int k), (3, .int x3_1), (4, .int v11)]) rfl (ih3 _ (by omega) σ3 v11 w3 (by omega) (st82 _ (by have cv := cnat (x := v11) (by omega); omega)) rfl)
          have f1 : dX σ (x3_1).toNatClampNeg K ≠ (-1000000) := by omega
          have f2 : dX σ K (x4_3).toNatClampNeg ≠ (-1000000) := by omega
          have l1 := FW_lo wi (by omega) (show (x3_1).toNatClampNeg < N by omega) hK f1
          have l2 := FW_lo wi (by omega) hK (show (x4_3).toNatClampNeg < N by omega) f2
          have u1 := wi.1 (x3_1).toNatClampNeg K (by omega) hK f1
          have u2 := wi.1 K (x4_3).toNatClampNeg hK (by omega) f2
          refine go_aload_n (i := 0) (pc' := 44) dX0_joinPaths_43 rfl rfl rfl ?_
          refine gf_3_paths (pc' := 47) dX0_joinPaths_44 rfl fl_X0_41 ?_
          refine go_iload_n (i := 3) (pc' := 48) dX0_joinPaths_47 rfl rfl rfl ?_
          have p12 : (x3_1).toNatClampNeg < 12 := vinlt (vin_of (n := 12) (by omega) (by omega))
          refine go_aald (b := 68) (pc' := 49) dX0_joinPaths_48 rfl (by decide) (by decide) ⟨_, rfl⟩ (vin_of (n := 12) (by omega) (by omega)) rfl ?_
          refine go_iload (pc' := 51) dX0_joinPaths_49 rfl rfl ?_
          refine go_aload_n (i := 0) (pc' := 52) dX0_joinPaths_51 rfl rfl rfl ?_
          refine gf_3_paths (pc' := 55) dX0_joinPaths_52 rfl fl_X0_41 ?_
          refine go_iload_n (i := 3) (pc' := 56) dX0_joinPaths_55 rfl rfl rfl ?_
          have p13 : (x3_1).toNatClampNeg < 12 := vinlt (vin_of (n := 12) (by omega) (by omega))
          refine go_aald (b := 68) (pc' := 57) dX0_joinPaths_56 rfl (by decide) (by decide) ⟨_, rfl⟩ (vin_of (n := 12) (by omega) (by omega)) rfl ?_
          refine go_iload (pc' := 59) dX0_joinPaths_57 rfl rfl ?_
          refine go_iald (pc' := 60) dX0_joinPaths_59 rfl (by omega) (by omega) (rowt_68 p13) (by rw [rowl_68 p13]; exact (vin_of (n := 12) (by omega) (by omega))) ?_
          refine go_aload_n (i := 0) (pc' := 61) dX0_joinPaths_60 rfl rfl rfl ?_
          refine gf_3_paths (pc' := 64) dX0_joinPaths_61 rfl fl_X0_41 ?_
          refine go_iload_n (i := 3) (pc' := 65) dX0_joinPaths_64 rfl rfl rfl ?_
          have p14 : (x3_1).toNatClampNeg < 12 := vinlt (vin_of (n := 12) (by omega) (by omega))
          refine go_aald (b := 68) (pc' := 66) dX0_joinPaths_65 rfl (by decide) (by decide) ⟨_, rfl⟩ (vin_of (n := 12) (by omega) (by omega)) rfl ?_
          refine go_iload_n (i := 2) (pc' := 67) dX0_joinPaths_66 rfl rfl rfl ?_
          refine go_iald (pc' := 68) dX0_joinPaths_67 rfl (by omega) (by omega) (rowt_68 p14) (by rw [rowl_68 p14]; exact (vin_of (n := 12) (by omega) (by omega))) ?_
          refine go_aload_n (i := 0) (pc' := 69) dX0_joinPaths_68 rfl rfl rfl ?_
          refine gf_3_paths (pc' := 72) dX0_joinPaths_69 rfl fl_X0_41 ?_
          refine go_iload_n (i := 2) (pc' := 73) dX0_joinPaths_72 rfl rfl rfl ?_
          have p15 : (k).toNatClampNeg < 12 := vinlt (vin_of (n := 12) (by omega) (by omega))
          refine go_aald (b := 68) (pc' := 74) dX0_joinPaths_73 rfl (by decide) (by decide) ⟨_, rfl⟩ (vin_of (n := 12) (by omega) (by omega)) rfl ?_
          refine go_iload (pc' := 76) dX0_joinPaths_74 rfl rfl ?_
          refine go_iald (pc' := 77) dX0_joinPaths_76 rfl (by omega) (by omega) (rowt_68 p15) (by rw [rowl_68 p15]; exact (vin_of (n := 12) (by omega) (by omega))) ?_
          refine gz_iadd (pc' := 78) dX0_joinPaths_77 rfl (by omega) (fun v16 h16 e16 => ?_)
          refine gz_max (pc' := 81) dX0_joinPaths_78 rfl ml_X0_57 (Nat.le_of_ble_eq_true rfl) (Nat.le_of_ble_eq_true rfl) (fun v17 h17 e17 => ?_)
          refine go_iast (pc' := 82) dX0_joinPaths_81 rfl (by omega) (by omega) (rowt_68 p12) (by rw [rowl_68 p12]; exact (vin_of (n := 12) (by omega) (by omega))) ?_
          refine go_gen (P := fun s => WXq σ s ∧ (∀ q : Nat, q ≠ 68 + (x3_1).toNatClampNeg → s.2 q = σ3.2 q) ∧ s.2 (68 + (x3_1).toNatClampNeg) = upd (σ3.2 (68 + (x3_1).toNatClampNeg)) (x4_3).toNatClampNeg v17) ⟨⟨ixt_p w3.1 (by omega) (by omega), Ag_setA w3.2 (QP_path p12)⟩, ⟨fun q hq => setA_ne (a := q) _ _ _ _ hq, setA_same _ _ _ _⟩⟩ (fun σ18 z18 => ?_)
          obtain ⟨w18, g18⟩ := z18
          have gs := g18
          have gsd := dX_set gs
          have st82 : ∀ j2 : Nat, j2 = (x4_3).toNatClampNeg + 1 → FWP N K (x3_1).toNatClampNeg j2 (dX σ) (dX σ18) := fun j2 ej => by
            first
            | exact FWP_set hp_3 ej (by rw [gsd.1, fw_y f1 f2]; omega) (fun a b _ _ z => gsd.2 a b z)
            | exact FWP_set hp_3 ej (by rw [fw_n (fun z => by have z1 := z.1; have z2 := z.2; omega)]; exact gg.2.2) (fun a b _ _ _ => rfl)
          refine gz_iinc (c := 1) (pc' := 85) dX0_joinPaths_82 rfl rfl (by decide) (by decide) (by decide) (by omega) (fun v19 h19 e19 => ?_)
          refine go_goto (tgt := 10) dX0_joinPaths_85 (by decide) ?_
          exact go_lv (lv' := [(0, .ref (L.2.1 3)), (1, .int n), (2, .int k), (3, .int x3_1), (4, .int v19)]) rfl (ih3 _ (by omega) σ18 v19 w18 (by omega) (st82 _ (by have cv := cnat (x := v19) (by omega); omega)) rfl)
      exact go_lv (lv' := [(0, .ref (L.2.1 3)), (1, .int n), (2, .int k), (3, .int x3_1), (4, .int (0 : Int32))]) rfl (loop10_3 _ σ1 (0 : Int32) w1 (by omega) (by rw [z0]; exact hp_1) rfl)
  exact go_lv (lv' := [(0, .ref (L.2.1 3)), (1, .int n), (2, .int k), (3, .int (0 : Int32))]) rfl (loop2_1 _ σ (0 : Int32) w0 (by omega) (by rw [z0]; exact FWP_0 _ _ _) rfl)
set_option maxHeartbeats 4000000 in
set_option maxRecDepth 100000 in
theorem f_X0_measurePaths (l : Launch) (L : WL) (σ : ST) (n : Int32) (hn : n = σ.1 3) (N : Nat) (eN : (N : Int) = (σ.1 3).toInt) {kp : Nat → Prop} {x : Nat → Int} (ix : IV σ) (fd : FDX σ) (rt : RTS σ) (ka : ∀ k : Nat, (k : Int) < (σ.1 4).toInt → kp k) (hx : FSX σ kp x) : CtV l L yX0_measurePaths cX0_measurePaths 5 none rm_X0_measurePaths [.ref (L.2.1 3), .int n] σ (fun σ2 => WXq σ σ2 ∧ ∀ i j : Nat, i < N → j < N → (0 < dX σ2 i j ↔ LDS (EdX σ kp) i j)) := by
  refine ctV_go (own := RX0) (by decide) rfl (Nat.le_of_ble_eq_true rfl) (fun F hF => ?_)
  subst hF
  have nm1000000 : (-1000000 : Int32).toInt = -1000000 := by decide
  have n0 : (0 : Int32).toInt = 0 := by decide
  have w0 : WXq σ σ := WXq_rfl ix
  have u3 := ixi_3 ix
  have u4 := ixi_4 ix
  have hn3 := congrArg Int32.toInt hn
  have z0 : (0 : Int32).toNatClampNeg = 0 := rfl
  have hx9 : ∀ a : Nat, a < N → 0 ≤ x a ∧ x a ≤ 9999 := fun a ha => by
    have q := hx.1 a (by omega)
    have g8 := ixa_28 ix a (by omega)
    have g9 := ixa_29 ix a (by omega)
    omega
  refine go_iconst (v := 0) (pc' := 1) dX0_measurePaths_0 rfl (by decide) ?_
  refine go_istore_n (i := 2) (pc' := 2) dX0_measurePaths_1 rfl rfl (by decide) ?_
  have loop2_1 : ∀ (dd1 : Nat) (σ1 : ST) (x2_1 : Int32), WXq σ σ1 → (0 ≤ (x2_1).toInt ∧ (x2_1).toInt ≤ (N : Int)) → (∀ a b : Nat, a < N → b < N → (a < (x2_1).toNatClampNeg ∨ (a = (x2_1).toNatClampNeg ∧ b < 0)) → dX σ1 a b = if a = b then 0 else (-1000000)) → (12 - (x2_1).toInt).toNat = dd1 → Go F L RX0 cX0_measurePaths 5 rm_X0_measurePaths none (RV F L (fun σ2 => WXq σ σ2 ∧ ∀ i j : Nat, i < N → j < N → (0 < dX σ2 i j ↔ LDS (EdX σ kp) i j))) σ1 2 [(0, .ref (L.2.1 3)), (1, .int n), (2, .int x2_1)] [] := by
    intro dd1
    induction dd1 using Nat.strongRecOn with
    | _ dd1 ih1 =>
      intro σ1 x2_1 w1 h_1 hi_1 hm_1
      refine go_iload_n (i := 2) (pc' := 3) dX0_measurePaths_2 rfl rfl rfl ?_
      refine go_iload_n (i := 1) (pc' := 4) dX0_measurePaths_3 rfl rfl rfl ?_
      have c2 := cnat (x := x2_1) (by omega)
      refine gz_icmp_ge (tgt := 45) (pc' := 7) dX0_measurePaths_4 rfl (by decide) (fun c2 => ?_) (fun c2 => ?_)
      · refine go_iconst (v := 0) (pc' := 46) dX0_measurePaths_45 rfl (by decide) ?_
        refine go_istore_n (i := 2) (pc' := 47) dX0_measurePaths_46 rfl rfl (by decide) ?_
        have loop47_3 : ∀ (dd3 : Nat) (σ3 : ST) (x2_3 : Int32), WXq σ σ3 → (0 ≤ (x2_3).toInt ∧ (x2_3).toInt ≤ (σ.1 4).toInt) → (BIX σ kp x N (x2_3).toNatClampNeg (dX σ3)) → (20 - (x2_3).toInt).toNat = dd3 → Go F L RX0 cX0_measurePaths 5 rm_X0_measurePaths none (RV F L (fun σ2 => WXq σ σ2 ∧ ∀ i j : Nat, i < N → j < N → (0 < dX σ2 i j ↔ LDS (EdX σ kp) i j))) σ3 47 [(0, .ref (L.2.1 3)), (1, .int n), (2, .int x2_3)] [] := by
          intro dd3
          induction dd3 using Nat.strongRecOn with
          | _ dd3 ih3 =>
            intro σ3 x2_3 w3 h_3 hB_3 hm_3
            refine go_iload_n (i := 2) (pc' := 48) dX0_measurePaths_47 rfl rfl rfl ?_
            have k4 := congrArg Int32.toInt (w3.2.1 4 (fun q => q))
            refine go_aload_n (i := 0) (pc' := 49) dX0_measurePaths_48 rfl rfl rfl ?_
            refine gf_3_size (pc' := 52) dX0_measurePaths_49 rfl fl_X0_20 ?_
            have g4 := ixi_4 w3.1
            refine gz_icmp_ge (tgt := 113) (pc' := 55) dX0_measurePaths_52 rfl (by decide) (fun c5 => ?_) (fun c5 => ?_)
            · refine go_iconst (v := 0) (pc' := 114) dX0_measurePaths_113 rfl (by decide) ?_
              refine go_istore_n (i := 2) (pc' := 115) dX0_measurePaths_114 rfl rfl (by decide) ?_
              have loop115_6 : ∀ (dd6 : Nat) (σ6 : ST) (x2_6 : Int32), WXq σ σ6 → (0 ≤ (x2_6).toInt ∧ (x2_6).toInt ≤ (N : Int)) → (SIX σ kp x N (x2_6).toNatClampNeg (dX σ6)) → (12 - (x2_6).toInt).toNat = dd6 → Go F L RX0 cX0_measurePaths 5 rm_X0_measurePaths none (RV F L (fun σ2 => WXq σ σ2 ∧ ∀ i j : Nat, i < N → j < N → (0 < dX σ2 i j ↔ LDS (EdX σ kp) i j))) σ6 115 [(0, .ref (L.2.1 3)), (1, .int n), (2, .int x2_6)] [] := by
                intro dd6
                induction dd6 using Nat.strongRecOn with
                | _ dd6 ih6 =>
                  intro σ6 x2_6 w6 h_6 hS_6 hm_6
                  refine go_iload_n (i := 2) (pc' := 116) dX0_measurePaths_115 rfl rfl rfl ?_
                  refine go_iload_n (i := 1) (pc' := 117) dX0_measurePaths_116 rfl rfl rfl ?_
                  refine gz_icmp_ge (tgt := 132) (pc' := 120) dX0_measurePaths_117 rfl (by decide) (fun c7 => ?_) (fun c7 => ?_)
                  · exact go_vret dX0_measurePaths_132 rfl (⟨w6, fun i j hi hj => by have c2 := cnat (x := x2_6) (by omega); have z := hS_6; rw [show (x2_6).toNatClampNeg = N from by omega] at z; exact SIX_end ix fd z eN hi hj⟩)
                  have c2 := cnat (x := x2_6) (by omega)
                  refine go_aload_n (i := 0) (pc' := 121) dX0_measurePaths_120 rfl rfl rfl ?_
                  refine go_iload_n (i := 1) (pc' := 122) dX0_measurePaths_121 rfl rfl rfl ?_
                  refine go_iload_n (i := 2) (pc' := 123) dX0_measurePaths_122 rfl rfl rfl ?_
                  refine go_cvv (pc' := 126) lk_X0_63 (f_X0_joinPaths _ _ _ _ _ N (x2_6).toNatClampNeg (by omega) (by omega) (by omega) (by omega) x hx9 hS_6.1 w6.1) rfl rfl (Nat.le_of_ble_eq_true rfl) (by decide) rfl rfl rfl ⟨Nat.le_of_ble_eq_true rfl, Nat.le_of_ble_eq_true rfl⟩ ⟨rfl, rfl⟩ dX0_measurePaths_123 rfl (fun σ8 h8 => ?_)
                  obtain ⟨u8, h8⟩ := h8
                  have w8 := WXq_trans w6 u8
                  have jp := h8
                  refine gz_iinc (c := 1) (pc' := 129) dX0_measurePaths_126 rfl rfl (by decide) (by decide) (by decide) (by omega) (fun v9 h9 e9 => ?_)
                  refine go_goto (tgt := 115) dX0_measurePaths_129 (by decide) ?_
                  exact go_lv (lv' := [(0, .ref (L.2.1 3)), (1, .int n), (2, .int v9)]) rfl (ih6 _ (by omega) σ8 v9 w8 (by omega) (SIX_s ix fd hS_6 (by omega) eN (by omega) (by have cv := cnat (x := v9) (by omega); omega) jp) rfl)
              exact go_lv (lv' := [(0, .ref (L.2.1 3)), (1, .int n), (2, .int (0 : Int32))]) rfl (loop115_6 _ σ3 (0 : Int32) w3 (by omega) (by rw [z0]; exact SIX_0 hB_3 (by have c2 := cnat (x := x2_3) (by omega); omega)) rfl)
            have c2 := cnat (x := x2_3) (by omega)
            have sd := WXq_SD w3
            have e38 : σ3.2 38 = σ.2 38 := w3.2.2 38 (by decide)
            have rb := RB_of (k := x2_3) sd ix fd rt e38 (w3.2.2 39 (by decide)) (by omega)
            have sr := sr_root fd ix (k := (x2_3).toNatClampNeg) (by omega)
            refine go_aload_n (i := 0) (pc' := 56) dX0_measurePaths_55 rfl rfl rfl ?_
            refine gf_3_roots (pc' := 59) dX0_measurePaths_56 rfl fl_X0_33 ?_
            refine go_aload_n (i := 0) (pc' := 60) dX0_measurePaths_59 rfl rfl rfl ?_
            refine gf_3_froms (pc' := 63) dX0_measurePaths_60 rfl fl_X0_24 ?_
            refine go_iload_n (i := 2) (pc' := 64) dX0_measurePaths_63 rfl rfl rfl ?_
            refine go_iald (pc' := 65) dX0_measurePaths_64 rfl (by decide) (by decide) rfl (vin_of (n := 20) (by omega) (by omega)) ?_
            refine go_rngA (ixa_35 w3.1) (vinlt (vin_of (n := 20) (by omega) (by omega))) (fun g10 => ?_)
            refine go_iald (pc' := 66) dX0_measurePaths_65 rfl (by decide) (by decide) rfl (vin_of (n := 12) (by omega) (by omega)) ?_
            refine go_rngA (ixa_38 w3.1) (vinlt (vin_of (n := 12) (by omega) (by omega))) (fun g11 => ?_)
            refine go_topz (fun y12 h12 e12 => ?_)
            refine go_istore_n (i := 3) (pc' := 67) dX0_measurePaths_66 rfl rfl (by decide) ?_
            have ea : (y12).toNatClampNeg = srX σ (x2_3).toNatClampNeg := by rw [← rb.1]; exact congrArg Int32.toNatClampNeg (by assumption)
            refine go_aload_n (i := 0) (pc' := 68) dX0_measurePaths_67 rfl rfl rfl ?_
            refine gf_3_roots (pc' := 71) dX0_measurePaths_68 rfl fl_X0_33 ?_
            refine go_aload_n (i := 0) (pc' := 72) dX0_measurePaths_71 rfl rfl rfl ?_
            refine gf_3_tos (pc' := 75) dX0_measurePaths_72 rfl fl_X0_27 ?_
            refine go_iload_n (i := 2) (pc' := 76) dX0_measurePaths_75 rfl rfl rfl ?_
            refine go_iald (pc' := 77) dX0_measurePaths_76 rfl (by decide) (by decide) rfl (vin_of (n := 20) (by omega) (by omega)) ?_
            refine go_rngA (ixa_36 w3.1) (vinlt (vin_of (n := 20) (by omega) (by omega))) (fun g13 => ?_)
            refine go_iald (pc' := 78) dX0_measurePaths_77 rfl (by decide) (by decide) rfl (vin_of (n := 12) (by omega) (by omega)) ?_
            refine go_rngA (ixa_38 w3.1) (vinlt (vin_of (n := 12) (by omega) (by omega))) (fun g14 => ?_)
            refine go_topz (fun y15 h15 e15 => ?_)
            refine go_istore (pc' := 80) dX0_measurePaths_78 rfl (by decide) ?_
            have eb : (y15).toNatClampNeg = dsX σ (x2_3).toNatClampNeg := by rw [← rb.2.1]; exact congrArg Int32.toNatClampNeg (by assumption)
            refine go_aload_n (i := 0) (pc' := 81) dX0_measurePaths_80 rfl rfl rfl ?_
            refine gf_3_paths (pc' := 84) dX0_measurePaths_81 rfl fl_X0_41 ?_
            refine go_iload_n (i := 3) (pc' := 85) dX0_measurePaths_84 rfl rfl rfl ?_
            have p16 : (y12).toNatClampNeg < 12 := vinlt (vin_of (n := 12) (by omega) (by omega))
            refine go_aald (b := 68) (pc' := 86) dX0_measurePaths_85 rfl (by decide) (by decide) ⟨_, rfl⟩ (vin_of (n := 12) (by omega) (by omega)) rfl ?_
            refine go_iload (pc' := 88) dX0_measurePaths_86 rfl rfl ?_
            refine go_aload_n (i := 0) (pc' := 89) dX0_measurePaths_88 rfl rfl rfl ?_
            refine gf_3_paths (pc' := 92) dX0_measurePaths_89 rfl fl_X0_41 ?_
            refine go_iload_n (i := 3) (pc' := 93) dX0_measurePaths_92 rfl rfl rfl ?_
            have p17 : (y12).toNatClampNeg < 12 := vinlt (vin_of (n := 12) (by omega) (by omega))
            refine go_aald (b := 68) (pc' := 94) dX0_measurePaths_93 rfl (by decide) (by decide) ⟨_, rfl⟩ (vin_of (n := 12) (by omega) (by omega)) rfl ?_
            refine go_iload (pc' := 96) dX0_measurePaths_94 rfl rfl ?_
            refine go_iald (pc' := 97) dX0_measurePaths_96 rfl (by omega) (by omega) (rowt_68 p17) (by rw [rowl_68 p17]; exact (vin_of (n := 12) (by omega) (by omega))) ?_
            refine go_aload_n (i := 0) (pc' := 98) dX0_measurePaths_97 rfl rfl rfl ?_
            refine gf_3_shifts (pc' := 101) dX0_measurePaths_98 rfl fl_X0_30 ?_
            refine go_iload_n (i := 2) (pc' := 102) dX0_measurePaths_101 rfl rfl rfl ?_
            refine go_iald (pc' := 103) dX0_measurePaths_102 rfl (by decide) (by decide) rfl (vin_of (n := 20) (by omega) (by omega)) ?_
            refine go_rngA (ixa_37 w3.1) (vinlt (vin_of (n := 20) (by omega) (by omega))) (fun g18 => ?_)
            refine gz_max (pc' := 106) dX0_measurePaths_103 rfl ml_X0_57 (Nat.le_of_ble_eq_true rfl) (Nat.le_of_ble_eq_true rfl) (fun v19 h19 e19 => ?_)
            have dv : (v19).toInt = max (dX σ3 (y12).toNatClampNeg (y15).toNatClampNeg) (shX σ (x2_3).toNatClampNeg) := by
              have z : dX σ3 (y12).toNatClampNeg (y15).toNatClampNeg = (σ3.2 (68 + (y12).toNatClampNeg) (y15).toNatClampNeg).toInt := rfl
              have y := rb.2.2
              rw [z]
              omega
            refine go_iast (pc' := 107) dX0_measurePaths_106 rfl (by omega) (by omega) (rowt_68 p16) (by rw [rowl_68 p16]; exact (vin_of (n := 12) (by omega) (by omega))) ?_
            refine go_gen (P := fun s => WXq σ s ∧ (∀ q : Nat, q ≠ 68 + (y12).toNatClampNeg → s.2 q = σ3.2 q) ∧ s.2 (68 + (y12).toNatClampNeg) = upd (σ3.2 (68 + (y12).toNatClampNeg)) (y15).toNatClampNeg v19) ⟨⟨ixt_p w3.1 (by omega) (by omega), Ag_setA w3.2 (QP_path p16)⟩, ⟨fun q hq => setA_ne (a := q) _ _ _ _ hq, setA_same _ _ _ _⟩⟩ (fun σ20 z20 => ?_)
            obtain ⟨w20, g20⟩ := z20
            have gb := g20
            have gbd := dX_set gb
            refine gz_iinc (c := 1) (pc' := 110) dX0_measurePaths_107 rfl rfl (by decide) (by decide) (by decide) (by omega) (fun v21 h21 e21 => ?_)
            refine go_goto (tgt := 47) dX0_measurePaths_110 (by decide) ?_
            exact go_lv (lv' := [(0, .ref (L.2.1 3)), (1, .int n), (2, .int v21)]) rfl (ih3 _ (by omega) σ20 v21 w20 (by omega) (BIX_s ix fd ka hx hB_3 (by have cv := cnat (x := v21) (by omega); omega) (by omega) (by rw [← ea, ← eb, gbd.1]; omega) (fun a b z => gbd.2 a b (by rw [ea, eb]; exact z))) rfl)
        exact go_lv (lv' := [(0, .ref (L.2.1 3)), (1, .int n), (2, .int (0 : Int32))]) rfl (loop47_3 _ σ1 (0 : Int32) w1 (by omega) (by rw [z0]; exact BIX_0 (fun a b ha hb => hi_1 a b ha hb (by omega))) rfl)
      refine go_iconst (v := 0) (pc' := 8) dX0_measurePaths_7 rfl (by decide) ?_
      refine go_istore_n (i := 3) (pc' := 9) dX0_measurePaths_8 rfl rfl (by decide) ?_
      have loop9_22 : ∀ (dd22 : Nat) (σ22 : ST) (x3_22 : Int32), WXq σ σ22 → (0 ≤ (x3_22).toInt ∧ (x3_22).toInt ≤ (N : Int)) → (∀ a b : Nat, a < N → b < N → (a < (x2_1).toNatClampNeg ∨ (a = (x2_1).toNatClampNeg ∧ b < (x3_22).toNatClampNeg)) → dX σ22 a b = if a = b then 0 else (-1000000)) → (12 - (x3_22).toInt).toNat = dd22 → Go F L RX0 cX0_measurePaths 5 rm_X0_measurePaths none (RV F L (fun σ2 => WXq σ σ2 ∧ ∀ i j : Nat, i < N → j < N → (0 < dX σ2 i j ↔ LDS (EdX σ kp) i j))) σ22 9 [(0, .ref (L.2.1 3)), (1, .int n), (2, .int x2_1), (3, .int x3_22)] [] := by
        intro dd22
        induction dd22 using Nat.strongRecOn with
        | _ dd22 ih22 =>
          intro σ22 x3_22 w22 h_22 hi_22 hm_22
          refine go_iload_n (i := 3) (pc' := 10) dX0_measurePaths_9 rfl rfl rfl ?_
          refine go_iload_n (i := 1) (pc' := 11) dX0_measurePaths_10 rfl rfl rfl ?_
          have c3 := cnat (x := x3_22) (by omega)
          refine gz_icmp_ge (tgt := 39) (pc' := 14) dX0_measurePaths_11 rfl (by decide) (fun c23 => ?_) (fun c23 => ?_)
          · refine gz_iinc (c := 1) (pc' := 42) dX0_measurePaths_39 rfl rfl (by decide) (by decide) (by decide) (by omega) (fun v24 h24 e24 => ?_)
            refine go_goto (tgt := 2) dX0_measurePaths_42 (by decide) ?_
            exact go_lv (lv' := [(0, .ref (L.2.1 3)), (1, .int n), (2, .int v24)]) rfl (ih1 _ (by omega) σ22 v24 w22 (by omega) (fun a b ha hb z => by have cv := cnat (x := v24) (by omega); exact hi_22 a b ha hb (by omega)) rfl)
          refine go_aload_n (i := 0) (pc' := 15) dX0_measurePaths_14 rfl rfl rfl ?_
          refine gf_3_paths (pc' := 18) dX0_measurePaths_15 rfl fl_X0_41 ?_
          refine go_iload_n (i := 2) (pc' := 19) dX0_measurePaths_18 rfl rfl rfl ?_
          have p25 : (x2_1).toNatClampNeg < 12 := vinlt (vin_of (n := 12) (by omega) (by omega))
          refine go_aald (b := 68) (pc' := 20) dX0_measurePaths_19 rfl (by decide) (by decide) ⟨_, rfl⟩ (vin_of (n := 12) (by omega) (by omega)) rfl ?_
          refine go_iload_n (i := 3) (pc' := 21) dX0_measurePaths_20 rfl rfl rfl ?_
          refine go_iload_n (i := 2) (pc' := 22) dX0_measurePaths_21 rfl rfl rfl ?_
          refine go_iload_n (i := 3) (pc' := 23) dX0_measurePaths_22 rfl rfl rfl ?_
          have mrg32_26 : ∀ (y0_26 : Int32), ((y0_26).toInt = if (x2_1).toNatClampNeg = (x3_22).toNatClampNeg then 0 else (-1000000)) → Go F L RX0 cX0_measurePaths 5 rm_X0_measurePaths none (RV F L (fun σ2 => WXq σ σ2 ∧ ∀ i j : Nat, i < N → j < N → (0 < dX σ2 i j ↔ LDS (EdX σ kp) i j))) σ22 32 [(0, .ref (L.2.1 3)), (1, .int n), (2, .int x2_1), (3, .int x3_22)] [.int y0_26, .int x3_22, .ref (L.2.1 (68 + (x2_1).toNatClampNeg))] := by
            intro y0_26 hy_26
            refine go_iast (pc' := 33) dX0_measurePaths_32 rfl (by omega) (by omega) (rowt_68 p25) (by rw [rowl_68 p25]; exact (vin_of (n := 12) (by omega) (by omega))) ?_
            refine go_gen (P := fun s => WXq σ s ∧ (∀ q : Nat, q ≠ 68 + (x2_1).toNatClampNeg → s.2 q = σ22.2 q) ∧ s.2 (68 + (x2_1).toNatClampNeg) = upd (σ22.2 (68 + (x2_1).toNatClampNeg)) (x3_22).toNatClampNeg y0_26) ⟨⟨ixt_p w22.1 (by omega) (by omega), Ag_setA w22.2 (QP_path p25)⟩, ⟨fun q hq => setA_ne (a := q) _ _ _ _ hq, setA_same _ _ _ _⟩⟩ (fun σ27 z27 => ?_)
            obtain ⟨w27, g27⟩ := z27
            have ga := g27
            have gad := dX_set ga
            refine gz_iinc (c := 1) (pc' := 36) dX0_measurePaths_33 rfl rfl (by decide) (by decide) (by decide) (by omega) (fun v28 h28 e28 => ?_)
            refine go_goto (tgt := 9) dX0_measurePaths_36 (by decide) ?_
            exact go_lv (lv' := [(0, .ref (L.2.1 3)), (1, .int n), (2, .int x2_1), (3, .int v28)]) rfl (ih22 _ (by omega) σ27 v28 w27 (by omega) (fun a b ha hb z => by have cv := cnat (x := v28) (by omega); by_cases e : a = (x2_1).toNatClampNeg ∧ b = (x3_22).toNatClampNeg; (rw [e.1, e.2, gad.1, hy_26]); (rw [gad.2 a b e]; exact hi_22 a b ha hb (by omega))) rfl)
          refine gz_icmp_ne (tgt := 30) (pc' := 26) dX0_measurePaths_23 rfl (by decide) (fun c29 => ?_) (fun c29 => ?_)
          · refine go_ldc (pc' := 32) dX0_measurePaths_30 rfl cst_X0_56 ?_
            exact go_lv (lv' := [(0, .ref (L.2.1 3)), (1, .int n), (2, .int x2_1), (3, .int x3_22)]) rfl (mrg32_26  (-1000000 : Int32) (by first | (rw [if_pos (by omega)]; exact n0) | (rw [if_neg (by omega)]; exact nm1000000)))
          refine go_iconst (v := 0) (pc' := 27) dX0_measurePaths_26 rfl (by decide) ?_
          refine go_goto (tgt := 32) dX0_measurePaths_27 (by decide) ?_
          exact go_lv (lv' := [(0, .ref (L.2.1 3)), (1, .int n), (2, .int x2_1), (3, .int x3_22)]) rfl (mrg32_26  (0 : Int32) (by first | (rw [if_pos (by omega)]; exact n0) | (rw [if_neg (by omega)]; exact nm1000000)))
      exact go_lv (lv' := [(0, .ref (L.2.1 3)), (1, .int n), (2, .int x2_1), (3, .int (0 : Int32))]) rfl (loop9_22 _ σ1 (0 : Int32) w1 (by omega) (fun a b ha hb z => hi_1 a b ha hb (by rw [z0] at z; omega)) rfl)
  exact go_lv (lv' := [(0, .ref (L.2.1 3)), (1, .int n), (2, .int (0 : Int32))]) rfl (loop2_1 _ σ (0 : Int32) w0 (by omega) (fun a b _ _ z => by exfalso; rw [z0] at z; omega) rfl)
set_option maxHeartbeats 4000000 in
set_option maxRecDepth 100000 in
theorem f_X0_isAhead (l : Launch) (L : WL) (σ : ST) (a b : Int32) (ha : 0 ≤ a.toInt ∧ a.toInt < 12) (hb : 0 ≤ b.toInt ∧ b.toInt < 12) (ix : IV σ) : CtI l L yX0_isAhead cX0_isAhead 3 (some .boolean) rm_X0_isAhead [.ref (L.2.1 3), .int a, .int b] σ (fun r σ2 => σ2 = σ ∧ bq ((σ.2 34 (a).toNatClampNeg).toInt < (σ.2 33 (b).toNatClampNeg).toInt ∨ 0 < dX σ (σ.2 38 (a).toNatClampNeg).toNatClampNeg (σ.2 38 (b).toNatClampNeg).toNatClampNeg) r) := by
  refine ctI_go (own := RX0) (by decide) rfl (Nat.le_of_ble_eq_true rfl) (fun F hF => ?_)
  subst hF
  have n0 : (0 : Int32).toInt = 0 := by decide
  have n1 : (1 : Int32).toInt = 1 := by decide
  have w0 : WX σ σ := WX_rfl ix
  refine go_aload_n (i := 0) (pc' := 1) dX0_isAhead_0 rfl rfl rfl ?_
  refine gf_3_highs (pc' := 4) dX0_isAhead_1 rfl fl_X0_17 ?_
  refine go_iload_n (i := 1) (pc' := 5) dX0_isAhead_4 rfl rfl rfl ?_
  refine go_iald (pc' := 6) dX0_isAhead_5 rfl (by decide) (by decide) rfl (vin_of (n := 12) (by omega) (by omega)) ?_
  refine go_aload_n (i := 0) (pc' := 7) dX0_isAhead_6 rfl rfl rfl ?_
  refine gf_3_lows (pc' := 10) dX0_isAhead_7 rfl fl_X0_11 ?_
  refine go_iload_n (i := 2) (pc' := 11) dX0_isAhead_10 rfl rfl rfl ?_
  refine go_iald (pc' := 12) dX0_isAhead_11 rfl (by decide) (by decide) rfl (vin_of (n := 12) (by omega) (by omega)) ?_
  refine gz_icmp_lt (tgt := 36) (pc' := 15) dX0_isAhead_12 rfl (by decide) (fun c1 => ?_) (fun c1 => ?_)
  · refine go_iconst (v := 1) (pc' := 37) dX0_isAhead_36 rfl (by decide) ?_
    refine go_goto (tgt := 41) dX0_isAhead_37 (by decide) ?_
    exact go_zret dX0_isAhead_41 rfl rfl (⟨rfl, by first | exact bq_t (Or.inl (by assumption)) | exact bq_t (Or.inr (by assumption)) | exact bq_f (fun q => by unfold dX at q; omega)⟩)
  refine go_aload_n (i := 0) (pc' := 16) dX0_isAhead_15 rfl rfl rfl ?_
  refine gf_3_paths (pc' := 19) dX0_isAhead_16 rfl fl_X0_41 ?_
  refine go_aload_n (i := 0) (pc' := 20) dX0_isAhead_19 rfl rfl rfl ?_
  refine gf_3_roots (pc' := 23) dX0_isAhead_20 rfl fl_X0_33 ?_
  refine go_iload_n (i := 1) (pc' := 24) dX0_isAhead_23 rfl rfl rfl ?_
  refine go_iald (pc' := 25) dX0_isAhead_24 rfl (by decide) (by decide) rfl (vin_of (n := 12) (by omega) (by omega)) ?_
  refine go_rngA (ixa_38 w0.1) (vinlt (vin_of (n := 12) (by omega) (by omega))) (fun g2 => ?_)
  have p3 : ((σ.2 38 (a).toNatClampNeg)).toNatClampNeg < 12 := vinlt (vin_of (n := 12) (by omega) (by omega))
  refine go_aald (b := 68) (pc' := 26) dX0_isAhead_25 rfl (by decide) (by decide) ⟨_, rfl⟩ (vin_of (n := 12) (by omega) (by omega)) rfl ?_
  refine go_aload_n (i := 0) (pc' := 27) dX0_isAhead_26 rfl rfl rfl ?_
  refine gf_3_roots (pc' := 30) dX0_isAhead_27 rfl fl_X0_33 ?_
  refine go_iload_n (i := 2) (pc' := 31) dX0_isAhead_30 rfl rfl rfl ?_
  refine go_iald (pc' := 32) dX0_isAhead_31 rfl (by decide) (by decide) rfl (vin_of (n := 12) (by omega) (by omega)) ?_
  refine go_rngA (ixa_38 w0.1) (vinlt (vin_of (n := 12) (by omega) (by omega))) (fun g4 => ?_)
  refine go_iald (pc' := 33) dX0_isAhead_32 rfl (by omega) (by omega) (rowt_68 p3) (by rw [rowl_68 p3]; exact (vin_of (n := 12) (by omega) (by omega))) ?_
  refine gz_if_le (tgt := 40) (pc' := 36) dX0_isAhead_33 rfl (by decide) (fun c5 => ?_) (fun c5 => ?_)
  · refine go_iconst (v := 0) (pc' := 41) dX0_isAhead_40 rfl (by decide) ?_
    exact go_zret dX0_isAhead_41 rfl rfl (⟨rfl, by first | exact bq_t (Or.inl (by assumption)) | exact bq_t (Or.inr (by assumption)) | exact bq_f (fun q => by unfold dX at q; omega)⟩)
  refine go_iconst (v := 1) (pc' := 37) dX0_isAhead_36 rfl (by decide) ?_
  refine go_goto (tgt := 41) dX0_isAhead_37 (by decide) ?_
  exact go_zret dX0_isAhead_41 rfl rfl (⟨rfl, by first | exact bq_t (Or.inl (by assumption)) | exact bq_t (Or.inr (by assumption)) | exact bq_f (fun q => by unfold dX at q; omega)⟩)
set_option maxHeartbeats 4000000 in
set_option maxRecDepth 100000 in
theorem f_X11_before (l : Launch) (L : WL) (σ : ST) (a b : Int32) (ix : IV σ) (fd : FDX σ) : CtI l L yX11_before cX11_before 3 (some .int) rm_X11_before [.ref (L.2.1 0), .int a, .int b] σ (fun r σ2 => tX_before σ a b r σ2) := by
  refine ctI_go (own := RX11) (by decide) rfl (Nat.le_of_ble_eq_true rfl) (fun F hF => ?_)
  subst hF
  have nm2 : (-2 : Int32).toInt = -2 := by decide
  have n0 : (0 : Int32).toInt = 0 := by decide
  have n1 : (1 : Int32).toInt = 1 := by decide
  have w0 : WX σ σ := WX_rfl ix
  have gl := ixi_3 ix
  have gb := ixi_4 ix
  have cN := cnat gl.1
  refine go_aload_n (i := 0) (pc' := 1) dX11_before_0 rfl rfl rfl ?_
  refine gf_0_letters (pc' := 4) dX11_before_1 rfl fl_X11_19 ?_
  refine go_iload_n (i := 1) (pc' := 5) dX11_before_4 rfl rfl rfl ?_
  refine go_cvi (pc' := 8) lk_X11_130 (c_X2_has _ _ _ _) rfl rfl (Nat.le_of_ble_eq_true rfl) (by decide) rfl rfl rfl ⟨Nat.le_of_ble_eq_true rfl, Nat.le_of_ble_eq_true rfl⟩ ⟨rfl, rfl⟩ dX11_before_5 rfl (fun r1 σ1 h1 => ?_)
  obtain ⟨e1, h1⟩ := h1
  have e1 := e1.symm
  subst e1
  refine go_eqB (tgt := 27) (pc' := 11) h1 dX11_before_8 rfl (by decide) (fun c2 => ?_) (fun c2 => ?_)
  · refine go_bipush (v := (-2)) (pc' := 29) dX11_before_27 rfl (by decide) ?_
    exact go_iret dX11_before_29 rfl (⟨w0, Or.inl ⟨by omega, rfl⟩⟩)
  refine go_aload_n (i := 0) (pc' := 12) dX11_before_11 rfl rfl rfl ?_
  refine gf_0_letters (pc' := 15) dX11_before_12 rfl fl_X11_19 ?_
  refine go_iload_n (i := 2) (pc' := 16) dX11_before_15 rfl rfl rfl ?_
  refine go_cvi (pc' := 19) lk_X11_130 (c_X2_has _ _ _ _) rfl rfl (Nat.le_of_ble_eq_true rfl) (by decide) rfl rfl rfl ⟨Nat.le_of_ble_eq_true rfl, Nat.le_of_ble_eq_true rfl⟩ ⟨rfl, rfl⟩ dX11_before_16 rfl (fun r3 σ3 h3 => ?_)
  obtain ⟨e3, h3⟩ := h3
  have e3 := e3.symm
  subst e3
  refine go_eqB (tgt := 27) (pc' := 22) h3 dX11_before_19 rfl (by decide) (fun c4 => ?_) (fun c4 => ?_)
  · refine go_bipush (v := (-2)) (pc' := 29) dX11_before_27 rfl (by decide) ?_
    exact go_iret dX11_before_29 rfl (⟨w0, Or.inl ⟨by omega, rfl⟩⟩)
  refine go_iload_n (i := 1) (pc' := 23) dX11_before_22 rfl rfl rfl ?_
  refine go_iload_n (i := 2) (pc' := 24) dX11_before_23 rfl rfl rfl ?_
  refine gz_icmp_ne (tgt := 30) (pc' := 27) dX11_before_24 rfl (by decide) (fun c5 => ?_) (fun c5 => ?_)
  · refine go_aload_n (i := 0) (pc' := 31) dX11_before_30 rfl rfl rfl ?_
    refine gf_0_calendar (pc' := 34) dX11_before_31 rfl fl_X11_26 ?_
    refine go_aload_n (i := 0) (pc' := 35) dX11_before_34 rfl rfl rfl ?_
    refine gf_0_letters (pc' := 38) dX11_before_35 rfl fl_X11_19 ?_
    refine go_cvi (pc' := 41) lk_X11_171 (f_X0_settle _ _ _ w0.1 fd) rfl rfl (Nat.le_of_ble_eq_true rfl) (by decide) rfl rfl rfl ⟨Nat.le_of_ble_eq_true rfl, Nat.le_of_ble_eq_true rfl⟩ ⟨rfl, rfl⟩ dX11_before_38 rfl (fun r6 σ6 h6 => ?_)
    obtain ⟨u6, h6⟩ := h6
    have w6 := WX_trans w0 u6
    have st := h6
    have us := u6
    refine gz_if_ne (tgt := 46) (pc' := 44) dX11_before_41 rfl (by decide) (fun c7 => ?_) (fun c7 => ?_)
    · have sg := (st.resolve_left (fun q => c7 q.1)).2
      have sd := SD_WX us
      refine go_aload_n (i := 0) (pc' := 47) dX11_before_46 rfl rfl rfl ?_
      refine gf_0_calendar (pc' := 50) dX11_before_47 rfl fl_X11_26 ?_
      refine go_aload_n (i := 0) (pc' := 51) dX11_before_50 rfl rfl rfl ?_
      refine gf_0_letters (pc' := 54) dX11_before_51 rfl fl_X11_19 ?_
      refine gf_2_size (pc' := 57) dX11_before_54 rfl fl_X11_185 ?_
      have g8 := ixi_3 w6.1
      refine go_cvv (pc' := 60) lk_X11_188 (f_X0_measurePaths (kp := kpF (allS (σ.1 4))) _ _ _ _ rfl (σ.1 3).toNatClampNeg (by rw [sd.1]; omega) w6.1 (FD_e sd fd) sg.1 (fun k hk => kp_allN (by omega) (by rw [sd.2.1] at hk; exact hk)) ((FSX_e sd).mpr sg.2.1)) rfl rfl (Nat.le_of_ble_eq_true rfl) (by decide) rfl rfl rfl ⟨Nat.le_of_ble_eq_true rfl, Nat.le_of_ble_eq_true rfl⟩ ⟨rfl, rfl⟩ dX11_before_57 rfl (fun σ9 h9 => ?_)
      obtain ⟨u9, h9⟩ := h9
      have w9 := WX_trans w6 (WXq_WX u9)
      have mp := h9
      have um := u9
      refine go_aload_n (i := 0) (pc' := 61) dX11_before_60 rfl rfl rfl ?_
      refine gf_0_calendar (pc' := 64) dX11_before_61 rfl fl_X11_26 ?_
      refine go_iload_n (i := 1) (pc' := 65) dX11_before_64 rfl rfl rfl ?_
      refine go_iload_n (i := 2) (pc' := 66) dX11_before_65 rfl rfl rfl ?_
      refine go_cvi (pc' := 69) lk_X11_192 (f_X0_isAhead _ _ _ _ _ (by omega) (by omega) w9.1) rfl rfl (Nat.le_of_ble_eq_true rfl) (by decide) rfl rfl rfl ⟨Nat.le_of_ble_eq_true rfl, Nat.le_of_ble_eq_true rfl⟩ ⟨rfl, rfl⟩ dX11_before_66 rfl (fun r10 σ10 h10 => ?_)
      obtain ⟨e10, h10⟩ := h10
      have e10 := e10.symm
      subst e10
      refine go_eqB (tgt := 76) (pc' := 72) h10 dX11_before_69 rfl (by decide) (fun c11 => ?_) (fun c11 => ?_)
      · refine go_iconst (v := 0) (pc' := 77) dX11_before_76 rfl (by decide) ?_
        exact go_iret dX11_before_77 rfl (by
            have ca := cnat (x := a) (by omega)
            have cb := cnat (x := b) (by omega)
            have k3 := congrArg Int32.toInt sd.1
            have ra := rts_n sg.1 (j := (a).toNatClampNeg) (by omega)
            have rb := rts_n sg.1 (j := (b).toNatClampNeg) (by omega)
            have fa := (fd.1 (a).toNatClampNeg (by omega)).1
            have fb := (fd.1 (b).toNatClampNeg (by omega)).1
            have er : ∀ q : Nat, rtX σ6 q = rtX σ q := fun q => by
              unfold rtX
              rw [sd.2.2.2.2.2.1]
            have key : ((σ9.2 34 (a).toNatClampNeg).toInt < (σ9.2 33 (b).toNatClampNeg).toInt ∨ 0 < dX σ9 (σ9.2 38 (a).toNatClampNeg).toNatClampNeg (σ9.2 38 (b).toNatClampNeg).toNatClampNeg) ↔ (higX σ6 (a).toNatClampNeg < lowX σ6 (b).toNatClampNeg ∨ LDS (EdX σ (kpF (allS (σ.1 4)))) (rtX σ (a).toNatClampNeg) (rtX σ (b).toNatClampNeg)) := by
              rw [um.2.2 33 (by decide), um.2.2 34 (by decide), um.2.2 38 (by decide), ra, rb, er, er, mp _ _ (by omega) (by omega), EdX_e sd]
              exact Iff.rfl
            first
            | exact ⟨w9, Or.inr ⟨by omega, Or.inr ⟨_, _, sg.2, Or.inl ⟨rfl, key.mp c11⟩⟩⟩⟩
            | exact ⟨w9, Or.inr ⟨by omega, Or.inr ⟨_, _, sg.2, Or.inr ⟨rfl, fun z => c11 (key.mpr z)⟩⟩⟩⟩)
      refine go_iconst (v := 1) (pc' := 73) dX11_before_72 rfl (by decide) ?_
      refine go_goto (tgt := 77) dX11_before_73 (by decide) ?_
      exact go_iret dX11_before_77 rfl (by
          have ca := cnat (x := a) (by omega)
          have cb := cnat (x := b) (by omega)
          have k3 := congrArg Int32.toInt sd.1
          have ra := rts_n sg.1 (j := (a).toNatClampNeg) (by omega)
          have rb := rts_n sg.1 (j := (b).toNatClampNeg) (by omega)
          have fa := (fd.1 (a).toNatClampNeg (by omega)).1
          have fb := (fd.1 (b).toNatClampNeg (by omega)).1
          have er : ∀ q : Nat, rtX σ6 q = rtX σ q := fun q => by
            unfold rtX
            rw [sd.2.2.2.2.2.1]
          have key : ((σ9.2 34 (a).toNatClampNeg).toInt < (σ9.2 33 (b).toNatClampNeg).toInt ∨ 0 < dX σ9 (σ9.2 38 (a).toNatClampNeg).toNatClampNeg (σ9.2 38 (b).toNatClampNeg).toNatClampNeg) ↔ (higX σ6 (a).toNatClampNeg < lowX σ6 (b).toNatClampNeg ∨ LDS (EdX σ (kpF (allS (σ.1 4)))) (rtX σ (a).toNatClampNeg) (rtX σ (b).toNatClampNeg)) := by
            rw [um.2.2 33 (by decide), um.2.2 34 (by decide), um.2.2 38 (by decide), ra, rb, er, er, mp _ _ (by omega) (by omega), EdX_e sd]
            exact Iff.rfl
          first
          | exact ⟨w9, Or.inr ⟨by omega, Or.inr ⟨_, _, sg.2, Or.inl ⟨rfl, key.mp c11⟩⟩⟩⟩
          | exact ⟨w9, Or.inr ⟨by omega, Or.inr ⟨_, _, sg.2, Or.inr ⟨rfl, fun z => c11 (key.mpr z)⟩⟩⟩⟩)
    refine go_iconst (v := 0) (pc' := 45) dX11_before_44 rfl (by decide) ?_
    exact go_iret dX11_before_45 rfl (⟨w6, Or.inr ⟨by omega, Or.inl ⟨(st.resolve_right (fun q => by have := q.1; omega)).2, rfl⟩⟩⟩)
  refine go_bipush (v := (-2)) (pc' := 29) dX11_before_27 rfl (by decide) ?_
  exact go_iret dX11_before_29 rfl (⟨w0, Or.inl ⟨by omega, rfl⟩⟩)
