/-! ===== the reference's table of jumps ===== -/
def FM (s : ST) (k : Nat) : Nat := (s.2 132 k).toNatClampNeg
def TT (s : ST) (P a : Nat) : Int := (s.2 133 (8 * P + a)).toInt
def bM (s : ST) (i j : Nat) : Prop := BEF s (FM s i) (FM s j)
def lM (s : ST) (k : Nat) : Int := lowM s (FM s k)
theorem JMP_d (s : ST) (a b : Nat) : JMP s a b = dJ (lM s a) (lM s b) := by
  have z := dJ_s (lM s a) (lM s b)
  unfold JMP
  unfold lM lowM FM at z ⊢
  split <;> omega
def RSX (σ : ST) (m P a n : Nat) (r : Int) : Prop := (0 ≤ r ∧ r ≤ 100000000) ∧ (r < 100000000 → ∃ k : Nat, k < m ∧ MAY σ m P k ∧ JMP σ a k + (σ.2 133 (8 * (P ||| (1 <<< k)) + k)).toInt = r) ∧ ∀ k : Nat, k < n → MAY σ m P k → r ≤ JMP σ a k + (σ.2 133 (8 * (P ||| (1 <<< k)) + k)).toInt
theorem RSX_0 (σ : ST) (m P a : Nat) : RSX σ m P a 0 100000000 := ⟨⟨by decide, by decide⟩, fun q => absurd q (by decide), fun k hk => absurd hk (Nat.not_lt_zero _)⟩
theorem RSX_min {σ : ST} {m P a k n : Nat} {b c v : Int} (h : RSX σ m P a k b) (hn : n = k + 1) (hk : k < m) (hm : MAY σ m P k) (hc : JMP σ a k + (σ.2 133 (8 * (P ||| (1 <<< k)) + k)).toInt = c) (h0 : 0 ≤ c) (hv : (v ≤ b ∧ v ≤ c) ∧ (v = b ∨ v = c)) : RSX σ m P a n v := by
  obtain ⟨h1, h2, h3⟩ := h
  have up : ∀ j : Nat, j < n → MAY σ m P j → v ≤ JMP σ a j + (σ.2 133 (8 * (P ||| (1 <<< j)) + j)).toInt := fun j hj mj => by
    by_cases e : j = k
    · rw [e, hc]
      exact hv.1.2
    · have := h3 j (by omega) mj
      omega
  rcases hv.2 with e | e
  · refine ⟨⟨by omega, by omega⟩, fun q => ?_, up⟩
    rw [e]
    exact h2 (by omega)
  · exact ⟨⟨by omega, by omega⟩, fun _ => ⟨k, hk, hm, by omega⟩, up⟩
theorem RSX_no {σ : ST} {m P a k n : Nat} {b : Int} (h : RSX σ m P a k b) (hn : n = k + 1) (c : ¬ MAY σ m P k) : RSX σ m P a n b := ⟨h.1, h.2.1, fun j hj mj => by
  by_cases e : j = k
  · exact absurd (e ▸ mj) c
  · exact h.2.2 j (by omega) mj⟩
/-- a row of the table: the least of what may follow -/
def TBX (σ : ST) (m P a : Nat) : Prop := (P + 1 < 2 ^ m → RSX σ m P a m (TT σ P a)) ∧ (P + 1 = 2 ^ m → TT σ P a = 0)
theorem TBX_store {s s2 : ST} {M P0 A0 idx : Nat} {w : Int32} (hJ : JK s s2) (e : s2.2 133 = upd (s.2 133) idx w) (ei : idx = 8 * P0 + A0) (hA : A0 < 8) (hM : M ≤ 8) (hM2 : 2 ^ M ≤ 256) (hT : ∀ P a : Nat, (P0 < P ∨ (P = P0 ∧ a < A0)) → P < 2 ^ M → a < M → TBX s M P a) (hw : (P0 + 1 < 2 ^ M → RSX s M P0 A0 M w.toInt) ∧ (P0 + 1 = 2 ^ M → w.toInt = 0)) : ∀ P a : Nat, (P0 < P ∨ (P = P0 ∧ a < A0 + 1)) → P < 2 ^ M → a < M → TBX s2 M P a := fun P a hP hP2 ha => by
  have far : ∀ k : Nat, k < M → MAY s M P k → P0 ≤ P → s2.2 133 (8 * (P ||| (1 <<< k)) + k) = s.2 133 (8 * (P ||| (1 <<< k)) + k) := fun k hk hm hle => by
    have b := (bo_all ⟨P, by omega⟩ ⟨k, by omega⟩ hm.1).2.1
    rw [e]
    exact if_neg (by
      have b2 : P < P ||| (1 <<< k) := b
      omega)
  have mv : ∀ r : Int, P0 ≤ P → RSX s M P a M r → RSX s2 M P a M r := fun r hle h => by
    refine ⟨h.1, fun q => ?_, fun k hk hm => ?_⟩
    · obtain ⟨k, k1, k2, k3⟩ := h.2.1 q
      refine ⟨k, k1, by rw [MAY_e hJ]; exact k2, ?_⟩
      rw [JMP_e hJ, far k k1 k2 hle]
      exact k3
    · rw [MAY_e hJ] at hm
      rw [JMP_e hJ, far k hk hm hle]
      exact h.2.2 k hk hm
  by_cases z : P = P0 ∧ a = A0
  · have e1 : TT s2 P a = w.toInt := by
      unfold TT
      rw [e]
      exact congrArg Int32.toInt (if_pos (by omega))
    refine ⟨fun q => ?_, fun q => ?_⟩
    · rw [e1]
      refine mv _ (by omega) ?_
      rw [z.1, z.2]
      exact hw.1 (by omega)
    · rw [e1]
      exact hw.2 (by omega)
  · have e1 : TT s2 P a = TT s P a := by
      unfold TT
      rw [e]
      exact congrArg Int32.toInt (if_neg (by omega))
    have t := hT P a (by omega) hP2 ha
    refine ⟨fun q => ?_, fun q => ?_⟩
    · rw [e1]
      exact mv _ (by omega) (t.1 q)
    · rw [e1]
      exact t.2 q
theorem DPT_of {σ : ST} {m : Nat} (h : ∀ P a : Nat, P < 2 ^ m → a < m → TBX σ m P a) : DPT m (lM σ) (bM σ) (TT σ) := by
  have p := Nat.two_pow_pos m
  refine ⟨fun a ha => (h (2 ^ m - 1) a (by omega) ha).2 (by omega), fun P a hP ha => ?_⟩
  have t := (h P a (by omega) ha).1 hP
  refine ⟨t.1, fun q => ?_, fun k hk hm => ?_⟩
  · obtain ⟨k, k1, k2, k3⟩ := t.2.1 q
    exact ⟨k, k1, k2, by rw [← JMP_d]; exact k3⟩
  · rw [← JMP_d]
    exact t.2.2 k hk hm
theorem LSR_of {σ : ST} {r : Int} (h : LST σ r) (h0 : (σ.1 30).toInt ≠ 0) : LSR (σ.1 30).toNatClampNeg (bM σ) (TT σ) r := by
  rcases h with ⟨a, -⟩ | ⟨-, a, b, c, d⟩
  · exact absurd a h0
  · exact ⟨⟨a, b⟩, c, d⟩
theorem cntb_hi {x n : Nat} (hx : x < 2 ^ n) : ∀ d : Nat, cntb x (n + d) = cntb x n
  | 0 => rfl
  | d + 1 => by
    rw [← cntb_hi hx d]
    exact cntb_f (Nat.testBit_lt_two_pow (Nat.lt_of_lt_of_le hx (Nat.pow_le_pow_right (by decide) (Nat.le_add_right n d))))
theorem shl_n {n : Int32} (hn : 0 ≤ n.toInt ∧ n.toInt ≤ 12) : ((1 : Int32) <<< (n &&& 31)).toInt = (2 : Int) ^ n.toNatClampNeg := by
  have cn := cnat hn.1
  have e : ∀ k : Fin 13, ((1 : Int32) <<< (Int32.ofNat k.val &&& 31)).toInt = (2 : Int) ^ k.val := by decide
  have q := e ⟨n.toNatClampNeg, by omega⟩
  rw [of_nat hn.1] at q
  exact q
theorem LSI_e {x i m : Nat} {f g : Nat → Nat} (h : LSI x i m f) (e : g = f) : LSI x i m g := by
  rw [e]
  exact h
/-- what finds leaves behind -/
def FND2 (σ : ST) (a : Int32) (s : ST) : Prop := LG (FSM σ (kpF (allS (σ.1 21)))) (σ.1 20).toInt (lowM s) (higM s) ∧ (∀ i j : Nat, (i : Int) < (σ.1 20).toInt → (j : Int) < (σ.1 20).toInt → (BEF s i j ↔ BFx (EdM σ (kpF (allS (σ.1 21)))) (rtM σ) (lowM s) (higM s) i j)) ∧ (s.1 30).toNatClampNeg = cntb (a).toNatClampNeg 12 ∧ LSF (SB (a).toNatClampNeg) (s.1 30).toNatClampNeg (FM s) ∧ DPT (s.1 30).toNatClampNeg (lM s) (bM s) (TT s)
def FNP (σ : ST) (a r : Int32) (s : ST) : Prop := (r = -2 ∧ ¬ OKS a (σ.1 20)) ∨ (OKS a (σ.1 20) ∧ ((r = -1 ∧ ∀ x : Nat → Int, ¬ (FSM σ (kpF (allS (σ.1 21)))) x) ∨ (r = 0 ∧ FND2 σ a s)))
def tM_jumps (σ : ST) (a r : Int32) (σ2 : ST) : Prop := WM σ σ2 ∧ ((¬ OKS a (σ.1 20) ∧ r = -2) ∨ (OKS a (σ.1 20) ∧ JMR (FSM σ (kpF (allS (σ.1 21)))) (σ.1 20).toInt (SB (a).toNatClampNeg) r))
/-- the row that is wanted -/
def ORH (σ : ST) (a b : Int32) (ρ : Nat → Nat) : Prop := ∀ L H : Nat → Int, OKS a (σ.1 20) → (0 ≤ b.toInt ∧ b.toInt < (cntb (a).toNatClampNeg 12 : Int)) → LG (FSM σ (kpF (allS (σ.1 21)))) (σ.1 20).toInt L H → ORW (SB (a).toNatClampNeg) L (BFx (EdM σ (kpF (allS (σ.1 21)))) (rtM σ) L H) (cntb (a).toNatClampNeg 12) ρ
def tM_order (σ : ST) (a b : Int32) (ρ : Nat → Nat) (r : Int32) (σ2 : ST) : Prop := WM σ σ2 ∧ ((¬ OKS a (σ.1 20) ∧ r = -2) ∨ (OKS a (σ.1 20) ∧ ((¬ (0 ≤ b.toInt ∧ b.toInt < (cntb (a).toNatClampNeg 12 : Int)) ∧ r = -1) ∨ ((0 ≤ b.toInt ∧ b.toInt < (cntb (a).toNatClampNeg 12 : Int)) ∧ (((∀ x : Nat → Int, ¬ (FSM σ (kpF (allS (σ.1 21)))) x) ∧ r = -1) ∨ ((∃ x : Nat → Int, (FSM σ (kpF (allS (σ.1 21)))) x) ∧ r.toInt = (ρ (b).toNatClampNeg : Int)))))))
/-- the days of a set, and that BEFORE has the lesser one -/
theorem WK_x {E : Nat → Nat → Int → Prop} {x : Nat → Int} (h : ∀ (a c : Nat) (s : Int), E a c s → x a + s ≤ x c) : ∀ (n a b : Nat) (s : Int), WKn E n a b s → x a + s ≤ x b
  | 0, a, b, s, w => by
    obtain ⟨rfl, rfl⟩ := w
    omega
  | n + 1, a, b, s, w => by
    obtain ⟨c, t, u, w1, e, rfl⟩ := w
    have q := WK_x h n a c t w1
    have z := h c b u e
    omega
theorem BFx_lt {σ : ST} (ix : IV σ) (fd : FDM σ) {L H : Nat → Int} (lg : LG (FSM σ (kpF (allS (σ.1 21)))) (σ.1 20).toInt L H) {i j : Nat} (hi : (i : Int) < (σ.1 20).toInt) (hj : (j : Int) < (σ.1 20).toInt) (h : BFx (EdM σ (kpF (allS (σ.1 21)))) (rtM σ) L H i j) : L i < L j := by
  rcases h with h | ⟨n, s, w, hs⟩
  · have := lg.2.2 L lg.1 i hi
    omega
  · have q := WK_x (x := L) (fun a c s e => by
      obtain ⟨k, hk, kp, rfl, rfl, rfl⟩ := e
      have fk := fd.2 k hk
      have y := lg.1.2 k hk kp
      rw [FSM_rt lg.1 fk.1, FSM_rt lg.1 fk.2] at y
      exact y) n _ _ s w
    rw [← FSM_rt lg.1 hi, ← FSM_rt lg.1 hj] at q
    omega
theorem FND2_of {σ sb s : ST} {a : Int32} (lg : LG (FSM σ (kpF (allS (σ.1 21)))) (σ.1 20).toInt (lowM sb) (higM sb)) (key : ∀ i j : Nat, (i : Int) < (σ.1 20).toInt → (j : Int) < (σ.1 20).toInt → (BEF sb i j ↔ BFx (EdM σ (kpF (allS (σ.1 21)))) (rtM σ) (lowM sb) (higM sb) i j)) (cn : (sb.1 30).toNatClampNeg = cntb (a).toNatClampNeg 12) (hF : LSF (SB (a).toNatClampNeg) (sb.1 30).toNatClampNeg (FM sb)) (he : JK sb s) (hT : ∀ P a : Nat, P < 2 ^ (sb.1 30).toNatClampNeg → a < (sb.1 30).toNatClampNeg → TBX s (sb.1 30).toNatClampNeg P a) : FND2 σ a s := by
  obtain ⟨h1, h2, h3, h4, h5⟩ := he
  have eb : ∀ i j : Nat, BEF s i j ↔ BEF sb i j := fun i j => by
    unfold BEF
    rw [h1, h2, h3]
  have el : lowM s = lowM sb := by
    unfold lowM
    rw [h1]
  have eh : higM s = higM sb := by
    unfold higM
    rw [h2]
  have ef : FM s = FM sb := by
    unfold FM
    rw [h4]
  unfold FND2
  rw [el, eh, ef, h5]
  exact ⟨lg, fun i j hi hj => (eb i j).trans (key i j hi hj), cn, hF, DPT_of hT⟩
theorem LGM_c {σ s0 s : ST} {kp : Nat → Prop} {r : Int32} (h : WM σ s0) (q : LGM s0 kp s r) : LGM σ kp s r := by
  rcases q with ⟨a, b⟩ | ⟨a, b, c, d⟩
  · exact Or.inl ⟨a, fun x hx => b x ((FSM_e h).mpr hx)⟩
  · exact Or.inr ⟨a, (FSM_e h).mp b, (FSM_e h).mp c, fun x hx j hj => d x ((FSM_e h).mpr hx) j (by rw [h.2.1 20 (by decide)]; exact hj)⟩
theorem FND_days {σ s : ST} {a : Int32} (ix : IV σ) (ok : OKS a (σ.1 20)) (f : FND2 σ a s) : ∀ j : Nat, (SB (a).toNatClampNeg) j → 0 ≤ lowM s j ∧ lowM s j ≤ 9999 := fun j hj => by
  have u20 := ixi_20 ix
  have lt := OKS_lt ok u20.1 hj
  have q := f.1.1.1 j lt
  have g5 := ixa_105 ix j (by omega)
  have g6 := ixa_106 ix j (by omega)
  omega
theorem FND_B {σ s : ST} {a : Int32} (ix : IV σ) (fd : FDM σ) (ok : OKS a (σ.1 20)) (f : FND2 σ a s) : ∀ i j : Nat, (SB (a).toNatClampNeg) i → (SB (a).toNatClampNeg) j → BEF s i j → lowM s i < lowM s j := fun i j hi hj h => by
  have u20 := ixi_20 ix
  have l1 := OKS_lt ok u20.1 hi
  have l2 := OKS_lt ok u20.1 hj
  exact BFx_lt ix fd f.1 l1 l2 ((f.2.1 i j l1 l2).mp h)
theorem FND_m {σ s : ST} {a : Int32} (ok : OKS a (σ.1 20)) (f : FND2 σ a s) : (s.1 30).toNatClampNeg ≤ 8 := by
  rw [f.2.2.1]
  exact ok.2
/-- the least sum is the greatest day less the least -/
theorem LST_ans {σ s : ST} {a : Int32} {r : Int} (ix : IV σ) (fd : FDM σ) (iv : IV s) (ok : OKS a (σ.1 20)) (f : FND2 σ a s) (h : LST s r) : JPA (SB (a).toNatClampNeg) (lowM s) r ∧ r < 100000000 := by
  have hd := FND_days ix ok f
  have hb := FND_B ix fd ok f
  have hF := f.2.2.2.1
  have c30 := cnat (ixi_30 iv).1
  by_cases h0 : (s.1 30).toInt = 0
  · rcases h with ⟨-, e⟩ | ⟨e, -⟩
    · refine ⟨Or.inl ⟨fun j hj => ?_, e⟩, by omega⟩
      obtain ⟨p, hp, -⟩ := hF.1.2 j hj
      omega
    · exact absurd h0 e
  · have m0 : 0 < (s.1 30).toNatClampNeg := by omega
    obtain ⟨i, hi, -, imin⟩ := arg_min (fun _ => True) (lM s) (s.1 30).toNatClampNeg ⟨0, m0, trivial⟩
    obtain ⟨j, hj, -, jmax⟩ := arg_max (fun _ => True) (lM s) (s.1 30).toNatClampNeg ⟨0, m0, trivial⟩
    have e := LSR_eq (FND_m ok f) f.2.2.2.2 (fun k hk => hd _ (hF.1.1 k hk)) (fun x y hx hy z => hb _ _ (hF.1.1 x hx) (hF.1.1 y hy) z) (LSR_of h h0) hi hj (fun k hk => ⟨imin k hk trivial, jmax k hk trivial⟩)
    have d1 := hd _ (hF.1.1 i hi)
    have d2 := hd _ (hF.1.1 j hj)
    refine ⟨Or.inr ⟨FM s i, FM s j, hF.1.1 i hi, hF.1.1 j hj, fun x hx => ?_, e⟩, ?_⟩
    · obtain ⟨k, hk, ek⟩ := hF.1.2 x hx
      rw [← ek]
      exact ⟨imin k hk trivial, jmax k hk trivial⟩
    · rw [e]
      unfold lM
      omega
set_option maxHeartbeats 4000000 in
set_option maxRecDepth 100000 in
theorem f_X12_rest (l : Launch) (L : WL) (σ : ST) (p a : Int32) (hp : 0 ≤ p.toInt ∧ p.toInt < 256) (ha : 0 ≤ a.toInt ∧ a.toInt < 8) (ix : IV σ) : CtI l L yX12_rest cX12_rest 5 (some .int) rm_X12_rest [.ref (L.2.1 13), .int p, .int a] σ (fun r σ2 => σ2 = σ ∧ RSX σ (σ.1 30).toNatClampNeg (p).toNatClampNeg (a).toNatClampNeg (σ.1 30).toNatClampNeg r.toInt) := by
  refine ctI_go (own := RX12) (by decide) rfl (Nat.le_of_ble_eq_true rfl) (fun F hF => ?_)
  subst hF
  have n0 : (0 : Int32).toInt = 0 := by decide
  have n1 : (1 : Int32).toInt = 1 := by decide
  have n8 : (8 : Int32).toInt = 8 := by decide
  have n100000000 : (100000000 : Int32).toInt = 100000000 := by decide
  have w0 : WM σ σ := WM_rfl ix
  have u30 := ixi_30 ix
  have cm := cnat (x := σ.1 30) (by omega)
  have cp := cnat (x := p) (by omega)
  refine go_ldcw (pc' := 3) dX12_rest_0 rfl cst_X12_282 ?_
  refine go_istore_n (i := 3) (pc' := 4) dX12_rest_3 rfl rfl (by decide) ?_
  refine go_iconst (v := 0) (pc' := 5) dX12_rest_4 rfl (by decide) ?_
  refine go_istore (pc' := 7) dX12_rest_5 rfl (by decide) ?_
  have loop7_1 : ∀ (dd1 : Nat) (x3_1 : Int32) (x4_1 : Int32), (0 ≤ (x4_1).toInt ∧ (x4_1).toInt ≤ (σ.1 30).toInt) → (RSX σ (σ.1 30).toNatClampNeg (p).toNatClampNeg (a).toNatClampNeg (x4_1).toNatClampNeg (x3_1).toInt) → (8 - (x4_1).toInt).toNat = dd1 → Go F L RX12 cX12_rest 5 rm_X12_rest (some .int) (RI F L (fun r σ2 => σ2 = σ ∧ RSX σ (σ.1 30).toNatClampNeg (p).toNatClampNeg (a).toNatClampNeg (σ.1 30).toNatClampNeg r.toInt)) σ 7 [(0, .ref (L.2.1 13)), (1, .int p), (2, .int a), (3, .int x3_1), (4, .int x4_1)] [] := by
    intro dd1
    induction dd1 using Nat.strongRecOn with
    | _ dd1 ih1 =>
      intro x3_1 x4_1 h_1 hb_1 hm_1
      refine go_iload (pc' := 9) dX12_rest_7 rfl rfl ?_
      refine go_aload_n (i := 0) (pc' := 10) dX12_rest_9 rfl rfl rfl ?_
      refine gf_13_many (pc' := 13) dX12_rest_10 rfl fl_X12_272 ?_
      have g2 := ixi_30 w0.1
      refine gz_icmp_ge (tgt := 62) (pc' := 16) dX12_rest_13 rfl (by decide) (fun c3 => ?_) (fun c3 => ?_)
      · refine go_iload_n (i := 3) (pc' := 63) dX12_rest_62 rfl rfl rfl ?_
        exact go_iret dX12_rest_63 rfl (⟨rfl, by have c4 := cnat (x := x4_1) (by omega); have z := hb_1; rw [show (x4_1).toNatClampNeg = (σ.1 30).toNatClampNeg from by omega] at z; exact z⟩)
      have c4 := cnat (x := x4_1) (by omega)
      refine go_aload_n (i := 0) (pc' := 17) dX12_rest_16 rfl rfl rfl ?_
      refine go_iload_n (i := 1) (pc' := 18) dX12_rest_17 rfl rfl rfl ?_
      refine go_iload (pc' := 20) dX12_rest_18 rfl rfl ?_
      refine go_cvi (pc' := 23) lk_X12_283 (c_X12_may _ _ _ _ _ (by omega) (by omega) w0.1) rfl rfl (Nat.le_of_ble_eq_true rfl) (by decide) rfl rfl rfl ⟨Nat.le_of_ble_eq_true rfl, Nat.le_of_ble_eq_true rfl⟩ ⟨rfl, rfl⟩ dX12_rest_20 rfl (fun r4 σ4 h4 => ?_)
      obtain ⟨e4, h4⟩ := h4
      have e4 := e4.symm
      subst e4
      refine go_eqB (tgt := 56) (pc' := 26) h4 dX12_rest_23 rfl (by decide) (fun c5 => ?_) (fun c5 => ?_)
      · refine gz_iinc (c := 1) (pc' := 59) dX12_rest_56 rfl rfl (by decide) (by decide) (by decide) (by omega) (fun v6 h6 e6 => ?_)
        refine go_goto (tgt := 7) dX12_rest_59 (by decide) ?_
        exact go_lv (lv' := [(0, .ref (L.2.1 13)), (1, .int p), (2, .int a), (3, .int x3_1), (4, .int v6)]) rfl (ih1 _ (by omega)  x3_1 v6 (by omega) (by have cv := cnat (x := v6) (by omega); first | exact RSX_no hb_1 (by omega) c5 | exact RSX_min hb_1 (by omega) (by omega) my (by rw [← ez]) (by omega) (by omega)) rfl)
      have my := c5
      have bp := bit_put (p := p) (k := x4_1) hp (by omega) my.1
      refine go_iload_n (i := 3) (pc' := 27) dX12_rest_26 rfl rfl rfl ?_
      refine go_aload_n (i := 0) (pc' := 28) dX12_rest_27 rfl rfl rfl ?_
      refine go_iload_n (i := 2) (pc' := 29) dX12_rest_28 rfl rfl rfl ?_
      refine go_iload (pc' := 31) dX12_rest_29 rfl rfl ?_
      refine go_cvi (pc' := 34) lk_X12_286 (c_X12_jump _ _ _ _ _ (by omega) (by omega) w0.1) rfl rfl (Nat.le_of_ble_eq_true rfl) (by decide) rfl rfl rfl ⟨Nat.le_of_ble_eq_true rfl, Nat.le_of_ble_eq_true rfl⟩ ⟨rfl, rfl⟩ dX12_rest_31 rfl (fun r7 σ7 h7 => ?_)
      obtain ⟨e7, h7⟩ := h7
      have e7 := e7.symm
      subst e7
      have jn := JMP_nn σ (a).toNatClampNeg (x4_1).toNatClampNeg
      refine go_aload_n (i := 0) (pc' := 35) dX12_rest_34 rfl rfl rfl ?_
      refine gf_13_jumps (pc' := 38) dX12_rest_35 rfl fl_X12_126 ?_
      refine go_bipush (v := 8) (pc' := 40) dX12_rest_38 rfl (by decide) ?_
      refine go_iload_n (i := 1) (pc' := 41) dX12_rest_40 rfl rfl rfl ?_
      refine go_iconst (v := 1) (pc' := 42) dX12_rest_41 rfl (by decide) ?_
      refine go_iload (pc' := 44) dX12_rest_42 rfl rfl ?_
      refine go_ishl (pc' := 45) dX12_rest_44 rfl ?_
      refine go_ior (pc' := 46) dX12_rest_45 rfl ?_
      refine gz_imulc (n := 8) (pc' := 47) dX12_rest_46 rfl (by decide) (by omega) (fun v8 h8 e8 => ?_)
      refine go_iload (pc' := 49) dX12_rest_47 rfl rfl ?_
      refine gz_iadd (pc' := 50) dX12_rest_49 rfl (by omega) (fun v9 h9 e9 => ?_)
      have ez : (v9).toNatClampNeg = 8 * ((p).toNatClampNeg ||| (1 <<< (x4_1).toNatClampNeg)) + (x4_1).toNatClampNeg := by have cz := cnat (x := v9) (by omega); omega
      refine go_iald (pc' := 51) dX12_rest_50 rfl (by decide) (by decide) rfl (vin_of (n := 2048) (by omega) (by omega)) ?_
      refine go_rngA (ixa_133 w0.1) (vinlt (vin_of (n := 2048) (by omega) (by omega))) (fun g10 => ?_)
      refine gz_iadd (pc' := 52) dX12_rest_51 rfl (by omega) (fun v11 h11 e11 => ?_)
      have he51 : (v11).toInt = JMP σ (a).toNatClampNeg (x4_1).toNatClampNeg + (σ.2 133 (v9).toNatClampNeg).toInt := by omega
      have hb1 := hb_1.1
      refine gz_min (pc' := 55) dX12_rest_52 rfl ml_X12_178 (Nat.le_of_ble_eq_true rfl) (Nat.le_of_ble_eq_true rfl) (fun v12 h12 e12 => ?_)
      refine go_istore_n (i := 3) (pc' := 56) dX12_rest_55 rfl rfl (by decide) ?_
      refine gz_iinc (c := 1) (pc' := 59) dX12_rest_56 rfl rfl (by decide) (by decide) (by decide) (by omega) (fun v13 h13 e13 => ?_)
      refine go_goto (tgt := 7) dX12_rest_59 (by decide) ?_
      exact go_lv (lv' := [(0, .ref (L.2.1 13)), (1, .int p), (2, .int a), (3, .int v12), (4, .int v13)]) rfl (ih1 _ (by omega)  v12 v13 (by omega) (by have cv := cnat (x := v13) (by omega); first | exact RSX_no hb_1 (by omega) c5 | exact RSX_min hb_1 (by omega) (by omega) my (by rw [← ez]) (by omega) (by omega)) rfl)
  exact go_lv (lv' := [(0, .ref (L.2.1 13)), (1, .int p), (2, .int a), (3, .int (100000000 : Int32)), (4, .int (0 : Int32))]) rfl (loop7_1 _  (100000000 : Int32) (0 : Int32) (by omega) (by rw [n100000000, show (0 : Int32).toNatClampNeg = 0 from rfl]; exact RSX_0 _ _ _ _) rfl)
set_option maxHeartbeats 4000000 in
set_option maxRecDepth 100000 in
theorem f_X12_finds (l : Launch) (L : WL) (σ : ST) (a : Int32) (ix : IV σ) (im : IM σ) (fd : FDM σ) : CtI l L yX12_finds cX12_finds 5 (some .int) rm_X12_finds [.ref (L.2.1 13), .int a] σ (fun r σ2 => WM σ σ2 ∧ FNP σ a r σ2) := by
  refine ctI_go (own := RX12) (by decide) rfl (Nat.le_of_ble_eq_true rfl) (fun F hF => ?_)
  subst hF
  have nm2 : (-2 : Int32).toInt = -2 := by decide
  have nm1 : (-1 : Int32).toInt = -1 := by decide
  have n0 : (0 : Int32).toInt = 0 := by decide
  have n1 : (1 : Int32).toInt = 1 := by decide
  have n8 : (8 : Int32).toInt = 8 := by decide
  have w0 : WM σ σ := WM_rfl ix
  have u19 := ixi_19 ix
  have u20 := ixi_20 ix
  have u21 := ixi_21 ix
  have u22 := ixi_22 ix
  have c20 := cnat u20.1
  have sh := shl_n u20
  have z0 : (0 : Int32).toNatClampNeg = 0 := by decide
  refine go_iload_n (i := 1) (pc' := 1) dX12_finds_0 rfl rfl rfl ?_
  refine gz_if_lt (tgt := 14) (pc' := 4) dX12_finds_1 rfl (by decide) (fun c1 => ?_) (fun c1 => ?_)
  · refine go_bipush (v := (-2)) (pc' := 16) dX12_finds_14 rfl (by decide) ?_
    exact go_iret dX12_finds_16 rfl (⟨w0, Or.inl ⟨rfl, fun q => by have q1 := q.1; rw [← sh] at q1; omega⟩⟩)
  refine go_iload_n (i := 1) (pc' := 5) dX12_finds_4 rfl rfl rfl ?_
  refine go_iconst (v := 1) (pc' := 6) dX12_finds_5 rfl (by decide) ?_
  refine go_aload_n (i := 0) (pc' := 7) dX12_finds_6 rfl rfl rfl ?_
  refine gf_13_letters (pc' := 10) dX12_finds_7 rfl fl_X12_142 ?_
  have g2 := ixi_20 ix
  refine go_ishl (pc' := 11) dX12_finds_10 rfl ?_
  refine gz_icmp_lt (tgt := 17) (pc' := 14) dX12_finds_11 rfl (by decide) (fun c3 => ?_) (fun c3 => ?_)
  · have lt2 : a.toInt < (2 : Int) ^ (σ.1 20).toNatClampNeg := by
      rw [← sh]
      omega
    have hx : 0 ≤ a.toInt ∧ a.toInt < 4096 := by
      have p := pow12 (k := (σ.1 20).toNatClampNeg) (by omega)
      omega
    have xp : (a).toNatClampNeg < 2 ^ (σ.1 20).toNatClampNeg := by
      have p3 : ((2 : Int) ^ (σ.1 20).toNatClampNeg) = ((2 ^ (σ.1 20).toNatClampNeg : Nat) : Int) := by simp
      have ca := cnat hx.1
      omega
    refine go_aload_n (i := 0) (pc' := 18) dX12_finds_17 rfl rfl rfl ?_
    refine go_iconst (v := 0) (pc' := 19) dX12_finds_18 rfl (by decide) ?_
    refine pf_13_many (pc' := 22) dX12_finds_19 rfl fl_X12_272 ?_
    refine go_gen (P := fun s => WM σ s ∧ s.1 30 = (0 : Int32) ∧ s.2 = σ.2) ⟨⟨ixs_30 w0.1 (by omega) (by omega), Ag_setI w0.2 (by decide)⟩, ⟨setI_same _ _ _, rfl⟩⟩ (fun σ4 z4 => ?_)
    obtain ⟨w4, g4⟩ := z4
    have g19 := g4
    refine go_iconst (v := 0) (pc' := 23) dX12_finds_22 rfl (by decide) ?_
    refine go_istore_n (i := 2) (pc' := 24) dX12_finds_23 rfl rfl (by decide) ?_
    have loop24_5 : ∀ (dd5 : Nat) (σ5 : ST) (x2_5 : Int32), WM σ σ5 → (0 ≤ (x2_5).toInt ∧ (x2_5).toInt ≤ (σ.1 20).toInt) → (LSI (a).toNatClampNeg (x2_5).toNatClampNeg (σ5.1 30).toNatClampNeg (FM σ5)) → (12 - (x2_5).toInt).toNat = dd5 → Go F L RX12 cX12_finds 5 rm_X12_finds (some .int) (RI F L (fun r σ2 => WM σ σ2 ∧ FNP σ a r σ2)) σ5 24 [(0, .ref (L.2.1 13)), (1, .int a), (2, .int x2_5)] [] := by
      intro dd5
      induction dd5 using Nat.strongRecOn with
      | _ dd5 ih5 =>
        intro σ5 x2_5 w5 h_5 hL_5 hm_5
        refine go_iload_n (i := 2) (pc' := 25) dX12_finds_24 rfl rfl rfl ?_
        refine go_aload_n (i := 0) (pc' := 26) dX12_finds_25 rfl rfl rfl ?_
        refine gf_13_letters (pc' := 29) dX12_finds_26 rfl fl_X12_142 ?_
        refine go_topq (y := σ.1 20) (w5.2.1 20 (by decide)) ?_
        have g6 := ixi_20 ix
        refine gz_icmp_ge (tgt := 81) (pc' := 32) dX12_finds_29 rfl (by decide) (fun c7 => ?_) (fun c7 => ?_)
        · have c2 := cnat (x := x2_5) (by omega)
          have hL := hL_5
          rw [show (x2_5).toNatClampNeg = (σ.1 20).toNatClampNeg from by omega] at hL
          have hF := LSI_LSF hL xp
          have g30 := ixi_30 w5.1
          have c30 := cnat g30.1
          have c12 : cntb (a).toNatClampNeg 12 = cntb (a).toNatClampNeg (σ.1 20).toNatClampNeg := by
            have z := cntb_hi xp (12 - (σ.1 20).toNatClampNeg)
            rw [show (σ.1 20).toNatClampNeg + (12 - (σ.1 20).toNatClampNeg) = 12 from by omega] at z
            exact z
          have ok : OKS a (σ.1 20) := ⟨⟨by omega, lt2⟩, by rw [c12, ← hL.1]; omega⟩
          refine go_aload_n (i := 0) (pc' := 82) dX12_finds_81 rfl rfl rfl ?_
          refine go_cvi (pc' := 85) lk_X12_184 (f_X12_clashAll _ _ _ w5.1 (IM_q w5 im)) rfl rfl (Nat.le_of_ble_eq_true rfl) (by decide) rfl rfl rfl ⟨Nat.le_of_ble_eq_true rfl, Nat.le_of_ble_eq_true rfl⟩ ⟨rfl, rfl⟩ dX12_finds_82 rfl (fun r8 σ8 h8 => ?_)
          obtain ⟨u8, h8⟩ := h8
          have w8 := WM_trans w5 (WM_of_l u8)
          have st := LGM_c w5 (by have z := h8; rw [w5.2.1 21 (by decide)] at z; exact z)
          have ul := u8
          refine gz_if_eq (tgt := 90) (pc' := 88) dX12_finds_85 rfl (by decide) (fun c9 => ?_) (fun c9 => ?_)
          · have lg := LGM_LG st (by omega)
            have wc := w8
            refine go_aload_n (i := 0) (pc' := 91) dX12_finds_90 rfl rfl rfl ?_
            refine go_cvv (pc' := 94) lk_X12_193 (f_X12_findWays (kp := kpF (allS (σ.1 21))) _ _ _ (σ.1 20).toNatClampNeg (by rw [wc.2.1 20 (by decide)]; omega) w8.1 (FDM_e wc fd) (fun k hk => kp_allN (by omega) (by rw [wc.2.1 21 (by decide)] at hk; exact hk)) ((FSM_e wc).mpr lg.1)) rfl rfl (Nat.le_of_ble_eq_true rfl) (by decide) rfl rfl rfl ⟨Nat.le_of_ble_eq_true rfl, Nat.le_of_ble_eq_true rfl⟩ ⟨rfl, rfl⟩ dX12_finds_91 rfl (fun σ10 h10 => ?_)
            obtain ⟨u10, h10⟩ := h10
            have w10 := WM_trans w8 (WM_of_w u10)
            have mp := h10
            have uw := u10
            have ub := ixi_30 w10.1
            have cb := cnat (x := σ10.1 30) (by omega)
            have ba := bit_all ub
            have ba3 := ba.2.2
            have e30 : σ10.1 30 = σ5.1 30 := (uw.2.1 30 (fun q => q)).trans (ul.2.1 30 (by decide))
            have e132 : σ10.2 132 = σ5.2 132 := (uw.2.2 132 (by decide)).trans (ul.2.2 132 (by decide))
            have efb : FM σ10 = FM σ5 := by
              unfold FM
              rw [e132]
            have hFb : LSF (SB (a).toNatClampNeg) (σ10.1 30).toNatClampNeg (FM σ10) := by
              rw [efb, e30]
              exact hF
            have cnb : (σ10.1 30).toNatClampNeg = cntb (a).toNatClampNeg 12 := by
              rw [e30, c12]
              exact hL.1
            have elb : lowM σ10 = lowM σ8 := by
              unfold lowM
              rw [uw.2.2 120 (by decide)]
            have ehb : higM σ10 = higM σ8 := by
              unfold higM
              rw [uw.2.2 121 (by decide)]
            have lgb : LG (FSM σ (kpF (allS (σ.1 21)))) (σ.1 20).toInt (lowM σ10) (higM σ10) := by
              rw [elb, ehb]
              exact lg
            have key : ∀ i j : Nat, (i : Int) < (σ.1 20).toInt → (j : Int) < (σ.1 20).toInt → (BEF σ10 i j ↔ BFx (EdM σ (kpF (allS (σ.1 21)))) (rtM σ) (lowM σ10) (higM σ10) i j) := fun i j hi hj => by
              have z := mp i j (by omega) (by omega)
              rw [EdM_e wc] at z
              unfold rtM at z
              rw [wc.2.2 108 (by decide)] at z
              unfold BEF BFx lowM higM
              exact or_congr Iff.rfl z
            refine go_iconst (v := 1) (pc' := 95) dX12_finds_94 rfl (by decide) ?_
            refine go_aload_n (i := 0) (pc' := 96) dX12_finds_95 rfl rfl rfl ?_
            refine gf_13_many (pc' := 99) dX12_finds_96 rfl fl_X12_272 ?_
            have g11 := ixi_30 w10.1
            refine go_ishl (pc' := 100) dX12_finds_99 rfl ?_
            refine go_iconst (v := 1) (pc' := 101) dX12_finds_100 rfl (by decide) ?_
            refine go_isub (pc' := 102) dX12_finds_101 rfl ?_
            refine go_topz (fun y12 h12 e12 => ?_)
            refine go_istore_n (i := 2) (pc' := 103) dX12_finds_102 rfl rfl (by decide) ?_
            refine go_iload_n (i := 2) (pc' := 104) dX12_finds_103 rfl rfl rfl ?_
            refine go_istore_n (i := 3) (pc' := 105) dX12_finds_104 rfl rfl (by decide) ?_
            have loop105_13 : ∀ (dd13 : Nat) (σ13 : ST) (x3_13 : Int32), WM σ σ13 → (-1 ≤ (x3_13).toInt ∧ (x3_13).toInt ≤ (y12).toInt) → (JK σ10 σ13) → (∀ P a : Nat, (x3_13).toInt < (P : Int) → P < 2 ^ (σ10.1 30).toNatClampNeg → a < (σ10.1 30).toNatClampNeg → TBX σ13 (σ10.1 30).toNatClampNeg P a) → ((x3_13).toInt + 1).toNat = dd13 → Go F L RX12 cX12_finds 5 rm_X12_finds (some .int) (RI F L (fun r σ2 => WM σ σ2 ∧ FNP σ a r σ2)) σ13 105 [(0, .ref (L.2.1 13)), (1, .int a), (2, .int y12), (3, .int x3_13)] [] := by
              intro dd13
              induction dd13 using Nat.strongRecOn with
              | _ dd13 ih13 =>
                intro σ13 x3_13 w13 h_13 he_13 hT_13 hm_13
                refine go_iload_n (i := 3) (pc' := 106) dX12_finds_105 rfl rfl rfl ?_
                refine gz_if_lt (tgt := 161) (pc' := 109) dX12_finds_106 rfl (by decide) (fun c14 => ?_) (fun c14 => ?_)
                · refine go_iconst (v := 0) (pc' := 162) dX12_finds_161 rfl (by decide) ?_
                  exact go_iret dX12_finds_162 rfl (⟨w13, Or.inr ⟨ok, Or.inr ⟨rfl, FND2_of lgb key cnb hFb he_13 (fun P a h1 h2 => hT_13 P a (by omega) h1 h2)⟩⟩⟩)
                have c3 := cnat (x := x3_13) (by omega)
                refine go_iconst (v := 0) (pc' := 110) dX12_finds_109 rfl (by decide) ?_
                refine go_istore (pc' := 112) dX12_finds_110 rfl (by decide) ?_
                have loop112_15 : ∀ (dd15 : Nat) (σ15 : ST) (x4_15 : Int32), WM σ σ15 → (0 ≤ (x4_15).toInt ∧ (x4_15).toInt ≤ (σ10.1 30).toInt) → (JK σ10 σ15) → (∀ P a : Nat, ((x3_13).toNatClampNeg < P ∨ (P = (x3_13).toNatClampNeg ∧ a < (x4_15).toNatClampNeg)) → P < 2 ^ (σ10.1 30).toNatClampNeg → a < (σ10.1 30).toNatClampNeg → TBX σ15 (σ10.1 30).toNatClampNeg P a) → (8 - (x4_15).toInt).toNat = dd15 → Go F L RX12 cX12_finds 5 rm_X12_finds (some .int) (RI F L (fun r σ2 => WM σ σ2 ∧ FNP σ a r σ2)) σ15 112 [(0, .ref (L.2.1 13)), (1, .int a), (2, .int y12), (3, .int x3_13), (4, .int x4_15)] [] := by
                  intro dd15
                  induction dd15 using Nat.strongRecOn with
                  | _ dd15 ih15 =>
                    intro σ15 x4_15 w15 h_15 he_15 hT_15 hm_15
                    refine go_iload (pc' := 114) dX12_finds_112 rfl rfl ?_
                    refine go_aload_n (i := 0) (pc' := 115) dX12_finds_114 rfl rfl rfl ?_
                    refine gf_13_many (pc' := 118) dX12_finds_115 rfl fl_X12_272 ?_
                    have g16 := ixi_30 w15.1
                    refine gz_icmp_ge (tgt := 155) (pc' := 121) dX12_finds_118 rfl (by decide) (fun c17 => ?_) (fun c17 => ?_)
                    · have c4 := cnat (x := x4_15) (by omega)
                      have em := congrArg Int32.toInt he_15.2.2.2.2
                      refine gz_iinc (c := (-1)) (pc' := 158) dX12_finds_155 rfl rfl (by decide) (by decide) (by decide) (by omega) (fun v18 h18 e18 => ?_)
                      refine go_goto (tgt := 105) dX12_finds_158 (by decide) ?_
                      exact go_lv (lv' := [(0, .ref (L.2.1 13)), (1, .int a), (2, .int y12), (3, .int v18)]) rfl (ih13 _ (by omega) σ15 v18 w15 (by omega) he_15 (fun P a h1 h2 h3 => hT_15 P a (by omega) h2 h3) rfl)
                    have c4 := cnat (x := x4_15) (by omega)
                    have em := congrArg Int32.toInt he_15.2.2.2.2
                    refine go_aload_n (i := 0) (pc' := 122) dX12_finds_121 rfl rfl rfl ?_
                    refine gf_13_jumps (pc' := 125) dX12_finds_122 rfl fl_X12_126 ?_
                    refine go_bipush (v := 8) (pc' := 127) dX12_finds_125 rfl (by decide) ?_
                    refine go_iload_n (i := 3) (pc' := 128) dX12_finds_127 rfl rfl rfl ?_
                    refine gz_imulc (n := 8) (pc' := 129) dX12_finds_128 rfl (by decide) (by omega) (fun v19 h19 e19 => ?_)
                    refine go_iload (pc' := 131) dX12_finds_129 rfl rfl ?_
                    refine gz_iadd (pc' := 132) dX12_finds_131 rfl (by omega) (fun v20 h20 e20 => ?_)
                    have ez : (v20).toNatClampNeg = 8 * (x3_13).toNatClampNeg + (x4_15).toNatClampNeg := by have cz := cnat (x := v20) (by omega); omega
                    refine go_iload_n (i := 3) (pc' := 133) dX12_finds_132 rfl rfl rfl ?_
                    refine go_iload_n (i := 2) (pc' := 134) dX12_finds_133 rfl rfl rfl ?_
                    have mrg148_21 : ∀ (y0_21 : Int32), ((0 ≤ (y0_21).toInt ∧ (y0_21).toInt ≤ 100000000) ∧ (((x3_13).toNatClampNeg + 1 < 2 ^ (σ10.1 30).toNatClampNeg → RSX σ15 (σ10.1 30).toNatClampNeg (x3_13).toNatClampNeg (x4_15).toNatClampNeg (σ10.1 30).toNatClampNeg (y0_21).toInt) ∧ ((x3_13).toNatClampNeg + 1 = 2 ^ (σ10.1 30).toNatClampNeg → (y0_21).toInt = 0))) → Go F L RX12 cX12_finds 5 rm_X12_finds (some .int) (RI F L (fun r σ2 => WM σ σ2 ∧ FNP σ a r σ2)) σ15 148 [(0, .ref (L.2.1 13)), (1, .int a), (2, .int y12), (3, .int x3_13), (4, .int x4_15)] [.int y0_21, .int v20, .ref (L.2.1 133)] := by
                      intro y0_21 hv_21
                      refine go_iast (pc' := 149) dX12_finds_148 rfl (by decide) (by decide) rfl (vin_of (n := 2048) (by omega) (by omega)) ?_
                      refine go_gen (P := fun s => WM σ s ∧ (s.2 133 = upd (σ15.2 133) (v20).toNatClampNeg y0_21) ∧ JK σ15 s) ⟨⟨ixt_133 w15.1 (by omega) (by omega), Ag_setA w15.2 (by decide)⟩, ⟨setA_same _ _ _ _, setA_ne (a := 120) _ 133 _ _ (by decide), setA_ne (a := 121) _ 133 _ _ (by decide), setA_ne (a := 122) _ 133 _ _ (by decide), setA_ne (a := 132) _ 133 _ _ (by decide), rfl⟩⟩ (fun σ22 z22 => ?_)
                      obtain ⟨w22, g22⟩ := z22
                      have gj := g22
                      refine gz_iinc (c := 1) (pc' := 152) dX12_finds_149 rfl rfl (by decide) (by decide) (by decide) (by omega) (fun v23 h23 e23 => ?_)
                      refine go_goto (tgt := 112) dX12_finds_152 (by decide) ?_
                      exact go_lv (lv' := [(0, .ref (L.2.1 13)), (1, .int a), (2, .int y12), (3, .int x3_13), (4, .int v23)]) rfl (ih15 _ (by omega) σ22 v23 w22 (by omega) ⟨gj.2.1.trans he_15.1, gj.2.2.1.trans he_15.2.1, gj.2.2.2.1.trans he_15.2.2.1, gj.2.2.2.2.1.trans he_15.2.2.2.1, gj.2.2.2.2.2.trans he_15.2.2.2.2⟩ (fun P a h1 h2 h3 => TBX_store gj.2 gj.1 ez (by omega) (by omega) ba3 hT_15 hv_21.2 P a (by have cv := cnat (x := v23) (by omega); omega) h2 h3) rfl)
                    refine gz_icmp_ne (tgt := 141) (pc' := 137) dX12_finds_134 rfl (by decide) (fun c24 => ?_) (fun c24 => ?_)
                    · refine go_aload_n (i := 0) (pc' := 142) dX12_finds_141 rfl rfl rfl ?_
                      refine go_iload_n (i := 3) (pc' := 143) dX12_finds_142 rfl rfl rfl ?_
                      refine go_iload (pc' := 145) dX12_finds_143 rfl rfl ?_
                      refine go_cvi (pc' := 148) lk_X12_275 (f_X12_rest _ _ _ _ _ (by omega) (by omega) w15.1) rfl rfl (Nat.le_of_ble_eq_true rfl) (by decide) rfl rfl rfl ⟨Nat.le_of_ble_eq_true rfl, Nat.le_of_ble_eq_true rfl⟩ ⟨rfl, rfl⟩ dX12_finds_145 rfl (fun r25 σ25 h25 => ?_)
                      obtain ⟨e25, h25⟩ := h25
                      have e25 := e25.symm
                      subst e25
                      exact go_lv (lv' := [(0, .ref (L.2.1 13)), (1, .int a), (2, .int y12), (3, .int x3_13), (4, .int x4_15)]) rfl (mrg148_21  r25 (by first | exact ⟨by omega, fun q => by exfalso; omega, fun _ => by omega⟩ | (have rs := h25; rw [he_15.2.2.2.2] at rs; exact ⟨rs.1, fun _ => rs, fun q => by exfalso; omega⟩)))
                    refine go_iconst (v := 0) (pc' := 138) dX12_finds_137 rfl (by decide) ?_
                    refine go_goto (tgt := 148) dX12_finds_138 (by decide) ?_
                    exact go_lv (lv' := [(0, .ref (L.2.1 13)), (1, .int a), (2, .int y12), (3, .int x3_13), (4, .int x4_15)]) rfl (mrg148_21  (0 : Int32) (by first | exact ⟨by omega, fun q => by exfalso; omega, fun _ => by omega⟩ | (have rs := h10; rw [he_15.2.2.2.2] at rs; exact ⟨rs.1, fun _ => rs, fun q => by exfalso; omega⟩)))
                exact go_lv (lv' := [(0, .ref (L.2.1 13)), (1, .int a), (2, .int y12), (3, .int x3_13), (4, .int (0 : Int32))]) rfl (loop112_15 _ σ13 (0 : Int32) w13 (by omega) he_13 (fun P a h1 h2 h3 => hT_13 P a (by omega) h2 h3) rfl)
            exact go_lv (lv' := [(0, .ref (L.2.1 13)), (1, .int a), (2, .int y12), (3, .int y12)]) rfl (loop105_13 _ σ10 y12 w10 (by omega) ⟨rfl, rfl, rfl, rfl, rfl⟩ (fun P a h1 h2 h3 => by exfalso; omega) rfl)
          refine go_iconst (v := (-1)) (pc' := 89) dX12_finds_88 rfl (by decide) ?_
          exact go_iret dX12_finds_89 rfl (⟨w8, Or.inr ⟨ok, Or.inl ⟨rfl, LGM_no st (by omega)⟩⟩⟩)
        have c2 := cnat (x := x2_5) (by omega)
        have bx := bitx (k := x2_5) hx (by omega)
        have g30 := ixi_30 w5.1
        have c30 := cnat g30.1
        refine go_iload_n (i := 1) (pc' := 33) dX12_finds_32 rfl rfl rfl ?_
        refine go_iload_n (i := 2) (pc' := 34) dX12_finds_33 rfl rfl rfl ?_
        refine go_ishr (pc' := 35) dX12_finds_34 rfl ?_
        refine go_iconst (v := 1) (pc' := 36) dX12_finds_35 rfl (by decide) ?_
        refine go_iand (pc' := 37) dX12_finds_36 rfl ?_
        refine gz_if_ne (tgt := 43) (pc' := 40) dX12_finds_37 rfl (by decide) (fun c26 => ?_) (fun c26 => ?_)
        · have b1 : (a).toNatClampNeg.testBit (x2_5).toNatClampNeg = true := bT0 bx (by omega)
          have z1 := cntb_t b1
          have z2 := cntb_le (a).toNatClampNeg (a := (x2_5).toNatClampNeg + 1) 12 (by omega)
          have z3 := hL_5.1
          refine go_aload_n (i := 0) (pc' := 44) dX12_finds_43 rfl rfl rfl ?_
          refine gf_13_many (pc' := 47) dX12_finds_44 rfl fl_X12_272 ?_
          have g27 := ixi_30 w5.1
          refine go_bipush (v := 8) (pc' := 49) dX12_finds_47 rfl (by decide) ?_
          refine gz_icmp_ne (tgt := 55) (pc' := 52) dX12_finds_49 rfl (by decide) (fun c28 => ?_) (fun c28 => ?_)
          · refine go_aload_n (i := 0) (pc' := 56) dX12_finds_55 rfl rfl rfl ?_
            refine gf_13_some (pc' := 59) dX12_finds_56 rfl fl_X12_123 ?_
            refine go_aload_n (i := 0) (pc' := 60) dX12_finds_59 rfl rfl rfl ?_
            refine gf_13_many (pc' := 63) dX12_finds_60 rfl fl_X12_272 ?_
            have g29 := ixi_30 w5.1
            refine go_iload_n (i := 2) (pc' := 64) dX12_finds_63 rfl rfl rfl ?_
            refine go_iast (pc' := 65) dX12_finds_64 rfl (by decide) (by decide) rfl (vin_of (n := 8) (by omega) (by omega)) ?_
            refine go_gen (P := fun s => WM σ s ∧ (s.2 132 = upd (σ5.2 132) ((σ5.1 30)).toNatClampNeg x2_5) ∧ s.1 = σ5.1) ⟨⟨ixt_132 w5.1 (by omega) (by omega), Ag_setA w5.2 (by decide)⟩, ⟨setA_same _ _ _ _, rfl⟩⟩ (fun σ30 z30 => ?_)
            obtain ⟨w30, g30⟩ := z30
            have gr := g30
            have q30 := congrArg Int32.toInt (congrFun gr.2 30)
            refine go_aload_n (i := 0) (pc' := 66) dX12_finds_65 rfl rfl rfl ?_
            refine go_dup (pc' := 67) dX12_finds_66 rfl rfl ?_
            refine gf_13_many (pc' := 70) dX12_finds_67 rfl fl_X12_272 ?_
            have g31 := ixi_30 w30.1
            refine go_iconst (v := 1) (pc' := 71) dX12_finds_70 rfl (by decide) ?_
            refine gz_iadd (pc' := 72) dX12_finds_71 rfl (by omega) (fun v32 h32 e32 => ?_)
            refine pf_13_many (pc' := 75) dX12_finds_72 rfl fl_X12_272 ?_
            refine go_gen (P := fun s => WM σ s ∧ s.1 30 = v32 ∧ s.2 = σ30.2) ⟨⟨ixs_30 w30.1 (by omega) (by omega), Ag_setI w30.2 (by decide)⟩, ⟨setI_same _ _ _, rfl⟩⟩ (fun σ33 z33 => ?_)
            obtain ⟨w33, g33⟩ := z33
            have gz := g33
            have gz30 := congrArg Int32.toInt gz.1
            have er1 : FM σ33 (σ5.1 30).toNatClampNeg = (x2_5).toNatClampNeg := by
              unfold FM
              rw [gz.2, gr.1, upd_eq]
            have er2 : ∀ p : Nat, p ≠ (σ5.1 30).toNatClampNeg → FM σ33 p = FM σ5 p := fun p hp => by
              unfold FM
              rw [gz.2, gr.1, upd_ne hp]
            refine gz_iinc (c := 1) (pc' := 78) dX12_finds_75 rfl rfl (by decide) (by decide) (by decide) (by omega) (fun v34 h34 e34 => ?_)
            refine go_goto (tgt := 24) dX12_finds_78 (by decide) ?_
            exact go_lv (lv' := [(0, .ref (L.2.1 13)), (1, .int a), (2, .int v34)]) rfl (ih5 _ (by omega) σ33 v34 w33 (by omega) (by have cv := cnat (x := v34) (by omega); first | exact LSI_no hL_5 (bF0 bx (by omega)) (by omega) | exact LSI_put hL_5 b1 (by omega) (by have z := cnat (x := σ33.1 30) (by omega); omega) er1 er2) rfl)
          refine go_bipush (v := (-2)) (pc' := 54) dX12_finds_52 rfl (by decide) ?_
          exact go_iret dX12_finds_54 rfl (⟨w5, Or.inl ⟨rfl, fun q => by have q2 := q.2; omega⟩⟩)
        refine go_goto (tgt := 75) dX12_finds_40 (by decide) ?_
        refine gz_iinc (c := 1) (pc' := 78) dX12_finds_75 rfl rfl (by decide) (by decide) (by decide) (by omega) (fun v35 h35 e35 => ?_)
        refine go_goto (tgt := 24) dX12_finds_78 (by decide) ?_
        exact go_lv (lv' := [(0, .ref (L.2.1 13)), (1, .int a), (2, .int v35)]) rfl (ih5 _ (by omega) σ5 v35 w5 (by omega) (by have cv := cnat (x := v35) (by omega); first | exact LSI_no hL_5 (bF0 bx (by omega)) (by omega) | exact LSI_put hL_5 b1 (by omega) (by have z := cnat (x := σ5.1 30) (by omega); omega) er1 er2) rfl)
    exact go_lv (lv' := [(0, .ref (L.2.1 13)), (1, .int a), (2, .int (0 : Int32))]) rfl (loop24_5 _ σ4 (0 : Int32) w4 (by omega) (by rw [g19.1, z0]; exact LSI_0 _ _) rfl)
  refine go_bipush (v := (-2)) (pc' := 16) dX12_finds_14 rfl (by decide) ?_
  exact go_iret dX12_finds_16 rfl (⟨w0, Or.inl ⟨rfl, fun q => by have q1 := q.1; rw [← sh] at q1; omega⟩⟩)
set_option maxHeartbeats 4000000 in
set_option maxRecDepth 100000 in
theorem f_X12_jumps (l : Launch) (L : WL) (σ : ST) (a : Int32) (ix : IV σ) (im : IM σ) (fd : FDM σ) : CtI l L yX12_jumps cX12_jumps 4 (some .int) rm_X12_jumps [.ref (L.2.1 13), .int a] σ (fun r σ2 => tM_jumps σ a r σ2) := by
  refine ctI_go (own := RX12) (by decide) rfl (Nat.le_of_ble_eq_true rfl) (fun F hF => ?_)
  subst hF
  have nm1 : (-1 : Int32).toInt = -1 := by decide
  have n100000000 : (100000000 : Int32).toInt = 100000000 := by decide
  have w0 : WM σ σ := WM_rfl ix
  have u19 := ixi_19 ix
  have u20 := ixi_20 ix
  have u21 := ixi_21 ix
  have u22 := ixi_22 ix
  have n0 : (0 : Int32).toInt = 0 := by decide
  have nm1 : (-1 : Int32).toInt = -1 := by decide
  have nm2 : (-2 : Int32).toInt = -2 := by decide
  refine go_aload_n (i := 0) (pc' := 1) dX12_jumps_0 rfl rfl rfl ?_
  refine go_iload_n (i := 1) (pc' := 2) dX12_jumps_1 rfl rfl rfl ?_
  refine go_cvi (pc' := 5) lk_X12_289 (f_X12_finds _ _ _ _ w0.1 (IM_q w0 im) (FDM_e w0 fd)) rfl rfl (Nat.le_of_ble_eq_true rfl) (by decide) rfl rfl rfl ⟨Nat.le_of_ble_eq_true rfl, Nat.le_of_ble_eq_true rfl⟩ ⟨rfl, rfl⟩ dX12_jumps_2 rfl (fun r1 σ1 h1 => ?_)
  obtain ⟨u1, h1⟩ := h1
  have w1 := WM_trans w0 u1
  have fp := h1
  have wf := w1
  refine go_istore_n (i := 2) (pc' := 6) dX12_jumps_5 rfl rfl (by decide) ?_
  refine go_iload_n (i := 2) (pc' := 7) dX12_jumps_6 rfl rfl rfl ?_
  refine gz_if_eq (tgt := 12) (pc' := 10) dX12_jumps_7 rfl (by decide) (fun c2 => ?_) (fun c2 => ?_)
  · obtain ⟨ok, f0⟩ : OKS a (σ.1 20) ∧ FND2 σ a σ1 := by
      rcases fp with ⟨e, n⟩ | ⟨ok, ⟨e, n⟩ | ⟨e, n⟩⟩
      · exfalso
        have z := congrArg Int32.toInt e
        rw [nm2] at z
        omega
      · exfalso
        have z := congrArg Int32.toInt e
        rw [nm1] at z
        omega
      · exact ⟨ok, n⟩
    refine go_aload_n (i := 0) (pc' := 13) dX12_jumps_12 rfl rfl rfl ?_
    refine go_cvi (pc' := 16) lk_X12_292 (c_X12_leastOf _ _ _ w1.1) rfl rfl (Nat.le_of_ble_eq_true rfl) (by decide) rfl rfl rfl ⟨Nat.le_of_ble_eq_true rfl, Nat.le_of_ble_eq_true rfl⟩ ⟨rfl, rfl⟩ dX12_jumps_13 rfl (fun r3 σ3 h3 => ?_)
    obtain ⟨e3, h3⟩ := h3
    have e3 := e3.symm
    subst e3
    have la := LST_ans ix fd w1.1 ok f0 h3
    refine go_istore_n (i := 3) (pc' := 17) dX12_jumps_16 rfl rfl (by decide) ?_
    refine go_iload_n (i := 3) (pc' := 18) dX12_jumps_17 rfl rfl rfl ?_
    refine go_ldcw (pc' := 21) dX12_jumps_18 rfl cst_X12_282 ?_
    refine gz_icmp_lt (tgt := 28) (pc' := 24) dX12_jumps_21 rfl (by decide) (fun c4 => ?_) (fun c4 => ?_)
    · refine go_iload_n (i := 3) (pc' := 29) dX12_jumps_28 rfl rfl rfl ?_
      exact go_iret dX12_jumps_29 rfl (⟨w1, Or.inr ⟨ok, Or.inr ⟨_, _, f0.1, by first | exact la.1 | (exfalso; have := la.2; omega)⟩⟩⟩)
    refine go_iconst (v := (-1)) (pc' := 25) dX12_jumps_24 rfl (by decide) ?_
    refine go_goto (tgt := 29) dX12_jumps_25 (by decide) ?_
    exact go_iret dX12_jumps_29 rfl (⟨w1, Or.inr ⟨ok, Or.inr ⟨_, _, f0.1, by first | exact la.1 | (exfalso; have := la.2; omega)⟩⟩⟩)
  refine go_iload_n (i := 2) (pc' := 11) dX12_jumps_10 rfl rfl rfl ?_
  exact go_iret dX12_jumps_11 rfl (by
      rcases fp with ⟨e, n⟩ | ⟨ok, ⟨e, n⟩ | ⟨e, n⟩⟩
      · exact ⟨w1, Or.inl ⟨n, e⟩⟩
      · exact ⟨w1, Or.inr ⟨ok, Or.inl ⟨n, e⟩⟩⟩
      · exfalso
        have z := congrArg Int32.toInt e
        rw [n0] at z
        omega)
set_option maxHeartbeats 4000000 in
set_option maxRecDepth 100000 in
theorem f_X12_order (l : Launch) (L : WL) (σ : ST) (a b : Int32) (ρ : Nat → Nat) (ix : IV σ) (im : IM σ) (fd : FDM σ) (hr : ORH σ a b ρ) : CtI l L yX12_order cX12_order 9 (some .int) rm_X12_order [.ref (L.2.1 13), .int a, .int b] σ (fun r σ2 => tM_order σ a b ρ r σ2) := by
  refine ctI_go (own := RX12) (by decide) rfl (Nat.le_of_ble_eq_true rfl) (fun F hF => ?_)
  subst hF
  have nm1 : (-1 : Int32).toInt = -1 := by decide
  have n0 : (0 : Int32).toInt = 0 := by decide
  have n1 : (1 : Int32).toInt = 1 := by decide
  have n8 : (8 : Int32).toInt = 8 := by decide
  have n100000000 : (100000000 : Int32).toInt = 100000000 := by decide
  have w0 : WM σ σ := WM_rfl ix
  have u19 := ixi_19 ix
  have u20 := ixi_20 ix
  have u21 := ixi_21 ix
  have u22 := ixi_22 ix
  have n0 : (0 : Int32).toInt = 0 := by decide
  have nm1 : (-1 : Int32).toInt = -1 := by decide
  have nm2 : (-2 : Int32).toInt = -2 := by decide
  refine go_aload_n (i := 0) (pc' := 1) dX12_order_0 rfl rfl rfl ?_
  refine go_iload_n (i := 1) (pc' := 2) dX12_order_1 rfl rfl rfl ?_
  refine go_cvi (pc' := 5) lk_X12_289 (f_X12_finds _ _ _ _ w0.1 (IM_q w0 im) (FDM_e w0 fd)) rfl rfl (Nat.le_of_ble_eq_true rfl) (by decide) rfl rfl rfl ⟨Nat.le_of_ble_eq_true rfl, Nat.le_of_ble_eq_true rfl⟩ ⟨rfl, rfl⟩ dX12_order_2 rfl (fun r1 σ1 h1 => ?_)
  obtain ⟨u1, h1⟩ := h1
  have w1 := WM_trans w0 u1
  have fp := h1
  have wf := w1
  refine go_istore_n (i := 3) (pc' := 6) dX12_order_5 rfl rfl (by decide) ?_
  refine go_iload_n (i := 3) (pc' := 7) dX12_order_6 rfl rfl rfl ?_
  refine gz_if_eq (tgt := 12) (pc' := 10) dX12_order_7 rfl (by decide) (fun c2 => ?_) (fun c2 => ?_)
  · obtain ⟨ok, f0⟩ : OKS a (σ.1 20) ∧ FND2 σ a σ1 := by
      rcases fp with ⟨e, n⟩ | ⟨ok, ⟨e, n⟩ | ⟨e, n⟩⟩
      · exfalso
        have z := congrArg Int32.toInt e
        rw [nm2] at z
        omega
      · exfalso
        have z := congrArg Int32.toInt e
        rw [nm1] at z
        omega
      · exact ⟨ok, n⟩
    have u30 := ixi_30 w1.1
    have cm := cnat (x := σ1.1 30) (by omega)
    have ba := bit_all u30
    have m8 := FND_m ok f0
    have em := f0.2.2.1
    refine go_iload_n (i := 2) (pc' := 13) dX12_order_12 rfl rfl rfl ?_
    refine go_aload_n (i := 0) (pc' := 14) dX12_order_13 rfl rfl rfl ?_
    refine gf_13_many (pc' := 17) dX12_order_14 rfl fl_X12_272 ?_
    have g3 := ixi_30 w1.1
    refine go_csi (pc' := 20) ls_X12_135 (c_X12_isIn _ _ _ _ _) rfl rfl (Nat.le_of_ble_eq_true rfl) ⟨Nat.le_of_ble_eq_true rfl, Nat.le_of_ble_eq_true rfl⟩ ⟨rfl, rfl⟩ dX12_order_17 rfl (fun r4 σ4 h4 => ?_)
    obtain ⟨e4, h4⟩ := h4
    have e4 := e4.symm
    subst e4
    refine go_eqB (tgt := 33) (pc' := 23) h4 dX12_order_20 rfl (by decide) (fun c5 => ?_) (fun c5 => ?_)
    · refine go_iconst (v := (-1)) (pc' := 34) dX12_order_33 rfl (by decide) ?_
      exact go_iret dX12_order_34 rfl (⟨w1, Or.inr ⟨ok, by first | exact Or.inl ⟨by omega, rfl⟩ | (exfalso; have := la0.2; omega)⟩⟩)
    refine go_aload_n (i := 0) (pc' := 24) dX12_order_23 rfl rfl rfl ?_
    refine go_cvi (pc' := 27) lk_X12_292 (c_X12_leastOf _ _ _ w1.1) rfl rfl (Nat.le_of_ble_eq_true rfl) (by decide) rfl rfl rfl ⟨Nat.le_of_ble_eq_true rfl, Nat.le_of_ble_eq_true rfl⟩ ⟨rfl, rfl⟩ dX12_order_24 rfl (fun r6 σ6 h6 => ?_)
    obtain ⟨e6, h6⟩ := h6
    have e6 := e6.symm
    subst e6
    have la0 := LST_ans ix fd w1.1 ok f0 h6
    refine go_ldcw (pc' := 30) dX12_order_27 rfl cst_X12_282 ?_
    refine gz_icmp_lt (tgt := 35) (pc' := 33) dX12_order_30 rfl (by decide) (fun c7 => ?_) (fun c7 => ?_)
    · have cbb := cnat (x := b) (by omega)
      have hO : ORW (SB (a).toNatClampNeg) (lowM σ1) (BEF σ1) (σ1.1 30).toNatClampNeg ρ := by
        rw [em]
        exact ORW_cg (fun _ _ => rfl) (fun i j hi hj => (f0.2.1 i j (OKS_lt ok u20.1 hi) (OKS_lt ok u20.1 hj)).symm) (hr _ _ ok (by omega) f0.1)
      refine go_iconst (v := 0) (pc' := 36) dX12_order_35 rfl (by decide) ?_
      refine go_istore (pc' := 38) dX12_order_36 rfl (by decide) ?_
      refine go_iconst (v := (-1)) (pc' := 39) dX12_order_38 rfl (by decide) ?_
      refine go_istore (pc' := 41) dX12_order_39 rfl (by decide) ?_
      refine go_aload_n (i := 0) (pc' := 42) dX12_order_41 rfl rfl rfl ?_
      refine go_cvi (pc' := 45) lk_X12_292 (c_X12_leastOf _ _ _ w1.1) rfl rfl (Nat.le_of_ble_eq_true rfl) (by decide) rfl rfl rfl ⟨Nat.le_of_ble_eq_true rfl, Nat.le_of_ble_eq_true rfl⟩ ⟨rfl, rfl⟩ dX12_order_42 rfl (fun r8 σ8 h8 => ?_)
      obtain ⟨e8, h8⟩ := h8
      have e8 := e8.symm
      subst e8
      have ls := h8
      refine go_istore (pc' := 47) dX12_order_45 rfl (by decide) ?_
      refine go_iconst (v := 0) (pc' := 48) dX12_order_47 rfl (by decide) ?_
      refine go_istore (pc' := 50) dX12_order_48 rfl (by decide) ?_
      have loop50_9 : ∀ (dd9 : Nat) (x4_9 : Int32) (x5_9 : Int32) (x6_9 : Int32) (x7_9 : Int32), (0 ≤ (x7_9).toInt ∧ (x7_9).toInt ≤ (b).toInt + 1) → (0 ≤ (x4_9).toInt ∧ -1 ≤ (x5_9).toInt ∧ (x5_9).toInt < 8 ∧ (1 ≤ (x7_9).toInt → 0 ≤ (x5_9).toInt)) → (WLK (σ1.1 30).toNatClampNeg (FM σ1) ρ (fun i j => BEF σ1 (FM σ1 i) (FM σ1 j)) (TT σ1) (x4_9).toNatClampNeg (x7_9).toNatClampNeg (x5_9).toInt (x6_9).toInt) → ((b).toInt + 1 - (x7_9).toInt).toNat = dd9 → Go F L RX12 cX12_order 9 rm_X12_order (some .int) (RI F L (fun r σ2 => tM_order σ a b ρ r σ2)) σ1 50 [(0, .ref (L.2.1 13)), (1, .int a), (2, .int b), (3, .int r1), (4, .int x4_9), (5, .int x5_9), (6, .int x6_9), (7, .int x7_9)] [] := by
        intro dd9
        induction dd9 using Nat.strongRecOn with
        | _ dd9 ih9 =>
          intro x4_9 x5_9 x6_9 x7_9 h_9 hl_9 hW_9 hm_9
          refine go_iload (pc' := 52) dX12_order_50 rfl rfl ?_
          refine go_iload_n (i := 2) (pc' := 53) dX12_order_52 rfl rfl rfl ?_
          refine gz_icmp_gt (tgt := 156) (pc' := 56) dX12_order_53 rfl (by decide) (fun c10 => ?_) (fun c10 => ?_)
          · refine go_aload_n (i := 0) (pc' := 157) dX12_order_156 rfl rfl rfl ?_
            refine gf_13_some (pc' := 160) dX12_order_157 rfl fl_X12_123 ?_
            refine go_iload (pc' := 162) dX12_order_160 rfl rfl ?_
            refine go_iald (pc' := 163) dX12_order_162 rfl (by decide) (by decide) rfl (vin_of (n := 8) (by omega) (by omega)) ?_
            refine go_rngA (ixa_132 w1.1) (vinlt (vin_of (n := 8) (by omega) (by omega))) (fun g11 => ?_)
            exact go_iret dX12_order_163 rfl (⟨w1, Or.inr ⟨ok, Or.inr ⟨by omega, Or.inr ⟨⟨_, f0.1.1⟩, by
                  have c7 := cnat (x := x7_9) (by omega)
                  rcases hW_9.2.2 with ⟨c1, -⟩ | ⟨c1, c2, c3, c4, c5⟩
                  · exfalso
                    omega
                  · have z : FM σ1 (x5_9).toInt.toNat = ρ (b).toNatClampNeg := by
                      rw [c4, show (x7_9).toNatClampNeg - 1 = (b).toNatClampNeg from by omega]
                    have g := ixa_132 w1.1 (x5_9).toNatClampNeg (by have y := cnat (x := x5_9) (by omega); omega)
                    have y := cnat g.1
                    rw [← z]
                    exact y.symm⟩⟩⟩⟩)
          have c5 : (x5_9).toInt < 0 ∨ ((x5_9).toNatClampNeg : Int) = (x5_9).toInt := by
            by_cases z : (x5_9).toInt < 0
            · exact Or.inl z
            · exact Or.inr (cnat (by omega))
          have cP := cnat (x := x4_9) (by omega)
          have c7 := cnat (x := x7_9) (by omega)
          have hW := hW_9
          obtain ⟨k0, f1, e2, e4⟩ := WLK_next m8 f0.2.2.2.1 hO f0.2.2.2.2 (FND_days ix ok f0) (FND_B ix fd ok f0) hW (by omega)
          have k0m := e2.1
          have e3 : (if (x5_9).toInt < 0 then 0 else JMP σ1 (x5_9).toInt.toNat k0) + (σ1.2 133 (8 * ((x4_9).toNatClampNeg ||| (1 <<< k0)) + k0)).toInt = (x6_9).toInt := by
            rw [JMP_d]
            exact e2.2.2
          have e5 : MAY σ1 (σ1.1 30).toNatClampNeg (x4_9).toNatClampNeg k0 := e2.2.1
          have P256 : (x4_9).toInt < 256 := by
            have z := hW.1
            have z2 := two_pow8 m8
            omega
          refine go_iconst (v := 0) (pc' := 57) dX12_order_56 rfl (by decide) ?_
          refine go_istore (pc' := 59) dX12_order_57 rfl (by decide) ?_
          have loop59_12 : ∀ (dd12 : Nat) (x8_12 : Int32), (0 ≤ (x8_12).toInt ∧ (x8_12).toNatClampNeg ≤ k0) → (9 - (x8_12).toInt).toNat = dd12 → Go F L RX12 cX12_order 9 rm_X12_order (some .int) (RI F L (fun r σ2 => tM_order σ a b ρ r σ2)) σ1 59 [(0, .ref (L.2.1 13)), (1, .int a), (2, .int b), (3, .int r1), (4, .int x4_9), (5, .int x5_9), (6, .int x6_9), (7, .int x7_9), (8, .int x8_12)] [] := by
            intro dd12
            induction dd12 using Nat.strongRecOn with
            | _ dd12 ih12 =>
              intro x8_12 h_12 hm_12
              have c8 := cnat (x := x8_12) (by omega)
              refine go_aload_n (i := 0) (pc' := 60) dX12_order_59 rfl rfl rfl ?_
              refine go_iload (pc' := 62) dX12_order_60 rfl rfl ?_
              refine go_iload (pc' := 64) dX12_order_62 rfl rfl ?_
              refine go_cvi (pc' := 67) lk_X12_283 (c_X12_may _ _ _ _ _ (by omega) (by omega) w1.1) rfl rfl (Nat.le_of_ble_eq_true rfl) (by decide) rfl rfl rfl ⟨Nat.le_of_ble_eq_true rfl, Nat.le_of_ble_eq_true rfl⟩ ⟨rfl, rfl⟩ dX12_order_64 rfl (fun r13 σ13 h13 => ?_)
              obtain ⟨e13, h13⟩ := h13
              have e13 := e13.symm
              subst e13
              refine go_eqB (tgt := 111) (pc' := 70) h13 dX12_order_67 rfl (by decide) (fun c14 => ?_) (fun c14 => ?_)
              · have lt : (x8_12).toNatClampNeg < k0 := by
                  have c8 := cnat (x := x8_12) (by omega)
                  by_cases z : (x8_12).toNatClampNeg = k0
                  · exfalso
                    rw [← z] at e5 e3
                    first
                    | exact c14 e5
                    | (rw [← ez] at e3; first | (rw [if_pos (by omega)] at e3; omega) | (rw [if_neg (by omega), show (x5_9).toInt.toNat = (x5_9).toNatClampNeg from rfl] at e3; omega))
                  · omega
                refine gz_iinc (c := 1) (pc' := 114) dX12_order_111 rfl rfl (by decide) (by decide) (by decide) (by omega) (fun v15 h15 e15 => ?_)
                refine go_goto (tgt := 59) dX12_order_114 (by decide) ?_
                exact go_lv (lv' := [(0, .ref (L.2.1 13)), (1, .int a), (2, .int b), (3, .int r1), (4, .int x4_9), (5, .int x5_9), (6, .int x6_9), (7, .int x7_9), (8, .int v15)]) rfl (ih12 _ (by omega)  v15 (by have c8 := cnat (x := x8_12) (by omega); have c9 := cnat (x := v15) (by omega); omega) rfl)
              have my := c14
              have c8 := cnat (x := x8_12) (by omega)
              have bp := bit_put (p := x4_9) (k := x8_12) (by omega) (by omega) my.1
              refine go_iload (pc' := 72) dX12_order_70 rfl rfl ?_
              refine gz_if_ge (tgt := 79) (pc' := 75) dX12_order_72 rfl (by decide) (fun c16 => ?_) (fun c16 => ?_)
              · refine go_aload_n (i := 0) (pc' := 80) dX12_order_79 rfl rfl rfl ?_
                refine go_iload (pc' := 82) dX12_order_80 rfl rfl ?_
                refine go_iload (pc' := 84) dX12_order_82 rfl rfl ?_
                refine go_cvi (pc' := 87) lk_X12_286 (c_X12_jump _ _ _ _ _ (by omega) (by omega) w1.1) rfl rfl (Nat.le_of_ble_eq_true rfl) (by decide) rfl rfl rfl ⟨Nat.le_of_ble_eq_true rfl, Nat.le_of_ble_eq_true rfl⟩ ⟨rfl, rfl⟩ dX12_order_84 rfl (fun r17 σ17 h17 => ?_)
                obtain ⟨e17, h17⟩ := h17
                have e17 := e17.symm
                subst e17
                have jn := JMP_nn σ1 (x5_9).toNatClampNeg (x8_12).toNatClampNeg
                refine go_aload_n (i := 0) (pc' := 88) dX12_order_87 rfl rfl rfl ?_
                refine gf_13_jumps (pc' := 91) dX12_order_88 rfl fl_X12_126 ?_
                refine go_bipush (v := 8) (pc' := 93) dX12_order_91 rfl (by decide) ?_
                refine go_iload (pc' := 95) dX12_order_93 rfl rfl ?_
                refine go_iconst (v := 1) (pc' := 96) dX12_order_95 rfl (by decide) ?_
                refine go_iload (pc' := 98) dX12_order_96 rfl rfl ?_
                refine go_ishl (pc' := 99) dX12_order_98 rfl ?_
                refine go_ior (pc' := 100) dX12_order_99 rfl ?_
                refine gz_imulc (n := 8) (pc' := 101) dX12_order_100 rfl (by decide) (by omega) (fun v18 h18 e18 => ?_)
                refine go_iload (pc' := 103) dX12_order_101 rfl rfl ?_
                refine gz_iadd (pc' := 104) dX12_order_103 rfl (by omega) (fun v19 h19 e19 => ?_)
                have ez : (v19).toNatClampNeg = 8 * ((x4_9).toNatClampNeg ||| (1 <<< (x8_12).toNatClampNeg)) + (x8_12).toNatClampNeg := by have cz := cnat (x := v19) (by omega); omega
                refine go_iald (pc' := 105) dX12_order_104 rfl (by decide) (by decide) rfl (vin_of (n := 2048) (by omega) (by omega)) ?_
                refine go_rngA (ixa_133 w1.1) (vinlt (vin_of (n := 2048) (by omega) (by omega))) (fun g20 => ?_)
                refine gz_iadd (pc' := 106) dX12_order_105 rfl (by omega) (fun v21 h21 e21 => ?_)
                refine go_iload (pc' := 108) dX12_order_106 rfl rfl ?_
                refine gz_icmp_eq (tgt := 117) (pc' := 111) dX12_order_108 rfl (by decide) (fun c22 => ?_) (fun c22 => ?_)
                · have cnd : CND (σ1.1 30).toNatClampNeg (fun k => lowM σ1 (FM σ1 k)) (fun i j => BEF σ1 (FM σ1 i) (FM σ1 j)) (TT σ1) (x4_9).toNatClampNeg (x5_9).toInt (x6_9).toInt (x8_12).toNatClampNeg := ⟨by omega, my, by
                    show (if (x5_9).toInt < 0 then 0 else dJ (lM σ1 (x5_9).toInt.toNat) (lM σ1 (x8_12).toNatClampNeg)) + TT σ1 ((x4_9).toNatClampNeg ||| (1 <<< (x8_12).toNatClampNeg)) (x8_12).toNatClampNeg = (x6_9).toInt
                    rw [← JMP_d]
                    unfold TT
                    rw [← ez]
                    first
                    | (rw [if_pos (by omega)]; omega)
                    | (rw [if_neg (by omega), show (x5_9).toInt.toNat = (x5_9).toNatClampNeg from rfl]; omega)⟩
                  have ek : (x8_12).toNatClampNeg = k0 := by
                    have z := e4 _ cnd
                    omega
                  have fk : FM σ1 (x8_12).toNatClampNeg = ρ (x7_9).toNatClampNeg := by
                    rw [ek]
                    exact f1
                  have c6 : (σ1.2 133 (v19).toNatClampNeg).toInt ≤ (x6_9).toInt := by
                    have z := JMP_nn σ1 (x5_9).toNatClampNeg (x8_12).toNatClampNeg
                    omega
                  refine go_aload_n (i := 0) (pc' := 118) dX12_order_117 rfl rfl rfl ?_
                  refine gf_13_jumps (pc' := 121) dX12_order_118 rfl fl_X12_126 ?_
                  refine go_bipush (v := 8) (pc' := 123) dX12_order_121 rfl (by decide) ?_
                  refine go_iload (pc' := 125) dX12_order_123 rfl rfl ?_
                  refine go_iconst (v := 1) (pc' := 126) dX12_order_125 rfl (by decide) ?_
                  refine go_iload (pc' := 128) dX12_order_126 rfl rfl ?_
                  refine go_ishl (pc' := 129) dX12_order_128 rfl ?_
                  refine go_ior (pc' := 130) dX12_order_129 rfl ?_
                  refine gz_imulc (n := 8) (pc' := 131) dX12_order_130 rfl (by decide) (by omega) (fun v23 h23 e23 => ?_)
                  refine go_iload (pc' := 133) dX12_order_131 rfl rfl ?_
                  refine gz_iadd (pc' := 134) dX12_order_133 rfl (by omega) (fun v24 h24 e24 => ?_)
                  have ez2 : (v24).toNatClampNeg = 8 * ((x4_9).toNatClampNeg ||| (1 <<< (x8_12).toNatClampNeg)) + (x8_12).toNatClampNeg := by have cz := cnat (x := v24) (by omega); omega
                  refine go_iald (pc' := 135) dX12_order_134 rfl (by decide) (by decide) rfl (vin_of (n := 2048) (by omega) (by omega)) ?_
                  refine go_rngA (ixa_133 w1.1) (vinlt (vin_of (n := 2048) (by omega) (by omega))) (fun g25 => ?_)
                  have jj : ((σ1.2 133 (v24).toNatClampNeg)).toInt = (σ1.2 133 (v19).toNatClampNeg).toInt := by rw [ez2, ez]
                  refine go_topz (fun y26 h26 e26 => ?_)
                  refine go_istore (pc' := 137) dX12_order_135 rfl (by decide) ?_
                  refine go_iload (pc' := 139) dX12_order_137 rfl rfl ?_
                  refine go_iconst (v := 1) (pc' := 140) dX12_order_139 rfl (by decide) ?_
                  refine go_iload (pc' := 142) dX12_order_140 rfl rfl ?_
                  refine go_ishl (pc' := 143) dX12_order_142 rfl ?_
                  refine go_ior (pc' := 144) dX12_order_143 rfl ?_
                  refine go_topz (fun y27 h27 e27 => ?_)
                  refine go_istore (pc' := 146) dX12_order_144 rfl (by decide) ?_
                  refine go_iload (pc' := 148) dX12_order_146 rfl rfl ?_
                  refine go_istore (pc' := 150) dX12_order_148 rfl (by decide) ?_
                  refine gz_iinc (c := 1) (pc' := 153) dX12_order_150 rfl rfl (by decide) (by decide) (by decide) (by omega) (fun v28 h28 e28 => ?_)
                  refine go_goto (tgt := 50) dX12_order_153 (by decide) ?_
                  exact go_lv (lv' := [(0, .ref (L.2.1 13)), (1, .int a), (2, .int b), (3, .int r1), (4, .int y27), (5, .int x8_12), (6, .int y26), (7, .int v28)]) rfl (ih9 _ (by omega)  y27 x8_12 y26 v28 (by omega) (by omega) (by have cy := cnat (x := y27) (by omega); have c7v := cnat (x := v28) (by omega); rw [show (v28).toNatClampNeg = (x7_9).toNatClampNeg + 1 from by omega]; exact WLK_go m8 f0.2.2.2.1 hW (by omega) fk my.1 (by omega) (by omega) (by unfold TT; rw [← ez2]; omega)) rfl)
                have lt : (x8_12).toNatClampNeg < k0 := by
                  have c8 := cnat (x := x8_12) (by omega)
                  by_cases z : (x8_12).toNatClampNeg = k0
                  · exfalso
                    rw [← z] at e5 e3
                    first
                    | exact c22 e5
                    | (rw [← ez] at e3; first | (rw [if_pos (by omega)] at e3; omega) | (rw [if_neg (by omega), show (x5_9).toInt.toNat = (x5_9).toNatClampNeg from rfl] at e3; omega))
                  · omega
                refine gz_iinc (c := 1) (pc' := 114) dX12_order_111 rfl rfl (by decide) (by decide) (by decide) (by omega) (fun v29 h29 e29 => ?_)
                refine go_goto (tgt := 59) dX12_order_114 (by decide) ?_
                exact go_lv (lv' := [(0, .ref (L.2.1 13)), (1, .int a), (2, .int b), (3, .int r1), (4, .int x4_9), (5, .int x5_9), (6, .int x6_9), (7, .int x7_9), (8, .int v29)]) rfl (ih12 _ (by omega)  v29 (by have c8 := cnat (x := x8_12) (by omega); have c9 := cnat (x := v29) (by omega); omega) rfl)
              refine go_iconst (v := 0) (pc' := 76) dX12_order_75 rfl (by decide) ?_
              refine go_goto (tgt := 87) dX12_order_76 (by decide) ?_
              refine go_aload_n (i := 0) (pc' := 88) dX12_order_87 rfl rfl rfl ?_
              refine gf_13_jumps (pc' := 91) dX12_order_88 rfl fl_X12_126 ?_
              refine go_bipush (v := 8) (pc' := 93) dX12_order_91 rfl (by decide) ?_
              refine go_iload (pc' := 95) dX12_order_93 rfl rfl ?_
              refine go_iconst (v := 1) (pc' := 96) dX12_order_95 rfl (by decide) ?_
              refine go_iload (pc' := 98) dX12_order_96 rfl rfl ?_
              refine go_ishl (pc' := 99) dX12_order_98 rfl ?_
              refine go_ior (pc' := 100) dX12_order_99 rfl ?_
              refine gz_imulc (n := 8) (pc' := 101) dX12_order_100 rfl (by decide) (by omega) (fun v30 h30 e30 => ?_)
              refine go_iload (pc' := 103) dX12_order_101 rfl rfl ?_
              refine gz_iadd (pc' := 104) dX12_order_103 rfl (by omega) (fun v31 h31 e31 => ?_)
              have ez : (v31).toNatClampNeg = 8 * ((x4_9).toNatClampNeg ||| (1 <<< (x8_12).toNatClampNeg)) + (x8_12).toNatClampNeg := by have cz := cnat (x := v31) (by omega); omega
              refine go_iald (pc' := 105) dX12_order_104 rfl (by decide) (by decide) rfl (vin_of (n := 2048) (by omega) (by omega)) ?_
              refine go_rngA (ixa_133 w1.1) (vinlt (vin_of (n := 2048) (by omega) (by omega))) (fun g32 => ?_)
              refine gz_iadd (pc' := 106) dX12_order_105 rfl (by omega) (fun v33 h33 e33 => ?_)
              refine go_iload (pc' := 108) dX12_order_106 rfl rfl ?_
              refine gz_icmp_eq (tgt := 117) (pc' := 111) dX12_order_108 rfl (by decide) (fun c34 => ?_) (fun c34 => ?_)
              · have cnd : CND (σ1.1 30).toNatClampNeg (fun k => lowM σ1 (FM σ1 k)) (fun i j => BEF σ1 (FM σ1 i) (FM σ1 j)) (TT σ1) (x4_9).toNatClampNeg (x5_9).toInt (x6_9).toInt (x8_12).toNatClampNeg := ⟨by omega, my, by
                  show (if (x5_9).toInt < 0 then 0 else dJ (lM σ1 (x5_9).toInt.toNat) (lM σ1 (x8_12).toNatClampNeg)) + TT σ1 ((x4_9).toNatClampNeg ||| (1 <<< (x8_12).toNatClampNeg)) (x8_12).toNatClampNeg = (x6_9).toInt
                  rw [← JMP_d]
                  unfold TT
                  rw [← ez]
                  first
                  | (rw [if_pos (by omega)]; omega)
                  | (rw [if_neg (by omega), show (x5_9).toInt.toNat = (x5_9).toNatClampNeg from rfl]; omega)⟩
                have ek : (x8_12).toNatClampNeg = k0 := by
                  have z := e4 _ cnd
                  omega
                have fk : FM σ1 (x8_12).toNatClampNeg = ρ (x7_9).toNatClampNeg := by
                  rw [ek]
                  exact f1
                have c6 : (σ1.2 133 (v31).toNatClampNeg).toInt ≤ (x6_9).toInt := by
                  have z := JMP_nn σ1 (x5_9).toNatClampNeg (x8_12).toNatClampNeg
                  omega
                refine go_aload_n (i := 0) (pc' := 118) dX12_order_117 rfl rfl rfl ?_
                refine gf_13_jumps (pc' := 121) dX12_order_118 rfl fl_X12_126 ?_
                refine go_bipush (v := 8) (pc' := 123) dX12_order_121 rfl (by decide) ?_
                refine go_iload (pc' := 125) dX12_order_123 rfl rfl ?_
                refine go_iconst (v := 1) (pc' := 126) dX12_order_125 rfl (by decide) ?_
                refine go_iload (pc' := 128) dX12_order_126 rfl rfl ?_
                refine go_ishl (pc' := 129) dX12_order_128 rfl ?_
                refine go_ior (pc' := 130) dX12_order_129 rfl ?_
                refine gz_imulc (n := 8) (pc' := 131) dX12_order_130 rfl (by decide) (by omega) (fun v35 h35 e35 => ?_)
                refine go_iload (pc' := 133) dX12_order_131 rfl rfl ?_
                refine gz_iadd (pc' := 134) dX12_order_133 rfl (by omega) (fun v36 h36 e36 => ?_)
                have ez2 : (v36).toNatClampNeg = 8 * ((x4_9).toNatClampNeg ||| (1 <<< (x8_12).toNatClampNeg)) + (x8_12).toNatClampNeg := by have cz := cnat (x := v36) (by omega); omega
                refine go_iald (pc' := 135) dX12_order_134 rfl (by decide) (by decide) rfl (vin_of (n := 2048) (by omega) (by omega)) ?_
                refine go_rngA (ixa_133 w1.1) (vinlt (vin_of (n := 2048) (by omega) (by omega))) (fun g37 => ?_)
                have jj : ((σ1.2 133 (v36).toNatClampNeg)).toInt = (σ1.2 133 (v31).toNatClampNeg).toInt := by rw [ez2, ez]
                refine go_topz (fun y38 h38 e38 => ?_)
                refine go_istore (pc' := 137) dX12_order_135 rfl (by decide) ?_
                refine go_iload (pc' := 139) dX12_order_137 rfl rfl ?_
                refine go_iconst (v := 1) (pc' := 140) dX12_order_139 rfl (by decide) ?_
                refine go_iload (pc' := 142) dX12_order_140 rfl rfl ?_
                refine go_ishl (pc' := 143) dX12_order_142 rfl ?_
                refine go_ior (pc' := 144) dX12_order_143 rfl ?_
                refine go_topz (fun y39 h39 e39 => ?_)
                refine go_istore (pc' := 146) dX12_order_144 rfl (by decide) ?_
                refine go_iload (pc' := 148) dX12_order_146 rfl rfl ?_
                refine go_istore (pc' := 150) dX12_order_148 rfl (by decide) ?_
                refine gz_iinc (c := 1) (pc' := 153) dX12_order_150 rfl rfl (by decide) (by decide) (by decide) (by omega) (fun v40 h40 e40 => ?_)
                refine go_goto (tgt := 50) dX12_order_153 (by decide) ?_
                exact go_lv (lv' := [(0, .ref (L.2.1 13)), (1, .int a), (2, .int b), (3, .int r1), (4, .int y39), (5, .int x8_12), (6, .int y38), (7, .int v40)]) rfl (ih9 _ (by omega)  y39 x8_12 y38 v40 (by omega) (by omega) (by have cy := cnat (x := y39) (by omega); have c7v := cnat (x := v40) (by omega); rw [show (v40).toNatClampNeg = (x7_9).toNatClampNeg + 1 from by omega]; exact WLK_go m8 f0.2.2.2.1 hW (by omega) fk my.1 (by omega) (by omega) (by unfold TT; rw [← ez2]; omega)) rfl)
              have lt : (x8_12).toNatClampNeg < k0 := by
                have c8 := cnat (x := x8_12) (by omega)
                by_cases z : (x8_12).toNatClampNeg = k0
                · exfalso
                  rw [← z] at e5 e3
                  first
                  | exact c34 e5
                  | (rw [← ez] at e3; first | (rw [if_pos (by omega)] at e3; omega) | (rw [if_neg (by omega), show (x5_9).toInt.toNat = (x5_9).toNatClampNeg from rfl] at e3; omega))
                · omega
              refine gz_iinc (c := 1) (pc' := 114) dX12_order_111 rfl rfl (by decide) (by decide) (by decide) (by omega) (fun v41 h41 e41 => ?_)
              refine go_goto (tgt := 59) dX12_order_114 (by decide) ?_
              exact go_lv (lv' := [(0, .ref (L.2.1 13)), (1, .int a), (2, .int b), (3, .int r1), (4, .int x4_9), (5, .int x5_9), (6, .int x6_9), (7, .int x7_9), (8, .int v41)]) rfl (ih12 _ (by omega)  v41 (by have c8 := cnat (x := x8_12) (by omega); have c9 := cnat (x := v41) (by omega); omega) rfl)
          exact go_lv (lv' := [(0, .ref (L.2.1 13)), (1, .int a), (2, .int b), (3, .int r1), (4, .int x4_9), (5, .int x5_9), (6, .int x6_9), (7, .int x7_9), (8, .int (0 : Int32))]) rfl (loop59_12 _  (0 : Int32) (by have z0 : (0 : Int32).toNatClampNeg = 0 := (by decide); omega) rfl)
      exact go_lv (lv' := [(0, .ref (L.2.1 13)), (1, .int a), (2, .int b), (3, .int r1), (4, .int (0 : Int32)), (5, .int (-1 : Int32)), (6, .int r8), (7, .int (0 : Int32))]) rfl (loop50_9 _  (0 : Int32) (-1 : Int32) r8 (0 : Int32) (by omega) (by omega) (by have z0 : (0 : Int32).toNatClampNeg = 0 := (by decide); rw [z0, nm1]; exact ⟨Nat.two_pow_pos _, fun k _ => ⟨fun z => by rw [Nat.zero_testBit] at z; exact absurd z (by decide), fun z => by obtain ⟨p, hp, -⟩ := z; exact absurd hp (Nat.not_lt_zero _)⟩, Or.inl ⟨rfl, rfl, rfl, LSR_of ls (by omega)⟩⟩) rfl)
    refine go_iconst (v := (-1)) (pc' := 34) dX12_order_33 rfl (by decide) ?_
    exact go_iret dX12_order_34 rfl (⟨w1, Or.inr ⟨ok, by first | exact Or.inl ⟨by omega, rfl⟩ | (exfalso; have := la0.2; omega)⟩⟩)
  refine go_iload_n (i := 3) (pc' := 11) dX12_order_10 rfl rfl rfl ?_
  exact go_iret dX12_order_11 rfl (by
      rcases fp with ⟨e, n⟩ | ⟨ok, ⟨e, n⟩ | ⟨e, n⟩⟩
      · exact ⟨w1, Or.inl ⟨n, e⟩⟩
      · by_cases rg : 0 ≤ b.toInt ∧ b.toInt < (cntb (a).toNatClampNeg 12 : Int)
        · exact ⟨w1, Or.inr ⟨ok, Or.inr ⟨rg, Or.inl ⟨n, e⟩⟩⟩⟩
        · exact ⟨w1, Or.inr ⟨ok, Or.inl ⟨rg, e⟩⟩⟩
      · exfalso
        have z := congrArg Int32.toInt e
        rw [n0] at z
        omega)
theorem JMR_one {F : (Nat → Int) → Prop} {n : Int} {S : Nat → Prop} {r r2 : Int32} (hS : ∀ j : Nat, S j → (j : Int) < n) (h : JMR F n S r) (g : JMR F n S r2) : r = r2 := by
  rcases h with ⟨a, b⟩ | ⟨L, H, a, b⟩ <;> rcases g with ⟨c, d⟩ | ⟨L2, H2, c, d⟩
  · exact b.trans d.symm
  · exact absurd c.1 (a _)
  · exact absurd a.1 (c _)
  · exact Int32.toInt_inj.mp (JPA_one b (JPA_cg (fun j hj => (LG_one c a (hS j hj)).1) d))
theorem JMR_cg {F G : (Nat → Int) → Prop} {n : Int} {S : Nat → Prop} {r : Int32} (e : ∀ x : Nat → Int, F x ↔ G x) (h : JMR F n S r) : JMR G n S r := by
  rcases h with ⟨a, b⟩ | ⟨L, H, a, b⟩
  · exact Or.inl ⟨fun x q => a x ((e x).mpr q), b⟩
  · exact Or.inr ⟨L, H, LG_cg e a, b⟩
theorem t_jumps {σ σ1 σ2 : ST} {a r1 r2 : Int32} (h : INVD σ) (s : tX_jumps σ a r1 σ1) (m : tM_jumps σ1 a r2 σ2) : INVD σ2 ∧ r1 = r2 := by
  refine ⟨INVD_WM (INVD_WX h s.1) m.1, ?_⟩
  have u3 := ixi_3 h.1.1
  have z := m.2
  rw [s.1.2.1 20 (by decide), s.1.2.1 21 (by decide), ← h.1.2.2.2.2.1, ← h.1.2.2.2.2.2.1] at z
  rcases s.2 with ⟨c, y⟩ | ⟨c, y⟩ <;> rcases z with ⟨d, z⟩ | ⟨d, z⟩
  · exact y.trans z.symm
  · exact absurd d c
  · exact absurd c d
  · exact JMR_one (fun j hj => OKS_lt c u3.1 hj) y (JMR_cg (fun x => (FSM_x s.1 _ x).trans (FS_XM h _ x).symm) z)
theorem o_order {σ σ1 : ST} {a b r1 : Int32} (h : INVD σ) (s : tX_order σ a b r1 σ1) : ∃ ρ : Nat → Nat, (OKS a (σ.1 3) → (0 ≤ b.toInt ∧ b.toInt < (cntb (a).toNatClampNeg 12 : Int)) → ((∃ x : Nat → Int, (FSX σ (kpF (allS (σ.1 4)))) x) → r1.toInt = (ρ (b).toNatClampNeg : Int)) ∧ ((∀ x : Nat → Int, ¬ (FSX σ (kpF (allS (σ.1 4)))) x) → r1 = -1)) ∧ ORH σ1 a b ρ := by
  have u3 := ixi_3 h.1.1
  have ef : ∀ x : Nat → Int, FSM σ1 (kpF (allS (σ.1 4))) x ↔ (FSX σ (kpF (allS (σ.1 4)))) x := fun x => (FSM_x s.1 _ x).trans (FS_XM h _ x).symm
  unfold ORH rtM
  rw [EdM_x s.1, EdXM h, s.1.2.1 20 (by decide), s.1.2.1 21 (by decide), s.1.2.2 108 (by decide), ← h.1.2.2.2.2.1, ← h.1.2.2.2.2.2.1, ← h.1.2.2.2.2.2.2.2.2.2.2.1]
  rcases s.2 with ⟨c, y⟩ | ⟨c, ⟨d, y⟩ | ⟨d, ⟨n, y⟩ | ⟨L, H, ρ, lg, o, y⟩⟩⟩
  · exact ⟨id, fun ok => absurd ok c, fun L H ok => absurd ok c⟩
  · exact ⟨id, fun _ rg => absurd rg d, fun L H _ rg => absurd rg d⟩
  · exact ⟨id, fun _ _ => ⟨fun ⟨x, hx⟩ => absurd hx (n x), fun _ => y⟩, fun L H _ _ lg => absurd ((ef L).mp lg.1) (n L)⟩
  · refine ⟨ρ, fun _ _ => ⟨fun _ => y, fun no => absurd lg.1 (no L)⟩, fun L2 H2 _ _ lg2 => ?_⟩
    have one := fun (j : Nat) (hj : SB (a).toNatClampNeg j) => LG_one lg (LG_cg ef lg2) (OKS_lt c u3.1 hj)
    refine ORW_cg (fun j hj => (one j hj).1) (fun i j hi hj => ?_) o
    exact or_congr (by rw [(one i hi).2, (one j hj).1]) Iff.rfl
theorem t_order {σ σ1 σ2 : ST} {a b r1 r2 : Int32} {ρ : Nat → Nat} (h : INVD σ) (s : tX_order σ a b r1 σ1) (hp : OKS a (σ.1 3) → (0 ≤ b.toInt ∧ b.toInt < (cntb (a).toNatClampNeg 12 : Int)) → ((∃ x : Nat → Int, (FSX σ (kpF (allS (σ.1 4)))) x) → r1.toInt = (ρ (b).toNatClampNeg : Int)) ∧ ((∀ x : Nat → Int, ¬ (FSX σ (kpF (allS (σ.1 4)))) x) → r1 = -1)) (m : tM_order σ1 a b ρ r2 σ2) : INVD σ2 ∧ r1 = r2 := by
  refine ⟨INVD_WM (INVD_WX h s.1) m.1, ?_⟩
  have ef : ∀ x : Nat → Int, FSM σ1 (kpF (allS (σ.1 4))) x ↔ (FSX σ (kpF (allS (σ.1 4)))) x := fun x => (FSM_x s.1 _ x).trans (FS_XM h _ x).symm
  have z := m.2
  rw [s.1.2.1 20 (by decide), s.1.2.1 21 (by decide), ← h.1.2.2.2.2.1, ← h.1.2.2.2.2.2.1] at z
  rcases z with ⟨d, z⟩ | ⟨d, ⟨e, z⟩ | ⟨e, ⟨n, z⟩ | ⟨⟨x, hx⟩, z⟩⟩⟩
  · rcases s.2 with ⟨c, y⟩ | ⟨c, -⟩
    · exact y.trans z.symm
    · exact absurd c d
  · rcases s.2 with ⟨c, y⟩ | ⟨c, ⟨g, y⟩ | ⟨g, -⟩⟩
    · exact absurd d c
    · exact y.trans z.symm
    · exact absurd g e
  · rw [z]
    exact (hp d e).2 (fun x q => n x ((ef x).mpr q))
  · exact Int32.toInt_inj.mp (((hp d e).1 ⟨x, (ef x).mp hx⟩).trans z.symm)
