theorem all_step {P : Nat → Prop} {x v : Int32} (h : ∀ i : Nat, (i : Int) < x.toInt → P i) (e : v.toInt = x.toInt + 1) (h0 : 0 ≤ x.toInt) (hx : P x.toNatClampNeg) : ∀ i : Nat, (i : Int) < v.toInt → P i := fun i hi => by
  by_cases q : (i : Int) < x.toInt
  · exact h i q
  · have e2 : i = x.toNatClampNeg := by
      have : x.toNatClampNeg = x.toInt.toNat := rfl
      omega
    rw [e2]
    exact hx
theorem cnat {x : Int32} (h : 0 ≤ x.toInt) : (x.toNatClampNeg : Int) = x.toInt := by
  have : x.toNatClampNeg = x.toInt.toNat := rfl
  omega
theorem cnat_add {x y v : Int32} (e : v.toInt = x.toInt + y.toInt) (hx : 0 ≤ x.toInt) (hy : 0 ≤ y.toInt) : v.toNatClampNeg = x.toNatClampNeg + y.toNatClampNeg := by
  have h1 : v.toNatClampNeg = v.toInt.toNat := rfl
  have h2 : x.toNatClampNeg = x.toInt.toNat := rfl
  have h3 : y.toNatClampNeg = y.toInt.toNat := rfl
  omega
/-- the first of n rows with a in A and b in B, or -1 -/
def fndP (A B : Nat → Int32) (n : Int) (a b r : Int32) : Prop := (r.toInt = -1 ∧ ∀ i : Nat, (i : Int) < n → ¬ (A i = a ∧ B i = b)) ∨ (0 ≤ r.toInt ∧ r.toInt < n ∧ (A r.toNatClampNeg = a ∧ B r.toNatClampNeg = b) ∧ ∀ i : Nat, (i : Int) < r.toInt → ¬ (A i = a ∧ B i = b))
theorem fndP_rng {A B : Nat → Int32} {n : Int} {a b r : Int32} (h : fndP A B n a b r) : -1 ≤ r.toInt ∧ (r.toInt < n ∨ r.toInt = -1) := by
  rcases h with ⟨h1, -⟩ | ⟨h1, h2, -⟩ <;> omega
theorem fndP_one {A B A2 B2 : Nat → Int32} {n : Int} {a b r r2 : Int32} (h : fndP A B n a b r) (h2 : fndP A2 B2 n a b r2) (eA : ∀ i : Nat, (i : Int) < n → A i = A2 i) (eB : ∀ i : Nat, (i : Int) < n → B i = B2 i) : r = r2 := by
  rcases h with ⟨p1, p2⟩ | ⟨p1, p2, p3, p4⟩ <;> rcases h2 with ⟨q1, q2⟩ | ⟨q1, q2, q3, q4⟩
  · exact Int32.toInt_inj.mp (p1.trans q1.symm)
  · have e := cnat q1
    exact absurd (by rw [eA _ (by omega), eB _ (by omega)]; exact q3) (p2 r2.toNatClampNeg (by omega))
  · have e := cnat p1
    exact absurd (by rw [← eA _ (by omega), ← eB _ (by omega)]; exact p3) (q2 r.toNatClampNeg (by omega))
  · have e := cnat p1
    have e2 := cnat q1
    apply Int32.toInt_inj.mp
    rcases Int.lt_trichotomy r.toInt r2.toInt with g | g | g
    · exact absurd (by rw [← eA _ (by omega), ← eB _ (by omega)]; exact p3) (q4 r.toNatClampNeg (by omega))
    · exact g
    · exact absurd (by rw [eA _ (by omega), eB _ (by omega)]; exact q3) (p4 r2.toNatClampNeg (by omega))
def abvI (x : Int32) : Int32 := if x.toInt = 0 then -1 else if x.toInt = 5 then 2 else 0
theorem abvI_v {x : Int32} (h : 0 ≤ x.toInt ∧ x.toInt < 6) : abvF x.toNatClampNeg = .int (abvI x) := by
  have e := cnat h.1
  unfold abvI
  by_cases h0 : x.toInt = 0
  · rw [if_pos h0, show x.toNatClampNeg = 0 by omega]
    rfl
  · rw [if_neg h0]
    by_cases h5 : x.toInt = 5
    · rw [if_pos h5, show x.toNatClampNeg = 5 by omega]
      rfl
    · rw [if_neg h5]
      rcases (show x.toNatClampNeg = 1 ∨ x.toNatClampNeg = 2 ∨ x.toNatClampNeg = 3 ∨ x.toNatClampNeg = 4 by omega) with q | q | q | q <;> rw [q] <;> rfl
theorem abvI_i (x : Int32) : (abvI x).toInt = if x.toInt = 0 then -1 else if x.toInt = 5 then 2 else 0 := by
  unfold abvI
  split
  · decide
  · split <;> decide
/-- KIND k is t or stands under it -/
def UND (k t : Int) : Prop := k = t ∨ (k = 5 ∧ (t = 2 ∨ t = 0)) ∨ (1 ≤ k ∧ k ≤ 4 ∧ t = 0)
theorem UND_up {k t : Int} (hk : 0 ≤ k ∧ k < 6) (hn : k ≠ t) (ht : 0 ≤ t ∧ t < 6) : UND k t ↔ UND (if k = 0 then -1 else if k = 5 then 2 else 0) t := by
  unfold UND
  split
  · omega
  · split <;> omega
def depK (k : Int) : Int := if k < 0 then 0 else if k = 0 then 1 else if k = 5 then 3 else 2
theorem depK_up {k : Int} (hk : 0 ≤ k ∧ k < 6) : depK (if k = 0 then -1 else if k = 5 then 2 else 0) + 1 = depK k := by
  unfold depK
  split
  · split <;> omega
  · split <;> (repeat' split) <;> omega
theorem depK_pos {k : Int} (hk : 0 ≤ k ∧ k < 6) : 1 ≤ depK k ∧ depK k ≤ 3 := by
  unfold depK
  (repeat' split) <;> omega
/-- how many of the first n rows are lost and not found -/
def lostN (A B : Nat → Int32) : Nat → Int
  | 0 => 0
  | n + 1 => lostN A B n + if (A n).toInt = 4 ∧ (B n).toInt < 0 then 1 else 0
theorem lostN_rng (A B : Nat → Int32) (n : Nat) : 0 ≤ lostN A B n ∧ lostN A B n ≤ n := by
  induction n with
  | zero => exact ⟨Int.le_refl _, Int.le_refl _⟩
  | succ n ih =>
    unfold lostN
    split <;> omega
theorem lostN_step {A B : Nat → Int32} {x v a w : Int32} (e : v.toInt = x.toInt + 1) (h0 : 0 ≤ x.toInt) (ha : a.toInt = lostN A B x.toNatClampNeg) (hw : w.toInt = a.toInt + if (A x.toNatClampNeg).toInt = 4 ∧ (B x.toNatClampNeg).toInt < 0 then 1 else 0) : w.toInt = lostN A B v.toNatClampNeg := by
  have e1 : v.toNatClampNeg = x.toNatClampNeg + 1 := by
    have h1 : v.toNatClampNeg = v.toInt.toNat := rfl
    have h2 : x.toNatClampNeg = x.toInt.toNat := rfl
    omega
  rw [e1, hw, ha]
  rfl
theorem lostN_same {A B A2 B2 : Nat → Int32} {n : Nat} (h : ∀ i : Nat, i < n → A i = A2 i) (h2 : ∀ i : Nat, i < n → B i = B2 i) : lostN A B n = lostN A2 B2 n := by
  induction n with
  | zero => rfl
  | succ n ih =>
    unfold lostN
    rw [ih (fun i hi => h i (by omega)) (fun i hi => h2 i (by omega)), h n (by omega), h2 n (by omega)]
/-- the bytes that a lay brings: what it answers, and how many bytes the tape has then (z: the row's size, f: from, n: how many) -/
def layR (z f n : Int) : Nat → Int → Int → Int × Int
  | 0, _, s => (0, s)
  | k + 1, i, s => if n ≤ i then (s, s) else if ¬ (0 ≤ f + i ∧ f + i < z) then (-12, s) else if 160 ≤ s then (-4, s) else layR z f n k (i + 1) (s + 1)
theorem layR_end {z f n : Int} {k : Nat} {i s : Int} (hk : 0 < k) (h : n ≤ i) : layR z f n k i s = (s, s) := by
  obtain ⟨k, rfl⟩ : ∃ j, k = j + 1 := ⟨k - 1, by omega⟩
  exact if_pos h
theorem layR_out {z f n : Int} {k : Nat} {i s : Int} (hk : 0 < k) (h : i < n) (h2 : ¬ (0 ≤ f + i ∧ f + i < z)) : layR z f n k i s = (-12, s) := by
  obtain ⟨k, rfl⟩ : ∃ j, k = j + 1 := ⟨k - 1, by omega⟩
  exact (if_neg (by omega)).trans (if_pos h2)
theorem layR_full {z f n : Int} {k : Nat} {i s : Int} (hk : 0 < k) (h : i < n) (h2 : 0 ≤ f + i ∧ f + i < z) (h3 : 160 ≤ s) : layR z f n k i s = (-4, s) := by
  obtain ⟨k, rfl⟩ : ∃ j, k = j + 1 := ⟨k - 1, by omega⟩
  exact (if_neg (by omega)).trans ((if_neg (by omega)).trans (if_pos h3))
theorem layR_step {z f n : Int} {k k2 : Nat} {i s i2 s2 : Int} (hk : k = k2 + 1) (h : i < n) (h2 : 0 ≤ f + i ∧ f + i < z) (h3 : s < 160) (e1 : i2 = i + 1) (e2 : s2 = s + 1) : layR z f n k i s = layR z f n k2 i2 s2 := by
  subst hk
  subst e1
  subst e2
  exact (if_neg (by omega)).trans ((if_neg (by omega)).trans (if_neg (by omega)))
/-- only the tape has changed -/
abbrev sfI (i : Nat) : Prop := i = 6
abbrev sfA (k : Nat) : Prop := k = 43
def WXf (σ σ2 : ST) : Prop := IV σ2 ∧ Ag sfI sfA σ σ2
theorem WXf_rfl {σ : ST} (h : IV σ) : WXf σ σ := ⟨h, Ag_rfl σ⟩
theorem WXf_trans {σ σ2 σ3 : ST} (h : WXf σ σ2) (h2 : WXf σ2 σ3) : WXf σ σ3 := ⟨h2.1, Ag_trans h.2 h2.2⟩
/-- a TEXT may have changed: scratch, the faults, the tape, TEXTS and their sizes -/
abbrev stI (i : Nat) : Prop := i = 0 ∨ i = 1 ∨ i = 6 ∨ sxI i
abbrev stA (k : Nat) : Prop := k = 32 ∨ (56 ≤ k ∧ k < 68) ∨ sxA k
def WXt (σ σ2 : ST) : Prop := IV σ2 ∧ Ag stI stA σ σ2
theorem WXt_rfl {σ : ST} (h : IV σ) : WXt σ σ := ⟨h, Ag_rfl σ⟩
theorem WXt_trans {σ σ2 σ3 : ST} (h : WXt σ σ2) (h2 : WXt σ2 σ3) : WXt σ σ3 := ⟨h2.1, Ag_trans h.2 h2.2⟩
theorem WXt_of {σ σ2 : ST} (h : WX σ σ2) : WXt σ σ2 := ⟨h.1, ⟨fun i hi => h.2.1 i (fun q => hi (Or.inr (Or.inr (Or.inr q)))), fun k hk => h.2.2 k (fun q => hk (Or.inr (Or.inr q)))⟩⟩
theorem QT_text {n : Nat} (h : n < 12) : stA (56 + n) := Or.inr (Or.inl (by omega))
/-- a TRAY has changed -/
abbrev syI (_ : Nat) : Prop := False
abbrev syA (k : Nat) : Prop := k = 55 ∨ (92 ≤ k ∧ k < 96)
def WXy (σ σ2 : ST) : Prop := IV σ2 ∧ Ag syI syA σ σ2
theorem WXy_rfl {σ : ST} (h : IV σ) : WXy σ σ := ⟨h, Ag_rfl σ⟩
theorem WXy_trans {σ σ2 σ3 : ST} (h : WXy σ σ2) (h2 : WXy σ2 σ3) : WXy σ σ3 := ⟨h2.1, Ag_trans h.2 h2.2⟩
theorem QY_row {n : Nat} (h : n < 4) : syA (92 + n) := Or.inr (by omega)
def toldX (k b d : Int32) : Int32 := if d.toInt = 0 then k &&& ((1 <<< (b &&& 31)) ^^^ (-1)) else k ||| (1 <<< (b &&& 31))
def sX_acq (σ : ST) (a b d : Int32) (r : Int32) (σ2 : ST) : Prop := bq (toldX (σ.2 23 (a).toNatClampNeg) b d ≠ σ.2 23 (a).toNatClampNeg) r ∧ σ2 = setA σ 23 (a).toNatClampNeg (toldX (σ.2 23 (a).toNatClampNeg) b d)
def sX_knows (σ : ST) (a b d : Int32) (r : Int32) (σ2 : ST) : Prop := (((0 ≤ a.toInt ∧ a.toInt < (σ.1 2).toInt) ∧ (0 ≤ b.toInt ∧ b.toInt < (σ.1 2).toInt)) ∧ sX_acq σ a b d r σ2) ∨ (¬ ((0 ≤ a.toInt ∧ a.toInt < (σ.1 2).toInt) ∧ (0 ≤ b.toInt ∧ b.toInt < (σ.1 2).toInt)) ∧ r = -2 ∧ σ2 = σ)
def sX_put0 (σ : ST) (f a b p : Int32) (r : Int32) (σ2 : ST) : Prop := ((f.toInt ≠ -1) ∧ r = σ.1 5 ∧ σ2 = setA σ 40 (f).toNatClampNeg p) ∨ ((f.toInt = -1 ∧ 10 ≤ (σ.1 5).toInt) ∧ r = -4 ∧ σ2 = σ) ∨ ((f.toInt = -1 ∧ (σ.1 5).toInt < 10) ∧ r = σ.1 5 + 1 ∧ σ2 = setI (setA (setA (setA σ 41 (σ.1 5).toNatClampNeg a) 42 (σ.1 5).toNatClampNeg b) 40 (σ.1 5).toNatClampNeg p) 5 (σ.1 5 + 1))
def sX_put (σ : ST) (a b p : Int32) (r : Int32) (σ2 : ST) : Prop := ∃ f : Int32, fndP (σ.2 41) (σ.2 42) (σ.1 5).toInt a b f ∧ sX_put0 σ f a b p r σ2
def sX_hand (σ : ST) (a b p : Int32) (r : Int32) (σ2 : ST) : Prop := (((0 ≤ a.toInt ∧ a.toInt < (σ.1 3).toInt) ∧ (1 ≤ b.toInt ∧ b.toInt ≤ 99) ∧ (0 ≤ p.toInt ∧ p.toInt < (σ.1 2).toInt)) ∧ sX_put σ a b p r σ2) ∨ (¬ ((0 ≤ a.toInt ∧ a.toInt < (σ.1 3).toInt) ∧ (1 ≤ b.toInt ∧ b.toInt ≤ 99) ∧ (0 ≤ p.toInt ∧ p.toInt < (σ.1 2).toInt)) ∧ r = -2 ∧ σ2 = σ)
def sX_feed (σ : ST) (n r : Int32) (σ2 : ST) : Prop := (¬ (1 ≤ n.toInt ∧ n.toInt ≤ 8) ∧ r = -2 ∧ σ2 = σ) ∨ ((1 ≤ n.toInt ∧ n.toInt ≤ 8) ∧ 160 < (σ.1 6).toInt + n.toInt ∧ r = -4 ∧ σ2 = σ) ∨ ((1 ≤ n.toInt ∧ n.toInt ≤ 8) ∧ (σ.1 6).toInt + n.toInt ≤ 160 ∧ WXf σ σ2 ∧ (σ2.1 6).toInt = (σ.1 6).toInt + n.toInt ∧ r = σ2.1 6)
def sX_text (σ : ST) (a : Int32) (σ2 : ST) : Prop := (¬ (0 ≤ a.toInt ∧ a.toInt < (σ.1 3).toInt) ∧ σ2 = σ) ∨ ((0 ≤ a.toInt ∧ a.toInt < (σ.1 3).toInt) ∧ WXt σ σ2 ∧ σ2.1 6 = 0)
def sX_tray (σ : ST) (t n r : Int32) (σ2 : ST) : Prop := (¬ ((0 ≤ t.toInt ∧ t.toInt < 4) ∧ n.toInt ≤ 60) ∧ r = -2 ∧ σ2 = σ) ∨ (((0 ≤ t.toInt ∧ t.toInt < 4) ∧ n.toInt ≤ 60) ∧ n.toInt < -1 ∧ r = -14 ∧ σ2 = σ) ∨ (((0 ≤ t.toInt ∧ t.toInt < 4) ∧ n.toInt ≤ 60) ∧ -1 ≤ n.toInt ∧ r = 1 ∧ WXy σ σ2 ∧ σ2.2 55 = upd (σ.2 55) (t).toNatClampNeg n)
def sX_lay (σ : ST) (t f n r : Int32) (σ2 : ST) : Prop := (¬ ((0 ≤ t.toInt ∧ t.toInt < 4) ∧ 0 ≤ n.toInt) ∧ r = -2 ∧ σ2 = σ) ∨ (((0 ≤ t.toInt ∧ t.toInt < 4) ∧ 0 ≤ n.toInt) ∧ (σ.2 55 (t).toNatClampNeg).toInt = -1 ∧ r = -11 ∧ σ2 = σ) ∨ (((0 ≤ t.toInt ∧ t.toInt < 4) ∧ 0 ≤ n.toInt) ∧ (σ.2 55 (t).toNatClampNeg).toInt ≠ -1 ∧ WXf σ σ2 ∧ (r.toInt, (σ2.1 6).toInt) = layR (σ.2 55 (t).toNatClampNeg).toInt f.toInt n.toInt 100 0 (σ.1 6).toInt)
theorem depK_nn (k : Int) : 0 ≤ depK k := by
  unfold depK
  (repeat' split) <;> omega
/-- what taken answers (L: how many letters, K: their kinds, W: their writers) -/
def takP (L : Int) (K W : Nat → Int32) (a k r : Int32) : Prop := (¬ (0 ≤ k.toInt ∧ k.toInt < 6) ∧ r = -2) ∨ ((0 ≤ k.toInt ∧ k.toInt < 6) ∧ ¬ (0 ≤ a.toInt ∧ a.toInt < L) ∧ r = -11) ∨ ((0 ≤ k.toInt ∧ k.toInt < 6) ∧ (0 ≤ a.toInt ∧ a.toInt < L) ∧ UND (K (a).toNatClampNeg).toInt k.toInt ∧ r = W (a).toNatClampNeg) ∨ ((0 ≤ k.toInt ∧ k.toInt < 6) ∧ (0 ≤ a.toInt ∧ a.toInt < L) ∧ ¬ UND (K (a).toNatClampNeg).toInt k.toInt ∧ r = -13)
/-- what count answers -/
def cntP (p l b t h : Int32) (lost : Int) (x r : Int32) : Prop := (x = 0 ∧ r = p) ∨ (x = 1 ∧ r = l) ∨ (x = 2 ∧ r = b) ∨ (x = 3 ∧ r.toInt = lost) ∨ (x = 4 ∧ r = t) ∨ (x = 5 ∧ r = h) ∨ (¬ (0 ≤ x.toInt ∧ x.toInt ≤ 5) ∧ r = -2)
set_option maxHeartbeats 4000000 in
set_option maxRecDepth 100000 in
theorem e_X4_acquaint (l : Launch) (L : WL) (σ : ST) (a b d : Int32) (ha : 0 ≤ a.toInt ∧ a.toInt < 10) (ix : IV σ) : CtI l L yX4_acquaint cX4_acquaint 6 (some .boolean) rm_X4_acquaint [.ref (L.2.1 1), .int a, .int b, .int d] σ (fun r σ2 => sX_acq σ a b d r σ2) := by
  refine ctI_go (own := RX4) (by decide) rfl (Nat.le_of_ble_eq_true rfl) (fun F hF => ?_)
  subst hF
  have nm1 : (-1 : Int32).toInt = -1 := by decide
  have n0 : (0 : Int32).toInt = 0 := by decide
  have n1 : (1 : Int32).toInt = 1 := by decide
  have w0 : WX σ σ := WX_rfl ix
  refine go_iload_n (i := 3) (pc' := 1) dX4_acquaint_0 rfl rfl rfl ?_
  have mrg29_1 : ∀ (y0_1 : Int32), (y0_1 = toldX (σ.2 23 (a).toNatClampNeg) b d) → Go F L RX4 cX4_acquaint 6 rm_X4_acquaint (some .boolean) (RI F L (fun r σ2 => sX_acq σ a b d r σ2)) σ 29 [(0, .ref (L.2.1 1)), (1, .int a), (2, .int b), (3, .int d)] [.int y0_1] := by
    intro y0_1 ht_1
    refine go_istore (pc' := 31) dX4_acquaint_29 rfl (by decide) ?_
    refine go_iload (pc' := 33) dX4_acquaint_31 rfl rfl ?_
    refine go_aload_n (i := 0) (pc' := 34) dX4_acquaint_33 rfl rfl rfl ?_
    refine gf_1_known (pc' := 37) dX4_acquaint_34 rfl fl_X4_24 ?_
    refine go_iload_n (i := 1) (pc' := 38) dX4_acquaint_37 rfl rfl rfl ?_
    refine go_iald (pc' := 39) dX4_acquaint_38 rfl (by decide) (by decide) rfl (vin_of (n := 10) (by omega) (by omega)) ?_
    have mrg47_2 : ∀ (y0_2 : Int32), (bq (y0_1 ≠ σ.2 23 (a).toNatClampNeg) y0_2) → Go F L RX4 cX4_acquaint 6 rm_X4_acquaint (some .boolean) (RI F L (fun r σ2 => sX_acq σ a b d r σ2)) σ 47 [(0, .ref (L.2.1 1)), (1, .int a), (2, .int b), (3, .int d), (4, .int y0_1)] [.int y0_2] := by
      intro y0_2 hb_2
      refine go_istore (pc' := 49) dX4_acquaint_47 rfl (by decide) ?_
      refine go_aload_n (i := 0) (pc' := 50) dX4_acquaint_49 rfl rfl rfl ?_
      refine gf_1_known (pc' := 53) dX4_acquaint_50 rfl fl_X4_24 ?_
      refine go_iload_n (i := 1) (pc' := 54) dX4_acquaint_53 rfl rfl rfl ?_
      refine go_iload (pc' := 56) dX4_acquaint_54 rfl rfl ?_
      refine go_iast (pc' := 57) dX4_acquaint_56 rfl (by decide) (by decide) rfl (vin_of (n := 10) (by omega) (by omega)) ?_
      refine go_iload (pc' := 59) dX4_acquaint_57 rfl rfl ?_
      exact go_zret dX4_acquaint_59 rfl (bq_n (by assumption)) ((by subst_vars; exact ⟨by assumption, rfl⟩))
    refine gz_icmp_eq (tgt := 46) (pc' := 42) dX4_acquaint_39 rfl (by decide) (fun c3 => ?_) (fun c3 => ?_)
    · refine go_iconst (v := 0) (pc' := 47) dX4_acquaint_46 rfl (by decide) ?_
      exact go_lv (lv' := [(0, .ref (L.2.1 1)), (1, .int a), (2, .int b), (3, .int d), (4, .int y0_1)]) rfl (mrg47_2  (0 : Int32) (by first | exact bq_t (fun e => c3 (congrArg Int32.toInt e)) | exact bq_f (fun e => e (Int32.toInt_inj.mp c3))))
    refine go_iconst (v := 1) (pc' := 43) dX4_acquaint_42 rfl (by decide) ?_
    refine go_goto (tgt := 47) dX4_acquaint_43 (by decide) ?_
    exact go_lv (lv' := [(0, .ref (L.2.1 1)), (1, .int a), (2, .int b), (3, .int d), (4, .int y0_1)]) rfl (mrg47_2  (1 : Int32) (by first | exact bq_t (fun e => c3 (congrArg Int32.toInt e)) | exact bq_f (fun e => e (Int32.toInt_inj.mp c3))))
  refine gz_if_eq (tgt := 17) (pc' := 4) dX4_acquaint_1 rfl (by decide) (fun c4 => ?_) (fun c4 => ?_)
  · refine go_aload_n (i := 0) (pc' := 18) dX4_acquaint_17 rfl rfl rfl ?_
    refine gf_1_known (pc' := 21) dX4_acquaint_18 rfl fl_X4_24 ?_
    refine go_iload_n (i := 1) (pc' := 22) dX4_acquaint_21 rfl rfl rfl ?_
    refine go_iald (pc' := 23) dX4_acquaint_22 rfl (by decide) (by decide) rfl (vin_of (n := 10) (by omega) (by omega)) ?_
    refine go_iconst (v := 1) (pc' := 24) dX4_acquaint_23 rfl (by decide) ?_
    refine go_iload_n (i := 2) (pc' := 25) dX4_acquaint_24 rfl rfl rfl ?_
    refine go_ishl (pc' := 26) dX4_acquaint_25 rfl ?_
    refine go_iconst (v := (-1)) (pc' := 27) dX4_acquaint_26 rfl (by decide) ?_
    refine go_ixor (pc' := 28) dX4_acquaint_27 rfl ?_
    refine go_iand (pc' := 29) dX4_acquaint_28 rfl ?_
    exact go_lv (lv' := [(0, .ref (L.2.1 1)), (1, .int a), (2, .int b), (3, .int d)]) rfl (mrg29_1  ((σ.2 23 (a).toNatClampNeg) &&& (((1 : Int32) <<< (b &&& 31)) ^^^ (-1 : Int32))) (by unfold toldX; first | rw [if_pos (by assumption)] | rw [if_neg (by assumption)]))
  refine go_aload_n (i := 0) (pc' := 5) dX4_acquaint_4 rfl rfl rfl ?_
  refine gf_1_known (pc' := 8) dX4_acquaint_5 rfl fl_X4_24 ?_
  refine go_iload_n (i := 1) (pc' := 9) dX4_acquaint_8 rfl rfl rfl ?_
  refine go_iald (pc' := 10) dX4_acquaint_9 rfl (by decide) (by decide) rfl (vin_of (n := 10) (by omega) (by omega)) ?_
  refine go_iconst (v := 1) (pc' := 11) dX4_acquaint_10 rfl (by decide) ?_
  refine go_iload_n (i := 2) (pc' := 12) dX4_acquaint_11 rfl rfl rfl ?_
  refine go_ishl (pc' := 13) dX4_acquaint_12 rfl ?_
  refine go_ior (pc' := 14) dX4_acquaint_13 rfl ?_
  refine go_goto (tgt := 29) dX4_acquaint_14 (by decide) ?_
  exact go_lv (lv' := [(0, .ref (L.2.1 1)), (1, .int a), (2, .int b), (3, .int d)]) rfl (mrg29_1  ((σ.2 23 (a).toNatClampNeg) ||| ((1 : Int32) <<< (b &&& 31))) (by unfold toldX; first | rw [if_pos (by assumption)] | rw [if_neg (by assumption)]))
set_option maxHeartbeats 4000000 in
set_option maxRecDepth 100000 in
theorem e_X11_knows (l : Launch) (L : WL) (σ : ST) (a b d : Int32) (ix : IV σ) : CtI l L yX11_knows cX11_knows 4 (some .int) rm_X11_knows [.ref (L.2.1 0), .int a, .int b, .int d] σ (fun r σ2 => sX_knows σ a b d r σ2) := by
  refine ctI_go (own := RX11) (by decide) rfl (Nat.le_of_ble_eq_true rfl) (fun F hF => ?_)
  subst hF
  have nm2 : (-2 : Int32).toInt = -2 := by decide
  have n0 : (0 : Int32).toInt = 0 := by decide
  have n1 : (1 : Int32).toInt = 1 := by decide
  have w0 : WX σ σ := WX_rfl ix
  have gp := ixi_2 ix
  refine go_aload_n (i := 0) (pc' := 1) dX11_knows_0 rfl rfl rfl ?_
  refine gf_0_people (pc' := 4) dX11_knows_1 rfl fl_X11_10 ?_
  refine go_iload_n (i := 1) (pc' := 5) dX11_knows_4 rfl rfl rfl ?_
  refine go_cvi (pc' := 8) lk_X11_107 (c_X4_has _ _ _ _) rfl rfl (Nat.le_of_ble_eq_true rfl) (by decide) rfl rfl rfl ⟨Nat.le_of_ble_eq_true rfl, Nat.le_of_ble_eq_true rfl⟩ ⟨rfl, rfl⟩ dX11_knows_5 rfl (fun r1 σ1 h1 => ?_)
  obtain ⟨e1, h1⟩ := h1
  have e1 := e1.symm
  subst e1
  refine go_eqB (tgt := 22) (pc' := 11) h1 dX11_knows_8 rfl (by decide) (fun c2 => ?_) (fun c2 => ?_)
  · refine go_bipush (v := (-2)) (pc' := 24) dX11_knows_22 rfl (by decide) ?_
    exact go_iret dX11_knows_24 rfl (Or.inr ⟨by omega, rfl, rfl⟩)
  refine go_aload_n (i := 0) (pc' := 12) dX11_knows_11 rfl rfl rfl ?_
  refine gf_0_people (pc' := 15) dX11_knows_12 rfl fl_X11_10 ?_
  refine go_iload_n (i := 2) (pc' := 16) dX11_knows_15 rfl rfl rfl ?_
  refine go_cvi (pc' := 19) lk_X11_107 (c_X4_has _ _ _ _) rfl rfl (Nat.le_of_ble_eq_true rfl) (by decide) rfl rfl rfl ⟨Nat.le_of_ble_eq_true rfl, Nat.le_of_ble_eq_true rfl⟩ ⟨rfl, rfl⟩ dX11_knows_16 rfl (fun r3 σ3 h3 => ?_)
  obtain ⟨e3, h3⟩ := h3
  have e3 := e3.symm
  subst e3
  refine go_neB (tgt := 25) (pc' := 22) h3 dX11_knows_19 rfl (by decide) (fun c4 => ?_) (fun c4 => ?_)
  · refine go_aload_n (i := 0) (pc' := 26) dX11_knows_25 rfl rfl rfl ?_
    refine gf_0_people (pc' := 29) dX11_knows_26 rfl fl_X11_10 ?_
    refine go_iload_n (i := 1) (pc' := 30) dX11_knows_29 rfl rfl rfl ?_
    refine go_iload_n (i := 2) (pc' := 31) dX11_knows_30 rfl rfl rfl ?_
    refine go_iload_n (i := 3) (pc' := 32) dX11_knows_31 rfl rfl rfl ?_
    refine go_cvi (pc' := 35) lk_X11_120 (e_X4_acquaint _ _ _ _ _ _ (by omega) ix) rfl rfl (Nat.le_of_ble_eq_true rfl) (by decide) rfl rfl rfl ⟨Nat.le_of_ble_eq_true rfl, Nat.le_of_ble_eq_true rfl⟩ ⟨rfl, rfl⟩ dX11_knows_32 rfl (fun r5 σ5 h5 => ?_)
    refine go_eqB (tgt := 42) (pc' := 38) h5.1 dX11_knows_35 rfl (by decide) (fun c6 => ?_) (fun c6 => ?_)
    · refine go_iconst (v := 0) (pc' := 43) dX11_knows_42 rfl (by decide) ?_
      exact go_iret dX11_knows_43 rfl (Or.inl ⟨by omega, by first | exact bq_t c6 | exact bq_f c6, h5.2⟩)
    refine go_iconst (v := 1) (pc' := 39) dX11_knows_38 rfl (by decide) ?_
    refine go_goto (tgt := 43) dX11_knows_39 (by decide) ?_
    exact go_iret dX11_knows_43 rfl (Or.inl ⟨by omega, by first | exact bq_t c6 | exact bq_f c6, h5.2⟩)
  refine go_bipush (v := (-2)) (pc' := 24) dX11_knows_22 rfl (by decide) ?_
  exact go_iret dX11_knows_24 rfl (Or.inr ⟨by omega, rfl, rfl⟩)
set_option maxHeartbeats 4000000 in
set_option maxRecDepth 100000 in
theorem e_X1_find (l : Launch) (L : WL) (σ : ST) (a b : Int32) (ix : IV σ) : CtI l L yX1_find cX1_find 4 (some .int) rm_X1_find [.ref (L.2.1 5), .int a, .int b] σ (fun r σ2 => σ2 = σ ∧ fndP (σ.2 41) (σ.2 42) (σ.1 5).toInt a b r) := by
  refine ctI_go (own := RX1) (by decide) rfl (Nat.le_of_ble_eq_true rfl) (fun F hF => ?_)
  subst hF
  have nm1 : (-1 : Int32).toInt = -1 := by decide
  have n0 : (0 : Int32).toInt = 0 := by decide
  have w0 : WX σ σ := WX_rfl ix
  refine go_iconst (v := 0) (pc' := 1) dX1_find_0 rfl (by decide) ?_
  refine go_istore_n (i := 3) (pc' := 2) dX1_find_1 rfl rfl (by decide) ?_
  have loop2_1 : ∀ (dd1 : Nat) (x3_1 : Int32), (0 ≤ (x3_1).toInt ∧ (x3_1).toInt ≤ (σ.1 5).toInt) → (∀ i : Nat, (i : Int) < (x3_1).toInt → ¬ (σ.2 41 i = a ∧ σ.2 42 i = b)) → (10 - (x3_1).toInt).toNat = dd1 → Go F L RX1 cX1_find 4 rm_X1_find (some .int) (RI F L (fun r σ2 => σ2 = σ ∧ fndP (σ.2 41) (σ.2 42) (σ.1 5).toInt a b r)) σ 2 [(0, .ref (L.2.1 5)), (1, .int a), (2, .int b), (3, .int x3_1)] [] := by
    intro dd1
    induction dd1 using Nat.strongRecOn with
    | _ dd1 ih1 =>
      intro x3_1 h_1 hn_1 hm_1
      refine go_iload_n (i := 3) (pc' := 3) dX1_find_2 rfl rfl rfl ?_
      refine go_aload_n (i := 0) (pc' := 4) dX1_find_3 rfl rfl rfl ?_
      refine gf_5_size (pc' := 7) dX1_find_4 rfl fl_X1_15 ?_
      have g2 := ixi_5 w0.1
      refine gz_icmp_ge (tgt := 38) (pc' := 10) dX1_find_7 rfl (by decide) (fun c3 => ?_) (fun c3 => ?_)
      · refine go_iconst (v := (-1)) (pc' := 39) dX1_find_38 rfl (by decide) ?_
        exact go_iret dX1_find_39 rfl (⟨rfl, Or.inl ⟨by omega, fun i hi => hn_1 i (by omega)⟩⟩)
      refine go_aload_n (i := 0) (pc' := 11) dX1_find_10 rfl rfl rfl ?_
      refine gf_5_letters (pc' := 14) dX1_find_11 rfl fl_X1_19 ?_
      refine go_iload_n (i := 3) (pc' := 15) dX1_find_14 rfl rfl rfl ?_
      refine go_iald (pc' := 16) dX1_find_15 rfl (by decide) (by decide) rfl (vin_of (n := 10) (by omega) (by omega)) ?_
      refine go_iload_n (i := 1) (pc' := 17) dX1_find_16 rfl rfl rfl ?_
      refine gz_icmp_ne (tgt := 32) (pc' := 20) dX1_find_17 rfl (by decide) (fun c4 => ?_) (fun c4 => ?_)
      · refine gz_iinc (c := 1) (pc' := 35) dX1_find_32 rfl rfl (by decide) (by decide) (by decide) (by omega) (fun v5 h5 e5 => ?_)
        refine go_goto (tgt := 2) dX1_find_35 (by decide) ?_
        exact go_lv (lv' := [(0, .ref (L.2.1 5)), (1, .int a), (2, .int b), (3, .int v5)]) rfl (ih1 _ (by omega)  v5 (by omega) (all_step hn_1 (by omega) (by omega) (fun e => by first | exact c4 (congrArg Int32.toInt e.1) | exact c4 (congrArg Int32.toInt e.2))) rfl)
      refine go_aload_n (i := 0) (pc' := 21) dX1_find_20 rfl rfl rfl ?_
      refine gf_5_names (pc' := 24) dX1_find_21 rfl fl_X1_22 ?_
      refine go_iload_n (i := 3) (pc' := 25) dX1_find_24 rfl rfl rfl ?_
      refine go_iald (pc' := 26) dX1_find_25 rfl (by decide) (by decide) rfl (vin_of (n := 10) (by omega) (by omega)) ?_
      refine go_iload_n (i := 2) (pc' := 27) dX1_find_26 rfl rfl rfl ?_
      refine gz_icmp_ne (tgt := 32) (pc' := 30) dX1_find_27 rfl (by decide) (fun c6 => ?_) (fun c6 => ?_)
      · refine gz_iinc (c := 1) (pc' := 35) dX1_find_32 rfl rfl (by decide) (by decide) (by decide) (by omega) (fun v7 h7 e7 => ?_)
        refine go_goto (tgt := 2) dX1_find_35 (by decide) ?_
        exact go_lv (lv' := [(0, .ref (L.2.1 5)), (1, .int a), (2, .int b), (3, .int v7)]) rfl (ih1 _ (by omega)  v7 (by omega) (all_step hn_1 (by omega) (by omega) (fun e => by first | exact c6 (congrArg Int32.toInt e.1) | exact c6 (congrArg Int32.toInt e.2))) rfl)
      refine go_iload_n (i := 3) (pc' := 31) dX1_find_30 rfl rfl rfl ?_
      exact go_iret dX1_find_31 rfl (⟨rfl, Or.inr ⟨by omega, by omega, ⟨Int32.toInt_inj.mp (by assumption), Int32.toInt_inj.mp (by assumption)⟩, hn_1⟩⟩)
  exact go_lv (lv' := [(0, .ref (L.2.1 5)), (1, .int a), (2, .int b), (3, .int (0 : Int32))]) rfl (loop2_1 _  (0 : Int32) (by have := ixi_5 ix; omega) (fun i hi => by exfalso; omega) rfl)
set_option maxHeartbeats 4000000 in
set_option maxRecDepth 100000 in
theorem e_X1_put (l : Launch) (L : WL) (σ : ST) (a b p : Int32) (ix : IV σ) : CtI l L yX1_put cX1_put 5 (some .int) rm_X1_put [.ref (L.2.1 5), .int a, .int b, .int p] σ (fun r σ2 => sX_put σ a b p r σ2) := by
  refine ctI_go (own := RX1) (by decide) rfl (Nat.le_of_ble_eq_true rfl) (fun F hF => ?_)
  subst hF
  have nm4 : (-4 : Int32).toInt = -4 := by decide
  have nm1 : (-1 : Int32).toInt = -1 := by decide
  have n1 : (1 : Int32).toInt = 1 := by decide
  have n10 : (10 : Int32).toInt = 10 := by decide
  have w0 : WX σ σ := WX_rfl ix
  refine go_aload_n (i := 0) (pc' := 1) dX1_put_0 rfl rfl rfl ?_
  refine go_iload_n (i := 1) (pc' := 2) dX1_put_1 rfl rfl rfl ?_
  refine go_iload_n (i := 2) (pc' := 3) dX1_put_2 rfl rfl rfl ?_
  refine go_cvi (pc' := 6) lk_X1_25 (e_X1_find _ _ _ _ _ ix) rfl rfl (Nat.le_of_ble_eq_true rfl) (by decide) rfl rfl rfl ⟨Nat.le_of_ble_eq_true rfl, Nat.le_of_ble_eq_true rfl⟩ ⟨rfl, rfl⟩ dX1_put_3 rfl (fun r1 σ1 h1 => ?_)
  obtain ⟨e1, h1⟩ := h1
  have e1 := e1.symm
  subst e1
  have q1 := fndP_rng h1
  have u5 := ixi_5 ix
  refine go_istore (pc' := 8) dX1_put_6 rfl (by decide) ?_
  refine go_iload (pc' := 10) dX1_put_8 rfl rfl ?_
  refine go_iconst (v := (-1)) (pc' := 11) dX1_put_10 rfl (by decide) ?_
  refine gz_icmp_eq (tgt := 27) (pc' := 14) dX1_put_11 rfl (by decide) (fun c2 => ?_) (fun c2 => ?_)
  · refine go_aload_n (i := 0) (pc' := 28) dX1_put_27 rfl rfl rfl ?_
    refine gf_5_size (pc' := 31) dX1_put_28 rfl fl_X1_15 ?_
    have g3 := ixi_5 ix
    refine go_bipush (v := 10) (pc' := 33) dX1_put_31 rfl (by decide) ?_
    refine gz_icmp_lt (tgt := 39) (pc' := 36) dX1_put_33 rfl (by decide) (fun c4 => ?_) (fun c4 => ?_)
    · refine go_aload_n (i := 0) (pc' := 40) dX1_put_39 rfl rfl rfl ?_
      refine gf_5_letters (pc' := 43) dX1_put_40 rfl fl_X1_19 ?_
      refine go_aload_n (i := 0) (pc' := 44) dX1_put_43 rfl rfl rfl ?_
      refine gf_5_size (pc' := 47) dX1_put_44 rfl fl_X1_15 ?_
      have g5 := ixi_5 ix
      refine go_iload_n (i := 1) (pc' := 48) dX1_put_47 rfl rfl rfl ?_
      refine go_iast (pc' := 49) dX1_put_48 rfl (by decide) (by decide) rfl (vin_of (n := 10) (by omega) (by omega)) ?_
      refine go_aload_n (i := 0) (pc' := 50) dX1_put_49 rfl rfl rfl ?_
      refine gf_5_names (pc' := 53) dX1_put_50 rfl fl_X1_22 ?_
      refine go_aload_n (i := 0) (pc' := 54) dX1_put_53 rfl rfl rfl ?_
      refine gf_5_size (pc' := 57) dX1_put_54 rfl fl_X1_15 ?_
      refine go_topq (y := (σ.1 5)) rfl ?_
      have g6 := ixi_5 ix
      refine go_iload_n (i := 2) (pc' := 58) dX1_put_57 rfl rfl rfl ?_
      refine go_iast (pc' := 59) dX1_put_58 rfl (by decide) (by decide) rfl (vin_of (n := 10) (by omega) (by omega)) ?_
      refine go_aload_n (i := 0) (pc' := 60) dX1_put_59 rfl rfl rfl ?_
      refine gf_5_persons (pc' := 63) dX1_put_60 rfl fl_X1_11 ?_
      refine go_aload_n (i := 0) (pc' := 64) dX1_put_63 rfl rfl rfl ?_
      refine gf_5_size (pc' := 67) dX1_put_64 rfl fl_X1_15 ?_
      refine go_topq (y := (σ.1 5)) rfl ?_
      have g7 := ixi_5 ix
      refine go_iload_n (i := 3) (pc' := 68) dX1_put_67 rfl rfl rfl ?_
      refine go_iast (pc' := 69) dX1_put_68 rfl (by decide) (by decide) rfl (vin_of (n := 10) (by omega) (by omega)) ?_
      refine go_aload_n (i := 0) (pc' := 70) dX1_put_69 rfl rfl rfl ?_
      refine go_dup (pc' := 71) dX1_put_70 rfl rfl ?_
      refine gf_5_size (pc' := 74) dX1_put_71 rfl fl_X1_15 ?_
      refine go_topq (y := (σ.1 5)) rfl ?_
      have g8 := ixi_5 ix
      refine go_iconst (v := 1) (pc' := 75) dX1_put_74 rfl (by decide) ?_
      refine go_iadd (pc' := 76) dX1_put_75 rfl ?_
      refine pf_5_size (pc' := 79) dX1_put_76 rfl fl_X1_15 ?_
      refine go_aload_n (i := 0) (pc' := 80) dX1_put_79 rfl rfl rfl ?_
      refine gf_5_size (pc' := 83) dX1_put_80 rfl fl_X1_15 ?_
      refine go_topq (y := ((σ.1 5) + (1 : Int32))) rfl ?_
      exact go_iret dX1_put_83 rfl (⟨_, h1, Or.inr (Or.inr (⟨by omega, by first | rfl | omega | (exact Int32.add_sub_cancel _ _), rfl⟩))⟩)
    refine go_bipush (v := (-4)) (pc' := 38) dX1_put_36 rfl (by decide) ?_
    exact go_iret dX1_put_38 rfl (⟨_, h1, Or.inr (Or.inl ⟨by omega, by first | rfl | omega | (exact Int32.add_sub_cancel _ _), rfl⟩)⟩)
  refine go_aload_n (i := 0) (pc' := 15) dX1_put_14 rfl rfl rfl ?_
  refine gf_5_persons (pc' := 18) dX1_put_15 rfl fl_X1_11 ?_
  refine go_iload (pc' := 20) dX1_put_18 rfl rfl ?_
  refine go_iload_n (i := 3) (pc' := 21) dX1_put_20 rfl rfl rfl ?_
  refine go_iast (pc' := 22) dX1_put_21 rfl (by decide) (by decide) rfl (vin_of (n := 10) (by omega) (by omega)) ?_
  refine go_aload_n (i := 0) (pc' := 23) dX1_put_22 rfl rfl rfl ?_
  refine gf_5_size (pc' := 26) dX1_put_23 rfl fl_X1_15 ?_
  refine go_topq (y := (σ.1 5)) rfl ?_
  have g9 := ixi_5 ix
  exact go_iret dX1_put_26 rfl (⟨_, h1, Or.inl ⟨by omega, by first | rfl | omega | (exact Int32.add_sub_cancel _ _), rfl⟩⟩)
set_option maxHeartbeats 4000000 in
set_option maxRecDepth 100000 in
theorem e_X11_hand (l : Launch) (L : WL) (σ : ST) (a b p : Int32) (ix : IV σ) : CtI l L yX11_hand cX11_hand 4 (some .int) rm_X11_hand [.ref (L.2.1 0), .int a, .int b, .int p] σ (fun r σ2 => sX_hand σ a b p r σ2) := by
  refine ctI_go (own := RX11) (by decide) rfl (Nat.le_of_ble_eq_true rfl) (fun F hF => ?_)
  subst hF
  have nm2 : (-2 : Int32).toInt = -2 := by decide
  have w0 : WX σ σ := WX_rfl ix
  refine go_aload_n (i := 0) (pc' := 1) dX11_hand_0 rfl rfl rfl ?_
  refine gf_0_letters (pc' := 4) dX11_hand_1 rfl fl_X11_19 ?_
  refine go_iload_n (i := 1) (pc' := 5) dX11_hand_4 rfl rfl rfl ?_
  refine go_cvi (pc' := 8) lk_X11_130 (c_X2_has _ _ _ _) rfl rfl (Nat.le_of_ble_eq_true rfl) (by decide) rfl rfl rfl ⟨Nat.le_of_ble_eq_true rfl, Nat.le_of_ble_eq_true rfl⟩ ⟨rfl, rfl⟩ dX11_hand_5 rfl (fun r1 σ1 h1 => ?_)
  obtain ⟨e1, h1⟩ := h1
  have e1 := e1.symm
  subst e1
  refine go_eqB (tgt := 29) (pc' := 11) h1 dX11_hand_8 rfl (by decide) (fun c2 => ?_) (fun c2 => ?_)
  · refine go_bipush (v := (-2)) (pc' := 31) dX11_hand_29 rfl (by decide) ?_
    exact go_iret dX11_hand_31 rfl (Or.inr ⟨by omega, rfl, rfl⟩)
  refine go_iload_n (i := 2) (pc' := 12) dX11_hand_11 rfl rfl rfl ?_
  refine go_csi (pc' := 15) ls_X11_96 (c_X11_isName _ _ _ _) rfl rfl (Nat.le_of_ble_eq_true rfl) ⟨Nat.le_of_ble_eq_true rfl, Nat.le_of_ble_eq_true rfl⟩ ⟨rfl, rfl⟩ dX11_hand_12 rfl (fun r3 σ3 h3 => ?_)
  obtain ⟨e3, h3⟩ := h3
  have e3 := e3.symm
  subst e3
  refine go_eqB (tgt := 29) (pc' := 18) h3 dX11_hand_15 rfl (by decide) (fun c4 => ?_) (fun c4 => ?_)
  · refine go_bipush (v := (-2)) (pc' := 31) dX11_hand_29 rfl (by decide) ?_
    exact go_iret dX11_hand_31 rfl (Or.inr ⟨by omega, rfl, rfl⟩)
  refine go_aload_n (i := 0) (pc' := 19) dX11_hand_18 rfl rfl rfl ?_
  refine gf_0_people (pc' := 22) dX11_hand_19 rfl fl_X11_10 ?_
  refine go_iload_n (i := 3) (pc' := 23) dX11_hand_22 rfl rfl rfl ?_
  refine go_cvi (pc' := 26) lk_X11_107 (c_X4_has _ _ _ _) rfl rfl (Nat.le_of_ble_eq_true rfl) (by decide) rfl rfl rfl ⟨Nat.le_of_ble_eq_true rfl, Nat.le_of_ble_eq_true rfl⟩ ⟨rfl, rfl⟩ dX11_hand_23 rfl (fun r5 σ5 h5 => ?_)
  obtain ⟨e5, h5⟩ := h5
  have e5 := e5.symm
  subst e5
  refine go_neB (tgt := 32) (pc' := 29) h5 dX11_hand_26 rfl (by decide) (fun c6 => ?_) (fun c6 => ?_)
  · refine go_aload_n (i := 0) (pc' := 33) dX11_hand_32 rfl rfl rfl ?_
    refine gf_0_hands (pc' := 36) dX11_hand_33 rfl fl_X11_40 ?_
    refine go_iload_n (i := 1) (pc' := 37) dX11_hand_36 rfl rfl rfl ?_
    refine go_iload_n (i := 2) (pc' := 38) dX11_hand_37 rfl rfl rfl ?_
    refine go_iload_n (i := 3) (pc' := 39) dX11_hand_38 rfl rfl rfl ?_
    refine go_cvi (pc' := 42) lk_X11_231 (e_X1_put _ _ _ _ _ _ ix) rfl rfl (Nat.le_of_ble_eq_true rfl) (by decide) rfl rfl rfl ⟨Nat.le_of_ble_eq_true rfl, Nat.le_of_ble_eq_true rfl⟩ ⟨rfl, rfl⟩ dX11_hand_39 rfl (fun r7 σ7 h7 => ?_)
    exact go_iret dX11_hand_42 rfl (Or.inl ⟨by omega, h7⟩)
  refine go_bipush (v := (-2)) (pc' := 31) dX11_hand_29 rfl (by decide) ?_
  exact go_iret dX11_hand_31 rfl (Or.inr ⟨by omega, rfl, rfl⟩)
set_option maxHeartbeats 4000000 in
set_option maxRecDepth 100000 in
theorem e_X8_add (l : Launch) (L : WL) (σ : ST) (b : Int32) (hs : (σ.1 6).toInt < 160) (ix : IV σ) : CtV l L yX8_add cX8_add 2 none rm_X8_add [.ref (L.2.1 6), .int b] σ (fun σ2 => WXf σ σ2 ∧ (σ2.1 6).toInt = (σ.1 6).toInt + 1) := by
  refine ctV_go (own := RX8) (by decide) rfl (Nat.le_of_ble_eq_true rfl) (fun F hF => ?_)
  subst hF
  have n1 : (1 : Int32).toInt = 1 := by decide
  have n160 : (160 : Int32).toInt = 160 := by decide
  have w0 : WXf σ σ := WXf_rfl ix
  refine go_aload_n (i := 0) (pc' := 1) dX8_add_0 rfl rfl rfl ?_
  refine gf_6_size (pc' := 4) dX8_add_1 rfl fl_X8_15 ?_
  have g1 := ixi_6 w0.1
  refine go_sipush (v := 160) (pc' := 7) dX8_add_4 rfl (by decide) ?_
  refine gz_icmp_ge (tgt := 30) (pc' := 10) dX8_add_7 rfl (by decide) (fun c2 => ?_) (fun c2 => ?_)
  · exact go_vret dX8_add_30 rfl (⟨w0, by omega⟩)
  refine go_aload_n (i := 0) (pc' := 11) dX8_add_10 rfl rfl rfl ?_
  refine gf_6_bytes (pc' := 14) dX8_add_11 rfl fl_X8_9 ?_
  refine go_aload_n (i := 0) (pc' := 15) dX8_add_14 rfl rfl rfl ?_
  refine gf_6_size (pc' := 18) dX8_add_15 rfl fl_X8_15 ?_
  have g3 := ixi_6 w0.1
  refine go_iload_n (i := 1) (pc' := 19) dX8_add_18 rfl rfl rfl ?_
  refine go_bast (pc' := 20) dX8_add_19 rfl (by decide) (by decide) rfl (vin_of (n := 160) (by omega) (by omega)) ?_
  refine go_gen (P := fun s => WXf σ s ∧ s.1 6 = σ.1 6) ⟨⟨ixt_43 w0.1 (b8 _).1 (b8 _).2, Ag_setA w0.2 (by decide)⟩, rfl⟩ (fun σ4 z4 => ?_)
  obtain ⟨w4, g4⟩ := z4
  have q4 := congrArg Int32.toInt g4
  refine go_aload_n (i := 0) (pc' := 21) dX8_add_20 rfl rfl rfl ?_
  refine go_dup (pc' := 22) dX8_add_21 rfl rfl ?_
  refine gf_6_size (pc' := 25) dX8_add_22 rfl fl_X8_15 ?_
  have g5 := ixi_6 w4.1
  refine go_iconst (v := 1) (pc' := 26) dX8_add_25 rfl (by decide) ?_
  refine gz_iadd (pc' := 27) dX8_add_26 rfl (by omega) (fun v6 h6 e6 => ?_)
  refine pf_6_size (pc' := 30) dX8_add_27 rfl fl_X8_15 ?_
  refine go_gen (P := fun s => WXf σ s ∧ s.1 6 = v6) ⟨⟨ixs_6 w4.1 (by omega) (by omega), Ag_setI w4.2 (by decide)⟩, setI_same _ _ _⟩ (fun σ7 z7 => ?_)
  obtain ⟨w7, g7⟩ := z7
  have q7 := congrArg Int32.toInt g7
  exact go_vret dX8_add_30 rfl (⟨w7, by omega⟩)
set_option maxHeartbeats 4000000 in
set_option maxRecDepth 100000 in
theorem e_X11_feed (l : Launch) (L : WL) (σ : ST) (n : Int32) (b : Int64) (ix : IV σ) : CtI l L yX11_feed cX11_feed 5 (some .int) rm_X11_feed [.ref (L.2.1 0), .int n, .long b] σ (fun r σ2 => sX_feed σ n r σ2) := by
  refine ctI_go (own := RX11) (by decide) rfl (Nat.le_of_ble_eq_true rfl) (fun F hF => ?_)
  subst hF
  have nm4 : (-4 : Int32).toInt = -4 := by decide
  have nm2 : (-2 : Int32).toInt = -2 := by decide
  have n0 : (0 : Int32).toInt = 0 := by decide
  have n1 : (1 : Int32).toInt = 1 := by decide
  have n8 : (8 : Int32).toInt = 8 := by decide
  have n160 : (160 : Int32).toInt = 160 := by decide
  have w0 : WXf σ σ := WXf_rfl ix
  have u6 := ixi_6 ix
  refine go_iload_n (i := 1) (pc' := 1) dX11_feed_0 rfl rfl rfl ?_
  refine go_iconst (v := 1) (pc' := 2) dX11_feed_1 rfl (by decide) ?_
  refine gz_icmp_lt (tgt := 11) (pc' := 5) dX11_feed_2 rfl (by decide) (fun c1 => ?_) (fun c1 => ?_)
  · refine go_bipush (v := (-2)) (pc' := 13) dX11_feed_11 rfl (by decide) ?_
    exact go_iret dX11_feed_13 rfl (Or.inl ⟨by omega, rfl, rfl⟩)
  refine go_iload_n (i := 1) (pc' := 6) dX11_feed_5 rfl rfl rfl ?_
  refine go_bipush (v := 8) (pc' := 8) dX11_feed_6 rfl (by decide) ?_
  refine gz_icmp_le (tgt := 14) (pc' := 11) dX11_feed_8 rfl (by decide) (fun c2 => ?_) (fun c2 => ?_)
  · refine go_iload_n (i := 1) (pc' := 15) dX11_feed_14 rfl rfl rfl ?_
    refine go_sipush (v := 160) (pc' := 18) dX11_feed_15 rfl (by decide) ?_
    refine go_aload_n (i := 0) (pc' := 19) dX11_feed_18 rfl rfl rfl ?_
    refine gf_0_tape (pc' := 22) dX11_feed_19 rfl fl_X11_47 ?_
    refine gf_6_size (pc' := 25) dX11_feed_22 rfl fl_X11_234 ?_
    have g3 := ixi_6 w0.1
    refine gz_isub (pc' := 26) dX11_feed_25 rfl (by omega) (fun v4 h4 e4 => ?_)
    refine gz_icmp_le (tgt := 32) (pc' := 29) dX11_feed_26 rfl (by decide) (fun c5 => ?_) (fun c5 => ?_)
    · refine go_iconst (v := 0) (pc' := 33) dX11_feed_32 rfl (by decide) ?_
      refine go_istore (pc' := 35) dX11_feed_33 rfl (by decide) ?_
      have loop35_6 : ∀ (dd6 : Nat) (σ6 : ST) (x4_6 : Int32), WXf σ σ6 → (0 ≤ (x4_6).toInt ∧ (x4_6).toInt ≤ n.toInt) → ((σ6.1 6).toInt = (σ.1 6).toInt + (x4_6).toInt) → (8 - (x4_6).toInt).toNat = dd6 → Go F L RX11 cX11_feed 5 rm_X11_feed (some .int) (RI F L (fun r σ2 => sX_feed σ n r σ2)) σ6 35 [(0, .ref (L.2.1 0)), (1, .int n), (2, .long b), (4, .int x4_6)] [] := by
        intro dd6
        induction dd6 using Nat.strongRecOn with
        | _ dd6 ih6 =>
          intro σ6 x4_6 w6 h_6 hs_6 hm_6
          refine go_iload (pc' := 37) dX11_feed_35 rfl rfl ?_
          refine go_iload_n (i := 1) (pc' := 38) dX11_feed_37 rfl rfl rfl ?_
          refine gz_icmp_ge (tgt := 63) (pc' := 41) dX11_feed_38 rfl (by decide) (fun c7 => ?_) (fun c7 => ?_)
          · refine go_aload_n (i := 0) (pc' := 64) dX11_feed_63 rfl rfl rfl ?_
            refine gf_0_tape (pc' := 67) dX11_feed_64 rfl fl_X11_47 ?_
            refine gf_6_size (pc' := 70) dX11_feed_67 rfl fl_X11_234 ?_
            have g8 := ixi_6 w6.1
            exact go_iret dX11_feed_70 rfl (Or.inr (Or.inr ⟨by omega, by omega, w6, by omega, rfl⟩))
          refine go_aload_n (i := 0) (pc' := 42) dX11_feed_41 rfl rfl rfl ?_
          refine gf_0_tape (pc' := 45) dX11_feed_42 rfl fl_X11_47 ?_
          refine go_lload_n (i := 2) (pc' := 46) dX11_feed_45 rfl rfl rfl ?_
          refine go_bipush (v := 8) (pc' := 48) dX11_feed_46 rfl (by decide) ?_
          refine go_iload (pc' := 50) dX11_feed_48 rfl rfl ?_
          refine go_imul (pc' := 51) dX11_feed_50 rfl ?_
          refine go_lushr (pc' := 52) dX11_feed_51 rfl rfl ?_
          refine go_l2i (pc' := 53) dX11_feed_52 rfl ?_
          refine go_i2b (pc' := 54) dX11_feed_53 rfl ?_
          refine go_cvv (pc' := 57) lk_X11_235 (e_X8_add _ _ _ _ (by omega) w6.1) rfl rfl (Nat.le_of_ble_eq_true rfl) (by decide) rfl rfl rfl ⟨Nat.le_of_ble_eq_true rfl, Nat.le_of_ble_eq_true rfl⟩ ⟨rfl, rfl⟩ dX11_feed_54 rfl (fun σ9 h9 => ?_)
          obtain ⟨u9, h9⟩ := h9
          have w9 := WXf_trans w6 u9
          refine gz_iinc (c := 1) (pc' := 60) dX11_feed_57 rfl rfl (by decide) (by decide) (by decide) (by omega) (fun v10 h10 e10 => ?_)
          refine go_goto (tgt := 35) dX11_feed_60 (by decide) ?_
          exact go_lv (lv' := [(0, .ref (L.2.1 0)), (1, .int n), (2, .long b), (4, .int v10)]) rfl (ih6 _ (by omega) σ9 v10 w9 (by omega) (by omega) rfl)
      exact go_lv (lv' := [(0, .ref (L.2.1 0)), (1, .int n), (2, .long b), (4, .int (0 : Int32))]) rfl (loop35_6 _ σ (0 : Int32) w0 (by omega) (by omega) rfl)
    refine go_bipush (v := (-4)) (pc' := 31) dX11_feed_29 rfl (by decide) ?_
    exact go_iret dX11_feed_31 rfl (Or.inr (Or.inl ⟨by omega, by omega, rfl, rfl⟩))
  refine go_bipush (v := (-2)) (pc' := 13) dX11_feed_11 rfl (by decide) ?_
  exact go_iret dX11_feed_13 rfl (Or.inl ⟨by omega, rfl, rfl⟩)
set_option maxHeartbeats 4000000 in
set_option maxRecDepth 100000 in
theorem e_X2_write (l : Launch) (L : WL) (σ : ST) (a n : Int32) (ha : 0 ≤ a.toInt ∧ a.toInt < 12) (hn : 0 ≤ n.toInt ∧ n.toInt ≤ 160) (ix : IV σ) : CtV l L yX2_write cX2_write 5 none rm_X2_write [.ref (L.2.1 2), .int a, .ref (L.2.1 43), .int n] σ (fun σ2 => WXt σ σ2) := by
  refine ctV_go (own := RX2) (by decide) rfl (Nat.le_of_ble_eq_true rfl) (fun F hF => ?_)
  subst hF
  have n0 : (0 : Int32).toInt = 0 := by decide
  have n160 : (160 : Int32).toInt = 160 := by decide
  have w0 : WXt σ σ := WXt_rfl ix
  refine go_aload_n (i := 0) (pc' := 1) dX2_write_0 rfl rfl rfl ?_
  refine gf_2_sizes (pc' := 4) dX2_write_1 rfl fl_X2_36 ?_
  refine go_iload_n (i := 1) (pc' := 5) dX2_write_4 rfl rfl rfl ?_
  refine go_iload_n (i := 3) (pc' := 6) dX2_write_5 rfl rfl rfl ?_
  refine go_sipush (v := 160) (pc' := 9) dX2_write_6 rfl (by decide) ?_
  refine gz_min (pc' := 12) dX2_write_9 rfl ml_X2_58 (Nat.le_of_ble_eq_true rfl) (Nat.le_of_ble_eq_true rfl) (fun v1 h1 e1 => ?_)
  refine go_iast (pc' := 13) dX2_write_12 rfl (by decide) (by decide) rfl (vin_of (n := 12) (by omega) (by omega)) ?_
  refine go_gen (P := WXt σ) ⟨ixt_32 w0.1 (by omega) (by omega), Ag_setA w0.2 (by decide)⟩ (fun σ2 w2 => ?_)
  refine go_iconst (v := 0) (pc' := 14) dX2_write_13 rfl (by decide) ?_
  refine go_istore (pc' := 16) dX2_write_14 rfl (by decide) ?_
  have loop16_3 : ∀ (dd3 : Nat) (σ3 : ST) (x4_3 : Int32), WXt σ σ3 → (0 ≤ (x4_3).toInt ∧ (x4_3).toInt ≤ 160) → (160 - (x4_3).toInt).toNat = dd3 → Go F L RX2 cX2_write 5 rm_X2_write none (RV F L (fun σ2 => WXt σ σ2)) σ3 16 [(0, .ref (L.2.1 2)), (1, .int a), (2, .ref (L.2.1 43)), (3, .int n), (4, .int x4_3)] [] := by
    intro dd3
    induction dd3 using Nat.strongRecOn with
    | _ dd3 ih3 =>
      intro σ3 x4_3 w3 h_3 hm_3
      refine go_iload (pc' := 18) dX2_write_16 rfl rfl ?_
      refine go_aload_n (i := 0) (pc' := 19) dX2_write_18 rfl rfl rfl ?_
      refine gf_2_sizes (pc' := 22) dX2_write_19 rfl fl_X2_36 ?_
      refine go_iload_n (i := 1) (pc' := 23) dX2_write_22 rfl rfl rfl ?_
      refine go_iald (pc' := 24) dX2_write_23 rfl (by decide) (by decide) rfl (vin_of (n := 12) (by omega) (by omega)) ?_
      refine go_rngA (ixa_32 w3.1) (vinlt (vin_of (n := 12) (by omega) (by omega))) (fun g4 => ?_)
      refine gz_icmp_ge (tgt := 46) (pc' := 27) dX2_write_24 rfl (by decide) (fun c5 => ?_) (fun c5 => ?_)
      · exact go_vret dX2_write_46 rfl (w3)
      refine go_aload_n (i := 0) (pc' := 28) dX2_write_27 rfl rfl rfl ?_
      refine gf_2_texts (pc' := 31) dX2_write_28 rfl fl_X2_41 ?_
      refine go_iload_n (i := 1) (pc' := 32) dX2_write_31 rfl rfl rfl ?_
      have p6 : (a).toNatClampNeg < 12 := vinlt (vin_of (n := 12) (by omega) (by omega))
      refine go_aald (b := 56) (pc' := 33) dX2_write_32 rfl (by decide) (by decide) ⟨_, rfl⟩ (vin_of (n := 12) (by omega) (by omega)) rfl ?_
      refine go_iload (pc' := 35) dX2_write_33 rfl rfl ?_
      refine go_aload_n (i := 2) (pc' := 36) dX2_write_35 rfl rfl rfl ?_
      refine go_iload (pc' := 38) dX2_write_36 rfl rfl ?_
      refine go_bald (pc' := 39) dX2_write_38 rfl (by decide) (by decide) rfl (vin_of (n := 160) (by omega) (by omega)) ?_
      refine go_rngA (ixa_43 w3.1) (vinlt (vin_of (n := 160) (by omega) (by omega))) (fun g7 => ?_)
      refine go_bast (pc' := 40) dX2_write_39 rfl (by omega) (by omega) (rowt_56 p6) (by rw [rowl_56 p6]; exact (vin_of (n := 160) (by omega) (by omega))) ?_
      refine go_gen (P := WXt σ) ⟨ixu_56 w3.1 p6 (b8 _), Ag_setA w3.2 (QT_text p6)⟩ (fun σ8 w8 => ?_)
      refine gz_iinc (c := 1) (pc' := 43) dX2_write_40 rfl rfl (by decide) (by decide) (by decide) (by omega) (fun v9 h9 e9 => ?_)
      refine go_goto (tgt := 16) dX2_write_43 (by decide) ?_
      exact go_lv (lv' := [(0, .ref (L.2.1 2)), (1, .int a), (2, .ref (L.2.1 43)), (3, .int n), (4, .int v9)]) rfl (ih3 _ (by omega) σ8 v9 w8 (by omega) rfl)
  exact go_lv (lv' := [(0, .ref (L.2.1 2)), (1, .int a), (2, .ref (L.2.1 43)), (3, .int n), (4, .int (0 : Int32))]) rfl (loop16_3 _ σ2 (0 : Int32) w2 (by omega) rfl)
set_option maxHeartbeats 4000000 in
set_option maxRecDepth 100000 in
theorem e_X11_examineTape (l : Launch) (L : WL) (σ : ST)  (ix : IV σ) : CtV l L yX11_examineTape cX11_examineTape 3 none rm_X11_examineTape [.ref (L.2.1 0)] σ (fun σ2 => WXt σ σ2) := by
  refine ctV_go (own := RX11) (by decide) rfl (Nat.le_of_ble_eq_true rfl) (fun F hF => ?_)
  subst hF
  have nm1 : (-1 : Int32).toInt = -1 := by decide
  have n0 : (0 : Int32).toInt = 0 := by decide
  have n1 : (1 : Int32).toInt = 1 := by decide
  have n2 : (2 : Int32).toInt = 2 := by decide
  have n4 : (4 : Int32).toInt = 4 := by decide
  have n5 : (5 : Int32).toInt = 5 := by decide
  have n255 : (255 : Int32).toInt = 255 := by decide
  have w0 : WXt σ σ := WXt_rfl ix
  refine go_aload_n (i := 0) (pc' := 1) dX11_examineTape_0 rfl rfl rfl ?_
  refine go_iconst (v := 0) (pc' := 2) dX11_examineTape_1 rfl (by decide) ?_
  refine pf_0_faultKind (pc' := 5) dX11_examineTape_2 rfl fl_X11_89 ?_
  refine go_gen (P := WXt σ) ⟨ixs_n w0.1 (by decide), Ag_setI w0.2 (by decide)⟩ (fun σ1 w1 => ?_)
  refine go_aload_n (i := 0) (pc' := 6) dX11_examineTape_5 rfl rfl rfl ?_
  refine go_iconst (v := (-1)) (pc' := 7) dX11_examineTape_6 rfl (by decide) ?_
  refine pf_0_faultPlace (pc' := 10) dX11_examineTape_7 rfl fl_X11_93 ?_
  refine go_gen (P := WXt σ) ⟨ixs_n w1.1 (by decide), Ag_setI w1.2 (by decide)⟩ (fun σ2 w2 => ?_)
  refine go_aload_n (i := 0) (pc' := 11) dX11_examineTape_10 rfl rfl rfl ?_
  refine gf_0_reader (pc' := 14) dX11_examineTape_11 rfl fl_X11_54 ?_
  refine go_cvv (pc' := 17) lk_X11_271 (c_X3_begin _ _ _ w2.1) rfl rfl (Nat.le_of_ble_eq_true rfl) (by decide) rfl rfl rfl ⟨Nat.le_of_ble_eq_true rfl, Nat.le_of_ble_eq_true rfl⟩ ⟨rfl, rfl⟩ dX11_examineTape_14 rfl (fun σ3 h3 => ?_)
  have w3 := WXt_trans w2 (WXt_of h3)
  refine go_iconst (v := 0) (pc' := 18) dX11_examineTape_17 rfl (by decide) ?_
  refine go_istore_n (i := 1) (pc' := 19) dX11_examineTape_18 rfl rfl (by decide) ?_
  have loop19_4 : ∀ (dd4 : Nat) (σ4 : ST) (x1_4 : Int32), WXt σ σ4 → (0 ≤ (x1_4).toInt ∧ (x1_4).toInt ≤ 160) → (160 - (x1_4).toInt).toNat = dd4 → Go F L RX11 cX11_examineTape 3 rm_X11_examineTape none (RV F L (fun σ2 => WXt σ σ2)) σ4 19 [(0, .ref (L.2.1 0)), (1, .int x1_4)] [] := by
    intro dd4
    induction dd4 using Nat.strongRecOn with
    | _ dd4 ih4 =>
      intro σ4 x1_4 w4 h_4 hm_4
      refine go_iload_n (i := 1) (pc' := 20) dX11_examineTape_19 rfl rfl rfl ?_
      refine go_aload_n (i := 0) (pc' := 21) dX11_examineTape_20 rfl rfl rfl ?_
      refine gf_0_tape (pc' := 24) dX11_examineTape_21 rfl fl_X11_47 ?_
      refine gf_6_size (pc' := 27) dX11_examineTape_24 rfl fl_X11_234 ?_
      have g5 := ixi_6 w4.1
      refine gz_icmp_ge (tgt := 125) (pc' := 30) dX11_examineTape_27 rfl (by decide) (fun c6 => ?_) (fun c6 => ?_)
      · refine go_aload_n (i := 0) (pc' := 126) dX11_examineTape_125 rfl rfl rfl ?_
        refine gf_0_reader (pc' := 129) dX11_examineTape_126 rfl fl_X11_54 ?_
        refine go_cvi (pc' := 132) lk_X11_326 (c_X3_isWhole _ _ _ w4.1) rfl rfl (Nat.le_of_ble_eq_true rfl) (by decide) rfl rfl rfl ⟨Nat.le_of_ble_eq_true rfl, Nat.le_of_ble_eq_true rfl⟩ ⟨rfl, rfl⟩ dX11_examineTape_129 rfl (fun r7 σ7 h7 => ?_)
        have h7 := h7.symm
        subst h7
        refine gz_if_ne (tgt := 151) (pc' := 135) dX11_examineTape_132 rfl (by decide) (fun c8 => ?_) (fun c8 => ?_)
        · exact go_vret dX11_examineTape_151 rfl (w4)
        refine go_aload_n (i := 0) (pc' := 136) dX11_examineTape_135 rfl rfl rfl ?_
        refine go_iconst (v := 1) (pc' := 137) dX11_examineTape_136 rfl (by decide) ?_
        refine pf_0_faultKind (pc' := 140) dX11_examineTape_137 rfl fl_X11_89 ?_
        refine go_gen (P := WXt σ) ⟨ixs_n w4.1 (by decide), Ag_setI w4.2 (by decide)⟩ (fun σ9 w9 => ?_)
        refine go_aload_n (i := 0) (pc' := 141) dX11_examineTape_140 rfl rfl rfl ?_
        refine go_aload_n (i := 0) (pc' := 142) dX11_examineTape_141 rfl rfl rfl ?_
        refine gf_0_tape (pc' := 145) dX11_examineTape_142 rfl fl_X11_47 ?_
        refine gf_6_size (pc' := 148) dX11_examineTape_145 rfl fl_X11_234 ?_
        have g10 := ixi_6 w9.1
        refine pf_0_faultPlace (pc' := 151) dX11_examineTape_148 rfl fl_X11_93 ?_
        refine go_gen (P := WXt σ) ⟨ixs_n w9.1 (by decide), Ag_setI w9.2 (by decide)⟩ (fun σ11 w11 => ?_)
        exact go_vret dX11_examineTape_151 rfl (w11)
      refine go_aload_n (i := 0) (pc' := 31) dX11_examineTape_30 rfl rfl rfl ?_
      refine gf_0_reader (pc' := 34) dX11_examineTape_31 rfl fl_X11_54 ?_
      refine go_aload_n (i := 0) (pc' := 35) dX11_examineTape_34 rfl rfl rfl ?_
      refine gf_0_tape (pc' := 38) dX11_examineTape_35 rfl fl_X11_47 ?_
      refine gf_6_bytes (pc' := 41) dX11_examineTape_38 rfl fl_X11_241 ?_
      refine go_iload_n (i := 1) (pc' := 42) dX11_examineTape_41 rfl rfl rfl ?_
      refine go_bald (pc' := 43) dX11_examineTape_42 rfl (by decide) (by decide) rfl (vin_of (n := 160) (by omega) (by omega)) ?_
      refine go_rngA (ixa_43 w4.1) (vinlt (vin_of (n := 160) (by omega) (by omega))) (fun g12 => ?_)
      refine go_sipush (v := 255) (pc' := 46) dX11_examineTape_43 rfl (by decide) ?_
      refine go_iand (pc' := 47) dX11_examineTape_46 rfl ?_
      refine go_iload_n (i := 1) (pc' := 48) dX11_examineTape_47 rfl rfl rfl ?_
      refine go_cvi (pc' := 51) lk_X11_274 (c_X3_take _ _ _ _ _ w4.1) rfl rfl (Nat.le_of_ble_eq_true rfl) (by decide) rfl rfl rfl ⟨Nat.le_of_ble_eq_true rfl, Nat.le_of_ble_eq_true rfl⟩ ⟨rfl, rfl⟩ dX11_examineTape_48 rfl (fun r13 σ13 h13 => ?_)
      have w13 := WXt_trans w4 (WXt_of h13)
      refine go_istore_n (i := 2) (pc' := 52) dX11_examineTape_51 rfl rfl (by decide) ?_
      refine go_iload_n (i := 2) (pc' := 53) dX11_examineTape_52 rfl rfl rfl ?_
      refine go_iconst (v := 5) (pc' := 54) dX11_examineTape_53 rfl (by decide) ?_
      refine gz_icmp_ne (tgt := 74) (pc' := 57) dX11_examineTape_54 rfl (by decide) (fun c14 => ?_) (fun c14 => ?_)
      · refine go_iload_n (i := 2) (pc' := 75) dX11_examineTape_74 rfl rfl rfl ?_
        refine go_iconst (v := 4) (pc' := 76) dX11_examineTape_75 rfl (by decide) ?_
        refine gz_icmp_ne (tgt := 119) (pc' := 79) dX11_examineTape_76 rfl (by decide) (fun c15 => ?_) (fun c15 => ?_)
        · refine gz_iinc (c := 1) (pc' := 122) dX11_examineTape_119 rfl rfl (by decide) (by decide) (by decide) (by omega) (fun v16 h16 e16 => ?_)
          refine go_goto (tgt := 19) dX11_examineTape_122 (by decide) ?_
          exact go_lv (lv' := [(0, .ref (L.2.1 0)), (1, .int v16)]) rfl (ih4 _ (by omega) σ13 v16 w13 (by omega) rfl)
        refine go_aload_n (i := 0) (pc' := 80) dX11_examineTape_79 rfl rfl rfl ?_
        refine gf_0_faultKind (pc' := 83) dX11_examineTape_80 rfl fl_X11_89 ?_
        refine gz_if_ne (tgt := 119) (pc' := 86) dX11_examineTape_83 rfl (by decide) (fun c17 => ?_) (fun c17 => ?_)
        · refine gz_iinc (c := 1) (pc' := 122) dX11_examineTape_119 rfl rfl (by decide) (by decide) (by decide) (by omega) (fun v18 h18 e18 => ?_)
          refine go_goto (tgt := 19) dX11_examineTape_122 (by decide) ?_
          exact go_lv (lv' := [(0, .ref (L.2.1 0)), (1, .int v18)]) rfl (ih4 _ (by omega) σ13 v18 w13 (by omega) rfl)
        refine go_aload_n (i := 0) (pc' := 87) dX11_examineTape_86 rfl rfl rfl ?_
        refine gf_0_letters (pc' := 90) dX11_examineTape_87 rfl fl_X11_19 ?_
        refine go_aload_n (i := 0) (pc' := 91) dX11_examineTape_90 rfl rfl rfl ?_
        refine gf_0_reader (pc' := 94) dX11_examineTape_91 rfl fl_X11_54 ?_
        refine gf_7_number (pc' := 97) dX11_examineTape_94 rfl fl_X11_277 ?_
        refine go_cvi (pc' := 100) lk_X11_130 (c_X2_has _ _ _ _) rfl rfl (Nat.le_of_ble_eq_true rfl) (by decide) rfl rfl rfl ⟨Nat.le_of_ble_eq_true rfl, Nat.le_of_ble_eq_true rfl⟩ ⟨rfl, rfl⟩ dX11_examineTape_97 rfl (fun r19 σ19 h19 => ?_)
        obtain ⟨e19, h19⟩ := h19
        have e19 := e19.symm
        subst e19
        refine go_neB (tgt := 119) (pc' := 103) h19 dX11_examineTape_100 rfl (by decide) (fun c20 => ?_) (fun c20 => ?_)
        · refine gz_iinc (c := 1) (pc' := 122) dX11_examineTape_119 rfl rfl (by decide) (by decide) (by decide) (by omega) (fun v21 h21 e21 => ?_)
          refine go_goto (tgt := 19) dX11_examineTape_122 (by decide) ?_
          exact go_lv (lv' := [(0, .ref (L.2.1 0)), (1, .int v21)]) rfl (ih4 _ (by omega) σ13 v21 w13 (by omega) rfl)
        refine go_aload_n (i := 0) (pc' := 104) dX11_examineTape_103 rfl rfl rfl ?_
        refine go_iconst (v := 2) (pc' := 105) dX11_examineTape_104 rfl (by decide) ?_
        refine pf_0_faultKind (pc' := 108) dX11_examineTape_105 rfl fl_X11_89 ?_
        refine go_gen (P := WXt σ) ⟨ixs_n w13.1 (by decide), Ag_setI w13.2 (by decide)⟩ (fun σ22 w22 => ?_)
        refine go_aload_n (i := 0) (pc' := 109) dX11_examineTape_108 rfl rfl rfl ?_
        refine go_aload_n (i := 0) (pc' := 110) dX11_examineTape_109 rfl rfl rfl ?_
        refine gf_0_reader (pc' := 113) dX11_examineTape_110 rfl fl_X11_54 ?_
        refine gf_7_markAt (pc' := 116) dX11_examineTape_113 rfl fl_X11_323 ?_
        refine pf_0_faultPlace (pc' := 119) dX11_examineTape_116 rfl fl_X11_93 ?_
        refine go_gen (P := WXt σ) ⟨ixs_n w22.1 (by decide), Ag_setI w22.2 (by decide)⟩ (fun σ23 w23 => ?_)
        refine gz_iinc (c := 1) (pc' := 122) dX11_examineTape_119 rfl rfl (by decide) (by decide) (by decide) (by omega) (fun v24 h24 e24 => ?_)
        refine go_goto (tgt := 19) dX11_examineTape_122 (by decide) ?_
        exact go_lv (lv' := [(0, .ref (L.2.1 0)), (1, .int v24)]) rfl (ih4 _ (by omega) σ23 v24 w23 (by omega) rfl)
      refine go_aload_n (i := 0) (pc' := 58) dX11_examineTape_57 rfl rfl rfl ?_
      refine go_iconst (v := 1) (pc' := 59) dX11_examineTape_58 rfl (by decide) ?_
      refine pf_0_faultKind (pc' := 62) dX11_examineTape_59 rfl fl_X11_89 ?_
      refine go_gen (P := WXt σ) ⟨ixs_n w13.1 (by decide), Ag_setI w13.2 (by decide)⟩ (fun σ25 w25 => ?_)
      refine go_aload_n (i := 0) (pc' := 63) dX11_examineTape_62 rfl rfl rfl ?_
      refine go_aload_n (i := 0) (pc' := 64) dX11_examineTape_63 rfl rfl rfl ?_
      refine gf_0_reader (pc' := 67) dX11_examineTape_64 rfl fl_X11_54 ?_
      refine gf_7_wrongAt (pc' := 70) dX11_examineTape_67 rfl fl_X11_320 ?_
      refine pf_0_faultPlace (pc' := 73) dX11_examineTape_70 rfl fl_X11_93 ?_
      refine go_gen (P := WXt σ) ⟨ixs_n w25.1 (by decide), Ag_setI w25.2 (by decide)⟩ (fun σ26 w26 => ?_)
      exact go_vret dX11_examineTape_73 rfl (w26)
  exact go_lv (lv' := [(0, .ref (L.2.1 0)), (1, .int (0 : Int32))]) rfl (loop19_4 _ σ3 (0 : Int32) w3 (by omega) rfl)
set_option maxHeartbeats 4000000 in
set_option maxRecDepth 100000 in
theorem e_X11_text (l : Launch) (L : WL) (σ : ST) (a : Int32) (ix : IV σ) : CtI l L yX11_text cX11_text 3 (some .int) rm_X11_text [.ref (L.2.1 0), .int a] σ (fun _ σ2 => sX_text σ a σ2) := by
  refine ctI_go (own := RX11) (by decide) rfl (Nat.le_of_ble_eq_true rfl) (fun F hF => ?_)
  subst hF
  have nm20 : (-20 : Int32).toInt = -20 := by decide
  have nm2 : (-2 : Int32).toInt = -2 := by decide
  have n0 : (0 : Int32).toInt = 0 := by decide
  have w0 : WXt σ σ := WXt_rfl ix
  have u6 := ixi_6 ix
  have u3 := ixi_3 ix
  refine go_aload_n (i := 0) (pc' := 1) dX11_text_0 rfl rfl rfl ?_
  refine gf_0_letters (pc' := 4) dX11_text_1 rfl fl_X11_19 ?_
  refine go_iload_n (i := 1) (pc' := 5) dX11_text_4 rfl rfl rfl ?_
  refine go_cvi (pc' := 8) lk_X11_130 (c_X2_has _ _ _ _) rfl rfl (Nat.le_of_ble_eq_true rfl) (by decide) rfl rfl rfl ⟨Nat.le_of_ble_eq_true rfl, Nat.le_of_ble_eq_true rfl⟩ ⟨rfl, rfl⟩ dX11_text_5 rfl (fun r1 σ1 h1 => ?_)
  obtain ⟨e1, h1⟩ := h1
  have e1 := e1.symm
  subst e1
  refine go_neB (tgt := 14) (pc' := 11) h1 dX11_text_8 rfl (by decide) (fun c2 => ?_) (fun c2 => ?_)
  · refine go_aload_n (i := 0) (pc' := 15) dX11_text_14 rfl rfl rfl ?_
    refine gf_0_tape (pc' := 18) dX11_text_15 rfl fl_X11_47 ?_
    refine gf_6_size (pc' := 21) dX11_text_18 rfl fl_X11_234 ?_
    have g3 := ixi_6 w0.1
    refine go_topz (fun y4 h4 e4 => ?_)
    refine go_istore_n (i := 2) (pc' := 22) dX11_text_21 rfl rfl (by decide) ?_
    refine go_aload_n (i := 0) (pc' := 23) dX11_text_22 rfl rfl rfl ?_
    refine go_cvv (pc' := 26) lk_X11_238 (e_X11_examineTape _ _ _ w0.1) rfl rfl (Nat.le_of_ble_eq_true rfl) (by decide) rfl rfl rfl ⟨Nat.le_of_ble_eq_true rfl, Nat.le_of_ble_eq_true rfl⟩ ⟨rfl, rfl⟩ dX11_text_23 rfl (fun σ5 h5 => ?_)
    have w5 := WXt_trans w0 h5
    refine go_aload_n (i := 0) (pc' := 27) dX11_text_26 rfl rfl rfl ?_
    refine gf_0_faultKind (pc' := 30) dX11_text_27 rfl fl_X11_89 ?_
    refine gz_if_ne (tgt := 49) (pc' := 33) dX11_text_30 rfl (by decide) (fun c6 => ?_) (fun c6 => ?_)
    · refine go_aload_n (i := 0) (pc' := 50) dX11_text_49 rfl rfl rfl ?_
      refine gf_0_tape (pc' := 53) dX11_text_50 rfl fl_X11_47 ?_
      refine go_iconst (v := 0) (pc' := 54) dX11_text_53 rfl (by decide) ?_
      refine pf_6_size (pc' := 57) dX11_text_54 rfl fl_X11_234 ?_
      refine go_gen (P := fun s => WXt σ s ∧ s.1 6 = (0 : Int32)) ⟨⟨ixs_6 w5.1 (by omega) (by omega), Ag_setI w5.2 (by decide)⟩, setI_same _ _ _⟩ (fun σ7 z7 => ?_)
      obtain ⟨w7, g7⟩ := z7
      refine go_aload_n (i := 0) (pc' := 58) dX11_text_57 rfl rfl rfl ?_
      refine gf_0_faultKind (pc' := 61) dX11_text_58 rfl fl_X11_89 ?_
      refine gz_if_ne (tgt := 68) (pc' := 64) dX11_text_61 rfl (by decide) (fun c8 => ?_) (fun c8 => ?_)
      · refine go_bipush (v := (-20)) (pc' := 70) dX11_text_68 rfl (by decide) ?_
        refine go_aload_n (i := 0) (pc' := 71) dX11_text_70 rfl rfl rfl ?_
        refine gf_0_faultKind (pc' := 74) dX11_text_71 rfl fl_X11_89 ?_
        refine go_isub (pc' := 75) dX11_text_74 rfl ?_
        exact go_iret dX11_text_75 rfl (Or.inr ⟨by omega, w7, by assumption⟩)
      refine go_iload_n (i := 2) (pc' := 65) dX11_text_64 rfl rfl rfl ?_
      refine go_goto (tgt := 75) dX11_text_65 (by decide) ?_
      exact go_iret dX11_text_75 rfl (Or.inr ⟨by omega, w7, by assumption⟩)
    refine go_aload_n (i := 0) (pc' := 34) dX11_text_33 rfl rfl rfl ?_
    refine gf_0_letters (pc' := 37) dX11_text_34 rfl fl_X11_19 ?_
    refine go_iload_n (i := 1) (pc' := 38) dX11_text_37 rfl rfl rfl ?_
    refine go_aload_n (i := 0) (pc' := 39) dX11_text_38 rfl rfl rfl ?_
    refine gf_0_tape (pc' := 42) dX11_text_39 rfl fl_X11_47 ?_
    refine gf_6_bytes (pc' := 45) dX11_text_42 rfl fl_X11_241 ?_
    refine go_iload_n (i := 2) (pc' := 46) dX11_text_45 rfl rfl rfl ?_
    refine go_cvv (pc' := 49) lk_X11_245 (e_X2_write _ _ _ _ _ (by omega) (by omega) w5.1) rfl rfl (Nat.le_of_ble_eq_true rfl) (by decide) rfl rfl rfl ⟨Nat.le_of_ble_eq_true rfl, Nat.le_of_ble_eq_true rfl⟩ ⟨rfl, rfl⟩ dX11_text_46 rfl (fun σ9 h9 => ?_)
    have w9 := WXt_trans w5 h9
    refine go_aload_n (i := 0) (pc' := 50) dX11_text_49 rfl rfl rfl ?_
    refine gf_0_tape (pc' := 53) dX11_text_50 rfl fl_X11_47 ?_
    refine go_iconst (v := 0) (pc' := 54) dX11_text_53 rfl (by decide) ?_
    refine pf_6_size (pc' := 57) dX11_text_54 rfl fl_X11_234 ?_
    refine go_gen (P := fun s => WXt σ s ∧ s.1 6 = (0 : Int32)) ⟨⟨ixs_6 w9.1 (by omega) (by omega), Ag_setI w9.2 (by decide)⟩, setI_same _ _ _⟩ (fun σ10 z10 => ?_)
    obtain ⟨w10, g10⟩ := z10
    refine go_aload_n (i := 0) (pc' := 58) dX11_text_57 rfl rfl rfl ?_
    refine gf_0_faultKind (pc' := 61) dX11_text_58 rfl fl_X11_89 ?_
    refine gz_if_ne (tgt := 68) (pc' := 64) dX11_text_61 rfl (by decide) (fun c11 => ?_) (fun c11 => ?_)
    · refine go_bipush (v := (-20)) (pc' := 70) dX11_text_68 rfl (by decide) ?_
      refine go_aload_n (i := 0) (pc' := 71) dX11_text_70 rfl rfl rfl ?_
      refine gf_0_faultKind (pc' := 74) dX11_text_71 rfl fl_X11_89 ?_
      refine go_isub (pc' := 75) dX11_text_74 rfl ?_
      exact go_iret dX11_text_75 rfl (Or.inr ⟨by omega, w10, by assumption⟩)
    refine go_iload_n (i := 2) (pc' := 65) dX11_text_64 rfl rfl rfl ?_
    refine go_goto (tgt := 75) dX11_text_65 (by decide) ?_
    exact go_iret dX11_text_75 rfl (Or.inr ⟨by omega, w10, by assumption⟩)
  refine go_bipush (v := (-2)) (pc' := 13) dX11_text_11 rfl (by decide) ?_
  exact go_iret dX11_text_13 rfl (Or.inl ⟨by omega, rfl⟩)
set_option maxHeartbeats 4000000 in
set_option maxRecDepth 100000 in
theorem e_X9_empty (l : Launch) (L : WL) (σ : ST) (t n : Int32) (ht : 0 ≤ t.toInt ∧ t.toInt < 4) (hn : -1 ≤ n.toInt ∧ n.toInt ≤ 60) (ix : IV σ) : CtV l L yX9_empty cX9_empty 4 none rm_X9_empty [.ref (L.2.1 12), .int t, .int n] σ (fun σ2 => WXy σ σ2 ∧ σ2.2 55 = upd (σ.2 55) (t).toNatClampNeg n) := by
  refine ctV_go (own := RX9) (by decide) rfl (Nat.le_of_ble_eq_true rfl) (fun F hF => ?_)
  subst hF
  have n0 : (0 : Int32).toInt = 0 := by decide
  have n60 : (60 : Int32).toInt = 60 := by decide
  have w0 : WXy σ σ := WXy_rfl ix
  refine go_aload_n (i := 0) (pc' := 1) dX9_empty_0 rfl rfl rfl ?_
  refine gf_12_sizes (pc' := 4) dX9_empty_1 rfl fl_X9_16 ?_
  refine go_iload_n (i := 1) (pc' := 5) dX9_empty_4 rfl rfl rfl ?_
  refine go_iload_n (i := 2) (pc' := 6) dX9_empty_5 rfl rfl rfl ?_
  refine go_iast (pc' := 7) dX9_empty_6 rfl (by decide) (by decide) rfl (vin_of (n := 4) (by omega) (by omega)) ?_
  refine go_gen (P := fun s => WXy σ s ∧ s.2 55 = upd (σ.2 55) (t).toNatClampNeg n) ⟨⟨ixt_55 w0.1 (by omega) (by omega), Ag_setA w0.2 (by decide)⟩, setA_same _ _ _ _⟩ (fun σ1 z1 => ?_)
  obtain ⟨w1, g1⟩ := z1
  have hz := g1
  refine go_iconst (v := 0) (pc' := 8) dX9_empty_7 rfl (by decide) ?_
  refine go_istore_n (i := 3) (pc' := 9) dX9_empty_8 rfl rfl (by decide) ?_
  have loop9_2 : ∀ (dd2 : Nat) (σ2 : ST) (x3_2 : Int32), WXy σ σ2 → (0 ≤ (x3_2).toInt ∧ (x3_2).toInt ≤ 60) → (σ2.2 55 = upd (σ.2 55) (t).toNatClampNeg n) → (60 - (x3_2).toInt).toNat = dd2 → Go F L RX9 cX9_empty 4 rm_X9_empty none (RV F L (fun σ2 => WXy σ σ2 ∧ σ2.2 55 = upd (σ.2 55) (t).toNatClampNeg n)) σ2 9 [(0, .ref (L.2.1 12)), (1, .int t), (2, .int n), (3, .int x3_2)] [] := by
    intro dd2
    induction dd2 using Nat.strongRecOn with
    | _ dd2 ih2 =>
      intro σ2 x3_2 w2 h_2 hz_2 hm_2
      refine go_iload_n (i := 3) (pc' := 10) dX9_empty_9 rfl rfl rfl ?_
      refine go_bipush (v := 60) (pc' := 12) dX9_empty_10 rfl (by decide) ?_
      refine gz_icmp_ge (tgt := 30) (pc' := 15) dX9_empty_12 rfl (by decide) (fun c3 => ?_) (fun c3 => ?_)
      · exact go_vret dX9_empty_30 rfl (⟨w2, by assumption⟩)
      refine go_aload_n (i := 0) (pc' := 16) dX9_empty_15 rfl rfl rfl ?_
      refine gf_12_rows (pc' := 19) dX9_empty_16 rfl fl_X9_13 ?_
      refine go_iload_n (i := 1) (pc' := 20) dX9_empty_19 rfl rfl rfl ?_
      have p4 : (t).toNatClampNeg < 4 := vinlt (vin_of (n := 4) (by omega) (by omega))
      refine go_aald (b := 92) (pc' := 21) dX9_empty_20 rfl (by decide) (by decide) ⟨_, rfl⟩ (vin_of (n := 4) (by omega) (by omega)) rfl ?_
      refine go_iload_n (i := 3) (pc' := 22) dX9_empty_21 rfl rfl rfl ?_
      refine go_iconst (v := 0) (pc' := 23) dX9_empty_22 rfl (by decide) ?_
      refine go_bast (pc' := 24) dX9_empty_23 rfl (by omega) (by omega) (rowt_92 p4) (by rw [rowl_92 p4]; exact (vin_of (n := 60) (by omega) (by omega))) ?_
      refine go_gen (P := fun s => WXy σ s ∧ s.2 55 = σ2.2 55) ⟨⟨ixu_92 w2.1 p4 (b8 _), Ag_setA w2.2 (QY_row p4)⟩, (setA_ne _ _ _ _ (by omega))⟩ (fun σ5 z5 => ?_)
      obtain ⟨w5, g5⟩ := z5
      have q5 := g5.trans hz_2
      refine gz_iinc (c := 1) (pc' := 27) dX9_empty_24 rfl rfl (by decide) (by decide) (by decide) (by omega) (fun v6 h6 e6 => ?_)
      refine go_goto (tgt := 9) dX9_empty_27 (by decide) ?_
      exact go_lv (lv' := [(0, .ref (L.2.1 12)), (1, .int t), (2, .int n), (3, .int v6)]) rfl (ih2 _ (by omega) σ5 v6 w5 (by omega) (by assumption) rfl)
  exact go_lv (lv' := [(0, .ref (L.2.1 12)), (1, .int t), (2, .int n), (3, .int (0 : Int32))]) rfl (loop9_2 _ σ1 (0 : Int32) w1 (by omega) (by assumption) rfl)
set_option maxHeartbeats 4000000 in
set_option maxRecDepth 100000 in
theorem e_X11_tray (l : Launch) (L : WL) (σ : ST) (t n : Int32) (ix : IV σ) : CtI l L yX11_tray cX11_tray 3 (some .int) rm_X11_tray [.ref (L.2.1 0), .int t, .int n] σ (fun r σ2 => sX_tray σ t n r σ2) := by
  refine ctI_go (own := RX11) (by decide) rfl (Nat.le_of_ble_eq_true rfl) (fun F hF => ?_)
  subst hF
  have nm14 : (-14 : Int32).toInt = -14 := by decide
  have nm2 : (-2 : Int32).toInt = -2 := by decide
  have nm1 : (-1 : Int32).toInt = -1 := by decide
  have n1 : (1 : Int32).toInt = 1 := by decide
  have n60 : (60 : Int32).toInt = 60 := by decide
  have w0 : WXy σ σ := WXy_rfl ix
  refine go_iload_n (i := 1) (pc' := 1) dX11_tray_0 rfl rfl rfl ?_
  refine go_csi (pc' := 4) ls_X11_298 (c_X9_has _ _ _ _) rfl rfl (Nat.le_of_ble_eq_true rfl) ⟨Nat.le_of_ble_eq_true rfl, Nat.le_of_ble_eq_true rfl⟩ ⟨rfl, rfl⟩ dX11_tray_1 rfl (fun r1 σ1 h1 => ?_)
  obtain ⟨e1, h1⟩ := h1
  have e1 := e1.symm
  subst e1
  refine go_eqB (tgt := 13) (pc' := 7) h1 dX11_tray_4 rfl (by decide) (fun c2 => ?_) (fun c2 => ?_)
  · refine go_bipush (v := (-2)) (pc' := 15) dX11_tray_13 rfl (by decide) ?_
    exact go_iret dX11_tray_15 rfl (Or.inl ⟨by omega, rfl, rfl⟩)
  refine go_iload_n (i := 2) (pc' := 8) dX11_tray_7 rfl rfl rfl ?_
  refine go_bipush (v := 60) (pc' := 10) dX11_tray_8 rfl (by decide) ?_
  refine gz_icmp_le (tgt := 16) (pc' := 13) dX11_tray_10 rfl (by decide) (fun c3 => ?_) (fun c3 => ?_)
  · refine go_iload_n (i := 2) (pc' := 17) dX11_tray_16 rfl rfl rfl ?_
    refine go_iconst (v := (-1)) (pc' := 18) dX11_tray_17 rfl (by decide) ?_
    refine gz_icmp_ge (tgt := 24) (pc' := 21) dX11_tray_18 rfl (by decide) (fun c4 => ?_) (fun c4 => ?_)
    · refine go_aload_n (i := 0) (pc' := 25) dX11_tray_24 rfl rfl rfl ?_
      refine gf_0_trays (pc' := 28) dX11_tray_25 rfl fl_X11_85 ?_
      refine go_iload_n (i := 1) (pc' := 29) dX11_tray_28 rfl rfl rfl ?_
      refine go_iload_n (i := 2) (pc' := 30) dX11_tray_29 rfl rfl rfl ?_
      refine go_cvv (pc' := 33) lk_X11_299 (e_X9_empty _ _ _ _ _ (by omega) (by omega) w0.1) rfl rfl (Nat.le_of_ble_eq_true rfl) (by decide) rfl rfl rfl ⟨Nat.le_of_ble_eq_true rfl, Nat.le_of_ble_eq_true rfl⟩ ⟨rfl, rfl⟩ dX11_tray_30 rfl (fun σ5 h5 => ?_)
      obtain ⟨u5, h5⟩ := h5
      have w5 := WXy_trans w0 u5
      refine go_iconst (v := 1) (pc' := 34) dX11_tray_33 rfl (by decide) ?_
      exact go_iret dX11_tray_34 rfl (Or.inr (Or.inr ⟨by omega, by omega, rfl, w5, h5⟩))
    refine go_bipush (v := (-14)) (pc' := 23) dX11_tray_21 rfl (by decide) ?_
    exact go_iret dX11_tray_23 rfl (Or.inr (Or.inl ⟨by omega, by omega, rfl, rfl⟩))
  refine go_bipush (v := (-2)) (pc' := 15) dX11_tray_13 rfl (by decide) ?_
  exact go_iret dX11_tray_15 rfl (Or.inl ⟨by omega, rfl, rfl⟩)
set_option maxHeartbeats 4000000 in
set_option maxRecDepth 100000 in
theorem e_X11_lay (l : Launch) (L : WL) (σ : ST) (t f n : Int32) (ix : IV σ) : CtI l L yX11_lay cX11_lay 5 (some .int) rm_X11_lay [.ref (L.2.1 0), .int t, .int f, .int n] σ (fun r σ2 => sX_lay σ t f n r σ2) := by
  refine ctI_go (own := RX11) (by decide) rfl (Nat.le_of_ble_eq_true rfl) (fun F hF => ?_)
  subst hF
  have nm12 : (-12 : Int32).toInt = -12 := by decide
  have nm11 : (-11 : Int32).toInt = -11 := by decide
  have nm4 : (-4 : Int32).toInt = -4 := by decide
  have nm2 : (-2 : Int32).toInt = -2 := by decide
  have nm1 : (-1 : Int32).toInt = -1 := by decide
  have n0 : (0 : Int32).toInt = 0 := by decide
  have n160 : (160 : Int32).toInt = 160 := by decide
  have w0 : WXf σ σ := WXf_rfl ix
  have lf := Int32.le_toInt f
  have rf := Int32.toInt_lt f
  have u6 := ixi_6 ix
  refine go_iload_n (i := 1) (pc' := 1) dX11_lay_0 rfl rfl rfl ?_
  refine go_csi (pc' := 4) ls_X11_298 (c_X9_has _ _ _ _) rfl rfl (Nat.le_of_ble_eq_true rfl) ⟨Nat.le_of_ble_eq_true rfl, Nat.le_of_ble_eq_true rfl⟩ ⟨rfl, rfl⟩ dX11_lay_1 rfl (fun r1 σ1 h1 => ?_)
  obtain ⟨e1, h1⟩ := h1
  have e1 := e1.symm
  subst e1
  refine go_eqB (tgt := 11) (pc' := 7) h1 dX11_lay_4 rfl (by decide) (fun c2 => ?_) (fun c2 => ?_)
  · refine go_bipush (v := (-2)) (pc' := 13) dX11_lay_11 rfl (by decide) ?_
    exact go_iret dX11_lay_13 rfl (Or.inl ⟨by omega, rfl, rfl⟩)
  refine go_iload_n (i := 3) (pc' := 8) dX11_lay_7 rfl rfl rfl ?_
  refine gz_if_ge (tgt := 14) (pc' := 11) dX11_lay_8 rfl (by decide) (fun c3 => ?_) (fun c3 => ?_)
  · refine go_aload_n (i := 0) (pc' := 15) dX11_lay_14 rfl rfl rfl ?_
    refine gf_0_trays (pc' := 18) dX11_lay_15 rfl fl_X11_85 ?_
    refine gf_12_sizes (pc' := 21) dX11_lay_18 rfl fl_X11_303 ?_
    refine go_iload_n (i := 1) (pc' := 22) dX11_lay_21 rfl rfl rfl ?_
    refine go_iald (pc' := 23) dX11_lay_22 rfl (by decide) (by decide) rfl (vin_of (n := 4) (by omega) (by omega)) ?_
    refine go_rngA (ixa_55 w0.1) (vinlt (vin_of (n := 4) (by omega) (by omega))) (fun g4 => ?_)
    refine go_iconst (v := (-1)) (pc' := 24) dX11_lay_23 rfl (by decide) ?_
    refine gz_icmp_ne (tgt := 30) (pc' := 27) dX11_lay_24 rfl (by decide) (fun c5 => ?_) (fun c5 => ?_)
    · refine go_iconst (v := 0) (pc' := 31) dX11_lay_30 rfl (by decide) ?_
      refine go_istore (pc' := 33) dX11_lay_31 rfl (by decide) ?_
      have loop33_6 : ∀ (dd6 : Nat) (σ6 : ST) (x4_6 : Int32), WXf σ σ6 → (0 ≤ (x4_6).toInt ∧ (x4_6).toInt ≤ 60) → ((x4_6).toInt = 0 ∨ (0 ≤ f.toInt ∧ f.toInt + (x4_6).toInt ≤ 60)) → (layR (σ.2 55 (t).toNatClampNeg).toInt f.toInt n.toInt 100 0 (σ.1 6).toInt = layR (σ.2 55 (t).toNatClampNeg).toInt f.toInt n.toInt (100 - (x4_6).toInt.toNat) (x4_6).toInt (σ6.1 6).toInt) → (61 - (x4_6).toInt).toNat = dd6 → Go F L RX11 cX11_lay 5 rm_X11_lay (some .int) (RI F L (fun r σ2 => sX_lay σ t f n r σ2)) σ6 33 [(0, .ref (L.2.1 0)), (1, .int t), (2, .int f), (3, .int n), (4, .int x4_6)] [] := by
        intro dd6
        induction dd6 using Nat.strongRecOn with
        | _ dd6 ih6 =>
          intro σ6 x4_6 w6 h_6 hf_6 hl_6 hm_6
          refine go_iload (pc' := 35) dX11_lay_33 rfl rfl ?_
          refine go_iload_n (i := 3) (pc' := 36) dX11_lay_35 rfl rfl rfl ?_
          refine gz_icmp_ge (tgt := 100) (pc' := 39) dX11_lay_36 rfl (by decide) (fun c7 => ?_) (fun c7 => ?_)
          · refine go_aload_n (i := 0) (pc' := 101) dX11_lay_100 rfl rfl rfl ?_
            refine gf_0_tape (pc' := 104) dX11_lay_101 rfl fl_X11_47 ?_
            refine gf_6_size (pc' := 107) dX11_lay_104 rfl fl_X11_234 ?_
            have g8 := ixi_6 w6.1
            exact go_iret dX11_lay_107 rfl (Or.inr (Or.inr ⟨by omega, by omega, w6, (hl_6.trans (layR_end (by omega) (by omega))).symm⟩))
          refine go_aload_n (i := 0) (pc' := 40) dX11_lay_39 rfl rfl rfl ?_
          refine gf_0_trays (pc' := 43) dX11_lay_40 rfl fl_X11_85 ?_
          refine go_iload_n (i := 1) (pc' := 44) dX11_lay_43 rfl rfl rfl ?_
          refine go_iload_n (i := 2) (pc' := 45) dX11_lay_44 rfl rfl rfl ?_
          refine go_iload (pc' := 47) dX11_lay_45 rfl rfl ?_
          refine gz_iadd (pc' := 48) dX11_lay_47 rfl (by omega) (fun v9 h9 e9 => ?_)
          refine go_cvi (pc' := 51) lk_X11_304 (e_X9_hasCell _ _ _ _ _ (by omega) w6.1) rfl rfl (Nat.le_of_ble_eq_true rfl) (by decide) rfl rfl rfl ⟨Nat.le_of_ble_eq_true rfl, Nat.le_of_ble_eq_true rfl⟩ ⟨rfl, rfl⟩ dX11_lay_48 rfl (fun r10 σ10 h10 => ?_)
          obtain ⟨e10, h10⟩ := h10
          have e10 := e10.symm
          subst e10
          rw [w6.2.2 55 (by decide)] at h10
          refine go_neB (tgt := 57) (pc' := 54) h10 dX11_lay_51 rfl (by decide) (fun c11 => ?_) (fun c11 => ?_)
          · refine go_aload_n (i := 0) (pc' := 58) dX11_lay_57 rfl rfl rfl ?_
            refine gf_0_tape (pc' := 61) dX11_lay_58 rfl fl_X11_47 ?_
            refine gf_6_size (pc' := 64) dX11_lay_61 rfl fl_X11_234 ?_
            have g12 := ixi_6 w6.1
            refine go_sipush (v := 160) (pc' := 67) dX11_lay_64 rfl (by decide) ?_
            refine gz_icmp_lt (tgt := 73) (pc' := 70) dX11_lay_67 rfl (by decide) (fun c13 => ?_) (fun c13 => ?_)
            · refine go_aload_n (i := 0) (pc' := 74) dX11_lay_73 rfl rfl rfl ?_
              refine gf_0_tape (pc' := 77) dX11_lay_74 rfl fl_X11_47 ?_
              refine go_aload_n (i := 0) (pc' := 78) dX11_lay_77 rfl rfl rfl ?_
              refine gf_0_trays (pc' := 81) dX11_lay_78 rfl fl_X11_85 ?_
              refine gf_12_rows (pc' := 84) dX11_lay_81 rfl fl_X11_307 ?_
              refine go_iload_n (i := 1) (pc' := 85) dX11_lay_84 rfl rfl rfl ?_
              have p14 : (t).toNatClampNeg < 4 := vinlt (vin_of (n := 4) (by omega) (by omega))
              refine go_aald (b := 92) (pc' := 86) dX11_lay_85 rfl (by decide) (by decide) ⟨_, rfl⟩ (vin_of (n := 4) (by omega) (by omega)) rfl ?_
              refine go_iload_n (i := 2) (pc' := 87) dX11_lay_86 rfl rfl rfl ?_
              refine go_iload (pc' := 89) dX11_lay_87 rfl rfl ?_
              refine gz_iadd (pc' := 90) dX11_lay_89 rfl (by omega) (fun v15 h15 e15 => ?_)
              refine go_bald (pc' := 91) dX11_lay_90 rfl (by omega) (by omega) (rowt_92 p14) (by rw [rowl_92 p14]; exact (vin_of (n := 60) (by omega) (by omega))) ?_
              refine go_rngA (ixr_92 w6.1 p14) (vinlt (vin_of (n := 60) (by omega) (by omega))) (fun g16 => ?_)
              refine go_cvv (pc' := 94) lk_X11_235 (e_X8_add _ _ _ _ (by omega) w6.1) rfl rfl (Nat.le_of_ble_eq_true rfl) (by decide) rfl rfl rfl ⟨Nat.le_of_ble_eq_true rfl, Nat.le_of_ble_eq_true rfl⟩ ⟨rfl, rfl⟩ dX11_lay_91 rfl (fun σ17 h17 => ?_)
              obtain ⟨u17, h17⟩ := h17
              have w17 := WXf_trans w6 u17
              refine gz_iinc (c := 1) (pc' := 97) dX11_lay_94 rfl rfl (by decide) (by decide) (by decide) (by omega) (fun v18 h18 e18 => ?_)
              refine go_goto (tgt := 33) dX11_lay_97 (by decide) ?_
              exact go_lv (lv' := [(0, .ref (L.2.1 0)), (1, .int t), (2, .int f), (3, .int n), (4, .int v18)]) rfl (ih6 _ (by omega) σ17 v18 w17 (by omega) (by omega) (hl_6.trans (layR_step (by omega) (by omega) (by omega) (by omega) (by omega) (by omega))) rfl)
            refine go_bipush (v := (-4)) (pc' := 72) dX11_lay_70 rfl (by decide) ?_
            exact go_iret dX11_lay_72 rfl (Or.inr (Or.inr ⟨by omega, by omega, w6, by rw [nm4]; exact (hl_6.trans (layR_full (by omega) (by omega) (by omega) (by omega))).symm⟩))
          refine go_bipush (v := (-12)) (pc' := 56) dX11_lay_54 rfl (by decide) ?_
          exact go_iret dX11_lay_56 rfl (Or.inr (Or.inr ⟨by omega, by omega, w6, by rw [nm12]; exact (hl_6.trans (layR_out (by omega) (by omega) (by omega))).symm⟩))
      exact go_lv (lv' := [(0, .ref (L.2.1 0)), (1, .int t), (2, .int f), (3, .int n), (4, .int (0 : Int32))]) rfl (loop33_6 _ σ (0 : Int32) w0 (by omega) (by omega) (by rw [n0]; rfl) rfl)
    refine go_bipush (v := (-11)) (pc' := 29) dX11_lay_27 rfl (by decide) ?_
    exact go_iret dX11_lay_29 rfl (Or.inr (Or.inl ⟨by omega, by omega, rfl, rfl⟩))
  refine go_bipush (v := (-2)) (pc' := 13) dX11_lay_11 rfl (by decide) ?_
  exact go_iret dX11_lay_13 rfl (Or.inl ⟨by omega, rfl, rfl⟩)
set_option maxHeartbeats 4000000 in
set_option maxRecDepth 100000 in
theorem e_X2_isUnder (l : Launch) (L : WL) (σ : ST) (x t : Int32) (hx : 0 ≤ x.toInt ∧ x.toInt < 6) (ht : 0 ≤ t.toInt ∧ t.toInt < 6) : CtI l L yX2_isUnder cX2_isUnder 4 (some .boolean) rm_X2_isUnder [.int x, .int t] σ (fun r σ2 => σ2 = σ ∧ bq (UND x.toInt t.toInt) r) := by
  refine ctI_go (own := RX2) (by decide) rfl (Nat.le_of_ble_eq_true rfl) (fun F hF => ?_)
  subst hF
  have n0 : (0 : Int32).toInt = 0 := by decide
  have n1 : (1 : Int32).toInt = 1 := by decide
  have n6 : (6 : Int32).toInt = 6 := by decide
  have dx := depK_pos hx
  refine go_iload_n (i := 0) (pc' := 1) dX2_isUnder_0 rfl rfl rfl ?_
  refine go_istore_n (i := 2) (pc' := 2) dX2_isUnder_1 rfl rfl (by decide) ?_
  refine go_iconst (v := 0) (pc' := 3) dX2_isUnder_2 rfl (by decide) ?_
  refine go_istore_n (i := 3) (pc' := 4) dX2_isUnder_3 rfl rfl (by decide) ?_
  have loop4_1 : ∀ (dd1 : Nat) (x2_1 : Int32) (x3_1 : Int32), (0 ≤ (x3_1).toInt ∧ (x3_1).toInt + depK (x2_1).toInt ≤ 3) → (-1 ≤ (x2_1).toInt ∧ (x2_1).toInt < 6) → (UND x.toInt t.toInt ↔ UND (x2_1).toInt t.toInt) → (6 - (x3_1).toInt).toNat = dd1 → Go F L RX2 cX2_isUnder 4 rm_X2_isUnder (some .boolean) (RI F L (fun r σ2 => σ2 = σ ∧ bq (UND x.toInt t.toInt) r)) σ 4 [(0, .int x), (1, .int t), (2, .int x2_1), (3, .int x3_1)] [] := by
    intro dd1
    induction dd1 using Nat.strongRecOn with
    | _ dd1 ih1 =>
      intro x2_1 x3_1 h_1 hr_1 hu_1 hm_1
      refine go_iload_n (i := 3) (pc' := 5) dX2_isUnder_4 rfl rfl rfl ?_
      refine go_bipush (v := 6) (pc' := 7) dX2_isUnder_5 rfl (by decide) ?_
      refine gz_icmp_ge (tgt := 36) (pc' := 10) dX2_isUnder_7 rfl (by decide) (fun c2 => (by exfalso; have := depK_nn (x2_1).toInt; omega)) (fun c2 => ?_)
      refine go_iload_n (i := 2) (pc' := 11) dX2_isUnder_10 rfl rfl rfl ?_
      refine go_csi (pc' := 14) ls_X2_48 (c_X2_isKind _ _ _ _) rfl rfl (Nat.le_of_ble_eq_true rfl) ⟨Nat.le_of_ble_eq_true rfl, Nat.le_of_ble_eq_true rfl⟩ ⟨rfl, rfl⟩ dX2_isUnder_11 rfl (fun r3 σ3 h3 => ?_)
      obtain ⟨e3, h3⟩ := h3
      have e3 := e3.symm
      subst e3
      refine go_eqB (tgt := 36) (pc' := 17) h3 dX2_isUnder_14 rfl (by decide) (fun c4 => ?_) (fun c4 => ?_)
      · refine go_iconst (v := 0) (pc' := 37) dX2_isUnder_36 rfl (by decide) ?_
        exact go_zret dX2_isUnder_37 rfl rfl (⟨rfl, bq_f (fun e => by have e := hu_1.mp e; unfold UND at e; omega)⟩)
      refine go_iload_n (i := 2) (pc' := 18) dX2_isUnder_17 rfl rfl rfl ?_
      refine go_iload_n (i := 1) (pc' := 19) dX2_isUnder_18 rfl rfl rfl ?_
      refine gz_icmp_ne (tgt := 24) (pc' := 22) dX2_isUnder_19 rfl (by decide) (fun c5 => ?_) (fun c5 => ?_)
      · refine go_above (pc' := 27) dX2_isUnder_24 rfl fl_X2_52 (fun t_24 hT_24 => ?_)
        refine go_iload_n (i := 2) (pc' := 28) dX2_isUnder_27 rfl rfl rfl ?_
        refine go_tld (v := abvI x2_1) hT_24 (pc' := 29) dX2_isUnder_28 rfl (vin_of (by omega) (by omega)) (abvI_v (by omega)) ?_
        have q28 := abvI_i x2_1
        refine go_topz (fun y6 h6 e6 => ?_)
        refine go_istore_n (i := 2) (pc' := 30) dX2_isUnder_29 rfl rfl (by decide) ?_
        have y29 : (y6).toInt = (abvI x2_1).toInt := by assumption
        have d29 : depK (y6).toInt + 1 = depK (x2_1).toInt := by rw [y29, q28]; exact depK_up (by omega)
        have u29 : UND (x2_1).toInt t.toInt ↔ UND (y6).toInt t.toInt := by rw [y29, q28]; exact UND_up (by omega) (by omega) ht
        have r29 : -1 ≤ (y6).toInt ∧ (y6).toInt < 6 := by rw [y29, q28]; split <;> (try split) <;> omega
        refine gz_iinc (c := 1) (pc' := 33) dX2_isUnder_30 rfl rfl (by decide) (by decide) (by decide) (by omega) (fun v7 h7 e7 => ?_)
        refine go_goto (tgt := 4) dX2_isUnder_33 (by decide) ?_
        exact go_lv (lv' := [(0, .int x), (1, .int t), (2, .int y6), (3, .int v7)]) rfl (ih1 _ (by omega)  y6 v7 (by omega) (by omega) (hu_1.trans u29) rfl)
      refine go_iconst (v := 1) (pc' := 23) dX2_isUnder_22 rfl (by decide) ?_
      exact go_zret dX2_isUnder_23 rfl rfl (⟨rfl, bq_t (hu_1.mpr (Or.inl (by omega)))⟩)
  exact go_lv (lv' := [(0, .int x), (1, .int t), (2, .int x), (3, .int (0 : Int32))]) rfl (loop4_1 _  x (0 : Int32) (by omega) (by omega) Iff.rfl rfl)
set_option maxHeartbeats 4000000 in
set_option maxRecDepth 100000 in
theorem e_X11_taken (l : Launch) (L : WL) (σ : ST) (a k : Int32) (ix : IV σ) : CtI l L yX11_taken cX11_taken 3 (some .int) rm_X11_taken [.ref (L.2.1 0), .int a, .int k] σ (fun r σ2 => σ2 = σ ∧ takP (σ.1 3).toInt (σ.2 24) (σ.2 25) a k r) := by
  refine ctI_go (own := RX11) (by decide) rfl (Nat.le_of_ble_eq_true rfl) (fun F hF => ?_)
  subst hF
  have nm13 : (-13 : Int32).toInt = -13 := by decide
  have nm11 : (-11 : Int32).toInt = -11 := by decide
  have nm2 : (-2 : Int32).toInt = -2 := by decide
  have w0 : WX σ σ := WX_rfl ix
  have u3 := ixi_3 ix
  refine go_iload_n (i := 2) (pc' := 1) dX11_taken_0 rfl rfl rfl ?_
  refine go_csi (pc' := 4) ls_X11_124 (c_X2_isKind _ _ _ _) rfl rfl (Nat.le_of_ble_eq_true rfl) ⟨Nat.le_of_ble_eq_true rfl, Nat.le_of_ble_eq_true rfl⟩ ⟨rfl, rfl⟩ dX11_taken_1 rfl (fun r1 σ1 h1 => ?_)
  obtain ⟨e1, h1⟩ := h1
  have e1 := e1.symm
  subst e1
  refine go_neB (tgt := 10) (pc' := 7) h1 dX11_taken_4 rfl (by decide) (fun c2 => ?_) (fun c2 => ?_)
  · refine go_aload_n (i := 0) (pc' := 11) dX11_taken_10 rfl rfl rfl ?_
    refine gf_0_letters (pc' := 14) dX11_taken_11 rfl fl_X11_19 ?_
    refine go_iload_n (i := 1) (pc' := 15) dX11_taken_14 rfl rfl rfl ?_
    refine go_cvi (pc' := 18) lk_X11_130 (c_X2_has _ _ _ _) rfl rfl (Nat.le_of_ble_eq_true rfl) (by decide) rfl rfl rfl ⟨Nat.le_of_ble_eq_true rfl, Nat.le_of_ble_eq_true rfl⟩ ⟨rfl, rfl⟩ dX11_taken_15 rfl (fun r3 σ3 h3 => ?_)
    obtain ⟨e3, h3⟩ := h3
    have e3 := e3.symm
    subst e3
    refine go_neB (tgt := 24) (pc' := 21) h3 dX11_taken_18 rfl (by decide) (fun c4 => ?_) (fun c4 => ?_)
    · refine go_aload_n (i := 0) (pc' := 25) dX11_taken_24 rfl rfl rfl ?_
      refine gf_0_letters (pc' := 28) dX11_taken_25 rfl fl_X11_19 ?_
      refine gf_2_kinds (pc' := 31) dX11_taken_28 rfl fl_X11_131 ?_
      refine go_iload_n (i := 1) (pc' := 32) dX11_taken_31 rfl rfl rfl ?_
      refine go_iald (pc' := 33) dX11_taken_32 rfl (by decide) (by decide) rfl (vin_of (n := 12) (by omega) (by omega)) ?_
      refine go_rngA (ixa_24 w0.1) (vinlt (vin_of (n := 12) (by omega) (by omega))) (fun g5 => ?_)
      refine go_iload_n (i := 2) (pc' := 34) dX11_taken_33 rfl rfl rfl ?_
      refine go_csi (pc' := 37) ls_X11_310 (e_X2_isUnder _ _ _ _ _ (by omega) (by omega)) rfl rfl (Nat.le_of_ble_eq_true rfl) ⟨Nat.le_of_ble_eq_true rfl, Nat.le_of_ble_eq_true rfl⟩ ⟨rfl, rfl⟩ dX11_taken_34 rfl (fun r6 σ6 h6 => ?_)
      obtain ⟨e6, h6⟩ := h6
      have e6 := e6.symm
      subst e6
      refine go_eqB (tgt := 52) (pc' := 40) h6 dX11_taken_37 rfl (by decide) (fun c7 => ?_) (fun c7 => ?_)
      · refine go_bipush (v := (-13)) (pc' := 54) dX11_taken_52 rfl (by decide) ?_
        exact go_iret dX11_taken_54 rfl (⟨rfl, by first | exact Or.inr (Or.inr (Or.inl ⟨by omega, by omega, c7, rfl⟩)) | exact Or.inr (Or.inr (Or.inr (⟨by omega, by omega, c7, rfl⟩)))⟩)
      refine go_aload_n (i := 0) (pc' := 41) dX11_taken_40 rfl rfl rfl ?_
      refine gf_0_letters (pc' := 44) dX11_taken_41 rfl fl_X11_19 ?_
      refine gf_2_writers (pc' := 47) dX11_taken_44 rfl fl_X11_134 ?_
      refine go_iload_n (i := 1) (pc' := 48) dX11_taken_47 rfl rfl rfl ?_
      refine go_iald (pc' := 49) dX11_taken_48 rfl (by decide) (by decide) rfl (vin_of (n := 12) (by omega) (by omega)) ?_
      refine go_rngA (ixa_25 w0.1) (vinlt (vin_of (n := 12) (by omega) (by omega))) (fun g8 => ?_)
      refine go_goto (tgt := 54) dX11_taken_49 (by decide) ?_
      exact go_iret dX11_taken_54 rfl (⟨rfl, by first | exact Or.inr (Or.inr (Or.inl ⟨by omega, by omega, c7, rfl⟩)) | exact Or.inr (Or.inr (Or.inr (⟨by omega, by omega, c7, rfl⟩)))⟩)
    refine go_bipush (v := (-11)) (pc' := 23) dX11_taken_21 rfl (by decide) ?_
    exact go_iret dX11_taken_23 rfl (⟨rfl, Or.inr (Or.inl ⟨by omega, by omega, rfl⟩)⟩)
  refine go_bipush (v := (-2)) (pc' := 9) dX11_taken_7 rfl (by decide) ?_
  exact go_iret dX11_taken_9 rfl (⟨rfl, Or.inl ⟨by omega, rfl⟩⟩)
set_option maxHeartbeats 4000000 in
set_option maxRecDepth 100000 in
theorem e_X2_stillLost (l : Launch) (L : WL) (σ : ST)  (ix : IV σ) : CtI l L yX2_stillLost cX2_stillLost 3 (some .int) rm_X2_stillLost [.ref (L.2.1 2)] σ (fun r σ2 => σ2 = σ ∧ r.toInt = lostN (σ.2 24) (σ.2 31) (σ.1 3).toNatClampNeg) := by
  refine ctI_go (own := RX2) (by decide) rfl (Nat.le_of_ble_eq_true rfl) (fun F hF => ?_)
  subst hF
  have nm1 : (-1 : Int32).toInt = -1 := by decide
  have n0 : (0 : Int32).toInt = 0 := by decide
  have w0 : WX σ σ := WX_rfl ix
  refine go_iconst (v := 0) (pc' := 1) dX2_stillLost_0 rfl (by decide) ?_
  refine go_istore_n (i := 1) (pc' := 2) dX2_stillLost_1 rfl rfl (by decide) ?_
  refine go_iconst (v := 0) (pc' := 3) dX2_stillLost_2 rfl (by decide) ?_
  refine go_istore_n (i := 2) (pc' := 4) dX2_stillLost_3 rfl rfl (by decide) ?_
  have loop4_1 : ∀ (dd1 : Nat) (x1_1 : Int32) (x2_1 : Int32), (0 ≤ (x2_1).toInt ∧ (x2_1).toInt ≤ (σ.1 3).toInt) → ((x1_1).toInt = lostN (σ.2 24) (σ.2 31) (x2_1).toNatClampNeg) → (12 - (x2_1).toInt).toNat = dd1 → Go F L RX2 cX2_stillLost 3 rm_X2_stillLost (some .int) (RI F L (fun r σ2 => σ2 = σ ∧ r.toInt = lostN (σ.2 24) (σ.2 31) (σ.1 3).toNatClampNeg)) σ 4 [(0, .ref (L.2.1 2)), (1, .int x1_1), (2, .int x2_1)] [] := by
    intro dd1
    induction dd1 using Nat.strongRecOn with
    | _ dd1 ih1 =>
      intro x1_1 x2_1 h_1 ha_1 hm_1
      refine go_iload_n (i := 2) (pc' := 5) dX2_stillLost_4 rfl rfl rfl ?_
      refine go_aload_n (i := 0) (pc' := 6) dX2_stillLost_5 rfl rfl rfl ?_
      refine gf_2_size (pc' := 9) dX2_stillLost_6 rfl fl_X2_44 ?_
      have g2 := ixi_3 w0.1
      refine gz_icmp_ge (tgt := 39) (pc' := 12) dX2_stillLost_9 rfl (by decide) (fun c3 => ?_) (fun c3 => ?_)
      · refine go_iload_n (i := 1) (pc' := 40) dX2_stillLost_39 rfl rfl rfl ?_
        exact go_iret dX2_stillLost_40 rfl (⟨rfl, by rw [show (σ.1 3).toNatClampNeg = (x2_1).toNatClampNeg from by rw [Int32.toInt_inj.mp (show (σ.1 3).toInt = (x2_1).toInt by omega)]]; assumption⟩)
      refine go_aload_n (i := 0) (pc' := 13) dX2_stillLost_12 rfl rfl rfl ?_
      refine go_iload_n (i := 2) (pc' := 14) dX2_stillLost_13 rfl rfl rfl ?_
      refine go_cvi (pc' := 17) lk_X2_55 (c_X2_isLost _ _ _ _ (by omega) w0.1) rfl rfl (Nat.le_of_ble_eq_true rfl) (by decide) rfl rfl rfl ⟨Nat.le_of_ble_eq_true rfl, Nat.le_of_ble_eq_true rfl⟩ ⟨rfl, rfl⟩ dX2_stillLost_14 rfl (fun r4 σ4 h4 => ?_)
      obtain ⟨e4, h4⟩ := h4
      have e4 := e4.symm
      subst e4
      refine go_eqB (tgt := 33) (pc' := 20) h4 dX2_stillLost_17 rfl (by decide) (fun c5 => ?_) (fun c5 => ?_)
      · refine gz_iinc (c := 1) (pc' := 36) dX2_stillLost_33 rfl rfl (by decide) (by decide) (by decide) (by omega) (fun v6 h6 e6 => ?_)
        refine go_goto (tgt := 4) dX2_stillLost_36 (by decide) ?_
        exact go_lv (lv' := [(0, .ref (L.2.1 2)), (1, .int x1_1), (2, .int v6)]) rfl (ih1 _ (by omega)  x1_1 v6 (by omega) (lostN_step (by omega) (by omega) ha_1 (by split <;> omega)) rfl)
      refine go_aload_n (i := 0) (pc' := 21) dX2_stillLost_20 rfl rfl rfl ?_
      refine gf_2_founds (pc' := 24) dX2_stillLost_21 rfl fl_X2_33 ?_
      refine go_iload_n (i := 2) (pc' := 25) dX2_stillLost_24 rfl rfl rfl ?_
      refine go_iald (pc' := 26) dX2_stillLost_25 rfl (by decide) (by decide) rfl (vin_of (n := 12) (by omega) (by omega)) ?_
      refine go_rngA (ixa_31 w0.1) (vinlt (vin_of (n := 12) (by omega) (by omega))) (fun g7 => ?_)
      refine go_iconst (v := (-1)) (pc' := 27) dX2_stillLost_26 rfl (by decide) ?_
      refine gz_icmp_ne (tgt := 33) (pc' := 30) dX2_stillLost_27 rfl (by decide) (fun c8 => ?_) (fun c8 => ?_)
      · refine gz_iinc (c := 1) (pc' := 36) dX2_stillLost_33 rfl rfl (by decide) (by decide) (by decide) (by omega) (fun v9 h9 e9 => ?_)
        refine go_goto (tgt := 4) dX2_stillLost_36 (by decide) ?_
        exact go_lv (lv' := [(0, .ref (L.2.1 2)), (1, .int x1_1), (2, .int v9)]) rfl (ih1 _ (by omega)  x1_1 v9 (by omega) (lostN_step (by omega) (by omega) ha_1 (by split <;> omega)) rfl)
      have ra := lostN_rng (σ.2 24) (σ.2 31) (x2_1).toNatClampNeg
      have rb := cnat (x := x2_1) (by omega)
      refine gz_iinc (c := 1) (pc' := 33) dX2_stillLost_30 rfl rfl (by decide) (by decide) (by decide) (by omega) (fun v10 h10 e10 => ?_)
      refine gz_iinc (c := 1) (pc' := 36) dX2_stillLost_33 rfl rfl (by decide) (by decide) (by decide) (by omega) (fun v11 h11 e11 => ?_)
      refine go_goto (tgt := 4) dX2_stillLost_36 (by decide) ?_
      exact go_lv (lv' := [(0, .ref (L.2.1 2)), (1, .int v10), (2, .int v11)]) rfl (ih1 _ (by omega)  v10 v11 (by omega) (lostN_step (by omega) (by omega) ha_1 (by split <;> omega)) rfl)
  exact go_lv (lv' := [(0, .ref (L.2.1 2)), (1, .int (0 : Int32)), (2, .int (0 : Int32))]) rfl (loop4_1 _  (0 : Int32) (0 : Int32) (by have := ixi_3 ix; omega) rfl rfl)
set_option maxHeartbeats 4000000 in
set_option maxRecDepth 100000 in
theorem e_X11_count (l : Launch) (L : WL) (σ : ST) (x : Int32) (ix : IV σ) : CtI l L yX11_count cX11_count 2 (some .int) rm_X11_count [.ref (L.2.1 0), .int x] σ (fun r σ2 => σ2 = σ ∧ cntP (σ.1 2) (σ.1 3) (σ.1 4) (σ.1 6) (σ.1 5) (lostN (σ.2 24) (σ.2 31) (σ.1 3).toNatClampNeg) x r) := by
  refine ctI_go (own := RX11) (by decide) rfl (Nat.le_of_ble_eq_true rfl) (fun F hF => ?_)
  subst hF
  have nm2 : (-2 : Int32).toInt = -2 := by decide
  have w0 : WX σ σ := WX_rfl ix
  refine go_iload_n (i := 1) (pc' := 1) dX11_count_0 rfl rfl rfl ?_
  have hx1 : x = 0 ∨ x = 1 ∨ x = 2 ∨ x = 3 ∨ x = 4 ∨ x = 5 ∨ ¬ (0 ≤ x.toInt ∧ x.toInt ≤ 5) := by
    simp only [← Int32.toInt_inj, Int32.reduceToInt]
    omega
  rcases hx1 with z1 | z1 | z1 | z1 | z1 | z1 | z1
  · refine go_swIn (tgt := 40) dX11_count_1 (by rw [z1]; decide) (by rw [z1]; decide) (by rw [z1]; rfl) (by decide) ?_
    refine go_aload_n (i := 0) (pc' := 41) dX11_count_40 rfl rfl rfl ?_
    refine gf_0_people (pc' := 44) dX11_count_41 rfl fl_X11_10 ?_
    refine gf_1_size (pc' := 47) dX11_count_44 rfl fl_X11_292 ?_
    have g2 := ixi_2 w0.1
    exact go_iret dX11_count_47 rfl (⟨rfl, Or.inl ⟨by assumption, rfl⟩⟩)
  · refine go_swIn (tgt := 48) dX11_count_1 (by rw [z1]; decide) (by rw [z1]; decide) (by rw [z1]; rfl) (by decide) ?_
    refine go_aload_n (i := 0) (pc' := 49) dX11_count_48 rfl rfl rfl ?_
    refine gf_0_letters (pc' := 52) dX11_count_49 rfl fl_X11_19 ?_
    refine gf_2_size (pc' := 55) dX11_count_52 rfl fl_X11_185 ?_
    have g3 := ixi_3 w0.1
    exact go_iret dX11_count_55 rfl (⟨rfl, Or.inr (Or.inl ⟨by assumption, rfl⟩)⟩)
  · refine go_swIn (tgt := 56) dX11_count_1 (by rw [z1]; decide) (by rw [z1]; decide) (by rw [z1]; rfl) (by decide) ?_
    refine go_aload_n (i := 0) (pc' := 57) dX11_count_56 rfl rfl rfl ?_
    refine gf_0_calendar (pc' := 60) dX11_count_57 rfl fl_X11_26 ?_
    refine gf_3_size (pc' := 63) dX11_count_60 rfl fl_X11_293 ?_
    have g4 := ixi_4 w0.1
    exact go_iret dX11_count_63 rfl (⟨rfl, Or.inr (Or.inr (Or.inl ⟨by assumption, rfl⟩))⟩)
  · refine go_swIn (tgt := 64) dX11_count_1 (by rw [z1]; decide) (by rw [z1]; decide) (by rw [z1]; rfl) (by decide) ?_
    refine go_aload_n (i := 0) (pc' := 65) dX11_count_64 rfl rfl rfl ?_
    refine gf_0_letters (pc' := 68) dX11_count_65 rfl fl_X11_19 ?_
    refine go_cvi (pc' := 71) lk_X11_294 (e_X2_stillLost _ _ _ w0.1) rfl rfl (Nat.le_of_ble_eq_true rfl) (by decide) rfl rfl rfl ⟨Nat.le_of_ble_eq_true rfl, Nat.le_of_ble_eq_true rfl⟩ ⟨rfl, rfl⟩ dX11_count_68 rfl (fun r5 σ5 h5 => ?_)
    obtain ⟨e5, h5⟩ := h5
    have e5 := e5.symm
    subst e5
    exact go_iret dX11_count_71 rfl (⟨rfl, Or.inr (Or.inr (Or.inr (Or.inl ⟨by assumption, by assumption⟩)))⟩)
  · refine go_swIn (tgt := 72) dX11_count_1 (by rw [z1]; decide) (by rw [z1]; decide) (by rw [z1]; rfl) (by decide) ?_
    refine go_aload_n (i := 0) (pc' := 73) dX11_count_72 rfl rfl rfl ?_
    refine gf_0_tape (pc' := 76) dX11_count_73 rfl fl_X11_47 ?_
    refine gf_6_size (pc' := 79) dX11_count_76 rfl fl_X11_234 ?_
    have g6 := ixi_6 w0.1
    exact go_iret dX11_count_79 rfl (⟨rfl, Or.inr (Or.inr (Or.inr (Or.inr (Or.inl ⟨by assumption, rfl⟩))))⟩)
  · refine go_swIn (tgt := 80) dX11_count_1 (by rw [z1]; decide) (by rw [z1]; decide) (by rw [z1]; rfl) (by decide) ?_
    refine go_aload_n (i := 0) (pc' := 81) dX11_count_80 rfl rfl rfl ?_
    refine gf_0_hands (pc' := 84) dX11_count_81 rfl fl_X11_40 ?_
    refine gf_5_size (pc' := 87) dX11_count_84 rfl fl_X11_297 ?_
    have g7 := ixi_5 w0.1
    exact go_iret dX11_count_87 rfl (⟨rfl, Or.inr (Or.inr (Or.inr (Or.inr (Or.inr (Or.inl ⟨by assumption, rfl⟩)))))⟩)
  · refine go_swOut (tgt := 88) dX11_count_1 (by omega) (by decide) ?_
    refine go_bipush (v := (-2)) (pc' := 90) dX11_count_88 rfl (by decide) ?_
    exact go_iret dX11_count_90 rfl (⟨rfl, Or.inr (Or.inr (Or.inr (Or.inr (Or.inr (Or.inr (⟨by assumption, rfl⟩))))))⟩)
