/-- a letter -/
abbrev isLP (c : Int) : Prop := 97 ≤ c ∧ c ≤ 122
/-- a letter stands ahead of i -/
abbrev prL (P : Nat → Int) (i : Nat) : Prop := 0 < i ∧ isLP (P (i - 1))
def upN (f : Nat → Nat) (i v : Nat) : Nat → Nat := fun j => if j = i then v else f j
/-- of the first i signs: how many words; where each begins, where it ends -/
def wN (P : Nat → Int) : Nat → Nat
  | 0 => 0
  | i + 1 => if isLP (P i) then (if prL P i then wN P i else wN P i + 1) else wN P i
def wS (P : Nat → Int) : Nat → Nat → Nat
  | 0 => fun _ => 0
  | i + 1 => if isLP (P i) ∧ ¬ prL P i then upN (wS P i) (wN P i) i else wS P i
def wE (P : Nat → Int) : Nat → Nat → Nat
  | 0 => fun _ => 0
  | i + 1 => if isLP (P i) then upN (wE P i) (wN P (i + 1) - 1) (i + 1) else wE P i
theorem prL_s (P : Nat → Int) (i : Nat) : prL P (i + 1) ↔ isLP (P i) := by
  unfold prL
  rw [Nat.add_sub_cancel]
  exact ⟨fun h => h.2, fun h => ⟨Nat.succ_pos i, h⟩⟩
theorem wN_pos {P : Nat → Int} {i : Nat} (h : prL P i) : 1 ≤ wN P i := by
  obtain ⟨h1, h2⟩ := h
  obtain ⟨j, rfl⟩ : ∃ j, i = j + 1 := ⟨i - 1, by omega⟩
  induction j with
  | zero =>
    have e : wN P (0 + 1) = if isLP (P 0) then (if prL P 0 then wN P 0 else wN P 0 + 1) else wN P 0 := rfl
    rw [e, if_pos h2, if_neg (fun z => absurd z.1 (Nat.lt_irrefl 0))]
    exact Nat.le_add_left 1 _
  | succ j ih =>
    have e : wN P (j + 1 + 1) = if isLP (P (j + 1)) then (if prL P (j + 1) then wN P (j + 1) else wN P (j + 1) + 1) else wN P (j + 1) := rfl
    have h2' : isLP (P (j + 1)) := h2
    rw [e, if_pos h2']
    by_cases z : prL P (j + 1)
    · rw [if_pos z]
      exact ih (Nat.succ_pos j) z.2
    · rw [if_neg z]
      exact Nat.le_add_left 1 _
theorem wN_le (P : Nat → Int) (i : Nat) : 2 * wN P i ≤ i + 1 ∧ (¬ prL P i → 2 * wN P i ≤ i) := by
  induction i with
  | zero => exact ⟨Nat.zero_le _, fun _ => Nat.le_refl _⟩
  | succ i ih =>
    have e : wN P (i + 1) = if isLP (P i) then (if prL P i then wN P i else wN P i + 1) else wN P i := rfl
    rw [e]
    by_cases z : isLP (P i)
    · rw [if_pos z]
      have n : prL P (i + 1) := (prL_s P i).mpr z
      by_cases y : prL P i
      · rw [if_pos y]
        exact ⟨by omega, fun q => absurd n q⟩
      · rw [if_neg y]
        have := ih.2 y
        exact ⟨by omega, fun q => absurd n q⟩
    · rw [if_neg z]
      exact ⟨by omega, fun _ => by omega⟩
theorem wd_rng (P : Nat → Int) (i : Nat) : ∀ j : Nat, j < wN P i → wS P i j < wE P i j ∧ wE P i j ≤ i := by
  induction i with
  | zero => exact fun j hj => absurd hj (Nat.not_lt_zero j)
  | succ i ih =>
    intro j hj
    have eN : wN P (i + 1) = if isLP (P i) then (if prL P i then wN P i else wN P i + 1) else wN P i := rfl
    have eS : wS P (i + 1) = if isLP (P i) ∧ ¬ prL P i then upN (wS P i) (wN P i) i else wS P i := rfl
    have eE : wE P (i + 1) = if isLP (P i) then upN (wE P i) (wN P (i + 1) - 1) (i + 1) else wE P i := rfl
    by_cases z : isLP (P i)
    · rw [eE, if_pos z]
      by_cases y : prL P i
      · have e2 : wN P (i + 1) = wN P i := by rw [eN, if_pos z, if_pos y]
        rw [e2] at hj
        rw [eS, if_neg (fun q => q.2 y), e2]
        have := ih j hj
        unfold upN
        split <;> omega
      · have e2 : wN P (i + 1) = wN P i + 1 := by rw [eN, if_pos z, if_neg y]
        rw [e2] at hj
        rw [eS, if_pos ⟨z, y⟩, e2, Nat.add_sub_cancel]
        unfold upN
        by_cases q : j = wN P i
        · rw [if_pos q, if_pos q]
          omega
        · rw [if_neg q, if_neg q]
          have := ih j (by omega)
          omega
    · rw [eN, if_neg z] at hj
      rw [eS, if_neg (fun q => z q.1), eE, if_neg z]
      have := ih j hj
      omega
/-- rows hold the words of the first i signs -/
def WDp (P : Nat → Int) (i : Nat) (n : Int) (S E : Nat → Int32) : Prop := n = (wN P i : Int) ∧ ∀ j : Nat, j < wN P i → (S j).toInt = (wS P i j : Int) ∧ (E j).toInt = (wE P i j : Int)
theorem WD_0 (P : Nat → Int) (S E : Nat → Int32) : WDp P 0 0 S E := ⟨rfl, fun j hj => absurd hj (Nat.not_lt_zero j)⟩
theorem WD_no {P : Nat → Int} {i i2 : Nat} {n n2 : Int} {S E S2 E2 : Nat → Int32} (h : WDp P i n S E) (hl : ¬ isLP (P i)) (e : i2 = i + 1) (en : n2 = n) (eS : S2 = S) (eE : E2 = E) : WDp P i2 n2 S2 E2 := by
  subst e
  subst en
  subst eS
  subst eE
  have e1 : wN P (i + 1) = wN P i := if_neg hl
  have e2 : wS P (i + 1) = wS P i := if_neg (fun q => hl q.1)
  have e3 : wE P (i + 1) = wE P i := if_neg hl
  unfold WDp
  rw [e1, e2, e3]
  exact h
theorem WD_in {P : Nat → Int} {i i2 : Nat} {n n2 : Int} {S E S2 E2 : Nat → Int32} {k : Nat} {v : Int32} (h : WDp P i n S E) (hl : isLP (P i)) (hp : prL P i) (e : i2 = i + 1) (en : n2 = n) (eS : S2 = S) (eE : E2 = upd E k v) (ek : (k : Int) = n - 1) (ev : v.toInt = (i : Int) + 1) : WDp P i2 n2 S2 E2 := by
  subst e
  subst en
  subst eS
  have e1 : wN P (i + 1) = wN P i := by
    show (if isLP (P i) then (if prL P i then wN P i else wN P i + 1) else wN P i) = _
    rw [if_pos hl, if_pos hp]
  have e2 : wS P (i + 1) = wS P i := if_neg (fun q => q.2 hp)
  have e3 : wE P (i + 1) = upN (wE P i) (wN P i - 1) (i + 1) := by
    show (if isLP (P i) then upN (wE P i) (wN P (i + 1) - 1) (i + 1) else wE P i) = _
    rw [if_pos hl, e1]
  have w1 := wN_pos hp
  have hn := h.1
  unfold WDp
  rw [e1, e2, e3]
  refine ⟨h.1, fun j hj => ⟨(h.2 j hj).1, ?_⟩⟩
  rw [eE]
  by_cases q : j = k
  · rw [q, upd_eq, ev]
    unfold upN
    rw [if_pos (by omega)]
    rfl
  · rw [upd_ne q]
    unfold upN
    rw [if_neg (by omega)]
    exact (h.2 j hj).2
theorem WD_new {P : Nat → Int} {i i2 : Nat} {n n2 : Int} {S E S2 E2 : Nat → Int32} {k : Nat} {u v : Int32} (h : WDp P i n S E) (hl : isLP (P i)) (hp : ¬ prL P i) (e : i2 = i + 1) (en : n2 = n + 1) (eS : S2 = upd S k u) (eE : E2 = upd E k v) (ek : (k : Int) = n) (eu : u.toInt = (i : Int)) (ev : v.toInt = (i : Int) + 1) : WDp P i2 n2 S2 E2 := by
  subst e
  subst en
  have e1 : wN P (i + 1) = wN P i + 1 := by
    show (if isLP (P i) then (if prL P i then wN P i else wN P i + 1) else wN P i) = _
    rw [if_pos hl, if_neg hp]
  have e2 : wS P (i + 1) = upN (wS P i) (wN P i) i := if_pos ⟨hl, hp⟩
  have e3 : wE P (i + 1) = upN (wE P i) (wN P i) (i + 1) := by
    show (if isLP (P i) then upN (wE P i) (wN P (i + 1) - 1) (i + 1) else wE P i) = _
    rw [if_pos hl, e1, Nat.add_sub_cancel]
  have hn := h.1
  unfold WDp
  rw [e1, e2, e3]
  refine ⟨by omega, fun j hj => ?_⟩
  rw [eS, eE]
  unfold upN
  by_cases q : j = k
  · rw [q, upd_eq, upd_eq, eu, ev, if_pos (by omega), if_pos (by omega)]
    exact ⟨rfl, rfl⟩
  · rw [upd_ne q, upd_ne q, if_neg (by omega), if_neg (by omega)]
    exact h.2 j (by omega)
theorem if_cg {α : Type} {b c : Prop} [Decidable b] [Decidable c] (h : b ↔ c) (x y : α) : (if b then x else y) = if c then x else y := by
  by_cases q : c
  · rw [if_pos q, if_pos (h.mpr q)]
  · rw [if_neg q, if_neg (fun z => q (h.mp z))]
theorem WD_congr {P P2 : Nat → Int} {i : Nat} (h : ∀ j : Nat, j < i → P j = P2 j) : wN P i = wN P2 i ∧ wS P i = wS P2 i ∧ wE P i = wE P2 i := by
  induction i with
  | zero => exact ⟨rfl, rfl, rfl⟩
  | succ i ih =>
    obtain ⟨a, b, c⟩ := ih (fun j hj => h j (by omega))
    have hi := h i (by omega)
    have hp : prL P i ↔ prL P2 i := by
      unfold prL
      by_cases z : 0 < i
      · rw [h (i - 1) (by omega)]
      · exact ⟨fun q => absurd q.1 z, fun q => absurd q.1 z⟩
    have e1 : wN P (i + 1) = wN P2 (i + 1) := by
      show (if isLP (P i) then (if prL P i then wN P i else wN P i + 1) else wN P i) = (if isLP (P2 i) then (if prL P2 i then wN P2 i else wN P2 i + 1) else wN P2 i)
      rw [a, hi, if_cg hp]
    refine ⟨e1, ?_, ?_⟩
    · show (if isLP (P i) ∧ ¬ prL P i then upN (wS P i) (wN P i) i else wS P i) = (if isLP (P2 i) ∧ ¬ prL P2 i then upN (wS P2 i) (wN P2 i) i else wS P2 i)
      rw [a, b, hi]
      exact if_cg (and_congr Iff.rfl (not_congr hp)) _ _
    · show (if isLP (P i) then upN (wE P i) (wN P (i + 1) - 1) (i + 1) else wE P i) = (if isLP (P2 i) then upN (wE P2 i) (wN P2 (i + 1) - 1) (i + 1) else wE P2 i)
      rw [c, hi, e1]
/-- two words are the same -/
def smP (P : Nat → Int) (a b : Nat) (Q : Nat → Int) (c d : Nat) : Prop := b - a = d - c ∧ ∀ k : Nat, k < b - a → P (a + k) = Q (c + k)
/-- a row of how far, out of the one above it -/
noncomputable def dlN (s : Nat → Prop) (up : Nat → Nat) (i : Nat) : Nat → Nat
  | 0 => i + 1
  | j + 1 => min (min (up (j + 1)) (dlN s up i j) + 1) (up j + (@ite Nat (s j) (Classical.propDecidable _) 0 1))
/-- how far the first i words of the one are from the first j of the other; s: which are the same -/
noncomputable def dl (s : Nat → Nat → Prop) : Nat → Nat → Nat
  | 0 => fun j => j
  | i + 1 => dlN (s i) (dl s i) i
theorem dl_le (s : Nat → Nat → Prop) (i : Nat) : ∀ j : Nat, dl s i j ≤ i + j := by
  induction i with
  | zero => exact fun j => (show j ≤ 0 + j by omega)
  | succ i ih =>
    intro j
    cases j with
    | zero => exact (show i + 1 ≤ i + 1 + 0 by omega)
    | succ j =>
      have h := ih (j + 1)
      show min (min (dl s i (j + 1)) (dl s (i + 1) j) + 1) (dl s i j + (@ite Nat (s i j) (Classical.propDecidable _) 0 1)) ≤ _
      omega
theorem dl_0 (s : Nat → Nat → Prop) (i : Nat) : dl s i 0 = i := by
  cases i <;> rfl
theorem dl_step {s : Nat → Nat → Prop} {i j : Nat} {a b c e : Nat} (ha : a = dl s i (j + 1)) (hb : b = dl s (i + 1) j) (hc : c = dl s i j) (he : (s i j ∧ e = 0) ∨ (¬ s i j ∧ e = 1)) : dl s (i + 1) (j + 1) = min (min a b + 1) (c + e) := by
  subst ha
  subst hb
  subst hc
  have z : (@ite Nat (s i j) (Classical.propDecidable _) 0 1) = e := by
    rcases he with ⟨h, h2⟩ | ⟨h, h2⟩
    · rw [h2]
      exact if_pos h
    · rw [h2]
      exact if_neg h
  show min (min (dl s i (j + 1)) (dl s (i + 1) j) + 1) (dl s i j + (@ite Nat (s i j) (Classical.propDecidable _) 0 1)) = _
  rw [z]
theorem dl_congr {s s2 : Nat → Nat → Prop} {m n : Nat} (h : ∀ i j : Nat, i < m → j < n → (s i j ↔ s2 i j)) (i : Nat) : ∀ j : Nat, i ≤ m → j ≤ n → dl s i j = dl s2 i j := by
  induction i with
  | zero => exact fun j _ _ => rfl
  | succ i ih =>
    intro j
    induction j with
    | zero => exact fun _ _ => rfl
    | succ j ih2 =>
      intro hi hj
      have z : (@ite Nat (s i j) (Classical.propDecidable _) 0 1) = (@ite Nat (s2 i j) (Classical.propDecidable _) 0 1) := by
        by_cases q : s i j
        · rw [if_pos q, if_pos ((h i j (by omega) (by omega)).mp q)]
        · rw [if_neg q, if_neg (fun y => q ((h i j (by omega) (by omega)).mpr y))]
      show min (min (dl s i (j + 1)) (dl s (i + 1) j) + 1) (dl s i j + _) = min (min (dl s2 i (j + 1)) (dl s2 (i + 1) j) + 1) (dl s2 i j + _)
      rw [z, ih (j + 1) (by omega) hj, ih2 hi (by omega), ih j (by omega) (by omega)]
/-- what is printed, as signs -/
def pX (σ : ST) : Nat → Int := fun j => (σ.2 45 j).toInt
set_option maxHeartbeats 4000000 in
set_option maxRecDepth 100000 in
theorem e_X10_split_9 (l : Launch) (L : WL) (σ : ST) (n : Int32) (hn : 0 ≤ n.toInt ∧ n.toInt ≤ 160) (ix : IV σ) : CtV l L yX10_split cX10_split 5 none rm_X10_split [.ref (L.2.1 9), .ref (L.2.1 45), .int n] σ (fun σ2 => WX σ σ2 ∧ WDp (pX σ) (n).toNatClampNeg (σ2.1 15).toInt (σ2.2 47) (σ2.2 48) ∧ (∀ j : Nat, (j : Int) < n.toInt → (σ2.2 46 j).toInt = pX σ j) ∧ (∀ q : Nat, q ≠ 46 → q ≠ 47 → q ≠ 48 → σ2.2 q = σ.2 q) ∧ ∀ q : Nat, q ≠ 15 → σ2.1 q = σ.1 q) := by
  refine ctV_go (own := RX10) (by decide) rfl (Nat.le_of_ble_eq_true rfl) (fun F hF => ?_)
  subst hF
  have n0 : (0 : Int32).toInt = 0 := by decide
  have n1 : (1 : Int32).toInt = 1 := by decide
  have n80 : (80 : Int32).toInt = 80 := by decide
  have n160 : (160 : Int32).toInt = 160 := by decide
  have w0 : WX σ σ := WX_rfl ix
  have cn := cnat (x := n) (by omega)
  have z0 : (0 : Int32).toNatClampNeg = 0 := by decide
  refine go_iconst (v := 0) (pc' := 1) dX10_split_0 rfl (by decide) ?_
  refine go_istore_n (i := 3) (pc' := 2) dX10_split_1 rfl rfl (by decide) ?_
  refine go_aload_n (i := 0) (pc' := 3) dX10_split_2 rfl rfl rfl ?_
  refine go_iconst (v := 0) (pc' := 4) dX10_split_3 rfl (by decide) ?_
  refine pf_9_size (pc' := 7) dX10_split_4 rfl fl_X10_9 ?_
  refine go_gen (P := fun s => WX σ s ∧ s.1 15 = (0 : Int32) ∧ s.2 = σ.2 ∧ ∀ q : Nat, q ≠ 15 → s.1 q = σ.1 q) ⟨⟨ixs_15 w0.1 (by omega) (by omega), Ag_setI w0.2 (by decide)⟩, ⟨setI_same _ _ _, rfl, fun q hq => setI_ne _ _ _ hq⟩⟩ (fun σ1 z1 => ?_)
  obtain ⟨w1, g1⟩ := z1
  have g0 := g1
  have g0i := congrArg Int32.toInt g0.1
  refine go_iconst (v := 0) (pc' := 8) dX10_split_7 rfl (by decide) ?_
  refine go_istore (pc' := 10) dX10_split_8 rfl (by decide) ?_
  have loop10_2 : ∀ (dd2 : Nat) (σ2 : ST) (x3_2 : Int32) (x4_2 : Int32), WX σ σ2 → (0 ≤ (x4_2).toInt ∧ (x4_2).toInt ≤ n.toInt) → (((x3_2).toInt = 1 ∧ prL (pX σ) (x4_2).toNatClampNeg) ∨ ((x3_2).toInt = 0 ∧ ¬ prL (pX σ) (x4_2).toNatClampNeg)) → (σ2.2 45 = σ.2 45) → (∀ j : Nat, (j : Int) < (x4_2).toInt → (σ2.2 46 j).toInt = pX σ j) → (WDp (pX σ) (x4_2).toNatClampNeg (σ2.1 15).toInt (σ2.2 47) (σ2.2 48)) → (∀ q : Nat, q ≠ 46 → q ≠ 47 → q ≠ 48 → σ2.2 q = σ.2 q) → (∀ q : Nat, q ≠ 15 → σ2.1 q = σ.1 q) → (160 - (x4_2).toInt).toNat = dd2 → Go F L RX10 cX10_split 5 rm_X10_split none (RV F L (fun σ2 => WX σ σ2 ∧ WDp (pX σ) (n).toNatClampNeg (σ2.1 15).toInt (σ2.2 47) (σ2.2 48) ∧ (∀ j : Nat, (j : Int) < n.toInt → (σ2.2 46 j).toInt = pX σ j) ∧ (∀ q : Nat, q ≠ 46 → q ≠ 47 → q ≠ 48 → σ2.2 q = σ.2 q) ∧ ∀ q : Nat, q ≠ 15 → σ2.1 q = σ.1 q)) σ2 10 [(0, .ref (L.2.1 9)), (1, .ref (L.2.1 45)), (2, .int n), (3, .int x3_2), (4, .int x4_2)] [] := by
    intro dd2
    induction dd2 using Nat.strongRecOn with
    | _ dd2 ih2 =>
      intro σ2 x3_2 x4_2 w2 h_2 hw_2 hq_2 hb_2 hd_2 ha_2 hi_2 hm_2
      refine go_iload (pc' := 12) dX10_split_10 rfl rfl ?_
      refine go_iload_n (i := 2) (pc' := 13) dX10_split_12 rfl rfl rfl ?_
      refine gz_icmp_ge (tgt := 123) (pc' := 16) dX10_split_13 rfl (by decide) (fun c3 => ?_) (fun c3 => ?_)
      · exact go_vret dX10_split_123 rfl (⟨w2, by have c4 := cnat (x := x4_2) (by omega); rw [show (n).toNatClampNeg = (x4_2).toNatClampNeg from by omega]; exact hd_2, fun j hj => hb_2 j (by omega), ha_2, hi_2⟩)
      refine go_iload (pc' := 18) dX10_split_16 rfl rfl ?_
      refine go_sipush (v := 160) (pc' := 21) dX10_split_18 rfl (by decide) ?_
      refine gz_icmp_ge (tgt := 123) (pc' := 24) dX10_split_21 rfl (by decide) (fun c4 => (by exfalso; omega)) (fun c4 => ?_)
      have c4 := cnat (x := x4_2) (by omega)
      have e45 := hq_2
      have wle := wN_le (pX σ) (x4_2).toNatClampNeg
      have hsz := hd_2.1
      have p45 : (σ2.2 45 (x4_2).toNatClampNeg).toInt = (pX σ (x4_2).toNatClampNeg) := by rw [e45]; rfl
      have r45 := ixa_45 w2.1 (x4_2).toNatClampNeg (by omega)
      have b8i : ((σ2.2 45 (x4_2).toNatClampNeg).toInt8.toInt32).toInt = (pX σ (x4_2).toNatClampNeg) := by rw [b8_id r45]; exact p45
      refine go_aload_n (i := 0) (pc' := 25) dX10_split_24 rfl rfl rfl ?_
      refine gf_9_bytes (pc' := 28) dX10_split_25 rfl fl_X10_15 ?_
      refine go_iload (pc' := 30) dX10_split_28 rfl rfl ?_
      refine go_aload_n (i := 1) (pc' := 31) dX10_split_30 rfl rfl rfl ?_
      refine go_iload (pc' := 33) dX10_split_31 rfl rfl ?_
      refine go_bald (pc' := 34) dX10_split_33 rfl (by decide) (by decide) rfl (vin_of (n := 160) (by omega) (by omega)) ?_
      refine go_rngA (ixa_45 w2.1) (vinlt (vin_of (n := 160) (by omega) (by omega))) (fun g5 => ?_)
      refine go_bast (pc' := 35) dX10_split_34 rfl (by decide) (by decide) rfl (vin_of (n := 160) (by omega) (by omega)) ?_
      refine go_gen (P := fun s => WX σ s ∧ (∀ q : Nat, q ≠ 46 → s.2 q = σ2.2 q) ∧ s.2 46 = upd (σ2.2 46) (x4_2).toNatClampNeg (((σ2.2 45 (x4_2).toNatClampNeg))).toInt8.toInt32 ∧ s.1 = σ2.1) ⟨⟨ixt_46 w2.1 (b8 _).1 (b8 _).2, Ag_setA w2.2 (by decide)⟩, ⟨fun q hq => setA_ne (a := q) _ _ _ _ hq, setA_same _ _ _ _, rfl⟩⟩ (fun σ6 z6 => ?_)
      obtain ⟨w6, g6⟩ := z6
      have gb := g6
      refine go_aload_n (i := 1) (pc' := 36) dX10_split_35 rfl rfl rfl ?_
      refine go_iload (pc' := 38) dX10_split_36 rfl rfl ?_
      have p45b : (σ6.2 45 (x4_2).toNatClampNeg).toInt = (pX σ (x4_2).toNatClampNeg) := by rw [gb.1 45 (by decide)]; exact p45
      have zb := congrArg Int32.toInt (congrFun gb.2.2 15)
      refine go_bald (pc' := 39) dX10_split_38 rfl (by decide) (by decide) rfl (vin_of (n := 160) (by omega) (by omega)) ?_
      refine go_rngA (ixa_45 w6.1) (vinlt (vin_of (n := 160) (by omega) (by omega))) (fun g7 => ?_)
      refine go_csi (pc' := 42) ls_X10_29 (c_X3_isLetter _ _ _ _) rfl rfl (Nat.le_of_ble_eq_true rfl) ⟨Nat.le_of_ble_eq_true rfl, Nat.le_of_ble_eq_true rfl⟩ ⟨rfl, rfl⟩ dX10_split_39 rfl (fun r8 σ8 h8 => ?_)
      obtain ⟨e8, h8⟩ := h8
      have e8 := e8.symm
      subst e8
      refine go_neB (tgt := 50) (pc' := 45) h8 dX10_split_42 rfl (by decide) (fun c9 => ?_) (fun c9 => ?_)
      · have hl : isLP (pX σ (x4_2).toNatClampNeg) := by omega
        refine go_iload_n (i := 3) (pc' := 51) dX10_split_50 rfl rfl rfl ?_
        refine gz_if_eq (tgt := 72) (pc' := 54) dX10_split_51 rfl (by decide) (fun c10 => ?_) (fun c10 => ?_)
        · have hp : ¬ prL (pX σ) (x4_2).toNatClampNeg := by
            rcases hw_2 with q | q
            · exfalso
              have q1 := q.1
              omega
            · exact q.2
          have w2 := wle.2 hp
          refine go_aload_n (i := 0) (pc' := 73) dX10_split_72 rfl rfl rfl ?_
          refine gf_9_size (pc' := 76) dX10_split_73 rfl fl_X10_9 ?_
          have g11 := ixi_15 w6.1
          refine go_bipush (v := 80) (pc' := 78) dX10_split_76 rfl (by decide) ?_
          refine gz_icmp_ge (tgt := 117) (pc' := 81) dX10_split_78 rfl (by decide) (fun c12 => (by exfalso; omega)) (fun c12 => ?_)
          refine go_iconst (v := 1) (pc' := 82) dX10_split_81 rfl (by decide) ?_
          refine go_istore_n (i := 3) (pc' := 83) dX10_split_82 rfl rfl (by decide) ?_
          refine go_aload_n (i := 0) (pc' := 84) dX10_split_83 rfl rfl rfl ?_
          refine gf_9_starts (pc' := 87) dX10_split_84 rfl fl_X10_19 ?_
          refine go_aload_n (i := 0) (pc' := 88) dX10_split_87 rfl rfl rfl ?_
          refine gf_9_size (pc' := 91) dX10_split_88 rfl fl_X10_9 ?_
          have g13 := ixi_15 w6.1
          refine go_iload (pc' := 93) dX10_split_91 rfl rfl ?_
          refine go_iast (pc' := 94) dX10_split_93 rfl (by decide) (by decide) rfl (vin_of (n := 80) (by omega) (by omega)) ?_
          refine go_gen (P := fun s => WX σ s ∧ (∀ q : Nat, q ≠ 47 → s.2 q = σ6.2 q) ∧ s.2 47 = upd (σ6.2 47) ((σ6.1 15)).toNatClampNeg x4_2 ∧ s.1 = σ6.1) ⟨⟨ixt_47 w6.1 (by omega) (by omega), Ag_setA w6.2 (by decide)⟩, ⟨fun q hq => setA_ne (a := q) _ _ _ _ hq, setA_same _ _ _ _, rfl⟩⟩ (fun σ14 z14 => ?_)
          obtain ⟨w14, g14⟩ := z14
          have gs := g14
          have zs := congrArg Int32.toInt (congrFun gs.2.2 15)
          refine go_aload_n (i := 0) (pc' := 95) dX10_split_94 rfl rfl rfl ?_
          refine gf_9_ends (pc' := 98) dX10_split_95 rfl fl_X10_23 ?_
          refine go_aload_n (i := 0) (pc' := 99) dX10_split_98 rfl rfl rfl ?_
          refine gf_9_size (pc' := 102) dX10_split_99 rfl fl_X10_9 ?_
          have g15 := ixi_15 w14.1
          refine go_iload (pc' := 104) dX10_split_102 rfl rfl ?_
          refine go_iconst (v := 1) (pc' := 105) dX10_split_104 rfl (by decide) ?_
          refine gz_iadd (pc' := 106) dX10_split_105 rfl (by omega) (fun v16 h16 e16 => ?_)
          refine go_iast (pc' := 107) dX10_split_106 rfl (by decide) (by decide) rfl (vin_of (n := 80) (by omega) (by omega)) ?_
          refine go_gen (P := fun s => WX σ s ∧ (∀ q : Nat, q ≠ 48 → s.2 q = σ14.2 q) ∧ s.2 48 = upd (σ14.2 48) ((σ14.1 15)).toNatClampNeg v16 ∧ s.1 = σ14.1) ⟨⟨ixt_48 w14.1 (by omega) (by omega), Ag_setA w14.2 (by decide)⟩, ⟨fun q hq => setA_ne (a := q) _ _ _ _ hq, setA_same _ _ _ _, rfl⟩⟩ (fun σ17 z17 => ?_)
          obtain ⟨w17, g17⟩ := z17
          have ge := g17
          have ze := congrArg Int32.toInt (congrFun ge.2.2 15)
          refine go_aload_n (i := 0) (pc' := 108) dX10_split_107 rfl rfl rfl ?_
          refine go_dup (pc' := 109) dX10_split_108 rfl rfl ?_
          refine gf_9_size (pc' := 112) dX10_split_109 rfl fl_X10_9 ?_
          have g18 := ixi_15 w17.1
          refine go_iconst (v := 1) (pc' := 113) dX10_split_112 rfl (by decide) ?_
          refine gz_iadd (pc' := 114) dX10_split_113 rfl (by omega) (fun v19 h19 e19 => ?_)
          refine pf_9_size (pc' := 117) dX10_split_114 rfl fl_X10_9 ?_
          refine go_gen (P := fun s => WX σ s ∧ s.1 15 = v19 ∧ s.2 = σ17.2 ∧ ∀ q : Nat, q ≠ 15 → s.1 q = σ17.1 q) ⟨⟨ixs_15 w17.1 (by omega) (by omega), Ag_setI w17.2 (by decide)⟩, ⟨setI_same _ _ _, rfl, fun q hq => setI_ne _ _ _ hq⟩⟩ (fun σ20 z20 => ?_)
          obtain ⟨w20, g20⟩ := z20
          have gz := g20
          have gzi := congrArg Int32.toInt gz.1
          have cix := cnat (x := (σ14.1 15)) (by omega)
          have ciy := cnat (x := (σ6.1 15)) (by omega)
          have exy : ((σ6.1 15)).toNatClampNeg = ((σ14.1 15)).toNatClampNeg := by omega
          have f45 := (congrFun gz.2.1 45).trans ((ge.1 45 (by decide)).trans ((gs.1 45 (by decide)).trans ((gb.1 45 (by decide)).trans e45)))
          have fB : σ20.2 46 = upd (σ2.2 46) (x4_2).toNatClampNeg ((σ2.2 45 (x4_2).toNatClampNeg).toInt8.toInt32) := (congrFun gz.2.1 46).trans ((ge.1 46 (by decide)).trans ((gs.1 46 (by decide)).trans gb.2.1))
          have fA : ∀ q : Nat, q ≠ 46 → q ≠ 47 → q ≠ 48 → σ20.2 q = σ.2 q := fun q h1 h2 h3 => (congrFun gz.2.1 q).trans ((ge.1 q h3).trans ((gs.1 q h2).trans ((gb.1 q h1).trans (ha_2 q h1 h2 h3))))
          have fI : ∀ q : Nat, q ≠ 15 → σ20.1 q = σ.1 q := fun q h1 => (gz.2.2 q h1).trans ((congrFun ge.2.2 q).trans ((congrFun gs.2.2 q).trans ((congrFun gb.2.2 q).trans (hi_2 q h1))))
          have fWD : ∀ i2 : Nat, i2 = (x4_2).toNatClampNeg + 1 → WDp (pX σ) i2 (σ20.1 15).toInt (σ20.2 47) (σ20.2 48) := fun i2 e => WD_new (k := ((σ14.1 15)).toNatClampNeg) (u := x4_2) (v := v16) hd_2 hl hp e (by omega) ((congrFun gz.2.1 47).trans ((ge.1 47 (by decide)).trans (by rw [gs.2.1, gb.1 47 (by decide), exy]))) ((congrFun gz.2.1 48).trans (by rw [ge.2.1, gs.1 48 (by decide), gb.1 48 (by decide)])) (by omega) (by omega) (by omega)
          refine gz_iinc (c := 1) (pc' := 120) dX10_split_117 rfl rfl (by decide) (by decide) (by decide) (by omega) (fun v21 h21 e21 => ?_)
          refine go_goto (tgt := 10) dX10_split_120 (by decide) ?_
          exact go_lv (lv' := [(0, .ref (L.2.1 9)), (1, .ref (L.2.1 45)), (2, .int n), (3, .int (1 : Int32)), (4, .int v21)]) rfl (ih2 _ (by omega) σ20 (1 : Int32) v21 w20 (by omega) (by have cv := cnat (x := v21) (by omega); have ei : (v21).toNatClampNeg = (x4_2).toNatClampNeg + 1 := (by omega); rw [ei, prL_s]; first | exact Or.inl ⟨by omega, hl⟩ | exact Or.inr ⟨by omega, hl⟩) f45 (upd_step (P := fun j z => z.toInt = pX σ j) hb_2 fB b8i (by omega) (by omega)) (fWD _ (by have cv := cnat (x := v21) (by omega); omega)) fA fI rfl)
        have hp : prL (pX σ) (x4_2).toNatClampNeg := by
          rcases hw_2 with q | q
          · exact q.2
          · exfalso
            have q1 := q.1
            omega
        have w1 := wN_pos hp
        refine go_aload_n (i := 0) (pc' := 55) dX10_split_54 rfl rfl rfl ?_
        refine gf_9_ends (pc' := 58) dX10_split_55 rfl fl_X10_23 ?_
        refine go_aload_n (i := 0) (pc' := 59) dX10_split_58 rfl rfl rfl ?_
        refine gf_9_size (pc' := 62) dX10_split_59 rfl fl_X10_9 ?_
        have g22 := ixi_15 w6.1
        refine go_iconst (v := 1) (pc' := 63) dX10_split_62 rfl (by decide) ?_
        refine gz_isub (pc' := 64) dX10_split_63 rfl (by omega) (fun v23 h23 e23 => ?_)
        refine go_iload (pc' := 66) dX10_split_64 rfl rfl ?_
        refine go_iconst (v := 1) (pc' := 67) dX10_split_66 rfl (by decide) ?_
        refine gz_iadd (pc' := 68) dX10_split_67 rfl (by omega) (fun v24 h24 e24 => ?_)
        refine go_iast (pc' := 69) dX10_split_68 rfl (by decide) (by decide) rfl (vin_of (n := 80) (by omega) (by omega)) ?_
        refine go_gen (P := fun s => WX σ s ∧ (∀ q : Nat, q ≠ 48 → s.2 q = σ6.2 q) ∧ s.2 48 = upd (σ6.2 48) (v23).toNatClampNeg v24 ∧ s.1 = σ6.1) ⟨⟨ixt_48 w6.1 (by omega) (by omega), Ag_setA w6.2 (by decide)⟩, ⟨fun q hq => setA_ne (a := q) _ _ _ _ hq, setA_same _ _ _ _, rfl⟩⟩ (fun σ25 z25 => ?_)
        obtain ⟨w25, g25⟩ := z25
        have ge := g25
        have cix := cnat (x := v23) (by omega)
        have ze := congrArg Int32.toInt (congrFun ge.2.2 15)
        have f45 := (ge.1 45 (by decide)).trans ((gb.1 45 (by decide)).trans e45)
        have fB : σ25.2 46 = upd (σ2.2 46) (x4_2).toNatClampNeg ((σ2.2 45 (x4_2).toNatClampNeg).toInt8.toInt32) := (ge.1 46 (by decide)).trans gb.2.1
        have fA : ∀ q : Nat, q ≠ 46 → q ≠ 47 → q ≠ 48 → σ25.2 q = σ.2 q := fun q h1 h2 h3 => (ge.1 q h3).trans ((gb.1 q h1).trans (ha_2 q h1 h2 h3))
        have fI : ∀ q : Nat, q ≠ 15 → σ25.1 q = σ.1 q := fun q h1 => (congrFun ge.2.2 q).trans ((congrFun gb.2.2 q).trans (hi_2 q h1))
        have fWD : ∀ i2 : Nat, i2 = (x4_2).toNatClampNeg + 1 → WDp (pX σ) i2 (σ25.1 15).toInt (σ25.2 47) (σ25.2 48) := fun i2 e => WD_in (k := (v23).toNatClampNeg) (v := v24) hd_2 hl hp e (ze.trans zb) ((ge.1 47 (by decide)).trans (gb.1 47 (by decide))) (by rw [ge.2.1, gb.1 48 (by decide)]) (by omega) (by omega)
        refine go_goto (tgt := 117) dX10_split_69 (by decide) ?_
        refine gz_iinc (c := 1) (pc' := 120) dX10_split_117 rfl rfl (by decide) (by decide) (by decide) (by omega) (fun v26 h26 e26 => ?_)
        refine go_goto (tgt := 10) dX10_split_120 (by decide) ?_
        exact go_lv (lv' := [(0, .ref (L.2.1 9)), (1, .ref (L.2.1 45)), (2, .int n), (3, .int x3_2), (4, .int v26)]) rfl (ih2 _ (by omega) σ25 x3_2 v26 w25 (by omega) (by have cv := cnat (x := v26) (by omega); have ei : (v26).toNatClampNeg = (x4_2).toNatClampNeg + 1 := (by omega); rw [ei, prL_s]; first | exact Or.inl ⟨by omega, hl⟩ | exact Or.inr ⟨by omega, hl⟩) f45 (upd_step (P := fun j z => z.toInt = pX σ j) hb_2 fB b8i (by omega) (by omega)) (fWD _ (by have cv := cnat (x := v26) (by omega); omega)) fA fI rfl)
      have hl : ¬ isLP (pX σ (x4_2).toNatClampNeg) := fun q => by omega
      have f45 := (gb.1 45 (by decide)).trans e45
      have fB : σ6.2 46 = upd (σ2.2 46) (x4_2).toNatClampNeg ((σ2.2 45 (x4_2).toNatClampNeg).toInt8.toInt32) := gb.2.1
      have fA : ∀ q : Nat, q ≠ 46 → q ≠ 47 → q ≠ 48 → σ6.2 q = σ.2 q := fun q h1 h2 h3 => (gb.1 q h1).trans (ha_2 q h1 h2 h3)
      have fI : ∀ q : Nat, q ≠ 15 → σ6.1 q = σ.1 q := fun q h1 => (congrFun gb.2.2 q).trans (hi_2 q h1)
      have fWD : ∀ i2 : Nat, i2 = (x4_2).toNatClampNeg + 1 → WDp (pX σ) i2 (σ6.1 15).toInt (σ6.2 47) (σ6.2 48) := fun i2 e => WD_no hd_2 hl e zb (gb.1 47 (by decide)) (gb.1 48 (by decide))
      refine go_iconst (v := 0) (pc' := 46) dX10_split_45 rfl (by decide) ?_
      refine go_istore_n (i := 3) (pc' := 47) dX10_split_46 rfl rfl (by decide) ?_
      refine go_goto (tgt := 117) dX10_split_47 (by decide) ?_
      refine gz_iinc (c := 1) (pc' := 120) dX10_split_117 rfl rfl (by decide) (by decide) (by decide) (by omega) (fun v27 h27 e27 => ?_)
      refine go_goto (tgt := 10) dX10_split_120 (by decide) ?_
      exact go_lv (lv' := [(0, .ref (L.2.1 9)), (1, .ref (L.2.1 45)), (2, .int n), (3, .int (0 : Int32)), (4, .int v27)]) rfl (ih2 _ (by omega) σ6 (0 : Int32) v27 w6 (by omega) (by have cv := cnat (x := v27) (by omega); have ei : (v27).toNatClampNeg = (x4_2).toNatClampNeg + 1 := (by omega); rw [ei, prL_s]; first | exact Or.inl ⟨by omega, hl⟩ | exact Or.inr ⟨by omega, hl⟩) f45 (upd_step (P := fun j z => z.toInt = pX σ j) hb_2 fB b8i (by omega) (by omega)) (fWD _ (by have cv := cnat (x := v27) (by omega); omega)) fA fI rfl)
  exact go_lv (lv' := [(0, .ref (L.2.1 9)), (1, .ref (L.2.1 45)), (2, .int n), (3, .int (0 : Int32)), (4, .int (0 : Int32))]) rfl (loop10_2 _ σ1 (0 : Int32) (0 : Int32) w1 (by omega) (Or.inr ⟨n0, fun q => by rw [z0] at q; exact absurd q.1 (Nat.lt_irrefl 0)⟩) (congrFun g0.2.1 45) (fun j hj => by exfalso; omega) (by rw [z0, g0i, n0]; exact WD_0 _ _ _) (fun q _ _ _ => congrFun g0.2.1 q) g0.2.2 rfl)
set_option maxHeartbeats 4000000 in
set_option maxRecDepth 100000 in
theorem e_X10_split_10 (l : Launch) (L : WL) (σ : ST) (n : Int32) (hn : 0 ≤ n.toInt ∧ n.toInt ≤ 160) (ix : IV σ) : CtV l L yX10_split cX10_split 5 none rm_X10_split [.ref (L.2.1 10), .ref (L.2.1 45), .int n] σ (fun σ2 => WX σ σ2 ∧ WDp (pX σ) (n).toNatClampNeg (σ2.1 16).toInt (σ2.2 51) (σ2.2 52) ∧ (∀ j : Nat, (j : Int) < n.toInt → (σ2.2 50 j).toInt = pX σ j) ∧ (∀ q : Nat, q ≠ 50 → q ≠ 51 → q ≠ 52 → σ2.2 q = σ.2 q) ∧ ∀ q : Nat, q ≠ 16 → σ2.1 q = σ.1 q) := by
  refine ctV_go (own := RX10) (by decide) rfl (Nat.le_of_ble_eq_true rfl) (fun F hF => ?_)
  subst hF
  have n0 : (0 : Int32).toInt = 0 := by decide
  have n1 : (1 : Int32).toInt = 1 := by decide
  have n80 : (80 : Int32).toInt = 80 := by decide
  have n160 : (160 : Int32).toInt = 160 := by decide
  have w0 : WX σ σ := WX_rfl ix
  have cn := cnat (x := n) (by omega)
  have z0 : (0 : Int32).toNatClampNeg = 0 := by decide
  refine go_iconst (v := 0) (pc' := 1) dX10_split_0 rfl (by decide) ?_
  refine go_istore_n (i := 3) (pc' := 2) dX10_split_1 rfl rfl (by decide) ?_
  refine go_aload_n (i := 0) (pc' := 3) dX10_split_2 rfl rfl rfl ?_
  refine go_iconst (v := 0) (pc' := 4) dX10_split_3 rfl (by decide) ?_
  refine pf_10_size (pc' := 7) dX10_split_4 rfl fl_X10_9 ?_
  refine go_gen (P := fun s => WX σ s ∧ s.1 16 = (0 : Int32) ∧ s.2 = σ.2 ∧ ∀ q : Nat, q ≠ 16 → s.1 q = σ.1 q) ⟨⟨ixs_16 w0.1 (by omega) (by omega), Ag_setI w0.2 (by decide)⟩, ⟨setI_same _ _ _, rfl, fun q hq => setI_ne _ _ _ hq⟩⟩ (fun σ1 z1 => ?_)
  obtain ⟨w1, g1⟩ := z1
  have g0 := g1
  have g0i := congrArg Int32.toInt g0.1
  refine go_iconst (v := 0) (pc' := 8) dX10_split_7 rfl (by decide) ?_
  refine go_istore (pc' := 10) dX10_split_8 rfl (by decide) ?_
  have loop10_2 : ∀ (dd2 : Nat) (σ2 : ST) (x3_2 : Int32) (x4_2 : Int32), WX σ σ2 → (0 ≤ (x4_2).toInt ∧ (x4_2).toInt ≤ n.toInt) → (((x3_2).toInt = 1 ∧ prL (pX σ) (x4_2).toNatClampNeg) ∨ ((x3_2).toInt = 0 ∧ ¬ prL (pX σ) (x4_2).toNatClampNeg)) → (σ2.2 45 = σ.2 45) → (∀ j : Nat, (j : Int) < (x4_2).toInt → (σ2.2 50 j).toInt = pX σ j) → (WDp (pX σ) (x4_2).toNatClampNeg (σ2.1 16).toInt (σ2.2 51) (σ2.2 52)) → (∀ q : Nat, q ≠ 50 → q ≠ 51 → q ≠ 52 → σ2.2 q = σ.2 q) → (∀ q : Nat, q ≠ 16 → σ2.1 q = σ.1 q) → (160 - (x4_2).toInt).toNat = dd2 → Go F L RX10 cX10_split 5 rm_X10_split none (RV F L (fun σ2 => WX σ σ2 ∧ WDp (pX σ) (n).toNatClampNeg (σ2.1 16).toInt (σ2.2 51) (σ2.2 52) ∧ (∀ j : Nat, (j : Int) < n.toInt → (σ2.2 50 j).toInt = pX σ j) ∧ (∀ q : Nat, q ≠ 50 → q ≠ 51 → q ≠ 52 → σ2.2 q = σ.2 q) ∧ ∀ q : Nat, q ≠ 16 → σ2.1 q = σ.1 q)) σ2 10 [(0, .ref (L.2.1 10)), (1, .ref (L.2.1 45)), (2, .int n), (3, .int x3_2), (4, .int x4_2)] [] := by
    intro dd2
    induction dd2 using Nat.strongRecOn with
    | _ dd2 ih2 =>
      intro σ2 x3_2 x4_2 w2 h_2 hw_2 hq_2 hb_2 hd_2 ha_2 hi_2 hm_2
      refine go_iload (pc' := 12) dX10_split_10 rfl rfl ?_
      refine go_iload_n (i := 2) (pc' := 13) dX10_split_12 rfl rfl rfl ?_
      refine gz_icmp_ge (tgt := 123) (pc' := 16) dX10_split_13 rfl (by decide) (fun c3 => ?_) (fun c3 => ?_)
      · exact go_vret dX10_split_123 rfl (⟨w2, by have c4 := cnat (x := x4_2) (by omega); rw [show (n).toNatClampNeg = (x4_2).toNatClampNeg from by omega]; exact hd_2, fun j hj => hb_2 j (by omega), ha_2, hi_2⟩)
      refine go_iload (pc' := 18) dX10_split_16 rfl rfl ?_
      refine go_sipush (v := 160) (pc' := 21) dX10_split_18 rfl (by decide) ?_
      refine gz_icmp_ge (tgt := 123) (pc' := 24) dX10_split_21 rfl (by decide) (fun c4 => (by exfalso; omega)) (fun c4 => ?_)
      have c4 := cnat (x := x4_2) (by omega)
      have e45 := hq_2
      have wle := wN_le (pX σ) (x4_2).toNatClampNeg
      have hsz := hd_2.1
      have p45 : (σ2.2 45 (x4_2).toNatClampNeg).toInt = (pX σ (x4_2).toNatClampNeg) := by rw [e45]; rfl
      have r45 := ixa_45 w2.1 (x4_2).toNatClampNeg (by omega)
      have b8i : ((σ2.2 45 (x4_2).toNatClampNeg).toInt8.toInt32).toInt = (pX σ (x4_2).toNatClampNeg) := by rw [b8_id r45]; exact p45
      refine go_aload_n (i := 0) (pc' := 25) dX10_split_24 rfl rfl rfl ?_
      refine gf_10_bytes (pc' := 28) dX10_split_25 rfl fl_X10_15 ?_
      refine go_iload (pc' := 30) dX10_split_28 rfl rfl ?_
      refine go_aload_n (i := 1) (pc' := 31) dX10_split_30 rfl rfl rfl ?_
      refine go_iload (pc' := 33) dX10_split_31 rfl rfl ?_
      refine go_bald (pc' := 34) dX10_split_33 rfl (by decide) (by decide) rfl (vin_of (n := 160) (by omega) (by omega)) ?_
      refine go_rngA (ixa_45 w2.1) (vinlt (vin_of (n := 160) (by omega) (by omega))) (fun g5 => ?_)
      refine go_bast (pc' := 35) dX10_split_34 rfl (by decide) (by decide) rfl (vin_of (n := 160) (by omega) (by omega)) ?_
      refine go_gen (P := fun s => WX σ s ∧ (∀ q : Nat, q ≠ 50 → s.2 q = σ2.2 q) ∧ s.2 50 = upd (σ2.2 50) (x4_2).toNatClampNeg (((σ2.2 45 (x4_2).toNatClampNeg))).toInt8.toInt32 ∧ s.1 = σ2.1) ⟨⟨ixt_50 w2.1 (b8 _).1 (b8 _).2, Ag_setA w2.2 (by decide)⟩, ⟨fun q hq => setA_ne (a := q) _ _ _ _ hq, setA_same _ _ _ _, rfl⟩⟩ (fun σ6 z6 => ?_)
      obtain ⟨w6, g6⟩ := z6
      have gb := g6
      refine go_aload_n (i := 1) (pc' := 36) dX10_split_35 rfl rfl rfl ?_
      refine go_iload (pc' := 38) dX10_split_36 rfl rfl ?_
      have p45b : (σ6.2 45 (x4_2).toNatClampNeg).toInt = (pX σ (x4_2).toNatClampNeg) := by rw [gb.1 45 (by decide)]; exact p45
      have zb := congrArg Int32.toInt (congrFun gb.2.2 16)
      refine go_bald (pc' := 39) dX10_split_38 rfl (by decide) (by decide) rfl (vin_of (n := 160) (by omega) (by omega)) ?_
      refine go_rngA (ixa_45 w6.1) (vinlt (vin_of (n := 160) (by omega) (by omega))) (fun g7 => ?_)
      refine go_csi (pc' := 42) ls_X10_29 (c_X3_isLetter _ _ _ _) rfl rfl (Nat.le_of_ble_eq_true rfl) ⟨Nat.le_of_ble_eq_true rfl, Nat.le_of_ble_eq_true rfl⟩ ⟨rfl, rfl⟩ dX10_split_39 rfl (fun r8 σ8 h8 => ?_)
      obtain ⟨e8, h8⟩ := h8
      have e8 := e8.symm
      subst e8
      refine go_neB (tgt := 50) (pc' := 45) h8 dX10_split_42 rfl (by decide) (fun c9 => ?_) (fun c9 => ?_)
      · have hl : isLP (pX σ (x4_2).toNatClampNeg) := by omega
        refine go_iload_n (i := 3) (pc' := 51) dX10_split_50 rfl rfl rfl ?_
        refine gz_if_eq (tgt := 72) (pc' := 54) dX10_split_51 rfl (by decide) (fun c10 => ?_) (fun c10 => ?_)
        · have hp : ¬ prL (pX σ) (x4_2).toNatClampNeg := by
            rcases hw_2 with q | q
            · exfalso
              have q1 := q.1
              omega
            · exact q.2
          have w2 := wle.2 hp
          refine go_aload_n (i := 0) (pc' := 73) dX10_split_72 rfl rfl rfl ?_
          refine gf_10_size (pc' := 76) dX10_split_73 rfl fl_X10_9 ?_
          have g11 := ixi_16 w6.1
          refine go_bipush (v := 80) (pc' := 78) dX10_split_76 rfl (by decide) ?_
          refine gz_icmp_ge (tgt := 117) (pc' := 81) dX10_split_78 rfl (by decide) (fun c12 => (by exfalso; omega)) (fun c12 => ?_)
          refine go_iconst (v := 1) (pc' := 82) dX10_split_81 rfl (by decide) ?_
          refine go_istore_n (i := 3) (pc' := 83) dX10_split_82 rfl rfl (by decide) ?_
          refine go_aload_n (i := 0) (pc' := 84) dX10_split_83 rfl rfl rfl ?_
          refine gf_10_starts (pc' := 87) dX10_split_84 rfl fl_X10_19 ?_
          refine go_aload_n (i := 0) (pc' := 88) dX10_split_87 rfl rfl rfl ?_
          refine gf_10_size (pc' := 91) dX10_split_88 rfl fl_X10_9 ?_
          have g13 := ixi_16 w6.1
          refine go_iload (pc' := 93) dX10_split_91 rfl rfl ?_
          refine go_iast (pc' := 94) dX10_split_93 rfl (by decide) (by decide) rfl (vin_of (n := 80) (by omega) (by omega)) ?_
          refine go_gen (P := fun s => WX σ s ∧ (∀ q : Nat, q ≠ 51 → s.2 q = σ6.2 q) ∧ s.2 51 = upd (σ6.2 51) ((σ6.1 16)).toNatClampNeg x4_2 ∧ s.1 = σ6.1) ⟨⟨ixt_51 w6.1 (by omega) (by omega), Ag_setA w6.2 (by decide)⟩, ⟨fun q hq => setA_ne (a := q) _ _ _ _ hq, setA_same _ _ _ _, rfl⟩⟩ (fun σ14 z14 => ?_)
          obtain ⟨w14, g14⟩ := z14
          have gs := g14
          have zs := congrArg Int32.toInt (congrFun gs.2.2 16)
          refine go_aload_n (i := 0) (pc' := 95) dX10_split_94 rfl rfl rfl ?_
          refine gf_10_ends (pc' := 98) dX10_split_95 rfl fl_X10_23 ?_
          refine go_aload_n (i := 0) (pc' := 99) dX10_split_98 rfl rfl rfl ?_
          refine gf_10_size (pc' := 102) dX10_split_99 rfl fl_X10_9 ?_
          have g15 := ixi_16 w14.1
          refine go_iload (pc' := 104) dX10_split_102 rfl rfl ?_
          refine go_iconst (v := 1) (pc' := 105) dX10_split_104 rfl (by decide) ?_
          refine gz_iadd (pc' := 106) dX10_split_105 rfl (by omega) (fun v16 h16 e16 => ?_)
          refine go_iast (pc' := 107) dX10_split_106 rfl (by decide) (by decide) rfl (vin_of (n := 80) (by omega) (by omega)) ?_
          refine go_gen (P := fun s => WX σ s ∧ (∀ q : Nat, q ≠ 52 → s.2 q = σ14.2 q) ∧ s.2 52 = upd (σ14.2 52) ((σ14.1 16)).toNatClampNeg v16 ∧ s.1 = σ14.1) ⟨⟨ixt_52 w14.1 (by omega) (by omega), Ag_setA w14.2 (by decide)⟩, ⟨fun q hq => setA_ne (a := q) _ _ _ _ hq, setA_same _ _ _ _, rfl⟩⟩ (fun σ17 z17 => ?_)
          obtain ⟨w17, g17⟩ := z17
          have ge := g17
          have ze := congrArg Int32.toInt (congrFun ge.2.2 16)
          refine go_aload_n (i := 0) (pc' := 108) dX10_split_107 rfl rfl rfl ?_
          refine go_dup (pc' := 109) dX10_split_108 rfl rfl ?_
          refine gf_10_size (pc' := 112) dX10_split_109 rfl fl_X10_9 ?_
          have g18 := ixi_16 w17.1
          refine go_iconst (v := 1) (pc' := 113) dX10_split_112 rfl (by decide) ?_
          refine gz_iadd (pc' := 114) dX10_split_113 rfl (by omega) (fun v19 h19 e19 => ?_)
          refine pf_10_size (pc' := 117) dX10_split_114 rfl fl_X10_9 ?_
          refine go_gen (P := fun s => WX σ s ∧ s.1 16 = v19 ∧ s.2 = σ17.2 ∧ ∀ q : Nat, q ≠ 16 → s.1 q = σ17.1 q) ⟨⟨ixs_16 w17.1 (by omega) (by omega), Ag_setI w17.2 (by decide)⟩, ⟨setI_same _ _ _, rfl, fun q hq => setI_ne _ _ _ hq⟩⟩ (fun σ20 z20 => ?_)
          obtain ⟨w20, g20⟩ := z20
          have gz := g20
          have gzi := congrArg Int32.toInt gz.1
          have cix := cnat (x := (σ14.1 16)) (by omega)
          have ciy := cnat (x := (σ6.1 16)) (by omega)
          have exy : ((σ6.1 16)).toNatClampNeg = ((σ14.1 16)).toNatClampNeg := by omega
          have f45 := (congrFun gz.2.1 45).trans ((ge.1 45 (by decide)).trans ((gs.1 45 (by decide)).trans ((gb.1 45 (by decide)).trans e45)))
          have fB : σ20.2 50 = upd (σ2.2 50) (x4_2).toNatClampNeg ((σ2.2 45 (x4_2).toNatClampNeg).toInt8.toInt32) := (congrFun gz.2.1 50).trans ((ge.1 50 (by decide)).trans ((gs.1 50 (by decide)).trans gb.2.1))
          have fA : ∀ q : Nat, q ≠ 50 → q ≠ 51 → q ≠ 52 → σ20.2 q = σ.2 q := fun q h1 h2 h3 => (congrFun gz.2.1 q).trans ((ge.1 q h3).trans ((gs.1 q h2).trans ((gb.1 q h1).trans (ha_2 q h1 h2 h3))))
          have fI : ∀ q : Nat, q ≠ 16 → σ20.1 q = σ.1 q := fun q h1 => (gz.2.2 q h1).trans ((congrFun ge.2.2 q).trans ((congrFun gs.2.2 q).trans ((congrFun gb.2.2 q).trans (hi_2 q h1))))
          have fWD : ∀ i2 : Nat, i2 = (x4_2).toNatClampNeg + 1 → WDp (pX σ) i2 (σ20.1 16).toInt (σ20.2 51) (σ20.2 52) := fun i2 e => WD_new (k := ((σ14.1 16)).toNatClampNeg) (u := x4_2) (v := v16) hd_2 hl hp e (by omega) ((congrFun gz.2.1 51).trans ((ge.1 51 (by decide)).trans (by rw [gs.2.1, gb.1 51 (by decide), exy]))) ((congrFun gz.2.1 52).trans (by rw [ge.2.1, gs.1 52 (by decide), gb.1 52 (by decide)])) (by omega) (by omega) (by omega)
          refine gz_iinc (c := 1) (pc' := 120) dX10_split_117 rfl rfl (by decide) (by decide) (by decide) (by omega) (fun v21 h21 e21 => ?_)
          refine go_goto (tgt := 10) dX10_split_120 (by decide) ?_
          exact go_lv (lv' := [(0, .ref (L.2.1 10)), (1, .ref (L.2.1 45)), (2, .int n), (3, .int (1 : Int32)), (4, .int v21)]) rfl (ih2 _ (by omega) σ20 (1 : Int32) v21 w20 (by omega) (by have cv := cnat (x := v21) (by omega); have ei : (v21).toNatClampNeg = (x4_2).toNatClampNeg + 1 := (by omega); rw [ei, prL_s]; first | exact Or.inl ⟨by omega, hl⟩ | exact Or.inr ⟨by omega, hl⟩) f45 (upd_step (P := fun j z => z.toInt = pX σ j) hb_2 fB b8i (by omega) (by omega)) (fWD _ (by have cv := cnat (x := v21) (by omega); omega)) fA fI rfl)
        have hp : prL (pX σ) (x4_2).toNatClampNeg := by
          rcases hw_2 with q | q
          · exact q.2
          · exfalso
            have q1 := q.1
            omega
        have w1 := wN_pos hp
        refine go_aload_n (i := 0) (pc' := 55) dX10_split_54 rfl rfl rfl ?_
        refine gf_10_ends (pc' := 58) dX10_split_55 rfl fl_X10_23 ?_
        refine go_aload_n (i := 0) (pc' := 59) dX10_split_58 rfl rfl rfl ?_
        refine gf_10_size (pc' := 62) dX10_split_59 rfl fl_X10_9 ?_
        have g22 := ixi_16 w6.1
        refine go_iconst (v := 1) (pc' := 63) dX10_split_62 rfl (by decide) ?_
        refine gz_isub (pc' := 64) dX10_split_63 rfl (by omega) (fun v23 h23 e23 => ?_)
        refine go_iload (pc' := 66) dX10_split_64 rfl rfl ?_
        refine go_iconst (v := 1) (pc' := 67) dX10_split_66 rfl (by decide) ?_
        refine gz_iadd (pc' := 68) dX10_split_67 rfl (by omega) (fun v24 h24 e24 => ?_)
        refine go_iast (pc' := 69) dX10_split_68 rfl (by decide) (by decide) rfl (vin_of (n := 80) (by omega) (by omega)) ?_
        refine go_gen (P := fun s => WX σ s ∧ (∀ q : Nat, q ≠ 52 → s.2 q = σ6.2 q) ∧ s.2 52 = upd (σ6.2 52) (v23).toNatClampNeg v24 ∧ s.1 = σ6.1) ⟨⟨ixt_52 w6.1 (by omega) (by omega), Ag_setA w6.2 (by decide)⟩, ⟨fun q hq => setA_ne (a := q) _ _ _ _ hq, setA_same _ _ _ _, rfl⟩⟩ (fun σ25 z25 => ?_)
        obtain ⟨w25, g25⟩ := z25
        have ge := g25
        have cix := cnat (x := v23) (by omega)
        have ze := congrArg Int32.toInt (congrFun ge.2.2 16)
        have f45 := (ge.1 45 (by decide)).trans ((gb.1 45 (by decide)).trans e45)
        have fB : σ25.2 50 = upd (σ2.2 50) (x4_2).toNatClampNeg ((σ2.2 45 (x4_2).toNatClampNeg).toInt8.toInt32) := (ge.1 50 (by decide)).trans gb.2.1
        have fA : ∀ q : Nat, q ≠ 50 → q ≠ 51 → q ≠ 52 → σ25.2 q = σ.2 q := fun q h1 h2 h3 => (ge.1 q h3).trans ((gb.1 q h1).trans (ha_2 q h1 h2 h3))
        have fI : ∀ q : Nat, q ≠ 16 → σ25.1 q = σ.1 q := fun q h1 => (congrFun ge.2.2 q).trans ((congrFun gb.2.2 q).trans (hi_2 q h1))
        have fWD : ∀ i2 : Nat, i2 = (x4_2).toNatClampNeg + 1 → WDp (pX σ) i2 (σ25.1 16).toInt (σ25.2 51) (σ25.2 52) := fun i2 e => WD_in (k := (v23).toNatClampNeg) (v := v24) hd_2 hl hp e (ze.trans zb) ((ge.1 51 (by decide)).trans (gb.1 51 (by decide))) (by rw [ge.2.1, gb.1 52 (by decide)]) (by omega) (by omega)
        refine go_goto (tgt := 117) dX10_split_69 (by decide) ?_
        refine gz_iinc (c := 1) (pc' := 120) dX10_split_117 rfl rfl (by decide) (by decide) (by decide) (by omega) (fun v26 h26 e26 => ?_)
        refine go_goto (tgt := 10) dX10_split_120 (by decide) ?_
        exact go_lv (lv' := [(0, .ref (L.2.1 10)), (1, .ref (L.2.1 45)), (2, .int n), (3, .int x3_2), (4, .int v26)]) rfl (ih2 _ (by omega) σ25 x3_2 v26 w25 (by omega) (by have cv := cnat (x := v26) (by omega); have ei : (v26).toNatClampNeg = (x4_2).toNatClampNeg + 1 := (by omega); rw [ei, prL_s]; first | exact Or.inl ⟨by omega, hl⟩ | exact Or.inr ⟨by omega, hl⟩) f45 (upd_step (P := fun j z => z.toInt = pX σ j) hb_2 fB b8i (by omega) (by omega)) (fWD _ (by have cv := cnat (x := v26) (by omega); omega)) fA fI rfl)
      have hl : ¬ isLP (pX σ (x4_2).toNatClampNeg) := fun q => by omega
      have f45 := (gb.1 45 (by decide)).trans e45
      have fB : σ6.2 50 = upd (σ2.2 50) (x4_2).toNatClampNeg ((σ2.2 45 (x4_2).toNatClampNeg).toInt8.toInt32) := gb.2.1
      have fA : ∀ q : Nat, q ≠ 50 → q ≠ 51 → q ≠ 52 → σ6.2 q = σ.2 q := fun q h1 h2 h3 => (gb.1 q h1).trans (ha_2 q h1 h2 h3)
      have fI : ∀ q : Nat, q ≠ 16 → σ6.1 q = σ.1 q := fun q h1 => (congrFun gb.2.2 q).trans (hi_2 q h1)
      have fWD : ∀ i2 : Nat, i2 = (x4_2).toNatClampNeg + 1 → WDp (pX σ) i2 (σ6.1 16).toInt (σ6.2 51) (σ6.2 52) := fun i2 e => WD_no hd_2 hl e zb (gb.1 51 (by decide)) (gb.1 52 (by decide))
      refine go_iconst (v := 0) (pc' := 46) dX10_split_45 rfl (by decide) ?_
      refine go_istore_n (i := 3) (pc' := 47) dX10_split_46 rfl rfl (by decide) ?_
      refine go_goto (tgt := 117) dX10_split_47 (by decide) ?_
      refine gz_iinc (c := 1) (pc' := 120) dX10_split_117 rfl rfl (by decide) (by decide) (by decide) (by omega) (fun v27 h27 e27 => ?_)
      refine go_goto (tgt := 10) dX10_split_120 (by decide) ?_
      exact go_lv (lv' := [(0, .ref (L.2.1 10)), (1, .ref (L.2.1 45)), (2, .int n), (3, .int (0 : Int32)), (4, .int v27)]) rfl (ih2 _ (by omega) σ6 (0 : Int32) v27 w6 (by omega) (by have cv := cnat (x := v27) (by omega); have ei : (v27).toNatClampNeg = (x4_2).toNatClampNeg + 1 := (by omega); rw [ei, prL_s]; first | exact Or.inl ⟨by omega, hl⟩ | exact Or.inr ⟨by omega, hl⟩) f45 (upd_step (P := fun j z => z.toInt = pX σ j) hb_2 fB b8i (by omega) (by omega)) (fWD _ (by have cv := cnat (x := v27) (by omega); omega)) fA fI rfl)
  exact go_lv (lv' := [(0, .ref (L.2.1 10)), (1, .ref (L.2.1 45)), (2, .int n), (3, .int (0 : Int32)), (4, .int (0 : Int32))]) rfl (loop10_2 _ σ1 (0 : Int32) (0 : Int32) w1 (by omega) (Or.inr ⟨n0, fun q => by rw [z0] at q; exact absurd q.1 (Nat.lt_irrefl 0)⟩) (congrFun g0.2.1 45) (fun j hj => by exfalso; omega) (by rw [z0, g0i, n0]; exact WD_0 _ _ _) (fun q _ _ _ => congrFun g0.2.1 q) g0.2.2 rfl)
