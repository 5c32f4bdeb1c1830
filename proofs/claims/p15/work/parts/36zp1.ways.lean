/-! ===== the greatest sums of d over ways ===== -/
/-- ways may lead over k too -/
def fwS (k : Nat) (D : Nat → Nat → Int) (a b : Nat) : Int := if D a k ≠ (-1000000) ∧ D k b ≠ (-1000000) then max (D a b) (D a k + D k b) else D a b
/-- what holds behind k LETTERS; x: a choice of DAYS that keeps all -/
def FWI (n k : Nat) (x : Nat → Int) (D : Nat → Nat → Int) : Prop := (∀ a b : Nat, a < n → b < n → D a b ≠ (-1000000) → D a b ≤ x b - x a) ∧ (∀ m a b : Nat, m < k → m < n → a < n → b < n → D a m ≠ (-1000000) → D m b ≠ (-1000000) → D a b ≠ (-1000000) ∧ D a m + D m b ≤ D a b) ∧ ∀ a b : Nat, a < n → b < n → D a b ≠ (-1000000) → ∃ A : Nat → Bool, (∀ v : Nat, A v = true → v < k ∧ D a v ≠ (-1000000) ∧ D v b ≠ (-1000000)) ∧ -500 * ((rk A k : Int) + 1) ≤ D a b
theorem rk_le (w : Nat → Bool) (k : Nat) : rk w k ≤ k := by
  have h := (rk_add w 0 k).2
  rw [Nat.zero_add] at h
  have e0 : rk w 0 = 0 := rfl
  omega
theorem rk_cg {w w2 : Nat → Bool} : ∀ k : Nat, (∀ v : Nat, v < k → w v = w2 v) → rk w k = rk w2 k
  | 0, _ => rfl
  | k + 1, h => by
    show rk w k + (if w k = true then 1 else 0) = rk w2 k + (if w2 k = true then 1 else 0)
    rw [rk_cg k (fun v hv => h v (by omega)), h k (by omega)]
theorem rk_or {A B : Nat → Bool} : ∀ k : Nat, (∀ v : Nat, v < k → ¬ (A v = true ∧ B v = true)) → rk (fun v => A v || B v) k = rk A k + rk B k
  | 0, _ => rfl
  | k + 1, h => by
    have ih := rk_or (A := A) (B := B) k (fun v hv => h v (by omega))
    have hk := h k (by omega)
    show rk (fun v => A v || B v) k + (if (A k || B k) = true then 1 else 0) = (rk A k + (if A k = true then 1 else 0)) + (rk B k + (if B k = true then 1 else 0))
    rw [ih]
    cases ha : A k <;> cases hb : B k
    · show rk A k + rk B k + 0 = rk A k + 0 + (rk B k + 0)
      omega
    · show rk A k + rk B k + 1 = rk A k + 0 + (rk B k + 1)
      omega
    · show rk A k + rk B k + 1 = rk A k + 1 + (rk B k + 0)
      omega
    · exact absurd ⟨ha, hb⟩ hk
theorem FW_lo {n k : Nat} {x : Nat → Int} {D : Nat → Nat → Int} (h : FWI n k x D) (hk : k ≤ 12) {a b : Nat} (ha : a < n) (hb : b < n) (f : D a b ≠ (-1000000)) : -6500 ≤ D a b := by
  obtain ⟨A, -, q⟩ := h.2.2 a b ha hb f
  have := rk_le A k
  omega
theorem fw_y {k : Nat} {D : Nat → Nat → Int} {a b : Nat} (h1 : D a k ≠ (-1000000)) (h2 : D k b ≠ (-1000000)) : fwS k D a b = max (D a b) (D a k + D k b) := if_pos ⟨h1, h2⟩
theorem fw_n {k : Nat} {D : Nat → Nat → Int} {a b : Nat} (h : ¬ (D a k ≠ (-1000000) ∧ D k b ≠ (-1000000))) : fwS k D a b = D a b := if_neg h
theorem fw_ge (k : Nat) (D : Nat → Nat → Int) (a b : Nat) : D a b ≤ fwS k D a b := by
  unfold fwS
  split <;> omega
theorem fw_fin {n k : Nat} {x : Nat → Int} {D : Nat → Nat → Int} (h : FWI n k x D) (hk : k < n) (hn : n ≤ 12) {a b : Nat} (ha : a < n) (hb : b < n) (f : D a b ≠ (-1000000) ∨ (D a k ≠ (-1000000) ∧ D k b ≠ (-1000000))) : fwS k D a b ≠ (-1000000) := by
  by_cases c : D a k ≠ (-1000000) ∧ D k b ≠ (-1000000)
  · have l1 := FW_lo h (by omega) ha hk c.1
    have l2 := FW_lo h (by omega) hk hb c.2
    rw [fw_y c.1 c.2]
    intro z
    omega
  · rw [fw_n c]
    rcases f with f | f
    · exact f
    · exact absurd f c
theorem fw_inv {k : Nat} {D : Nat → Nat → Int} {a b : Nat} (f : fwS k D a b ≠ (-1000000)) : D a b ≠ (-1000000) ∨ (D a k ≠ (-1000000) ∧ D k b ≠ (-1000000)) := by
  by_cases c : D a k ≠ (-1000000) ∧ D k b ≠ (-1000000)
  · exact Or.inr c
  · rw [fw_n c] at f
    exact Or.inl f
/-- row and column of k stay -/
theorem fw_col {n k : Nat} {x : Nat → Int} {D : Nat → Nat → Int} (h : FWI n k x D) (hk : k < n) {a : Nat} : fwS k D a k = D a k := by
  by_cases c : D a k ≠ (-1000000) ∧ D k k ≠ (-1000000)
  · have l := h.1 k k hk hk c.2
    rw [fw_y c.1 c.2]
    omega
  · exact fw_n c
theorem fw_row {n k : Nat} {x : Nat → Int} {D : Nat → Nat → Int} (h : FWI n k x D) (hk : k < n) {b : Nat} : fwS k D k b = D k b := by
  by_cases c : D k k ≠ (-1000000) ∧ D k b ≠ (-1000000)
  · have l := h.1 k k hk hk c.1
    rw [fw_y c.1 c.2]
    omega
  · exact fw_n c
theorem FW_step {n k : Nat} {x : Nat → Int} {D : Nat → Nat → Int} (h : FWI n k x D) (hk : k < n) (hn : n ≤ 12) : FWI n (k + 1) x (fwS k D) := by
  refine ⟨fun a b ha hb f => ?_, fun m a b hm hmn ha hb f1 f2 => ?_, fun a b ha hb f => ?_⟩
  · by_cases c : D a k ≠ (-1000000) ∧ D k b ≠ (-1000000)
    · have p1 := h.1 a k ha hk c.1
      have p2 := h.1 k b hk hb c.2
      rw [fw_y c.1 c.2]
      by_cases d : D a b = (-1000000)
      · have l1 := FW_lo h (by omega) ha hk c.1
        have l2 := FW_lo h (by omega) hk hb c.2
        omega
      · have p3 := h.1 a b ha hb d
        omega
    · rw [fw_n c] at f ⊢
      exact h.1 a b ha hb f
  · by_cases e : m = k
    · subst e
      rw [fw_col h hk] at f1 ⊢
      rw [fw_row h hk] at f2 ⊢
      refine ⟨fw_fin h hk hn ha hb (Or.inr ⟨f1, f2⟩), ?_⟩
      rw [fw_y f1 f2]
      omega
    · have hm2 : m < k := by omega
      -- over m, ahead of k
      have c := h.2.1 m
      by_cases c1 : D a k ≠ (-1000000) ∧ D k m ≠ (-1000000)
      · by_cases c2 : D m k ≠ (-1000000) ∧ D k b ≠ (-1000000)
        · have fin := fw_fin h hk hn ha hb (Or.inr ⟨c1.1, c2.2⟩)
          refine ⟨fin, ?_⟩
          have kk := c k k hm2 hmn hk hk c1.2 c2.1
          have k0 := h.1 k k hk hk kk.1
          rw [fw_y c1.1 c2.2, fw_y c1.1 c1.2, fw_y c2.1 c2.2]
          have q1 : D a m ≠ (-1000000) → D a m + D m k ≤ D a k := fun z => (c a k hm2 hmn ha hk z c2.1).2
          have q2 : D m b ≠ (-1000000) → D k m + D m b ≤ D k b := fun z => (c k b hm2 hmn hk hb c1.2 z).2
          have q3 : D a m ≠ (-1000000) → D m b ≠ (-1000000) → D a m + D m b ≤ D a b := fun z1 z2 => (c a b hm2 hmn ha hb z1 z2).2
          have l1 := FW_lo h (by omega) ha hk c1.1
          have l2 := FW_lo h (by omega) hk hmn c1.2
          have l3 := FW_lo h (by omega) hmn hk c2.1
          have l4 := FW_lo h (by omega) hk hb c2.2
          by_cases z1 : D a m = (-1000000)
          · by_cases z2 : D m b = (-1000000)
            · omega
            · have := q2 z2
              omega
          · have := q1 z1
            by_cases z2 : D m b = (-1000000)
            · omega
            · have := q2 z2
              have := q3 z1 z2
              omega
        · rw [fw_n c2] at f2 ⊢
          have q2 := c k b hm2 hmn hk hb c1.2 f2
          refine ⟨fw_fin h hk hn ha hb (Or.inr ⟨c1.1, q2.1⟩), ?_⟩
          rw [fw_y c1.1 q2.1, fw_y c1.1 c1.2]
          by_cases z1 : D a m = (-1000000)
          · have l1 := FW_lo h (by omega) ha hk c1.1
            have l2 := FW_lo h (by omega) hk hmn c1.2
            omega
          · have := (c a b hm2 hmn ha hb z1 f2).2
            omega
      · rw [fw_n c1] at f1 ⊢
        by_cases c2 : D m k ≠ (-1000000) ∧ D k b ≠ (-1000000)
        · have q1 := c a k hm2 hmn ha hk f1 c2.1
          refine ⟨fw_fin h hk hn ha hb (Or.inr ⟨q1.1, c2.2⟩), ?_⟩
          rw [fw_y q1.1 c2.2, fw_y c2.1 c2.2]
          by_cases z2 : D m b = (-1000000)
          · have l3 := FW_lo h (by omega) hmn hk c2.1
            have l4 := FW_lo h (by omega) hk hb c2.2
            omega
          · have := (c a b hm2 hmn ha hb f1 z2).2
            omega
        · rw [fw_n c2] at f2 ⊢
          have q := c a b hm2 hmn ha hb f1 f2
          exact ⟨fw_fin h hk hn ha hb (Or.inl q.1), Int.le_trans q.2 (fw_ge k D a b)⟩
  · have up : ∀ {u v : Nat}, u < n → v < n → D u v ≠ (-1000000) → fwS k D u v ≠ (-1000000) := fun hu hv z => fw_fin h hk hn hu hv (Or.inl z)
    by_cases d : D a b ≠ (-1000000)
    · obtain ⟨A, q1, q2⟩ := h.2.2 a b ha hb d
      refine ⟨A, fun v hv => ?_, ?_⟩
      · have z := q1 v hv
        exact ⟨by omega, up ha (by omega) z.2.1, up (by omega) hb z.2.2⟩
      · have g := fw_ge k D a b
        have r := (rk_add A k 1).1
        omega
    · have c := (fw_inv f).resolve_left d
      obtain ⟨A, a1, a2⟩ := h.2.2 a k ha hk c.1
      obtain ⟨B, b1, b2⟩ := h.2.2 k b hk hb c.2
      have dis : ∀ v : Nat, v < k → ¬ (A v = true ∧ B v = true) := fun v hv z => by
        have z1 := a1 v z.1
        have z2 := b1 v z.2
        exact d (h.2.1 v a b hv (by omega) ha hb z1.2.1 z2.2.2).1
      refine ⟨fun v => (A v || B v) || decide (v = k), fun v hv => ?_, ?_⟩
      · have hv2 : A v = true ∨ B v = true ∨ v = k := by
          have z : ((A v || B v) || decide (v = k)) = true := hv
          rw [Bool.or_eq_true, Bool.or_eq_true] at z
          rcases z with (z | z) | z
          · exact Or.inl z
          · exact Or.inr (Or.inl z)
          · exact Or.inr (Or.inr (of_decide_eq_true z))
        rcases hv2 with z | z | z
        · have y := a1 v z
          exact ⟨by omega, up ha (by omega) y.2.1, fw_fin h hk hn (by omega) hb (Or.inr ⟨y.2.2, c.2⟩)⟩
        · have y := b1 v z
          exact ⟨by omega, fw_fin h hk hn ha (by omega) (Or.inr ⟨c.1, y.2.1⟩), up (by omega) hb y.2.2⟩
        · subst z
          exact ⟨by omega, up ha hk c.1, up hk hb c.2⟩
      · have e1 : rk (fun v => (A v || B v) || decide (v = k)) (k + 1) = rk (fun v => (A v || B v) || decide (v = k)) k + 1 := by
          show rk _ k + (if ((A k || B k) || decide (k = k)) = true then 1 else 0) = _
          rw [if_pos (by simp)]
        have e2 : rk (fun v => (A v || B v) || decide (v = k)) k = rk (fun v => A v || B v) k := rk_cg k (fun v hv => by
          show ((A v || B v) || decide (v = k)) = (A v || B v)
          rw [show decide (v = k) = false from decide_eq_false (by omega), Bool.or_false])
        rw [e1, e2, rk_or k dis, fw_y c.1 c.2]
        omega
/-- one stage in its place: so far done up to (i, j) -/
def FWP (n k i j : Nat) (D C : Nat → Nat → Int) : Prop := ∀ a b : Nat, a < n → b < n → C a b = if a < i ∨ (a = i ∧ b < j) then fwS k D a b else D a b
theorem FWP_0 (n k : Nat) (D : Nat → Nat → Int) : FWP n k 0 0 D D := fun a b _ _ => by
  rw [if_neg (by omega)]
theorem FWP_row {n k i : Nat} {D C : Nat → Nat → Int} (h : FWP n k i n D C) : FWP n k (i + 1) 0 D C := fun a b ha hb => by
  rw [h a b ha hb]
  by_cases c : a < i ∨ (a = i ∧ b < n)
  · rw [if_pos c, if_pos (by omega)]
  · rw [if_neg c, if_neg (by omega)]
theorem FWP_get {n k i j : Nat} {x : Nat → Int} {D C : Nat → Nat → Int} (w : FWI n k x D) (hk : k < n) (h : FWP n k i j D C) (hi : i < n) (hj : j < n) : C i k = D i k ∧ C k j = D k j ∧ C i j = D i j := by
  refine ⟨?_, ?_, ?_⟩
  · rw [h i k hi hk]
    split
    · exact fw_col w hk
    · rfl
  · rw [h k j hk hj]
    split
    · exact fw_row w hk
    · rfl
  · rw [h i j hi hj, if_neg (by omega)]
theorem FWP_set {n k i j j2 : Nat} {D C C2 : Nat → Nat → Int} (h : FWP n k i j D C) (e : j2 = j + 1) (h1 : C2 i j = fwS k D i j) (h2 : ∀ a b : Nat, a < n → b < n → ¬ (a = i ∧ b = j) → C2 a b = C a b) : FWP n k i j2 D C2 := fun a b ha hb => by
  subst e
  by_cases c : a = i ∧ b = j
  · obtain ⟨rfl, rfl⟩ := c
    rw [h1, if_pos (by omega)]
  · rw [h2 a b ha hb c, h a b ha hb]
    by_cases d : a < i ∨ (a = i ∧ b < j)
    · rw [if_pos d, if_pos (by omega)]
    · rw [if_neg d, if_neg (by omega)]
theorem FWP_end {n k : Nat} {D C : Nat → Nat → Int} (h : FWP n k n 0 D C) : ∀ a b : Nat, a < n → b < n → C a b = fwS k D a b := fun a b ha hb => by
  rw [h a b ha hb, if_pos (by omega)]
theorem FWI_cg {n k : Nat} {x : Nat → Int} {D C : Nat → Nat → Int} (e : ∀ a b : Nat, a < n → b < n → C a b = D a b) (hk : k ≤ n) (h : FWI n k x D) : FWI n k x C := by
  refine ⟨fun a b ha hb f => ?_, fun m a b hm hmn ha hb f1 f2 => ?_, fun a b ha hb f => ?_⟩
  · rw [e a b ha hb] at f ⊢
    exact h.1 a b ha hb f
  · rw [e a m ha hmn] at f1 ⊢
    rw [e m b hmn hb] at f2 ⊢
    rw [e a b ha hb]
    exact h.2.1 m a b hm hmn ha hb f1 f2
  · rw [e a b ha hb] at f ⊢
    obtain ⟨A, q1, q2⟩ := h.2.2 a b ha hb f
    refine ⟨A, fun v hv => ?_, q2⟩
    have z := q1 v hv
    rw [e a v ha (by omega), e v b (by omega) hb]
    exact z
/-- what is told of each way is kept -/
def GI (n : Nat) (G : Nat → Nat → Int → Prop) (D : Nat → Nat → Int) : Prop := ∀ a b : Nat, a < n → b < n → D a b ≠ (-1000000) → G a b (D a b)
theorem GI_step {n k : Nat} {x : Nat → Int} {G : Nat → Nat → Int → Prop} {D : Nat → Nat → Int} (w : FWI n k x D) (hk : k < n) (hn : n ≤ 12) (g : GI n G D) (tr : ∀ (a b : Nat) (s t : Int), G a k s → G k b t → G a b (s + t)) : GI n G (fwS k D) := fun a b ha hb f => by
  by_cases c : D a k ≠ (-1000000) ∧ D k b ≠ (-1000000)
  · have l1 := FW_lo w (by omega) ha hk c.1
    have l2 := FW_lo w (by omega) hk hb c.2
    rw [fw_y c.1 c.2]
    by_cases d : D a k + D k b ≤ D a b
    · rw [show max (D a b) (D a k + D k b) = D a b by omega]
      exact g a b ha hb (by omega)
    · rw [show max (D a b) (D a k + D k b) = D a k + D k b by omega]
      exact tr a b _ _ (g a k ha hk c.1) (g k b hk hb c.2)
  · rw [fw_n c] at f ⊢
    exact g a b ha hb f
theorem GI_cg {n : Nat} {G : Nat → Nat → Int → Prop} {D C : Nat → Nat → Int} (e : ∀ a b : Nat, a < n → b < n → C a b = D a b) (h : GI n G D) : GI n G C := fun a b ha hb f => by
  rw [e a b ha hb] at f ⊢
  exact h a b ha hb f
/-- a row of BOUNDS from root a to root b, whose d make s -/
def WKn (E : Nat → Nat → Int → Prop) : Nat → Nat → Nat → Int → Prop
  | 0, a, b, s => a = b ∧ s = 0
  | n + 1, a, b, s => ∃ (m : Nat) (t u : Int), WKn E n a m t ∧ E m b u ∧ s = t + u
theorem WK_tr {E : Nat → Nat → Int → Prop} {n a m : Nat} {s : Int} (h : WKn E n a m s) : ∀ (k b : Nat) (t : Int), WKn E k m b t → WKn E (n + k) a b (s + t)
  | 0, b, t, g => by
    obtain ⟨rfl, rfl⟩ := g
    rw [Int.add_zero]
    exact h
  | k + 1, b, t, g => by
    obtain ⟨c, v, u, g1, g2, rfl⟩ := g
    show WKn E ((n + k) + 1) a b (s + (v + u))
    exact ⟨c, s + v, u, WK_tr h k c v g1, g2, by omega⟩
/-- BOUNDS lead from a to b, whose d make more than 0 -/
def LDS (E : Nat → Nat → Int → Prop) (a b : Nat) : Prop := ∃ (n : Nat) (s : Int), WKn E n a b s ∧ 0 < s
