/-! ===== least jumps over a row of days ===== -/
def dJ (x y : Int) : Int := if x ≤ y then y - x else x - y
theorem dJ_s (x y : Int) : (x ≤ y ∧ dJ x y = y - x) ∨ (y < x ∧ dJ x y = x - y) := by
  by_cases h : x ≤ y
  · exact Or.inl ⟨h, if_pos h⟩
  · exact Or.inr ⟨by omega, if_neg h⟩
theorem dJ_t (x y z : Int) : dJ x z ≤ dJ x y + dJ y z := by
  have h1 := dJ_s x y
  have h2 := dJ_s y z
  have h3 := dJ_s x z
  omega
theorem dJ_n (x y : Int) : 0 ≤ dJ x y := by
  have h1 := dJ_s x y
  omega
def MYp (m : Nat) (b : Nat → Nat → Prop) (P k : Nat) : Prop := P.testBit k = false ∧ ∀ j : Nat, j < m → j ≠ k → P.testBit j = false → ¬ b j k
def DPT (m : Nat) (l : Nat → Int) (b : Nat → Nat → Prop) (T : Nat → Nat → Int) : Prop := (∀ a : Nat, a < m → T (2 ^ m - 1) a = 0) ∧ ∀ P a : Nat, P + 1 < 2 ^ m → a < m → (0 ≤ T P a ∧ T P a ≤ 100000000) ∧ (T P a < 100000000 → ∃ k : Nat, k < m ∧ MYp m b P k ∧ dJ (l a) (l k) + T (P ||| (1 <<< k)) k = T P a) ∧ ∀ k : Nat, k < m → MYp m b P k → T P a ≤ dJ (l a) (l k) + T (P ||| (1 <<< k)) k
theorem or_bit (P k j : Nat) : (P ||| (1 <<< k)).testBit j = (P.testBit j || decide (k = j)) := by
  rw [Nat.testBit_or, Nat.one_shiftLeft, Nat.testBit_two_pow]
theorem full_or : ∀ m : Fin 9, ∀ P : Fin 256, P.val < 2 ^ m.val → (∃ j : Fin 8, j.val < m.val ∧ P.val.testBit j.val = false) ∨ P.val = 2 ^ m.val - 1 := by decide +kernel
theorem two_pow8 {m : Nat} (hm : m ≤ 8) : 2 ^ m ≤ 256 := by
  have h : 2 ^ m ≤ 2 ^ 8 := Nat.pow_le_pow_right (by decide) hm
  exact h
theorem full_n {m P : Nat} (hm : m ≤ 8) (hP : P < 2 ^ m) : (∃ j : Nat, j < m ∧ P.testBit j = false) ∨ P = 2 ^ m - 1 := by
  have h := two_pow8 hm
  rcases full_or ⟨m, by omega⟩ ⟨P, by omega⟩ hP with ⟨j, h1, h2⟩ | h1
  · exact Or.inl ⟨j.val, h1, h2⟩
  · exact Or.inr h1
theorem open_lt {m P j : Nat} (hP : P < 2 ^ m) (hj : j < m) (hb : P.testBit j = false) : P + 1 < 2 ^ m := by
  by_cases c : P + 1 < 2 ^ m
  · exact c
  · exfalso
    have e : P = 2 ^ m - 1 := by omega
    rw [e, Nat.testBit_two_pow_sub_one, decide_eq_true hj] at hb
    exact absurd hb (by decide)
/-- the least one, the first of them -/
theorem arg_min (p : Nat → Prop) (f : Nat → Int) : ∀ m : Nat, (∃ j : Nat, j < m ∧ p j) → ∃ j : Nat, j < m ∧ p j ∧ ∀ i : Nat, i < m → p i → f j ≤ f i
  | 0, h => by
    obtain ⟨j, hj, -⟩ := h
    exact absurd hj (Nat.not_lt_zero _)
  | m + 1, h => by
    by_cases c : ∃ j : Nat, j < m ∧ p j
    · obtain ⟨j, h1, h2, h3⟩ := arg_min p f m c
      by_cases d : p m ∧ f m < f j
      · refine ⟨m, by omega, d.1, fun i hi hp => ?_⟩
        by_cases e : i = m
        · rw [e]
          exact Int.le_refl _
        · have := h3 i (by omega) hp
          omega
      · refine ⟨j, by omega, h2, fun i hi hp => ?_⟩
        by_cases e : i = m
        · rw [e] at hp ⊢
          by_cases g : f m < f j
          · exact absurd ⟨hp, g⟩ d
          · omega
        · exact h3 i (by omega) hp
    · obtain ⟨j, h1, h2⟩ := h
      have e : ∀ i : Nat, i < m + 1 → p i → i = m := fun i hi hp => by
        by_cases g : i < m
        · exact absurd ⟨i, g, hp⟩ c
        · omega
      refine ⟨j, h1, h2, fun i hi hp => ?_⟩
      rw [e i hi hp, e j h1 h2]
      exact Int.le_refl _
theorem arg_max (p : Nat → Prop) (f : Nat → Int) (m : Nat) (h : ∃ j : Nat, j < m ∧ p j) : ∃ j : Nat, j < m ∧ p j ∧ ∀ i : Nat, i < m → p i → f i ≤ f j := by
  obtain ⟨j, h1, h2, h3⟩ := arg_min p (fun i => - f i) m h
  exact ⟨j, h1, h2, fun i hi hp => by have := h3 i hi hp; omega⟩
section DPS
variable {m : Nat} {l : Nat → Int} {b : Nat → Nat → Prop} {T : Nat → Nat → Int}
def DAYS (m : Nat) (l : Nat → Int) : Prop := ∀ k : Nat, k < m → 0 ≤ l k ∧ l k ≤ 9999
theorem dp_nn (hm : m ≤ 8) (hT : DPT m l b T) {P a : Nat} (hP : P < 2 ^ m) (ha : a < m) : 0 ≤ T P a := by
  by_cases c : P + 1 < 2 ^ m
  · exact (hT.2 P a c ha).1.1
  · rw [show P = 2 ^ m - 1 by omega, hT.1 a ha]
    exact Int.le_refl _
/-- the set with k in it -/
theorem dp_or (hm : m ≤ 8) {P k : Nat} (hP : P < 2 ^ m) (hk : k < m) (hb : P.testBit k = false) : ∃ Q : Nat, Q = P ||| (1 <<< k) ∧ P < Q ∧ Q < 2 ^ m ∧ ∀ i : Nat, Q.testBit i = (P.testBit i || decide (k = i)) := by
  have h8 := two_pow8 hm
  have g := (bo_all ⟨P, by omega⟩ ⟨k, by omega⟩ hb).2.1
  exact ⟨P ||| (1 <<< k), rfl, g, bit_lt hP hk, fun i => or_bit P k i⟩
theorem or_f {P Q k i : Nat} (h : Q.testBit i = (P.testBit i || decide (k = i))) (hq : Q.testBit i = false) : P.testBit i = false ∧ k ≠ i := by
  rw [h] at hq
  cases hp : P.testBit i
  · refine ⟨rfl, fun e => ?_⟩
    rw [hp, decide_eq_true e] at hq
    exact absurd hq (by decide)
  · rw [hp] at hq
    exact absurd hq (by simp)
theorem f_or {P Q k i : Nat} (h : Q.testBit i = (P.testBit i || decide (k = i))) (hp : P.testBit i = false) (hk : k ≠ i) : Q.testBit i = false := by
  rw [h, hp, decide_eq_false hk]
  rfl
theorem dp_get (hm : m ≤ 8) (hT : DPT m l b T) {P a j : Nat} (hP : P < 2 ^ m) (ha : a < m) (hj : j < m) (hb : P.testBit j = false) : T P a = 100000000 ∨ ∃ k Q : Nat, k < m ∧ MYp m b P k ∧ P < Q ∧ Q < 2 ^ m ∧ (∀ i : Nat, Q.testBit i = (P.testBit i || decide (k = i))) ∧ dJ (l a) (l k) + T Q k = T P a ∧ 0 ≤ T Q k := by
  have h := hT.2 P a (open_lt hP hj hb) ha
  by_cases c : T P a < 100000000
  · obtain ⟨k, hk, hM, e⟩ := h.2.1 c
    obtain ⟨Q, eQ, q1, q2, q3⟩ := dp_or hm hP hk hM.1
    rw [← eQ] at e
    exact Or.inr ⟨k, Q, hk, hM, q1, q2, q3, e, dp_nn hm hT q2 hk⟩
  · have := h.1
    exact Or.inl (by omega)
theorem dp_put (hm : m ≤ 8) (hT : DPT m l b T) {P a k : Nat} (hP : P < 2 ^ m) (ha : a < m) (hk : k < m) (hM : MYp m b P k) : ∃ Q : Nat, Q = P ||| (1 <<< k) ∧ P < Q ∧ Q < 2 ^ m ∧ (∀ i : Nat, Q.testBit i = (P.testBit i || decide (k = i))) ∧ T P a ≤ dJ (l a) (l k) + T Q k := by
  have h := (hT.2 P a (open_lt hP hk hM.1) ha).2.2 k hk hM
  obtain ⟨Q, eQ, q1, q2, q3⟩ := dp_or hm hP hk hM.1
  rw [← eQ] at h
  exact ⟨Q, eQ, q1, q2, q3, h⟩
theorem dp_one (hm : m ≤ 8) (hT : DPT m l b T) (hl : DAYS m l) : ∀ d P a : Nat, 2 ^ m - P ≤ d → P < 2 ^ m → a < m → ∀ j : Nat, j < m → P.testBit j = false → dJ (l a) (l j) ≤ T P a
  | 0, P, a, hd, hP, ha, j, hj, hb => by
    exfalso
    omega
  | d + 1, P, a, hd, hP, ha, j, hj, hb => by
    rcases dp_get hm hT hP ha hj hb with e | ⟨k, Q, hk, hM, q1, q2, q3, e, nn⟩
    · have g1 := hl a ha
      have g2 := hl j hj
      have s1 := dJ_s (l a) (l j)
      omega
    · by_cases ek : k = j
      · rw [← ek]
        omega
      · have q := dp_one hm hT hl d Q k (by omega) q2 hk j hj (f_or (q3 j) hb ek)
        have s1 := dJ_t (l a) (l k) (l j)
        omega
theorem dp_two (hm : m ≤ 8) (hT : DPT m l b T) (hl : DAYS m l) : ∀ d P a : Nat, 2 ^ m - P ≤ d → P < 2 ^ m → a < m → ∀ i j : Nat, i < m → j < m → P.testBit i = false → P.testBit j = false → (dJ (l a) (l i) + dJ (l i) (l j) ≤ T P a) ∨ (dJ (l a) (l j) + dJ (l j) (l i) ≤ T P a)
  | 0, P, a, hd, hP, ha, i, j, hi, hj, hbi, hbj => by
    exfalso
    omega
  | d + 1, P, a, hd, hP, ha, i, j, hi, hj, hbi, hbj => by
    rcases dp_get hm hT hP ha hj hbj with e | ⟨k, Q, hk, hM, q1, q2, q3, e, nn⟩
    · left
      have g1 := hl a ha
      have g2 := hl j hj
      have g3 := hl i hi
      have s1 := dJ_s (l a) (l i)
      have s2 := dJ_s (l i) (l j)
      omega
    · by_cases ei : k = i
      · by_cases ej : k = j
        · left
          rw [← ei, ← ej]
          have s1 := dJ_s (l k) (l k)
          omega
        · left
          have q := dp_one hm hT hl d Q k (by omega) q2 hk j hj (f_or (q3 j) hbj ej)
          rw [← ei]
          omega
      · by_cases ej : k = j
        · right
          have q := dp_one hm hT hl d Q k (by omega) q2 hk i hi (f_or (q3 i) hbi ei)
          rw [← ej]
          omega
        · have s1 := dJ_t (l a) (l k) (l i)
          have s2 := dJ_t (l a) (l k) (l j)
          rcases dp_two hm hT hl d Q k (by omega) q2 hk i j hi hj (f_or (q3 i) hbi ei) (f_or (q3 j) hbj ej) with q | q
          · left
            omega
          · right
            omega
theorem dp_up (hm : m ≤ 8) (hT : DPT m l b T) (hB : ∀ i j : Nat, i < m → j < m → b i j → l i < l j) (M : Int) : ∀ d P a : Nat, 2 ^ m - P ≤ d → P < 2 ^ m → a < m → l a ≤ M → (∀ j : Nat, j < m → P.testBit j = false → l a ≤ l j ∧ l j ≤ M) → T P a ≤ M - l a
  | 0, P, a, hd, hP, ha, h1, h2 => by
    exfalso
    omega
  | d + 1, P, a, hd, hP, ha, h1, h2 => by
    rcases full_n hm hP with ho | e
    · obtain ⟨k, hk, hb, hmin⟩ := arg_min (fun j => P.testBit j = false) l m ho
      have hM : MYp m b P k := ⟨hb, fun j hj ne hbj z => by
        have := hmin j hj hbj
        have := hB j k hj hk z
        omega⟩
      obtain ⟨Q, eQ, q1, q2, q3, h⟩ := dp_put hm hT hP ha hk hM
      have g := h2 k hk hb
      have q := dp_up hm hT hB M d Q k (by omega) q2 hk g.2 (fun j hj hbj => by
        have z := (or_f (q3 j) hbj).1
        exact ⟨hmin j hj z, (h2 j hj z).2⟩)
      have s := dJ_s (l a) (l k)
      omega
    · rw [e, hT.1 a ha]
      omega
theorem dp_dn (hm : m ≤ 8) (hT : DPT m l b T) (M : Int) : ∀ d P a : Nat, 2 ^ m - P ≤ d → P < 2 ^ m → a < m → (∀ i j : Nat, i < m → j < m → i ≠ j → P.testBit i = false → P.testBit j = false → ¬ b i j) → M ≤ l a → (∀ j : Nat, j < m → P.testBit j = false → M ≤ l j ∧ l j ≤ l a) → T P a ≤ l a - M
  | 0, P, a, hd, hP, ha, hB, h1, h2 => by
    exfalso
    omega
  | d + 1, P, a, hd, hP, ha, hB, h1, h2 => by
    rcases full_n hm hP with ho | e
    · obtain ⟨k, hk, hb, hmax⟩ := arg_max (fun j => P.testBit j = false) l m ho
      have hM : MYp m b P k := ⟨hb, fun j hj ne hbj => hB j k hj hk ne hbj hb⟩
      obtain ⟨Q, eQ, q1, q2, q3, h⟩ := dp_put hm hT hP ha hk hM
      have g := h2 k hk hb
      have q := dp_dn hm hT M d Q k (by omega) q2 hk (fun i j hi hj ne bi bj => hB i j hi hj ne (or_f (q3 i) bi).1 (or_f (q3 j) bj).1) g.1 (fun j hj hbj => by
        have z := (or_f (q3 j) hbj).1
        exact ⟨(h2 j hj z).1, hmax j hj z⟩)
      have s := dJ_s (l a) (l k)
      omega
    · rw [e, hT.1 a ha]
      omega
theorem dp_st (hm : m ≤ 8) (hT : DPT m l b T) (hl : DAYS m l) (hB : ∀ i j : Nat, i < m → j < m → b i j → l i < l j) {i j : Nat} (hi : i < m) (hj : j < m) (hij : b i j) : ∀ d P a : Nat, 2 ^ m - P ≤ d → P < 2 ^ m → a < m → P.testBit i = false → P.testBit j = false → (∀ k : Nat, k < m → P.testBit k = false → l k ≤ l a) → ∀ w : Nat, w < m → P.testBit w = false → l a - l w + 1 ≤ T P a
  | 0, P, a, hd, hP, ha, bi, bj, h1, w, hw, bw => by
    exfalso
    omega
  | d + 1, P, a, hd, hP, ha, bi, bj, h1, w, hw, bw => by
    have lij := hB i j hi hj hij
    rcases dp_get hm hT hP ha hj bj with e | ⟨k, Q, hk, hM, q1, q2, q3, e, nn⟩
    · have g1 := hl a ha
      have g2 := hl w hw
      omega
    · have sk := dJ_s (l a) (l k)
      have lk := h1 k hk hM.1
      have ne : k ≠ j := fun z => by
        rw [← z] at hij lij
        exact hM.2 i hi (fun y => by rw [y] at lij; omega) bi hij
      have qj := dp_one hm hT hl d Q k (by omega) q2 hk j hj (f_or (q3 j) bj ne)
      have sj := dJ_s (l k) (l j)
      by_cases ew : k = w
      · rw [← ew]
        by_cases ei : k = i
        · rw [← ei] at lij
          omega
        · have qi := dp_one hm hT hl d Q k (by omega) q2 hk i hi (f_or (q3 i) bi ei)
          have si := dJ_s (l k) (l i)
          omega
      · have bw2 := f_or (q3 w) bw ew
        have key : ∀ g : Nat, g < m → Q.testBit g = false → l k < l g → l k - l w + 1 ≤ T Q k := fun g hg bg lg => by
          have s1 := dJ_s (l k) (l w)
          have s2 := dJ_s (l w) (l g)
          have s3 := dJ_s (l k) (l g)
          have s4 := dJ_s (l g) (l w)
          rcases dp_two hm hT hl d Q k (by omega) q2 hk w g hw hg bw2 bg with q | q
          · omega
          · omega
        by_cases ei : k = i
        · have z := key j hj (f_or (q3 j) bj ne) (by rw [ei]; exact lij)
          omega
        · by_cases ex : ∃ g : Nat, g < m ∧ Q.testBit g = false ∧ l k < l g
          · obtain ⟨g, hg, bg, lg⟩ := ex
            have z := key g hg bg lg
            omega
          · have z := dp_st hm hT hl hB hi hj hij d Q k (by omega) q2 hk (f_or (q3 i) bi ei) (f_or (q3 j) bj ne) (fun g hg bg => by
              by_cases c : l k < l g
              · exact absurd ⟨g, hg, bg, c⟩ ex
              · omega) w hw bw2
            omega
end DPS
/-! ===== the wanted row ===== -/
def LTW (w x y : Int) : Prop := (w = 1 ∧ x < y) ∨ (w = -1 ∧ y < x)
/-- sorted by L, up (1) or down (-1), of like ones the lesser first -/
def SRT (L : Nat → Int) (w : Int) (ρ : Nat → Nat) (m : Nat) : Prop := ∀ p q : Nat, p < q → q < m → LTW w (L (ρ p)) (L (ρ q)) ∨ (L (ρ p) = L (ρ q) ∧ ρ p < ρ q)
def FREE (S : Nat → Prop) (B : Nat → Nat → Prop) : Prop := ∀ i j : Nat, S i → S j → i ≠ j → ¬ B i j
def HASR (S : Nat → Prop) (m : Nat) (ρ : Nat → Nat) : Prop := (∀ p : Nat, p < m → S (ρ p)) ∧ ∀ j : Nat, S j → ∃ p : Nat, p < m ∧ ρ p = j
def ORW (S : Nat → Prop) (L : Nat → Int) (B : Nat → Nat → Prop) (m : Nat) (ρ : Nat → Nat) : Prop := HASR S m ρ ∧ ((SRT L 1 ρ m ∧ (¬ FREE S B ∨ ∀ j : Nat, S j → (∀ i : Nat, S i → L i ≤ L j) → ρ 0 < j)) ∨ (SRT L (-1) ρ m ∧ FREE S B ∧ ∀ j : Nat, S j → (∀ i : Nat, S i → L j ≤ L i) → ρ 0 ≤ j))
/-- the set's LETTERS in a row, the lesser first -/
def LSF (S : Nat → Prop) (m : Nat) (F : Nat → Nat) : Prop := HASR S m F ∧ ∀ p q : Nat, p < q → q < m → F p < F q
theorem LSF_le {S : Nat → Prop} {m : Nat} {F : Nat → Nat} (h : LSF S m F) {p q : Nat} (hp : p < m) (hq : q < m) (e : F p ≤ F q) : p ≤ q := by
  by_cases c : q < p
  · have := h.2 q p c hp
    omega
  · omega
theorem SRT_ne {L : Nat → Int} {w : Int} {ρ : Nat → Nat} {m : Nat} (h : SRT L w ρ m) {p q : Nat} (hp : p < q) (hq : q < m) : ρ p ≠ ρ q := fun e => by
  have z := h p q hp hq
  unfold LTW at z
  rw [e] at z
  omega
/-- the k-th may come next at the cost of r in all -/
def CND (m : Nat) (l : Nat → Int) (b : Nat → Nat → Prop) (T : Nat → Nat → Int) (P : Nat) (a r : Int) (k : Nat) : Prop := k < m ∧ MYp m b P k ∧ (if a < 0 then 0 else dJ (l a.toNat) (l k)) + T (P ||| (1 <<< k)) k = r
/-- the least cost from the start -/
def LSR (m : Nat) (b : Nat → Nat → Prop) (T : Nat → Nat → Int) (r : Int) : Prop := (0 ≤ r ∧ r ≤ 100000000) ∧ (r < 100000000 → ∃ k : Nat, k < m ∧ MYp m b 0 k ∧ T (0 ||| (1 <<< k)) k = r) ∧ ∀ k : Nat, k < m → MYp m b 0 k → r ≤ T (0 ||| (1 <<< k)) k
/-- where the walk stands: n laid, the set P, the last of them a -/
def WLK (m : Nat) (F ρ : Nat → Nat) (b : Nat → Nat → Prop) (T : Nat → Nat → Int) (P n : Nat) (a r : Int) : Prop := P < 2 ^ m ∧ (∀ k : Nat, k < m → (P.testBit k = true ↔ ∃ p : Nat, p < n ∧ ρ p = F k)) ∧ ((n = 0 ∧ P = 0 ∧ a = -1 ∧ LSR m b T r) ∨ (1 ≤ n ∧ 0 ≤ a ∧ a < (m : Int) ∧ F a.toNat = ρ (n - 1) ∧ r = T P a.toNat))
theorem zero_bit (k : Nat) : (0 : Nat).testBit k = false := Nat.zero_testBit k
/-- all that the jumps' least sum is -/
theorem LSR_eq {m : Nat} {l : Nat → Int} {b : Nat → Nat → Prop} {T : Nat → Nat → Int} {r : Int} {i j : Nat} (hm : m ≤ 8) (hT : DPT m l b T) (hl : DAYS m l) (hB : ∀ i j : Nat, i < m → j < m → b i j → l i < l j) (h : LSR m b T r) (hi : i < m) (hj : j < m) (hmin : ∀ k : Nat, k < m → l i ≤ l k ∧ l k ≤ l j) : r = l j - l i := by
  have pz : (0 : Nat) < 2 ^ m := Nat.two_pow_pos m
  have hM : MYp m b 0 i := ⟨zero_bit i, fun k hk ne _ z => by
    have := hB k i hk hi z
    have := (hmin k hk).1
    omega⟩
  obtain ⟨Q, eQ, q1, q2, q3⟩ := dp_or hm pz hi (zero_bit i)
  have up := dp_up hm hT hB (l j) (2 ^ m) Q i (by omega) q2 hi (hmin i hi).2 (fun k hk _ => hmin k hk)
  have g1 := h.2.2 i hi hM
  rw [← eQ] at g1
  have b1 := hl i hi
  have b2 := hl j hj
  have g2 : r ≤ l j - l i := by omega
  obtain ⟨k, hk, hMk, ek⟩ := h.2.1 (by omega)
  obtain ⟨Q2, eQ2, p1, p2, p3⟩ := dp_or hm pz hk (zero_bit k)
  rw [← eQ2] at ek
  have nn := dp_nn hm hT p2 hk
  have gk := hmin k hk
  by_cases ei : k = i
  · by_cases ej : k = j
    · rw [← ei, ← ej] at g2 ⊢
      omega
    · have q := dp_one hm hT hl (2 ^ m) Q2 k (by omega) p2 hk j hj (f_or (p3 j) (zero_bit j) ej)
      have s := dJ_s (l k) (l j)
      rw [← ei] at g2 ⊢
      omega
  · by_cases ej : k = j
    · have q := dp_one hm hT hl (2 ^ m) Q2 k (by omega) p2 hk i hi (f_or (p3 i) (zero_bit i) ei)
      have s := dJ_s (l k) (l i)
      rw [← ej] at g2 ⊢
      omega
    · have q := dp_two hm hT hl (2 ^ m) Q2 k (by omega) p2 hk i j hi hj (f_or (p3 i) (zero_bit i) ei) (f_or (p3 j) (zero_bit j) ej)
      have s1 := dJ_s (l k) (l i)
      have s2 := dJ_s (l i) (l j)
      have s3 := dJ_s (l k) (l j)
      have s4 := dJ_s (l j) (l i)
      omega
section NEXT
variable {m : Nat} {l : Nat → Int} {b : Nat → Nat → Prop} {T : Nat → Nat → Int} {P k0 : Nat}
/-- on the way up: a least one comes next -/
theorem NX_up (hm : m ≤ 8) (hT : DPT m l b T) (hl : DAYS m l) (hB : ∀ i j : Nat, i < m → j < m → b i j → l i < l j) (hP : P < 2 ^ m) (hk0 : k0 < m) (o0 : P.testBit k0 = false) (like : ∀ k : Nat, k < m → P.testBit k = false → l k = l k0 → k0 ≤ k) {a : Nat} (ha : a < m) (h1 : ∀ k : Nat, k < m → P.testBit k = false → l a ≤ l k) (lo : ∀ k : Nat, k < m → P.testBit k = false → l k0 ≤ l k) : (MYp m b P k0 ∧ dJ (l a) (l k0) + T (P ||| (1 <<< k0)) k0 = T P a) ∧ ∀ k : Nat, k < m → MYp m b P k → dJ (l a) (l k) + T (P ||| (1 <<< k)) k = T P a → k0 ≤ k := by
  obtain ⟨g, hg, og, gmax⟩ := arg_max (fun j => P.testBit j = false) l m ⟨k0, hk0, o0⟩
  have g0 := gmax k0 hk0 o0
  have a0 := h1 k0 hk0 o0
  have my0 : MYp m b P k0 := ⟨o0, fun j hj _ hb z => by
    have := lo j hj hb
    have := hB j k0 hj hk0 z
    omega⟩
  have e1 : T P a ≤ l g - l a := dp_up hm hT hB (l g) (2 ^ m) P a (by omega) hP ha (by omega) (fun j hj hb => ⟨h1 j hj hb, gmax j hj hb⟩)
  have e2 := dp_one hm hT hl (2 ^ m) P a (by omega) hP ha g hg og
  have sg := dJ_s (l a) (l g)
  have s0 := dJ_s (l a) (l k0)
  obtain ⟨Q0, eQ0, r1, r2, r3, r4⟩ := dp_put hm hT hP ha hk0 my0
  have u0 : T Q0 k0 ≤ l g - l k0 := dp_up hm hT hB (l g) (2 ^ m) Q0 k0 (by omega) r2 hk0 g0 (fun j hj hb => ⟨lo j hj (or_f (r3 j) hb).1, gmax j hj (or_f (r3 j) hb).1⟩)
  rw [← eQ0]
  refine ⟨⟨my0, by omega⟩, fun k hk hM e => ?_⟩
  by_cases el : l k = l k0
  · exact like k hk hM.1 el
  · exfalso
    have lk := lo k hk hM.1
    have lg := gmax k hk hM.1
    obtain ⟨Q, eQ, p1, p2, p3⟩ := dp_or hm hP hk hM.1
    rw [← eQ] at e
    have ne0 : k ≠ k0 := fun z => el (by rw [z])
    have w0 := f_or (p3 k0) o0 ne0
    have sk := dJ_s (l a) (l k)
    have s1 := dJ_s (l k) (l k0)
    by_cases eg : k = g
    · have q := dp_one hm hT hl (2 ^ m) Q k (by omega) p2 hk k0 hk0 w0
      rw [← eg] at e1 e2 sg
      omega
    · have q := dp_two hm hT hl (2 ^ m) Q k (by omega) p2 hk k0 g hk0 hg w0 (f_or (p3 g) og eg)
      have s2 := dJ_s (l k0) (l g)
      have s3 := dJ_s (l k) (l g)
      have s4 := dJ_s (l g) (l k0)
      omega
/-- on the way down: a greatest one comes next -/
theorem NX_dn (hm : m ≤ 8) (hT : DPT m l b T) (hl : DAYS m l) (hfree : ∀ i j : Nat, i < m → j < m → i ≠ j → P.testBit i = false → P.testBit j = false → ¬ b i j) (hP : P < 2 ^ m) (hk0 : k0 < m) (o0 : P.testBit k0 = false) (like : ∀ k : Nat, k < m → P.testBit k = false → l k = l k0 → k0 ≤ k) {a : Nat} (ha : a < m) (h1 : ∀ k : Nat, k < m → P.testBit k = false → l k ≤ l a) (hi : ∀ k : Nat, k < m → P.testBit k = false → l k ≤ l k0) : (MYp m b P k0 ∧ dJ (l a) (l k0) + T (P ||| (1 <<< k0)) k0 = T P a) ∧ ∀ k : Nat, k < m → MYp m b P k → dJ (l a) (l k) + T (P ||| (1 <<< k)) k = T P a → k0 ≤ k := by
  obtain ⟨g, hg, og, gmin⟩ := arg_min (fun j => P.testBit j = false) l m ⟨k0, hk0, o0⟩
  have g0 := gmin k0 hk0 o0
  have a0 := h1 k0 hk0 o0
  have my0 : MYp m b P k0 := ⟨o0, fun j hj ne hb => hfree j k0 hj hk0 ne hb o0⟩
  have e1 : T P a ≤ l a - l g := dp_dn hm hT (l g) (2 ^ m) P a (by omega) hP ha hfree (by omega) (fun j hj hb => ⟨gmin j hj hb, h1 j hj hb⟩)
  have e2 := dp_one hm hT hl (2 ^ m) P a (by omega) hP ha g hg og
  have sg := dJ_s (l a) (l g)
  have s0 := dJ_s (l a) (l k0)
  obtain ⟨Q0, eQ0, r1, r2, r3, r4⟩ := dp_put hm hT hP ha hk0 my0
  have u0 : T Q0 k0 ≤ l k0 - l g := dp_dn hm hT (l g) (2 ^ m) Q0 k0 (by omega) r2 hk0 (fun i j hi2 hj ne bi bj => hfree i j hi2 hj ne (or_f (r3 i) bi).1 (or_f (r3 j) bj).1) g0 (fun j hj hb => ⟨gmin j hj (or_f (r3 j) hb).1, hi j hj (or_f (r3 j) hb).1⟩)
  rw [← eQ0]
  refine ⟨⟨my0, by omega⟩, fun k hk hM e => ?_⟩
  by_cases el : l k = l k0
  · exact like k hk hM.1 el
  · exfalso
    have lk := hi k hk hM.1
    have lg := gmin k hk hM.1
    obtain ⟨Q, eQ, p1, p2, p3⟩ := dp_or hm hP hk hM.1
    rw [← eQ] at e
    have ne0 : k ≠ k0 := fun z => el (by rw [z])
    have w0 := f_or (p3 k0) o0 ne0
    have sk := dJ_s (l a) (l k)
    have s1 := dJ_s (l k) (l k0)
    by_cases eg : k = g
    · have q := dp_one hm hT hl (2 ^ m) Q k (by omega) p2 hk k0 hk0 w0
      rw [← eg] at e1 e2 sg
      omega
    · have q := dp_two hm hT hl (2 ^ m) Q k (by omega) p2 hk k0 g hk0 hg w0 (f_or (p3 g) og eg)
      have s2 := dJ_s (l k0) (l g)
      have s3 := dJ_s (l k) (l g)
      have s4 := dJ_s (l g) (l k0)
      omega
theorem NX_mid (hm : m ≤ 8) (hT : DPT m l b T) (hl : DAYS m l) {i j k : Nat} (hi : i < m) (hj : j < m) (hk : k < m) (h : l i < l k ∧ l k < l j) : l j - l i + 1 ≤ T (0 ||| (1 <<< k)) k := by
  obtain ⟨Q, eQ, p1, p2, p3⟩ := dp_or (P := 0) hm (Nat.two_pow_pos m) hk (zero_bit k)
  rw [← eQ]
  have ni : k ≠ i := fun z => by
    rw [z] at h
    omega
  have nj : k ≠ j := fun z => by
    rw [z] at h
    omega
  have q := dp_two hm hT hl (2 ^ m) Q k (by omega) p2 hk i j hi hj (f_or (p3 i) (zero_bit i) ni) (f_or (p3 j) (zero_bit j) nj)
  have s1 := dJ_s (l k) (l i)
  have s2 := dJ_s (l i) (l j)
  have s3 := dJ_s (l k) (l j)
  have s4 := dJ_s (l j) (l i)
  omega
/-- the first one, on the way up -/
theorem NX_up0 (hm : m ≤ 8) (hT : DPT m l b T) (hl : DAYS m l) (hB : ∀ i j : Nat, i < m → j < m → b i j → l i < l j) {r : Int} (hr : LSR m b T r) (hk0 : k0 < m) (like : ∀ k : Nat, k < m → l k = l k0 → k0 ≤ k) (lo : ∀ k : Nat, k < m → l k0 ≤ l k) (hf : (∃ i j : Nat, i < m ∧ j < m ∧ b i j) ∨ ∀ k : Nat, k < m → (∀ i : Nat, i < m → l i ≤ l k) → k0 ≤ k) : (MYp m b 0 k0 ∧ T (0 ||| (1 <<< k0)) k0 = r) ∧ ∀ k : Nat, k < m → MYp m b 0 k → T (0 ||| (1 <<< k)) k = r → k0 ≤ k := by
  obtain ⟨g, hg, -, gmax⟩ := arg_max (fun _ => True) l m ⟨k0, hk0, trivial⟩
  have g0 := gmax k0 hk0 trivial
  have er := LSR_eq hm hT hl hB hr hk0 hg (fun k hk => ⟨lo k hk, gmax k hk trivial⟩)
  have my0 : MYp m b 0 k0 := ⟨zero_bit k0, fun j hj _ _ z => by
    have := lo j hj
    have := hB j k0 hj hk0 z
    omega⟩
  have h0 := hr.2.2 k0 hk0 my0
  obtain ⟨Q0, eQ0, r1, r2, r3⟩ := dp_or (P := 0) hm (Nat.two_pow_pos m) hk0 (zero_bit k0)
  have u0 : T Q0 k0 ≤ l g - l k0 := dp_up hm hT hB (l g) (2 ^ m) Q0 k0 (by omega) r2 hk0 g0 (fun j hj _ => ⟨lo j hj, gmax j hj trivial⟩)
  rw [← eQ0] at h0 ⊢
  refine ⟨⟨my0, by omega⟩, fun k hk hM e => ?_⟩
  by_cases el : l k = l k0
  · exact like k hk el
  · have lk := lo k hk
    have lg := gmax k hk trivial
    by_cases eg : l k = l g
    · rcases hf with ⟨i, j, hi, hj, hij⟩ | hf
      · exfalso
        have lij := hB i j hi hj hij
        have gj := gmax j hj trivial
        have nj : k ≠ j := fun z => hM.2 i hi (fun y => by rw [y, z] at lij; omega) (zero_bit i) (by rw [z]; exact hij)
        have ni : k ≠ i := fun z => by
          rw [← z] at lij
          omega
        obtain ⟨Q, eQ, p1, p2, p3⟩ := dp_or (P := 0) hm (Nat.two_pow_pos m) hk (zero_bit k)
        rw [← eQ] at e
        have ne0 : k ≠ k0 := fun z => el (by rw [z])
        have st := dp_st hm hT hl hB hi hj hij (2 ^ m) Q k (by omega) p2 hk (f_or (p3 i) (zero_bit i) ni) (f_or (p3 j) (zero_bit j) nj) (fun y hy _ => by have := gmax y hy trivial; omega) k0 hk0 (f_or (p3 k0) (zero_bit k0) ne0)
        omega
      · exact hf k hk (fun i hi => by have := gmax i hi trivial; omega)
    · exfalso
      have q := NX_mid hm hT hl hk0 hg hk (by omega)
      omega
/-- the first one, on the way down -/
theorem NX_dn0 (hm : m ≤ 8) (hT : DPT m l b T) (hl : DAYS m l) (hfree : ∀ i j : Nat, i < m → j < m → i ≠ j → ¬ b i j) {r : Int} (hr : LSR m b T r) (hk0 : k0 < m) (like : ∀ k : Nat, k < m → l k = l k0 → k0 ≤ k) (hi : ∀ k : Nat, k < m → l k ≤ l k0) (hB : ∀ i j : Nat, i < m → j < m → b i j → l i < l j) (hf : ∀ k : Nat, k < m → (∀ i : Nat, i < m → l k ≤ l i) → k0 ≤ k) : (MYp m b 0 k0 ∧ T (0 ||| (1 <<< k0)) k0 = r) ∧ ∀ k : Nat, k < m → MYp m b 0 k → T (0 ||| (1 <<< k)) k = r → k0 ≤ k := by
  obtain ⟨g, hg, -, gmin⟩ := arg_min (fun _ => True) l m ⟨k0, hk0, trivial⟩
  have g0 := gmin k0 hk0 trivial
  have er := LSR_eq hm hT hl hB hr hg hk0 (fun k hk => ⟨gmin k hk trivial, hi k hk⟩)
  have my0 : MYp m b 0 k0 := ⟨zero_bit k0, fun j hj ne _ => hfree j k0 hj hk0 ne⟩
  have h0 := hr.2.2 k0 hk0 my0
  obtain ⟨Q0, eQ0, r1, r2, r3⟩ := dp_or (P := 0) hm (Nat.two_pow_pos m) hk0 (zero_bit k0)
  have u0 : T Q0 k0 ≤ l k0 - l g := dp_dn hm hT (l g) (2 ^ m) Q0 k0 (by omega) r2 hk0 (fun i j hi2 hj ne _ _ => hfree i j hi2 hj ne) g0 (fun j hj _ => ⟨gmin j hj trivial, hi j hj⟩)
  rw [← eQ0] at h0 ⊢
  refine ⟨⟨my0, by omega⟩, fun k hk hM e => ?_⟩
  by_cases el : l k = l k0
  · exact like k hk el
  · have lk := hi k hk
    have lg := gmin k hk trivial
    by_cases eg : l k = l g
    · exact hf k hk (fun i hi2 => by have := gmin i hi2 trivial; omega)
    · exfalso
      have q := NX_mid hm hT hl hg hk0 hk (by omega)
      omega
end NEXT
section WALK
variable {S : Nat → Prop} {L : Nat → Int} {B : Nat → Nat → Prop} {m : Nat} {F ρ : Nat → Nat} {T : Nat → Nat → Int}
/-- the next one of the row comes next, and no lesser one could -/
theorem WLK_next (hm : m ≤ 8) (hF : LSF S m F) (hO : ORW S L B m ρ) (hT : DPT m (fun k => L (F k)) (fun i j => B (F i) (F j)) T) (hl : ∀ j : Nat, S j → 0 ≤ L j ∧ L j ≤ 9999) (hB : ∀ i j : Nat, S i → S j → B i j → L i < L j) {P n : Nat} {a r : Int} (hw : WLK m F ρ (fun i j => B (F i) (F j)) T P n a r) (hn : n < m) : ∃ k0 : Nat, F k0 = ρ n ∧ CND m (fun k => L (F k)) (fun i j => B (F i) (F j)) T P a r k0 ∧ ∀ k : Nat, CND m (fun k => L (F k)) (fun i j => B (F i) (F j)) T P a r k → k0 ≤ k := by
  obtain ⟨hP, hbits, hc⟩ := hw
  have hl2 : DAYS m (fun k => L (F k)) := fun k hk => hl _ (hF.1.1 k hk)
  have hB2 : ∀ i j : Nat, i < m → j < m → B (F i) (F j) → L (F i) < L (F j) := fun i j hi hj z => hB _ _ (hF.1.1 i hi) (hF.1.1 j hj) z
  obtain ⟨k0, hk0, e0⟩ := hF.1.2 (ρ n) (hO.1.1 n hn)
  have dist : ∀ p q : Nat, p < q → q < m → ρ p ≠ ρ q := fun p q hp hq => by
    rcases hO.2 with ⟨s, -⟩ | ⟨s, -⟩
    · exact SRT_ne s hp hq
    · exact SRT_ne s hp hq
  have opn : ∀ k : Nat, k < m → P.testBit k = false → ∃ q : Nat, n ≤ q ∧ q < m ∧ ρ q = F k := fun k hk hb => by
    obtain ⟨q, hq, eq⟩ := hO.1.2 (F k) (hF.1.1 k hk)
    refine ⟨q, ?_, hq, eq⟩
    by_cases c : n ≤ q
    · exact c
    · exfalso
      have z := (hbits k hk).mpr ⟨q, by omega, eq⟩
      rw [hb] at z
      exact absurd z (by decide)
  have o0 : P.testBit k0 = false := by
    cases z : P.testBit k0
    · rfl
    · obtain ⟨p, hp, ep⟩ := (hbits k0 hk0).mp z
      exact absurd (ep.trans e0) (dist p n hp hn)
  have like : ∀ w : Int, SRT L w ρ m → ∀ k : Nat, k < m → P.testBit k = false → L (F k) = L (F k0) → k0 ≤ k := fun w hs k hk hb el => by
    obtain ⟨q, q1, q2, q3⟩ := opn k hk hb
    by_cases c : q = n
    · exact LSF_le hF hk0 hk (Nat.le_of_eq (by rw [e0, ← q3, c]))
    · have z := hs n q (by omega) q2
      rw [q3, ← e0] at z
      unfold LTW at z
      exact LSF_le hF hk0 hk (by omega)
  refine ⟨k0, e0, ?_⟩
  have fS : ∀ x : Nat, S x → ∃ i : Nat, i < m ∧ F i = x := hF.1.2
  -- the last one laid
  have lst : 1 ≤ n → ∀ k : Nat, k < m → P.testBit k = false → ∃ q : Nat, n - 1 < q ∧ q < m ∧ ρ q = F k := fun h1 k hk hb => by
    obtain ⟨q, q1, q2, q3⟩ := opn k hk hb
    exact ⟨q, by omega, q2, q3⟩
  rcases hO.2 with ⟨hs, hfirst⟩ | ⟨hs, hfree, hfirst⟩
  · have lo : ∀ k : Nat, k < m → P.testBit k = false → L (F k0) ≤ L (F k) := fun k hk hb => by
      obtain ⟨q, q1, q2, q3⟩ := opn k hk hb
      by_cases c : q = n
      · rw [e0, ← q3, c]
        exact Int.le_refl _
      · have z := hs n q (by omega) q2
        rw [q3, ← e0] at z
        unfold LTW at z
        omega
    rcases hc with ⟨c1, c2, c3, c4⟩ | ⟨c1, c2, c3, c4, c5⟩
    · subst c2
      have q := NX_up0 (k0 := k0) hm hT hl2 hB2 c4 hk0 (fun k hk el => like 1 hs k hk (zero_bit k) el) (fun k hk => lo k hk (zero_bit k)) (by
        rcases hfirst with nf | nf
        · left
          by_cases ex : ∃ i j : Nat, i < m ∧ j < m ∧ B (F i) (F j)
          · exact ex
          · exact absurd (fun x y sx sy _ bxy => by
              obtain ⟨i, hi, ei⟩ := fS x sx
              obtain ⟨j, hj, ej⟩ := fS y sy
              rw [← ei, ← ej] at bxy
              exact ex ⟨i, j, hi, hj, bxy⟩) nf
        · right
          intro k hk hmx
          have z := nf (F k) (hF.1.1 k hk) (fun x sx => by
            obtain ⟨i, hi, ei⟩ := fS x sx
            rw [← ei]
            exact hmx i hi)
          exact LSF_le hF hk0 hk (by rw [e0, c1]; omega))
      refine ⟨⟨hk0, q.1.1, ?_⟩, fun k hk => ?_⟩
      · rw [if_pos (by omega), q.1.2]
        omega
      · obtain ⟨k1, k2, k3⟩ := hk
        rw [if_pos (by omega)] at k3
        exact q.2 k k1 k2 (by omega)
    · have q := NX_up (k0 := k0) (a := a.toNat) hm hT hl2 hB2 hP hk0 o0 (like 1 hs) (by omega) (fun k hk hb => by
        obtain ⟨q, q1, q2, q3⟩ := lst c1 k hk hb
        have z := hs (n - 1) q q1 q2
        rw [q3, ← c4] at z
        unfold LTW at z
        omega) lo
      refine ⟨⟨hk0, q.1.1, ?_⟩, fun k hk => ?_⟩
      · rw [if_neg (by omega), c5]
        exact q.1.2
      · obtain ⟨k1, k2, k3⟩ := hk
        rw [if_neg (by omega), c5] at k3
        exact q.2 k k1 k2 k3
  · have hi : ∀ k : Nat, k < m → P.testBit k = false → L (F k) ≤ L (F k0) := fun k hk hb => by
      obtain ⟨q, q1, q2, q3⟩ := opn k hk hb
      by_cases c : q = n
      · rw [e0, ← q3, c]
        exact Int.le_refl _
      · have z := hs n q (by omega) q2
        rw [q3, ← e0] at z
        unfold LTW at z
        omega
    have fr : ∀ i j : Nat, i < m → j < m → i ≠ j → ¬ B (F i) (F j) := fun i j hi2 hj ne => hfree (F i) (F j) (hF.1.1 i hi2) (hF.1.1 j hj) (fun z => by
      have z1 := LSF_le hF hi2 hj (by omega)
      have z2 := LSF_le hF hj hi2 (by omega)
      omega)
    rcases hc with ⟨c1, c2, c3, c4⟩ | ⟨c1, c2, c3, c4, c5⟩
    · subst c2
      have q := NX_dn0 (k0 := k0) hm hT hl2 fr c4 hk0 (fun k hk el => like (-1) hs k hk (zero_bit k) el) (fun k hk => hi k hk (zero_bit k)) hB2 (fun k hk hmx => by
        have z := hfirst (F k) (hF.1.1 k hk) (fun x sx => by
          obtain ⟨i, hi2, ei⟩ := fS x sx
          rw [← ei]
          exact hmx i hi2)
        exact LSF_le hF hk0 hk (by rw [e0, c1]; omega))
      refine ⟨⟨hk0, q.1.1, ?_⟩, fun k hk => ?_⟩
      · rw [if_pos (by omega), q.1.2]
        omega
      · obtain ⟨k1, k2, k3⟩ := hk
        rw [if_pos (by omega)] at k3
        exact q.2 k k1 k2 (by omega)
    · have q := NX_dn (k0 := k0) (a := a.toNat) hm hT hl2 (fun i j hi2 hj ne _ _ => fr i j hi2 hj ne) hP hk0 o0 (like (-1) hs) (by omega) (fun k hk hb => by
        obtain ⟨q, q1, q2, q3⟩ := lst c1 k hk hb
        have z := hs (n - 1) q q1 q2
        rw [q3, ← c4] at z
        unfold LTW at z
        omega) hi
      refine ⟨⟨hk0, q.1.1, ?_⟩, fun k hk => ?_⟩
      · rw [if_neg (by omega), c5]
        exact q.1.2
      · obtain ⟨k1, k2, k3⟩ := hk
        rw [if_neg (by omega), c5] at k3
        exact q.2 k k1 k2 k3
/-- one step of the walk -/
theorem WLK_go (hm : m ≤ 8) (hF : LSF S m F) {P n k P2 : Nat} {a r a2 r2 : Int} (hw : WLK m F ρ (fun i j => B (F i) (F j)) T P n a r) (hk : k < m) (ek : F k = ρ n) (hb : P.testBit k = false) (eP : P2 = P ||| (1 <<< k)) (ea : a2 = k) (er : r2 = T (P ||| (1 <<< k)) k) : WLK m F ρ (fun i j => B (F i) (F j)) T P2 (n + 1) a2 r2 := by
  obtain ⟨hP, hbits, hc⟩ := hw
  obtain ⟨Q, eQ, p1, p2, p3⟩ := dp_or hm hP hk hb
  rw [← eQ] at eP er
  subst eP
  subst ea
  refine ⟨p2, fun j hj => ?_, Or.inr ⟨by omega, by omega, by omega, ?_, ?_⟩⟩
  · rw [p3 j]
    by_cases e : k = j
    · rw [decide_eq_true e, Bool.or_true]
      exact ⟨fun _ => ⟨n, by omega, by rw [← e]; exact ek.symm⟩, fun _ => rfl⟩
    · rw [decide_eq_false e, Bool.or_false]
      refine ⟨fun z => ?_, fun z => ?_⟩
      · obtain ⟨p, hp, ep⟩ := (hbits j hj).mp z
        exact ⟨p, by omega, ep⟩
      · obtain ⟨p, hp, ep⟩ := z
        by_cases c : p = n
        · exfalso
          rw [c, ← ek] at ep
          have z1 := LSF_le hF hk hj (by omega)
          have z2 := LSF_le hF hj hk (by omega)
          omega
        · exact (hbits j hj).mpr ⟨p, by omega, ep⟩
  · rw [Int.toNat_natCast, Nat.add_sub_cancel]
    exact ek
  · rw [Int.toNat_natCast]
    exact er
end WALK
