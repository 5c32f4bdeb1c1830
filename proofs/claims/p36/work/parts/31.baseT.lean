abbrev digP (c : Int) : Prop := 48 ≤ c ∧ c ≤ 57
abbrev plainP (c : Int) : Prop := (97 ≤ c ∧ c ≤ 122) ∨ c = 32 ∨ c = 46
abbrev sortP (c : Int) : Prop := c = 100 ∨ c = 97 ∨ c = 117 ∨ c = 104 ∨ c = 115 ∨ c = 110
def openB (stk : Nat → Int) : Nat → Int → Bool
  | 0, _ => false
  | d + 1, c => openB stk d c || stk d == c
theorem openB_iff (stk : Nat → Int) (d : Nat) (c : Int) : openB stk d c = true ↔ ∃ i : Nat, i < d ∧ stk i = c := by
  induction d with
  | zero => simp [openB]
  | succ d ih =>
    simp only [openB, Bool.or_eq_true, ih, beq_iff_eq]
    constructor
    · rintro (⟨i, h1, h2⟩ | h)
      · exact ⟨i, by omega, h2⟩
      · exact ⟨d, by omega, h⟩
    · rintro ⟨i, h1, h2⟩
      by_cases e : i = d
      · exact Or.inr (e ▸ h2)
      · exact Or.inl ⟨i, by omega, h2⟩
/-- how many digits stand from i on, k at most -/
def dcnt (t : Nat → Int) (n : Nat) : Nat → Nat → Nat
  | 0, _ => 0
  | k + 1, i => if i < n ∧ digP (t i) then dcnt t n k (i + 1) + 1 else 0
theorem dcnt_le (t : Nat → Int) (n k i : Nat) : dcnt t n k i ≤ k := by
  induction k generalizing i with
  | zero => exact Nat.le_refl _
  | succ k ih =>
    unfold dcnt
    have := ih (i + 1)
    split <;> omega
theorem dcnt_dig {t : Nat → Int} {n k i j : Nat} (h : j < dcnt t n k i) : i + j < n ∧ digP (t (i + j)) := by
  induction k generalizing i j with
  | zero => exact absurd h (Nat.not_lt_zero _)
  | succ k ih =>
    unfold dcnt at h
    split at h
    · rename_i g
      cases j with
      | zero => exact g
      | succ j =>
        have := ih (i := i + 1) (j := j) (by omega)
        rw [show i + (j + 1) = i + 1 + j by omega]
        exact this
    · exact absurd h (Nat.not_lt_zero _)
theorem dcnt_congr {t t2 : Nat → Int} {n : Nat} (h : ∀ j : Nat, j < n → t j = t2 j) (k i : Nat) : dcnt t n k i = dcnt t2 n k i := by
  induction k generalizing i with
  | zero => rfl
  | succ k ih =>
    unfold dcnt
    by_cases g : i < n
    · rw [h i g, ih]
    · rw [if_neg (fun q => g q.1), if_neg (fun q => g q.1)]
def digsF (t : Nat → Int) (n i : Nat) (e : Int) : Int := if 0 < dcnt t n 4 i ∧ i + dcnt t n 4 i < n ∧ t (i + dcnt t n 4 i) = e then ((i + dcnt t n 4 i + 1 : Nat) : Int) else -1 - ((i + dcnt t n 4 i : Nat) : Int)
theorem digsF_congr {t t2 : Nat → Int} {n : Nat} (h : ∀ j : Nat, j < n → t j = t2 j) (i : Nat) (e : Int) : digsF t n i e = digsF t2 n i e := by
  unfold digsF
  rw [dcnt_congr h]
  by_cases g : i + dcnt t2 n 4 i < n
  · rw [h _ g]
  · rw [if_neg (fun q => g q.2.1), if_neg (fun q => g q.2.1)]
/-- where the text goes on behind a mark's head at p (below 0: -1 less the place of a fault) -/
def nxF (t : Nat → Int) (n p : Nat) : Int := if t (p + 1) = 115 then digsF t n (p + 2) 58 else if t (p + 1) = 110 then digsF t n (p + 2) 125 else ((p + 2 : Nat) : Int)
theorem nxF_congr {t t2 : Nat → Int} {n p : Nat} (h : ∀ j : Nat, j < n → t j = t2 j) (hp : p + 1 < n) : nxF t n p = nxF t2 n p := by
  unfold nxF
  rw [h _ hp, digsF_congr h, digsF_congr h]
/-- the place of the first fault of kind 1 from p on, d marks being open (-1: none) -/
def tk (t : Nat → Int) (n : Nat) : Nat → Nat → Nat → (Nat → Int) → Int
  | 0, _, _, _ => 0
  | f + 1, p, d, stk =>
    if n ≤ p then (if d = 0 then -1 else (n : Int))
    else if t p = 125 then (if d = 0 then (p : Int) else tk t n f (p + 1) (d - 1) stk)
    else if t p ≠ 123 then (if plainP (t p) then tk t n f (p + 1) d stk else (p : Int))
    else if d = 4 then (p : Int)
    else if p + 1 = n ∨ ¬ sortP (t (p + 1)) then (p : Int) + 1
    else if openB stk d (t (p + 1)) = true then (p : Int)
    else if nxF t n p < 0 then -1 - nxF t n p
    else if t (p + 1) = 110 then tk t n f (nxF t n p).toNat d stk
    else tk t n f (nxF t n p).toNat (d + 1) (fun i => if i = d then t (p + 1) else stk i)
theorem tk_congr {t t2 : Nat → Int} {n : Nat} (h : ∀ j : Nat, j < n → t j = t2 j) (f p d : Nat) (stk : Nat → Int) : tk t n f p d stk = tk t2 n f p d stk := by
  induction f generalizing p d stk with
  | zero => rfl
  | succ f ih =>
    unfold tk
    by_cases g : n ≤ p
    · rw [if_pos g, if_pos g]
    · rw [if_neg g, if_neg g, h p (by omega)]
      by_cases g2 : p + 1 = n
      · rw [if_pos (show p + 1 = n ∨ ¬ sortP (t (p + 1)) from Or.inl g2), if_pos (show p + 1 = n ∨ ¬ sortP (t2 (p + 1)) from Or.inl g2)]
        simp only [ih]
      · rw [h (p + 1) (by omega), nxF_congr h (by omega)]
        simp only [ih]
/-- a text of n bytes without a fault of kind 1 -/
def VT (t : Nat → Int) (n : Nat) : Prop := tk t n 200 0 0 (fun _ => 0) = -1
/-- what stands at a place of such a text, as its reader comes there -/
theorem tk_inv {t : Nat → Int} {n f p d : Nat} {stk : Nat → Int} (h : tk t n f p d stk = -1) (hp : p < n) : (t p = 125 ∧ 0 < d ∧ ∃ f2 stk2, tk t n f2 (p + 1) (d - 1) stk2 = -1) ∨ (t p ≠ 125 ∧ t p ≠ 123 ∧ plainP (t p) ∧ ∃ f2 stk2, tk t n f2 (p + 1) d stk2 = -1) ∨ (t p = 123 ∧ d ≠ 4 ∧ p + 1 < n ∧ sortP (t (p + 1)) ∧ ((t (p + 1) = 110 ∧ 1 ≤ dcnt t n 4 (p + 2) ∧ p + 2 + dcnt t n 4 (p + 2) < n ∧ t (p + 2 + dcnt t n 4 (p + 2)) = 125 ∧ ∃ f2 stk2, tk t n f2 (p + 3 + dcnt t n 4 (p + 2)) d stk2 = -1) ∨ (t (p + 1) = 115 ∧ 1 ≤ dcnt t n 4 (p + 2) ∧ p + 2 + dcnt t n 4 (p + 2) < n ∧ t (p + 2 + dcnt t n 4 (p + 2)) = 58 ∧ ∃ f2 stk2, tk t n f2 (p + 3 + dcnt t n 4 (p + 2)) (d + 1) stk2 = -1) ∨ (t (p + 1) ≠ 110 ∧ t (p + 1) ≠ 115 ∧ ∃ f2 stk2, tk t n f2 (p + 2) (d + 1) stk2 = -1))) := by
  cases f with
  | zero => exact absurd h (by unfold tk; omega)
  | succ f =>
    unfold tk at h
    rw [if_neg (by omega)] at h
    have key : ∀ e : Int, 0 ≤ digsF t n (p + 2) e → 1 ≤ dcnt t n 4 (p + 2) ∧ p + 2 + dcnt t n 4 (p + 2) < n ∧ t (p + 2 + dcnt t n 4 (p + 2)) = e ∧ (digsF t n (p + 2) e).toNat = p + 3 + dcnt t n 4 (p + 2) := fun e g => by
      unfold digsF at g ⊢
      split at g
      · rename_i q
        refine ⟨q.1, q.2.1, q.2.2, ?_⟩
        rw [if_pos q]
        omega
      · omega
    by_cases c1 : t p = 125
    · rw [if_pos c1] at h
      by_cases c2 : d = 0
      · rw [if_pos c2] at h
        omega
      · rw [if_neg c2] at h
        exact Or.inl ⟨c1, by omega, _, _, h⟩
    · rw [if_neg c1] at h
      by_cases c2 : t p ≠ 123
      · rw [if_pos c2] at h
        by_cases c3 : plainP (t p)
        · rw [if_pos c3] at h
          exact Or.inr (Or.inl ⟨c1, c2, c3, _, _, h⟩)
        · rw [if_neg c3] at h
          omega
      · rw [if_neg c2] at h
        by_cases c3 : d = 4
        · rw [if_pos c3] at h
          omega
        · rw [if_neg c3] at h
          by_cases c4 : p + 1 = n ∨ ¬ sortP (t (p + 1))
          · rw [if_pos c4] at h
            omega
          · rw [if_neg c4] at h
            by_cases c5 : openB stk d (t (p + 1)) = true
            · rw [if_pos c5] at h
              omega
            · rw [if_neg c5] at h
              by_cases c6 : nxF t n p < 0
              · rw [if_pos c6] at h
                omega
              · rw [if_neg c6] at h
                refine Or.inr (Or.inr ⟨by omega, c3, by omega, Decidable.of_not_not (fun q => c4 (Or.inr q)), ?_⟩)
                unfold nxF at h c6
                by_cases c7 : t (p + 1) = 110
                · rw [if_pos c7] at h
                  rw [if_neg (show ¬ t (p + 1) = 115 by omega), if_pos c7] at h c6
                  obtain ⟨k1, k4, k5, k6⟩ := key 125 (by omega)
                  rw [k6] at h
                  exact Or.inl ⟨c7, k1, k4, k5, _, _, h⟩
                · rw [if_neg c7] at h
                  by_cases c8 : t (p + 1) = 115
                  · rw [if_pos c8] at h c6
                    obtain ⟨k1, k4, k5, k6⟩ := key 58 (by omega)
                    rw [k6] at h
                    exact Or.inr (Or.inl ⟨c8, k1, k4, k5, _, _, h⟩)
                  · rw [if_neg c8, if_neg c7] at h
                    exact Or.inr (Or.inr ⟨c7, c8, _, _, h⟩)
/-- a note's head anywhere in such a text is followed by digits and its end -/
theorem tk_note {t : Nat → Int} {n k : Nat} (h1 : k + 1 < n) (h2 : t k = 123) (h3 : t (k + 1) = 110) : ∀ (m p d f : Nat) (stk : Nat → Int), m + p = k → tk t n f p d stk = -1 → 1 ≤ dcnt t n 4 (k + 2) ∧ k + 2 + dcnt t n 4 (k + 2) < n ∧ t (k + 2 + dcnt t n 4 (k + 2)) = 125 := by
  intro m
  induction m using Nat.strongRecOn with
  | _ m ih =>
    intro p d f stk hm h
    by_cases e : m = 0
    · have e2 : p = k := by omega
      subst e2
      rcases tk_inv h (by omega) with ⟨c, -⟩ | ⟨-, c, -⟩ | ⟨-, -, -, -, ⟨-, q1, q4, q5, -⟩ | ⟨c, -⟩ | ⟨c, -⟩⟩
      · omega
      · omega
      · exact ⟨q1, q4, q5⟩
      · omega
      · omega
    · have far : ∀ (f2 d2 : Nat) (s2 : Nat → Int) (x : Int), x ≠ 123 → sortP (t (p + 1)) → t (p + 2 + dcnt t n 4 (p + 2)) = x → tk t n f2 (p + 3 + dcnt t n 4 (p + 2)) d2 s2 = -1 → 1 ≤ dcnt t n 4 (k + 2) ∧ k + 2 + dcnt t n 4 (k + 2) < n ∧ t (k + 2 + dcnt t n 4 (k + 2)) = 125 := fun f2 d2 s2 x hx c4 q5 g => by
        by_cases z : p + 3 + dcnt t n 4 (p + 2) ≤ k
        · exact ih (k - (p + 3 + dcnt t n 4 (p + 2))) (by omega) _ _ _ _ (by omega) g
        · exfalso
          by_cases z1 : k = p + 1
          · rw [z1] at h2
            omega
          · by_cases z2 : k = p + 2 + dcnt t n 4 (p + 2)
            · rw [z2] at h2
              omega
            · have := (dcnt_dig (t := t) (n := n) (k := 4) (i := p + 2) (j := k - (p + 2)) (by omega)).2
              rw [show p + 2 + (k - (p + 2)) = k by omega] at this
              omega
      rcases tk_inv h (by omega) with ⟨-, -, f2, s2, g⟩ | ⟨-, -, -, f2, s2, g⟩ | ⟨-, -, -, c4, ⟨c, q1, q4, q5, f2, s2, g⟩ | ⟨c, q1, q4, q5, f2, s2, g⟩ | ⟨c, c2, f2, s2, g⟩⟩
      · exact ih (m - 1) (by omega) _ _ _ _ (by omega) g
      · exact ih (m - 1) (by omega) _ _ _ _ (by omega) g
      · exact far _ _ _ 125 (by decide) c4 q5 g
      · exact far _ _ _ 58 (by decide) c4 q5 g
      · by_cases z : p + 2 ≤ k
        · exact ih (k - (p + 2)) (by omega) _ _ _ _ (by omega) g
        · exfalso
          have z1 : k = p + 1 := by omega
          rw [z1] at h2
          omega
theorem nxF_rng {t : Nat → Int} {n p : Nat} (h : 0 ≤ nxF t n p) (hp : p + 1 < n) : (p : Int) + 2 ≤ nxF t n p ∧ nxF t n p ≤ n := by
  have key : ∀ e : Int, 0 ≤ digsF t n (p + 2) e → (p : Int) + 2 ≤ digsF t n (p + 2) e ∧ digsF t n (p + 2) e ≤ n := fun e g => by
    unfold digsF at g ⊢
    split at g
    · rename_i q
      rw [if_pos q]
      omega
    · omega
  unfold nxF at h ⊢
  split at h
  · rename_i q
    rw [if_pos q]
    exact key _ h
  · rename_i q
    split at h
    · rename_i q2
      rw [if_neg q, if_pos q2]
      exact key _ h
    · rename_i q2
      rw [if_neg q, if_neg q2]
      omega
/-- the reference's reader stands at p, d marks open, as O has them -/
def HK (T : Nat → Int) (n p d : Nat) (O : Nat → Int32) : Prop := ∃ (f : Nat) (stk : Nat → Int), tk T n 200 0 0 (fun _ => 0) = tk T n f p d stk ∧ n + 1 ≤ f + p ∧ ∀ i : Nat, i < d → stk i = (O i).toInt
theorem HK_0 {T : Nat → Int} {n : Nat} {O : Nat → Int32} (h : n ≤ 160) : HK T n 0 0 O := ⟨200, _, rfl, by omega, fun i hi => absurd hi (Nat.not_lt_zero _)⟩
theorem HK_end {T : Nat → Int} {n p d : Nat} {O : Nat → Int32} (h : HK T n p d O) (hp : n = p) : tk T n 200 0 0 (fun _ => 0) = if d = 0 then -1 else (n : Int) := by
  obtain ⟨f, stk, e, hf, -⟩ := h
  obtain ⟨g, rfl⟩ : ∃ g, f = g + 1 := ⟨f - 1, by omega⟩
  rw [e]
  unfold tk
  exact if_pos (by omega)
theorem HK_cl0 {T : Nat → Int} {n p d : Nat} {O : Nat → Int32} (h : HK T n p d O) (hp : p < n) (c : T p = 125) (hd : d = 0) : tk T n 200 0 0 (fun _ => 0) = p := by
  obtain ⟨f, stk, e, hf, -⟩ := h
  obtain ⟨g, rfl⟩ : ∃ g, f = g + 1 := ⟨f - 1, by omega⟩
  rw [e]
  unfold tk
  rw [if_neg (by omega), if_pos c, if_pos hd]
theorem HK_cl {T : Nat → Int} {n p p2 d d2 : Nat} {O : Nat → Int32} (h : HK T n p d O) (hp : p < n) (c : T p = 125) (hd : d = d2 + 1) (e2 : p2 = p + 1) : HK T n p2 d2 O := by
  obtain ⟨f, stk, e, hf, hs⟩ := h
  obtain ⟨g, rfl⟩ : ∃ g, f = g + 1 := ⟨f - 1, by omega⟩
  refine ⟨g, stk, ?_, by omega, fun i hi => hs i (by omega)⟩
  rw [e]
  conv => lhs; unfold tk
  rw [if_neg (by omega), if_pos c, if_neg (by omega), e2, show d - 1 = d2 by omega]
theorem HK_bad {T : Nat → Int} {n p d : Nat} {O : Nat → Int32} (h : HK T n p d O) (hp : p < n) (c1 : T p ≠ 125) (c2 : T p ≠ 123) (c3 : ¬ plainP (T p)) : tk T n 200 0 0 (fun _ => 0) = p := by
  obtain ⟨f, stk, e, hf, -⟩ := h
  obtain ⟨g, rfl⟩ : ∃ g, f = g + 1 := ⟨f - 1, by omega⟩
  rw [e]
  unfold tk
  rw [if_neg (by omega), if_neg c1, if_pos c2, if_neg c3]
theorem HK_pl {T : Nat → Int} {n p p2 d : Nat} {O : Nat → Int32} (h : HK T n p d O) (hp : p < n) (c1 : T p ≠ 125) (c2 : T p ≠ 123) (c3 : plainP (T p)) (e2 : p2 = p + 1) : HK T n p2 d O := by
  obtain ⟨f, stk, e, hf, hs⟩ := h
  obtain ⟨g, rfl⟩ : ∃ g, f = g + 1 := ⟨f - 1, by omega⟩
  refine ⟨g, stk, ?_, by omega, hs⟩
  rw [e]
  conv => lhs; unfold tk
  rw [if_neg (by omega), if_neg c1, if_pos c2, if_pos c3, e2]
theorem HK_4 {T : Nat → Int} {n p d : Nat} {O : Nat → Int32} (h : HK T n p d O) (hp : p < n) (c : T p = 123) (hd : d = 4) : tk T n 200 0 0 (fun _ => 0) = p := by
  obtain ⟨f, stk, e, hf, -⟩ := h
  obtain ⟨g, rfl⟩ : ∃ g, f = g + 1 := ⟨f - 1, by omega⟩
  rw [e]
  unfold tk
  rw [if_neg (by omega), if_neg (by omega), if_neg (by omega), if_pos hd]
theorem HK_sort {T : Nat → Int} {n p d : Nat} {O : Nat → Int32} (h : HK T n p d O) (hp : p < n) (c : T p = 123) (hd : d ≠ 4) (c2 : p + 1 = n ∨ ¬ sortP (T (p + 1))) : tk T n 200 0 0 (fun _ => 0) = (p : Int) + 1 := by
  obtain ⟨f, stk, e, hf, -⟩ := h
  obtain ⟨g, rfl⟩ : ∃ g, f = g + 1 := ⟨f - 1, by omega⟩
  rw [e]
  unfold tk
  rw [if_neg (by omega), if_neg (by omega), if_neg (by omega), if_neg hd, if_pos c2]
theorem openB_O {stk : Nat → Int} {d : Nat} {O : Nat → Int32} (hs : ∀ i : Nat, i < d → stk i = (O i).toInt) (c : Int) : openB stk d c = true ↔ ∃ i : Nat, i < d ∧ (O i).toInt = c := by
  rw [openB_iff]
  constructor
  · rintro ⟨i, h1, h2⟩
    exact ⟨i, h1, by rw [← hs i h1]; exact h2⟩
  · rintro ⟨i, h1, h2⟩
    exact ⟨i, h1, by rw [hs i h1]; exact h2⟩
theorem HK_open {T : Nat → Int} {n p d : Nat} {O : Nat → Int32} (h : HK T n p d O) (hp : p < n) (c : T p = 123) (hd : d ≠ 4) (c2 : p + 1 ≠ n) (c3 : sortP (T (p + 1))) (c4 : ∃ i : Nat, i < d ∧ (O i).toInt = T (p + 1)) : tk T n 200 0 0 (fun _ => 0) = p := by
  obtain ⟨f, stk, e, hf, hs⟩ := h
  obtain ⟨g, rfl⟩ : ∃ g, f = g + 1 := ⟨f - 1, by omega⟩
  rw [e]
  unfold tk
  rw [if_neg (by omega), if_neg (by omega), if_neg (by omega), if_neg hd, if_neg (fun q => q.elim c2 (fun z => z c3)), if_pos ((openB_O hs _).mpr c4)]
theorem HK_nx {T : Nat → Int} {n p d : Nat} {O : Nat → Int32} (h : HK T n p d O) (hp : p < n) (c : T p = 123) (hd : d ≠ 4) (c2 : p + 1 ≠ n) (c3 : sortP (T (p + 1))) (c4 : ¬ ∃ i : Nat, i < d ∧ (O i).toInt = T (p + 1)) : (nxF T n p < 0 → tk T n 200 0 0 (fun _ => 0) = -1 - nxF T n p) ∧ (∀ p2 : Nat, (p2 : Int) = nxF T n p → p < p2 → T (p + 1) = 110 → HK T n p2 d O) ∧ (∀ (p2 : Nat) (w : Int32), (p2 : Int) = nxF T n p → p < p2 → T (p + 1) ≠ 110 → w.toInt = T (p + 1) → HK T n p2 (d + 1) (upd O d w)) := by
  obtain ⟨f, stk, e, hf, hs⟩ := h
  obtain ⟨g, rfl⟩ : ∃ g, f = g + 1 := ⟨f - 1, by omega⟩
  have k : tk T n (g + 1) p d stk = if nxF T n p < 0 then -1 - nxF T n p else if T (p + 1) = 110 then tk T n g (nxF T n p).toNat d stk else tk T n g (nxF T n p).toNat (d + 1) (fun i => if i = d then T (p + 1) else stk i) := by
    conv => lhs; unfold tk
    rw [if_neg (by omega), if_neg (by omega), if_neg (by omega), if_neg hd, if_neg (fun q => q.elim c2 (fun z => z c3)), if_neg (fun q => c4 ((openB_O hs _).mp q))]
  refine ⟨fun q => ?_, fun p2 e2 hp2 q => ⟨g, stk, ?_, by omega, hs⟩, fun p2 w e2 hp2 q hw => ⟨g, fun i => if i = d then T (p + 1) else stk i, ?_, by omega, fun i hi => ?_⟩⟩
  · rw [e, k, if_pos q]
  · rw [e, k, if_neg (by omega), if_pos q, show (nxF T n p).toNat = p2 by omega]
  · rw [e, k, if_neg (by omega), if_neg q, show (nxF T n p).toNat = p2 by omega]
  · by_cases z : i = d
    · show (if i = d then T (p + 1) else stk i) = (if i = d then w else O i).toInt
      rw [if_pos z, if_pos z]
      exact hw.symm
    · show (if i = d then T (p + 1) else stk i) = (if i = d then w else O i).toInt
      rw [if_neg z, if_neg z]
      exact hs i (by omega)
/-- the TAPE and a LETTER's TEXT in the reference -/
def tpT (σ : ST) : Nat → Int := fun j => (σ.2 119 j).toInt
def lrT (σ : ST) (l : Nat) : Nat → Int := fun j => (σ.2 110 (160 * l + j)).toInt
/-- every TEXT of the reference is without a fault of kind 1 -/
def TV (σ : ST) : Prop := ∀ l : Nat, l < 12 → VT (lrT σ l) (σ.2 109 l).toNatClampNeg
theorem TV_e {σ σ2 : ST} (h1 : σ2.2 109 = σ.2 109) (h2 : σ2.2 110 = σ.2 110) (h : TV σ) : TV σ2 := by
  unfold TV lrT
  rw [h1, h2]
  exact h
theorem TV_q {σ σ2 : ST} (h : WM σ σ2) (tv : TV σ) : TV σ2 := TV_e (h.2.2 109 (by decide)) (h.2.2 110 (by decide)) tv
theorem exN_step {P : Nat → Prop} {a b x v : Int32} (hb : a = 0 ∨ a = 1) (hv : a.toInt = 1 ↔ ∃ i : Nat, (i : Int) < x.toInt ∧ P i) (hm : b.toInt = 1 ↔ (a.toInt ≠ 0 ∨ (a.toInt = 0 ∧ P x.toNatClampNeg))) (e : v.toInt = x.toInt + 1) (h0 : 0 ≤ x.toInt) : b.toInt = 1 ↔ ∃ i : Nat, (i : Int) < v.toInt ∧ P i := by
  have cx := cnat h0
  have ha : a.toInt = 0 ∨ a.toInt = 1 := by
    rcases hb with rfl | rfl
    · exact Or.inl (by decide)
    · exact Or.inr (by decide)
  rw [hm]
  constructor
  · rintro (q | ⟨-, q⟩)
    · obtain ⟨i, h1, h2⟩ := hv.mp (by omega)
      exact ⟨i, by omega, h2⟩
    · exact ⟨x.toNatClampNeg, by omega, q⟩
  · rintro ⟨i, h1, h2⟩
    by_cases z : (i : Int) < x.toInt
    · have := hv.mpr ⟨i, z, h2⟩
      exact Or.inl (by omega)
    · rcases ha with q | q
      · exact Or.inr ⟨q, by rw [show x.toNatClampNeg = i by omega]; exact h2⟩
      · exact Or.inl (by omega)
theorem exN_end {P : Nat → Prop} {a x : Int32} {n : Int} (hb : a = 0 ∨ a = 1) (hv : a.toInt = 1 ↔ ∃ i : Nat, (i : Int) < x.toInt ∧ P i) (e : x.toInt = n) : bq (∃ i : Nat, (i : Int) < n ∧ P i) a := by
  subst e
  rcases hb with rfl | rfl
  · exact bq_f (fun q => absurd (hv.mpr q) (by decide))
  · exact bq_t (hv.mp (by decide))
theorem dc_step {t : Nat → Int} {n F A A2 : Nat} (h : dcnt t n 4 F = (A - F) + dcnt t n (4 - (A - F)) A) (h1 : F ≤ A) (h2 : A < F + 4) (h3 : A < n) (h4 : digP (t A)) (e : A2 = A + 1) : dcnt t n 4 F = (A2 - F) + dcnt t n (4 - (A2 - F)) A2 := by
  subst e
  rw [h, show 4 - (A - F) = (4 - (A + 1 - F)) + 1 by omega]
  conv => lhs; unfold dcnt
  rw [if_pos ⟨h3, h4⟩]
  omega
theorem dc_end {t : Nat → Int} {n F A : Nat} (h : dcnt t n 4 F = (A - F) + dcnt t n (4 - (A - F)) A) (h1 : F ≤ A) (h2 : ¬ (A < n ∧ digP (t A)) ∨ A = F + 4) : dcnt t n 4 F = A - F := by
  rw [h]
  rcases h2 with h2 | h2
  · cases hk : 4 - (A - F) with
    | zero => rfl
    | succ k =>
      unfold dcnt
      rw [if_neg h2]
      rfl
  · rw [show 4 - (A - F) = 0 by omega]
    rfl
theorem dg_val {t : Nat → Int} {n F A : Nat} {e : Int} (h : dcnt t n 4 F = A - F) (h1 : F ≤ A) : digsF t n F e = if F < A ∧ A < n ∧ t A = e then ((A + 1 : Nat) : Int) else -1 - (A : Int) := by
  unfold digsF
  rw [h, show F + (A - F) = A by omega]
  by_cases c : F < A ∧ A < n ∧ t A = e
  · rw [if_pos c, if_pos ⟨by omega, c.2⟩]
  · rw [if_neg c, if_neg (fun q => c ⟨by omega, q.2⟩)]
set_option maxHeartbeats 4000000 in
set_option maxRecDepth 100000 in
theorem c_X12_isDigit (l : Launch) (L : WL) (σ : ST) (c : Int32) : CtI l L yX12_isDigit cX12_isDigit 1 (some .boolean) rm_X12_isDigit [.int c] σ (fun r σ2 => σ2 = σ ∧ bq (digP c.toInt) r) := by
  refine ctI_go (own := RX12) (by decide) rfl (Nat.le_of_ble_eq_true rfl) (fun F hF => ?_)
  subst hF
  have n0 : (0 : Int32).toInt = 0 := by decide
  have n1 : (1 : Int32).toInt = 1 := by decide
  have n48 : (48 : Int32).toInt = 48 := by decide
  have n57 : (57 : Int32).toInt = 57 := by decide
  refine go_iload_n (i := 0) (pc' := 1) dX12_isDigit_0 rfl rfl rfl ?_
  refine go_bipush (v := 48) (pc' := 3) dX12_isDigit_1 rfl (by decide) ?_
  refine gz_icmp_lt (tgt := 16) (pc' := 6) dX12_isDigit_3 rfl (by decide) (fun c1 => ?_) (fun c1 => ?_)
  · refine go_iconst (v := 0) (pc' := 17) dX12_isDigit_16 rfl (by decide) ?_
    exact go_zret dX12_isDigit_17 rfl rfl (⟨rfl, by first | exact bq_t (by omega) | exact bq_f (by omega)⟩)
  refine go_iload_n (i := 0) (pc' := 7) dX12_isDigit_6 rfl rfl rfl ?_
  refine go_bipush (v := 57) (pc' := 9) dX12_isDigit_7 rfl (by decide) ?_
  refine gz_icmp_gt (tgt := 16) (pc' := 12) dX12_isDigit_9 rfl (by decide) (fun c2 => ?_) (fun c2 => ?_)
  · refine go_iconst (v := 0) (pc' := 17) dX12_isDigit_16 rfl (by decide) ?_
    exact go_zret dX12_isDigit_17 rfl rfl (⟨rfl, by first | exact bq_t (by omega) | exact bq_f (by omega)⟩)
  refine go_iconst (v := 1) (pc' := 13) dX12_isDigit_12 rfl (by decide) ?_
  refine go_goto (tgt := 17) dX12_isDigit_13 (by decide) ?_
  exact go_zret dX12_isDigit_17 rfl rfl (⟨rfl, by first | exact bq_t (by omega) | exact bq_f (by omega)⟩)
set_option maxHeartbeats 4000000 in
set_option maxRecDepth 100000 in
theorem c_X12_isPlain (l : Launch) (L : WL) (σ : ST) (c : Int32) : CtI l L yX12_isPlain cX12_isPlain 1 (some .boolean) rm_X12_isPlain [.int c] σ (fun r σ2 => σ2 = σ ∧ bq (plainP c.toInt) r) := by
  refine ctI_go (own := RX12) (by decide) rfl (Nat.le_of_ble_eq_true rfl) (fun F hF => ?_)
  subst hF
  have n0 : (0 : Int32).toInt = 0 := by decide
  have n1 : (1 : Int32).toInt = 1 := by decide
  have n32 : (32 : Int32).toInt = 32 := by decide
  have n46 : (46 : Int32).toInt = 46 := by decide
  have n97 : (97 : Int32).toInt = 97 := by decide
  have n122 : (122 : Int32).toInt = 122 := by decide
  refine go_iload_n (i := 0) (pc' := 1) dX12_isPlain_0 rfl rfl rfl ?_
  refine go_bipush (v := 97) (pc' := 3) dX12_isPlain_1 rfl (by decide) ?_
  refine gz_icmp_lt (tgt := 12) (pc' := 6) dX12_isPlain_3 rfl (by decide) (fun c1 => ?_) (fun c1 => ?_)
  · refine go_iload_n (i := 0) (pc' := 13) dX12_isPlain_12 rfl rfl rfl ?_
    refine go_bipush (v := 32) (pc' := 15) dX12_isPlain_13 rfl (by decide) ?_
    refine gz_icmp_eq (tgt := 24) (pc' := 18) dX12_isPlain_15 rfl (by decide) (fun c2 => ?_) (fun c2 => ?_)
    · refine go_iconst (v := 1) (pc' := 25) dX12_isPlain_24 rfl (by decide) ?_
      refine go_goto (tgt := 29) dX12_isPlain_25 (by decide) ?_
      exact go_zret dX12_isPlain_29 rfl rfl (⟨rfl, by first | exact bq_t (by omega) | exact bq_f (by omega)⟩)
    refine go_iload_n (i := 0) (pc' := 19) dX12_isPlain_18 rfl rfl rfl ?_
    refine go_bipush (v := 46) (pc' := 21) dX12_isPlain_19 rfl (by decide) ?_
    refine gz_icmp_ne (tgt := 28) (pc' := 24) dX12_isPlain_21 rfl (by decide) (fun c3 => ?_) (fun c3 => ?_)
    · refine go_iconst (v := 0) (pc' := 29) dX12_isPlain_28 rfl (by decide) ?_
      exact go_zret dX12_isPlain_29 rfl rfl (⟨rfl, by first | exact bq_t (by omega) | exact bq_f (by omega)⟩)
    refine go_iconst (v := 1) (pc' := 25) dX12_isPlain_24 rfl (by decide) ?_
    refine go_goto (tgt := 29) dX12_isPlain_25 (by decide) ?_
    exact go_zret dX12_isPlain_29 rfl rfl (⟨rfl, by first | exact bq_t (by omega) | exact bq_f (by omega)⟩)
  refine go_iload_n (i := 0) (pc' := 7) dX12_isPlain_6 rfl rfl rfl ?_
  refine go_bipush (v := 122) (pc' := 9) dX12_isPlain_7 rfl (by decide) ?_
  refine gz_icmp_le (tgt := 24) (pc' := 12) dX12_isPlain_9 rfl (by decide) (fun c4 => ?_) (fun c4 => ?_)
  · refine go_iconst (v := 1) (pc' := 25) dX12_isPlain_24 rfl (by decide) ?_
    refine go_goto (tgt := 29) dX12_isPlain_25 (by decide) ?_
    exact go_zret dX12_isPlain_29 rfl rfl (⟨rfl, by first | exact bq_t (by omega) | exact bq_f (by omega)⟩)
  refine go_iload_n (i := 0) (pc' := 13) dX12_isPlain_12 rfl rfl rfl ?_
  refine go_bipush (v := 32) (pc' := 15) dX12_isPlain_13 rfl (by decide) ?_
  refine gz_icmp_eq (tgt := 24) (pc' := 18) dX12_isPlain_15 rfl (by decide) (fun c5 => ?_) (fun c5 => ?_)
  · refine go_iconst (v := 1) (pc' := 25) dX12_isPlain_24 rfl (by decide) ?_
    refine go_goto (tgt := 29) dX12_isPlain_25 (by decide) ?_
    exact go_zret dX12_isPlain_29 rfl rfl (⟨rfl, by first | exact bq_t (by omega) | exact bq_f (by omega)⟩)
  refine go_iload_n (i := 0) (pc' := 19) dX12_isPlain_18 rfl rfl rfl ?_
  refine go_bipush (v := 46) (pc' := 21) dX12_isPlain_19 rfl (by decide) ?_
  refine gz_icmp_ne (tgt := 28) (pc' := 24) dX12_isPlain_21 rfl (by decide) (fun c6 => ?_) (fun c6 => ?_)
  · refine go_iconst (v := 0) (pc' := 29) dX12_isPlain_28 rfl (by decide) ?_
    exact go_zret dX12_isPlain_29 rfl rfl (⟨rfl, by first | exact bq_t (by omega) | exact bq_f (by omega)⟩)
  refine go_iconst (v := 1) (pc' := 25) dX12_isPlain_24 rfl (by decide) ?_
  refine go_goto (tgt := 29) dX12_isPlain_25 (by decide) ?_
  exact go_zret dX12_isPlain_29 rfl rfl (⟨rfl, by first | exact bq_t (by omega) | exact bq_f (by omega)⟩)
set_option maxHeartbeats 4000000 in
set_option maxRecDepth 100000 in
theorem c_X12_isSort (l : Launch) (L : WL) (σ : ST) (c : Int32) : CtI l L yX12_isSort cX12_isSort 1 (some .boolean) rm_X12_isSort [.int c] σ (fun r σ2 => σ2 = σ ∧ bq (sortP c.toInt) r) := by
  refine ctI_go (own := RX12) (by decide) rfl (Nat.le_of_ble_eq_true rfl) (fun F hF => ?_)
  subst hF
  have n0 : (0 : Int32).toInt = 0 := by decide
  have n1 : (1 : Int32).toInt = 1 := by decide
  have n97 : (97 : Int32).toInt = 97 := by decide
  have n100 : (100 : Int32).toInt = 100 := by decide
  have n104 : (104 : Int32).toInt = 104 := by decide
  have n110 : (110 : Int32).toInt = 110 := by decide
  have n115 : (115 : Int32).toInt = 115 := by decide
  have n117 : (117 : Int32).toInt = 117 := by decide
  refine go_iload_n (i := 0) (pc' := 1) dX12_isSort_0 rfl rfl rfl ?_
  refine go_bipush (v := 100) (pc' := 3) dX12_isSort_1 rfl (by decide) ?_
  refine gz_icmp_eq (tgt := 36) (pc' := 6) dX12_isSort_3 rfl (by decide) (fun c1 => ?_) (fun c1 => ?_)
  · refine go_iconst (v := 1) (pc' := 37) dX12_isSort_36 rfl (by decide) ?_
    refine go_goto (tgt := 41) dX12_isSort_37 (by decide) ?_
    exact go_zret dX12_isSort_41 rfl rfl (⟨rfl, by first | exact bq_t (by omega) | exact bq_f (by omega)⟩)
  refine go_iload_n (i := 0) (pc' := 7) dX12_isSort_6 rfl rfl rfl ?_
  refine go_bipush (v := 97) (pc' := 9) dX12_isSort_7 rfl (by decide) ?_
  refine gz_icmp_eq (tgt := 36) (pc' := 12) dX12_isSort_9 rfl (by decide) (fun c2 => ?_) (fun c2 => ?_)
  · refine go_iconst (v := 1) (pc' := 37) dX12_isSort_36 rfl (by decide) ?_
    refine go_goto (tgt := 41) dX12_isSort_37 (by decide) ?_
    exact go_zret dX12_isSort_41 rfl rfl (⟨rfl, by first | exact bq_t (by omega) | exact bq_f (by omega)⟩)
  refine go_iload_n (i := 0) (pc' := 13) dX12_isSort_12 rfl rfl rfl ?_
  refine go_bipush (v := 117) (pc' := 15) dX12_isSort_13 rfl (by decide) ?_
  refine gz_icmp_eq (tgt := 36) (pc' := 18) dX12_isSort_15 rfl (by decide) (fun c3 => ?_) (fun c3 => ?_)
  · refine go_iconst (v := 1) (pc' := 37) dX12_isSort_36 rfl (by decide) ?_
    refine go_goto (tgt := 41) dX12_isSort_37 (by decide) ?_
    exact go_zret dX12_isSort_41 rfl rfl (⟨rfl, by first | exact bq_t (by omega) | exact bq_f (by omega)⟩)
  refine go_iload_n (i := 0) (pc' := 19) dX12_isSort_18 rfl rfl rfl ?_
  refine go_bipush (v := 104) (pc' := 21) dX12_isSort_19 rfl (by decide) ?_
  refine gz_icmp_eq (tgt := 36) (pc' := 24) dX12_isSort_21 rfl (by decide) (fun c4 => ?_) (fun c4 => ?_)
  · refine go_iconst (v := 1) (pc' := 37) dX12_isSort_36 rfl (by decide) ?_
    refine go_goto (tgt := 41) dX12_isSort_37 (by decide) ?_
    exact go_zret dX12_isSort_41 rfl rfl (⟨rfl, by first | exact bq_t (by omega) | exact bq_f (by omega)⟩)
  refine go_iload_n (i := 0) (pc' := 25) dX12_isSort_24 rfl rfl rfl ?_
  refine go_bipush (v := 115) (pc' := 27) dX12_isSort_25 rfl (by decide) ?_
  refine gz_icmp_eq (tgt := 36) (pc' := 30) dX12_isSort_27 rfl (by decide) (fun c5 => ?_) (fun c5 => ?_)
  · refine go_iconst (v := 1) (pc' := 37) dX12_isSort_36 rfl (by decide) ?_
    refine go_goto (tgt := 41) dX12_isSort_37 (by decide) ?_
    exact go_zret dX12_isSort_41 rfl rfl (⟨rfl, by first | exact bq_t (by omega) | exact bq_f (by omega)⟩)
  refine go_iload_n (i := 0) (pc' := 31) dX12_isSort_30 rfl rfl rfl ?_
  refine go_bipush (v := 110) (pc' := 33) dX12_isSort_31 rfl (by decide) ?_
  refine gz_icmp_ne (tgt := 40) (pc' := 36) dX12_isSort_33 rfl (by decide) (fun c6 => ?_) (fun c6 => ?_)
  · refine go_iconst (v := 0) (pc' := 41) dX12_isSort_40 rfl (by decide) ?_
    exact go_zret dX12_isSort_41 rfl rfl (⟨rfl, by first | exact bq_t (by omega) | exact bq_f (by omega)⟩)
  refine go_iconst (v := 1) (pc' := 37) dX12_isSort_36 rfl (by decide) ?_
  refine go_goto (tgt := 41) dX12_isSort_37 (by decide) ?_
  exact go_zret dX12_isSort_41 rfl rfl (⟨rfl, by first | exact bq_t (by omega) | exact bq_f (by omega)⟩)
set_option maxHeartbeats 4000000 in
set_option maxRecDepth 100000 in
theorem c_X12_isOpen (l : Launch) (L : WL) (σ : ST) (c : Int32) (ix : IV σ) : CtI l L yX12_isOpen cX12_isOpen 4 (some .boolean) rm_X12_isOpen [.ref (L.2.1 13), .int c] σ (fun r σ2 => σ2 = σ ∧ bq (∃ i : Nat, (i : Int) < (σ.1 28).toInt ∧ (σ.2 123 i).toInt = c.toInt) r) := by
  refine ctI_go (own := RX12) (by decide) rfl (Nat.le_of_ble_eq_true rfl) (fun F hF => ?_)
  subst hF
  have n0 : (0 : Int32).toInt = 0 := by decide
  have n1 : (1 : Int32).toInt = 1 := by decide
  have w0 : WM σ σ := WM_rfl ix
  have u28 := ixi_28 ix
  refine go_iconst (v := 0) (pc' := 1) dX12_isOpen_0 rfl (by decide) ?_
  refine go_istore_n (i := 2) (pc' := 2) dX12_isOpen_1 rfl rfl (by decide) ?_
  refine go_iconst (v := 0) (pc' := 3) dX12_isOpen_2 rfl (by decide) ?_
  refine go_istore_n (i := 3) (pc' := 4) dX12_isOpen_3 rfl rfl (by decide) ?_
  have loop4_1 : ∀ (dd1 : Nat) (x2_1 : Int32) (x3_1 : Int32), (0 ≤ (x3_1).toInt ∧ (x3_1).toInt ≤ (σ.1 28).toInt) → ((x2_1 = 0 ∨ x2_1 = 1)) → ((x2_1).toInt = 1 ↔ ∃ i : Nat, (i : Int) < (x3_1).toInt ∧ (σ.2 123 i).toInt = c.toInt) → (4 - (x3_1).toInt).toNat = dd1 → Go F L RX12 cX12_isOpen 4 rm_X12_isOpen (some .boolean) (RI F L (fun r σ2 => σ2 = σ ∧ bq (∃ i : Nat, (i : Int) < (σ.1 28).toInt ∧ (σ.2 123 i).toInt = c.toInt) r)) σ 4 [(0, .ref (L.2.1 13)), (1, .int c), (2, .int x2_1), (3, .int x3_1)] [] := by
    intro dd1
    induction dd1 using Nat.strongRecOn with
    | _ dd1 ih1 =>
      intro x2_1 x3_1 h_1 hb_1 hv_1 hm_1
      refine go_iload_n (i := 3) (pc' := 5) dX12_isOpen_4 rfl rfl rfl ?_
      refine go_aload_n (i := 0) (pc' := 6) dX12_isOpen_5 rfl rfl rfl ?_
      refine gf_13_opened (pc' := 9) dX12_isOpen_6 rfl fl_X12_218 ?_
      have g2 := ixi_28 w0.1
      refine gz_icmp_ge (tgt := 38) (pc' := 12) dX12_isOpen_9 rfl (by decide) (fun c3 => ?_) (fun c3 => ?_)
      · refine go_iload_n (i := 2) (pc' := 39) dX12_isOpen_38 rfl rfl rfl ?_
        exact go_zret dX12_isOpen_39 rfl (nb01 hb_1) (⟨rfl, exN_end hb_1 hv_1 (by omega)⟩)
      refine go_iload_n (i := 2) (pc' := 13) dX12_isOpen_12 rfl rfl rfl ?_
      have mrg31_4 : ∀ (y0_4 : Int32), ((y0_4 = 0 ∨ y0_4 = 1) ∧ ((y0_4).toInt = 1 ↔ ((x2_1).toInt ≠ 0 ∨ ((x2_1).toInt = 0 ∧ (σ.2 123 (x3_1).toNatClampNeg).toInt = c.toInt)))) → Go F L RX12 cX12_isOpen 4 rm_X12_isOpen (some .boolean) (RI F L (fun r σ2 => σ2 = σ ∧ bq (∃ i : Nat, (i : Int) < (σ.1 28).toInt ∧ (σ.2 123 i).toInt = c.toInt) r)) σ 31 [(0, .ref (L.2.1 13)), (1, .int c), (2, .int x2_1), (3, .int x3_1)] [.int y0_4] := by
        intro y0_4 hm_4
        refine go_istore_n (i := 2) (pc' := 32) dX12_isOpen_31 rfl rfl (by decide) ?_
        refine gz_iinc (c := 1) (pc' := 35) dX12_isOpen_32 rfl rfl (by decide) (by decide) (by decide) (by omega) (fun v5 h5 e5 => ?_)
        refine go_goto (tgt := 4) dX12_isOpen_35 (by decide) ?_
        exact go_lv (lv' := [(0, .ref (L.2.1 13)), (1, .int c), (2, .int y0_4), (3, .int v5)]) rfl (ih1 _ (by omega)  y0_4 v5 (by omega) hm_4.1 (exN_step hb_1 hv_1 hm_4.2 (by omega) (by omega)) rfl)
      refine gz_if_ne (tgt := 26) (pc' := 16) dX12_isOpen_13 rfl (by decide) (fun c6 => ?_) (fun c6 => ?_)
      · refine go_iconst (v := 1) (pc' := 27) dX12_isOpen_26 rfl (by decide) ?_
        refine go_goto (tgt := 31) dX12_isOpen_27 (by decide) ?_
        exact go_lv (lv' := [(0, .ref (L.2.1 13)), (1, .int c), (2, .int x2_1), (3, .int x3_1)]) rfl (mrg31_4  (1 : Int32) ⟨by first | exact Or.inl rfl | exact Or.inr rfl, by omega⟩)
      refine go_aload_n (i := 0) (pc' := 17) dX12_isOpen_16 rfl rfl rfl ?_
      refine gf_13_open (pc' := 20) dX12_isOpen_17 rfl fl_X12_96 ?_
      refine go_iload_n (i := 3) (pc' := 21) dX12_isOpen_20 rfl rfl rfl ?_
      refine go_iald (pc' := 22) dX12_isOpen_21 rfl (by decide) (by decide) rfl (vin_of (n := 5) (by omega) (by omega)) ?_
      refine go_iload_n (i := 1) (pc' := 23) dX12_isOpen_22 rfl rfl rfl ?_
      refine gz_icmp_ne (tgt := 30) (pc' := 26) dX12_isOpen_23 rfl (by decide) (fun c7 => ?_) (fun c7 => ?_)
      · refine go_iconst (v := 0) (pc' := 31) dX12_isOpen_30 rfl (by decide) ?_
        exact go_lv (lv' := [(0, .ref (L.2.1 13)), (1, .int c), (2, .int x2_1), (3, .int x3_1)]) rfl (mrg31_4  (0 : Int32) ⟨by first | exact Or.inl rfl | exact Or.inr rfl, by omega⟩)
      refine go_iconst (v := 1) (pc' := 27) dX12_isOpen_26 rfl (by decide) ?_
      refine go_goto (tgt := 31) dX12_isOpen_27 (by decide) ?_
      exact go_lv (lv' := [(0, .ref (L.2.1 13)), (1, .int c), (2, .int x2_1), (3, .int x3_1)]) rfl (mrg31_4  (1 : Int32) ⟨by first | exact Or.inl rfl | exact Or.inr rfl, by omega⟩)
  exact go_lv (lv' := [(0, .ref (L.2.1 13)), (1, .int c), (2, .int (0 : Int32)), (3, .int (0 : Int32))]) rfl (loop4_1 _  (0 : Int32) (0 : Int32) (by omega) (Or.inl rfl) ⟨fun q => by omega, fun ⟨i, q, _⟩ => by omega⟩ rfl)
set_option maxHeartbeats 4000000 in
set_option maxRecDepth 100000 in
theorem c_X12_digits (l : Launch) (L : WL) (σ : ST) (f e : Int32) (hf : 0 ≤ f.toInt ∧ f.toInt ≤ 162) (ix : IV σ) : CtI l L yX12_digits cX12_digits 4 (some .int) rm_X12_digits [.ref (L.2.1 13), .int f, .int e] σ (fun r σ2 => σ2 = σ ∧ r.toInt = digsF (tpT σ) (σ.1 23).toNatClampNeg (f).toNatClampNeg e.toInt) := by
  refine ctI_go (own := RX12) (by decide) rfl (Nat.le_of_ble_eq_true rfl) (fun F hF => ?_)
  subst hF
  have nm1 : (-1 : Int32).toInt = -1 := by decide
  have n1 : (1 : Int32).toInt = 1 := by decide
  have n4 : (4 : Int32).toInt = 4 := by decide
  have w0 : WM σ σ := WM_rfl ix
  have u23 := ixi_23 ix
  have cn := cnat (x := σ.1 23) (by omega)
  have cf := cnat (x := f) (by omega)
  refine go_iload_n (i := 1) (pc' := 1) dX12_digits_0 rfl rfl rfl ?_
  refine go_istore_n (i := 3) (pc' := 2) dX12_digits_1 rfl rfl (by decide) ?_
  have loop2_1 : ∀ (dd1 : Nat) (x3_1 : Int32), (f.toInt ≤ (x3_1).toInt ∧ (x3_1).toInt ≤ f.toInt + 4) → (dcnt (tpT σ) (σ.1 23).toNatClampNeg 4 (f).toNatClampNeg = ((x3_1).toNatClampNeg - (f).toNatClampNeg) + dcnt (tpT σ) (σ.1 23).toNatClampNeg (4 - ((x3_1).toNatClampNeg - (f).toNatClampNeg)) (x3_1).toNatClampNeg) → (f.toInt + 5 - (x3_1).toInt).toNat = dd1 → Go F L RX12 cX12_digits 4 rm_X12_digits (some .int) (RI F L (fun r σ2 => σ2 = σ ∧ r.toInt = digsF (tpT σ) (σ.1 23).toNatClampNeg (f).toNatClampNeg e.toInt)) σ 2 [(0, .ref (L.2.1 13)), (1, .int f), (2, .int e), (3, .int x3_1)] [] := by
    intro dd1
    induction dd1 using Nat.strongRecOn with
    | _ dd1 ih1 =>
      intro x3_1 h_1 hd_1 hm_1
      refine go_iload_n (i := 3) (pc' := 3) dX12_digits_2 rfl rfl rfl ?_
      refine go_aload_n (i := 0) (pc' := 4) dX12_digits_3 rfl rfl rfl ?_
      refine gf_13_size (pc' := 7) dX12_digits_4 rfl fl_X12_215 ?_
      have g2 := ixi_23 ix
      have c3 := cnat (x := x3_1) (by omega)
      refine gz_icmp_ge (tgt := 35) (pc' := 10) dX12_digits_7 rfl (by decide) (fun c3 => ?_) (fun c3 => ?_)
      · have hz := dc_end hd_1 (by omega) (by first | exact Or.inr (by omega) | exact Or.inl (fun q => by omega) | exact Or.inl (fun q => c3 q.2))
        refine go_iload_n (i := 3) (pc' := 36) dX12_digits_35 rfl rfl rfl ?_
        refine go_iload_n (i := 1) (pc' := 37) dX12_digits_36 rfl rfl rfl ?_
        refine gz_icmp_le (tgt := 64) (pc' := 40) dX12_digits_37 rfl (by decide) (fun c4 => ?_) (fun c4 => ?_)
        · refine go_iconst (v := (-1)) (pc' := 65) dX12_digits_64 rfl (by decide) ?_
          refine go_iload_n (i := 3) (pc' := 66) dX12_digits_65 rfl rfl rfl ?_
          refine gz_isub (pc' := 67) dX12_digits_66 rfl (by omega) (fun v5 h5 e5 => ?_)
          exact go_iret dX12_digits_67 rfl (⟨rfl, by rw [dg_val hz (by omega)]; have tz : tpT σ (x3_1).toNatClampNeg = (σ.2 119 (x3_1).toNatClampNeg).toInt := rfl; split <;> omega⟩)
        refine go_iload_n (i := 3) (pc' := 41) dX12_digits_40 rfl rfl rfl ?_
        refine go_aload_n (i := 0) (pc' := 42) dX12_digits_41 rfl rfl rfl ?_
        refine gf_13_size (pc' := 45) dX12_digits_42 rfl fl_X12_215 ?_
        have g6 := ixi_23 ix
        refine gz_icmp_ge (tgt := 64) (pc' := 48) dX12_digits_45 rfl (by decide) (fun c7 => ?_) (fun c7 => ?_)
        · refine go_iconst (v := (-1)) (pc' := 65) dX12_digits_64 rfl (by decide) ?_
          refine go_iload_n (i := 3) (pc' := 66) dX12_digits_65 rfl rfl rfl ?_
          refine gz_isub (pc' := 67) dX12_digits_66 rfl (by omega) (fun v8 h8 e8 => ?_)
          exact go_iret dX12_digits_67 rfl (⟨rfl, by rw [dg_val hz (by omega)]; have tz : tpT σ (x3_1).toNatClampNeg = (σ.2 119 (x3_1).toNatClampNeg).toInt := rfl; split <;> omega⟩)
        refine go_aload_n (i := 0) (pc' := 49) dX12_digits_48 rfl rfl rfl ?_
        refine gf_13_tape (pc' := 52) dX12_digits_49 rfl fl_X12_80 ?_
        refine go_iload_n (i := 3) (pc' := 53) dX12_digits_52 rfl rfl rfl ?_
        refine go_iald (pc' := 54) dX12_digits_53 rfl (by decide) (by decide) rfl (vin_of (n := 160) (by omega) (by omega)) ?_
        have g9 := ixa_119 ix (x3_1).toNatClampNeg (vinlt (vin_of (n := 160) (by omega) (by omega)))
        refine go_iload_n (i := 2) (pc' := 55) dX12_digits_54 rfl rfl rfl ?_
        refine gz_icmp_ne (tgt := 64) (pc' := 58) dX12_digits_55 rfl (by decide) (fun c10 => ?_) (fun c10 => ?_)
        · refine go_iconst (v := (-1)) (pc' := 65) dX12_digits_64 rfl (by decide) ?_
          refine go_iload_n (i := 3) (pc' := 66) dX12_digits_65 rfl rfl rfl ?_
          refine gz_isub (pc' := 67) dX12_digits_66 rfl (by omega) (fun v11 h11 e11 => ?_)
          exact go_iret dX12_digits_67 rfl (⟨rfl, by rw [dg_val hz (by omega)]; have tz : tpT σ (x3_1).toNatClampNeg = (σ.2 119 (x3_1).toNatClampNeg).toInt := rfl; split <;> omega⟩)
        refine go_iload_n (i := 3) (pc' := 59) dX12_digits_58 rfl rfl rfl ?_
        refine go_iconst (v := 1) (pc' := 60) dX12_digits_59 rfl (by decide) ?_
        refine gz_iadd (pc' := 61) dX12_digits_60 rfl (by omega) (fun v12 h12 e12 => ?_)
        refine go_goto (tgt := 67) dX12_digits_61 (by decide) ?_
        exact go_iret dX12_digits_67 rfl (⟨rfl, by rw [dg_val hz (by omega)]; have tz : tpT σ (x3_1).toNatClampNeg = (σ.2 119 (x3_1).toNatClampNeg).toInt := rfl; split <;> omega⟩)
      refine go_aload_n (i := 0) (pc' := 11) dX12_digits_10 rfl rfl rfl ?_
      refine gf_13_tape (pc' := 14) dX12_digits_11 rfl fl_X12_80 ?_
      refine go_iload_n (i := 3) (pc' := 15) dX12_digits_14 rfl rfl rfl ?_
      refine go_iald (pc' := 16) dX12_digits_15 rfl (by decide) (by decide) rfl (vin_of (n := 160) (by omega) (by omega)) ?_
      have g13 := ixa_119 ix (x3_1).toNatClampNeg (vinlt (vin_of (n := 160) (by omega) (by omega)))
      refine go_csi (pc' := 19) ls_X12_221 (c_X12_isDigit _ _ _ _) rfl rfl (Nat.le_of_ble_eq_true rfl) ⟨Nat.le_of_ble_eq_true rfl, Nat.le_of_ble_eq_true rfl⟩ ⟨rfl, rfl⟩ dX12_digits_16 rfl (fun r14 σ14 h14 => ?_)
      obtain ⟨e14, h14⟩ := h14
      have e14 := e14.symm
      subst e14
      refine go_eqB (tgt := 35) (pc' := 22) h14 dX12_digits_19 rfl (by decide) (fun c15 => ?_) (fun c15 => ?_)
      · have hz := dc_end hd_1 (by omega) (by first | exact Or.inr (by omega) | exact Or.inl (fun q => by omega) | exact Or.inl (fun q => c15 q.2))
        refine go_iload_n (i := 3) (pc' := 36) dX12_digits_35 rfl rfl rfl ?_
        refine go_iload_n (i := 1) (pc' := 37) dX12_digits_36 rfl rfl rfl ?_
        refine gz_icmp_le (tgt := 64) (pc' := 40) dX12_digits_37 rfl (by decide) (fun c16 => ?_) (fun c16 => ?_)
        · refine go_iconst (v := (-1)) (pc' := 65) dX12_digits_64 rfl (by decide) ?_
          refine go_iload_n (i := 3) (pc' := 66) dX12_digits_65 rfl rfl rfl ?_
          refine gz_isub (pc' := 67) dX12_digits_66 rfl (by omega) (fun v17 h17 e17 => ?_)
          exact go_iret dX12_digits_67 rfl (⟨rfl, by rw [dg_val hz (by omega)]; have tz : tpT σ (x3_1).toNatClampNeg = (σ.2 119 (x3_1).toNatClampNeg).toInt := rfl; split <;> omega⟩)
        refine go_iload_n (i := 3) (pc' := 41) dX12_digits_40 rfl rfl rfl ?_
        refine go_aload_n (i := 0) (pc' := 42) dX12_digits_41 rfl rfl rfl ?_
        refine gf_13_size (pc' := 45) dX12_digits_42 rfl fl_X12_215 ?_
        have g18 := ixi_23 ix
        refine gz_icmp_ge (tgt := 64) (pc' := 48) dX12_digits_45 rfl (by decide) (fun c19 => ?_) (fun c19 => ?_)
        · refine go_iconst (v := (-1)) (pc' := 65) dX12_digits_64 rfl (by decide) ?_
          refine go_iload_n (i := 3) (pc' := 66) dX12_digits_65 rfl rfl rfl ?_
          refine gz_isub (pc' := 67) dX12_digits_66 rfl (by omega) (fun v20 h20 e20 => ?_)
          exact go_iret dX12_digits_67 rfl (⟨rfl, by rw [dg_val hz (by omega)]; have tz : tpT σ (x3_1).toNatClampNeg = (σ.2 119 (x3_1).toNatClampNeg).toInt := rfl; split <;> omega⟩)
        refine go_aload_n (i := 0) (pc' := 49) dX12_digits_48 rfl rfl rfl ?_
        refine gf_13_tape (pc' := 52) dX12_digits_49 rfl fl_X12_80 ?_
        refine go_iload_n (i := 3) (pc' := 53) dX12_digits_52 rfl rfl rfl ?_
        refine go_iald (pc' := 54) dX12_digits_53 rfl (by decide) (by decide) rfl (vin_of (n := 160) (by omega) (by omega)) ?_
        have g21 := ixa_119 ix (x3_1).toNatClampNeg (vinlt (vin_of (n := 160) (by omega) (by omega)))
        refine go_iload_n (i := 2) (pc' := 55) dX12_digits_54 rfl rfl rfl ?_
        refine gz_icmp_ne (tgt := 64) (pc' := 58) dX12_digits_55 rfl (by decide) (fun c22 => ?_) (fun c22 => ?_)
        · refine go_iconst (v := (-1)) (pc' := 65) dX12_digits_64 rfl (by decide) ?_
          refine go_iload_n (i := 3) (pc' := 66) dX12_digits_65 rfl rfl rfl ?_
          refine gz_isub (pc' := 67) dX12_digits_66 rfl (by omega) (fun v23 h23 e23 => ?_)
          exact go_iret dX12_digits_67 rfl (⟨rfl, by rw [dg_val hz (by omega)]; have tz : tpT σ (x3_1).toNatClampNeg = (σ.2 119 (x3_1).toNatClampNeg).toInt := rfl; split <;> omega⟩)
        refine go_iload_n (i := 3) (pc' := 59) dX12_digits_58 rfl rfl rfl ?_
        refine go_iconst (v := 1) (pc' := 60) dX12_digits_59 rfl (by decide) ?_
        refine gz_iadd (pc' := 61) dX12_digits_60 rfl (by omega) (fun v24 h24 e24 => ?_)
        refine go_goto (tgt := 67) dX12_digits_61 (by decide) ?_
        exact go_iret dX12_digits_67 rfl (⟨rfl, by rw [dg_val hz (by omega)]; have tz : tpT σ (x3_1).toNatClampNeg = (σ.2 119 (x3_1).toNatClampNeg).toInt := rfl; split <;> omega⟩)
      have cdg := c15
      refine go_iload_n (i := 3) (pc' := 23) dX12_digits_22 rfl rfl rfl ?_
      refine go_iload_n (i := 1) (pc' := 24) dX12_digits_23 rfl rfl rfl ?_
      refine go_iconst (v := 4) (pc' := 25) dX12_digits_24 rfl (by decide) ?_
      refine gz_iadd (pc' := 26) dX12_digits_25 rfl (by omega) (fun v25 h25 e25 => ?_)
      refine gz_icmp_ge (tgt := 35) (pc' := 29) dX12_digits_26 rfl (by decide) (fun c26 => ?_) (fun c26 => ?_)
      · have hz := dc_end hd_1 (by omega) (by first | exact Or.inr (by omega) | exact Or.inl (fun q => by omega) | exact Or.inl (fun q => c26 q.2))
        refine go_iload_n (i := 3) (pc' := 36) dX12_digits_35 rfl rfl rfl ?_
        refine go_iload_n (i := 1) (pc' := 37) dX12_digits_36 rfl rfl rfl ?_
        refine gz_icmp_le (tgt := 64) (pc' := 40) dX12_digits_37 rfl (by decide) (fun c27 => ?_) (fun c27 => ?_)
        · refine go_iconst (v := (-1)) (pc' := 65) dX12_digits_64 rfl (by decide) ?_
          refine go_iload_n (i := 3) (pc' := 66) dX12_digits_65 rfl rfl rfl ?_
          refine gz_isub (pc' := 67) dX12_digits_66 rfl (by omega) (fun v28 h28 e28 => ?_)
          exact go_iret dX12_digits_67 rfl (⟨rfl, by rw [dg_val hz (by omega)]; have tz : tpT σ (x3_1).toNatClampNeg = (σ.2 119 (x3_1).toNatClampNeg).toInt := rfl; split <;> omega⟩)
        refine go_iload_n (i := 3) (pc' := 41) dX12_digits_40 rfl rfl rfl ?_
        refine go_aload_n (i := 0) (pc' := 42) dX12_digits_41 rfl rfl rfl ?_
        refine gf_13_size (pc' := 45) dX12_digits_42 rfl fl_X12_215 ?_
        have g29 := ixi_23 ix
        refine gz_icmp_ge (tgt := 64) (pc' := 48) dX12_digits_45 rfl (by decide) (fun c30 => ?_) (fun c30 => ?_)
        · refine go_iconst (v := (-1)) (pc' := 65) dX12_digits_64 rfl (by decide) ?_
          refine go_iload_n (i := 3) (pc' := 66) dX12_digits_65 rfl rfl rfl ?_
          refine gz_isub (pc' := 67) dX12_digits_66 rfl (by omega) (fun v31 h31 e31 => ?_)
          exact go_iret dX12_digits_67 rfl (⟨rfl, by rw [dg_val hz (by omega)]; have tz : tpT σ (x3_1).toNatClampNeg = (σ.2 119 (x3_1).toNatClampNeg).toInt := rfl; split <;> omega⟩)
        refine go_aload_n (i := 0) (pc' := 49) dX12_digits_48 rfl rfl rfl ?_
        refine gf_13_tape (pc' := 52) dX12_digits_49 rfl fl_X12_80 ?_
        refine go_iload_n (i := 3) (pc' := 53) dX12_digits_52 rfl rfl rfl ?_
        refine go_iald (pc' := 54) dX12_digits_53 rfl (by decide) (by decide) rfl (vin_of (n := 160) (by omega) (by omega)) ?_
        have g32 := ixa_119 ix (x3_1).toNatClampNeg (vinlt (vin_of (n := 160) (by omega) (by omega)))
        refine go_iload_n (i := 2) (pc' := 55) dX12_digits_54 rfl rfl rfl ?_
        refine gz_icmp_ne (tgt := 64) (pc' := 58) dX12_digits_55 rfl (by decide) (fun c33 => ?_) (fun c33 => ?_)
        · refine go_iconst (v := (-1)) (pc' := 65) dX12_digits_64 rfl (by decide) ?_
          refine go_iload_n (i := 3) (pc' := 66) dX12_digits_65 rfl rfl rfl ?_
          refine gz_isub (pc' := 67) dX12_digits_66 rfl (by omega) (fun v34 h34 e34 => ?_)
          exact go_iret dX12_digits_67 rfl (⟨rfl, by rw [dg_val hz (by omega)]; have tz : tpT σ (x3_1).toNatClampNeg = (σ.2 119 (x3_1).toNatClampNeg).toInt := rfl; split <;> omega⟩)
        refine go_iload_n (i := 3) (pc' := 59) dX12_digits_58 rfl rfl rfl ?_
        refine go_iconst (v := 1) (pc' := 60) dX12_digits_59 rfl (by decide) ?_
        refine gz_iadd (pc' := 61) dX12_digits_60 rfl (by omega) (fun v35 h35 e35 => ?_)
        refine go_goto (tgt := 67) dX12_digits_61 (by decide) ?_
        exact go_iret dX12_digits_67 rfl (⟨rfl, by rw [dg_val hz (by omega)]; have tz : tpT σ (x3_1).toNatClampNeg = (σ.2 119 (x3_1).toNatClampNeg).toInt := rfl; split <;> omega⟩)
      refine gz_iinc (c := 1) (pc' := 32) dX12_digits_29 rfl rfl (by decide) (by decide) (by decide) (by omega) (fun v36 h36 e36 => ?_)
      refine go_goto (tgt := 2) dX12_digits_32 (by decide) ?_
      exact go_lv (lv' := [(0, .ref (L.2.1 13)), (1, .int f), (2, .int e), (3, .int v36)]) rfl (ih1 _ (by omega)  v36 (by omega) (dc_step hd_1 (by omega) (by omega) (by omega) cdg (by have cv := cnat (x := v36) (by omega); omega)) rfl)
  exact go_lv (lv' := [(0, .ref (L.2.1 13)), (1, .int f), (2, .int e), (3, .int f)]) rfl (loop2_1 _  f (by omega) (by rw [Nat.sub_self, Nat.zero_add]) rfl)
set_option maxHeartbeats 4000000 in
set_option maxRecDepth 100000 in
theorem c_X12_wrongAt (l : Launch) (L : WL) (σ : ST)  (ix : IV σ) : CtI l L yX12_wrongAt cX12_wrongAt 5 (some .int) rm_X12_wrongAt [.ref (L.2.1 13)] σ (fun r σ2 => WM σ σ2 ∧ r.toInt = tk (tpT σ) (σ.1 23).toNatClampNeg 200 0 0 (fun _ => 0)) := by
  refine ctI_go (own := RX12) (by decide) rfl (Nat.le_of_ble_eq_true rfl) (fun F hF => ?_)
  subst hF
  have nm1 : (-1 : Int32).toInt = -1 := by decide
  have n0 : (0 : Int32).toInt = 0 := by decide
  have n1 : (1 : Int32).toInt = 1 := by decide
  have n2 : (2 : Int32).toInt = 2 := by decide
  have n4 : (4 : Int32).toInt = 4 := by decide
  have n58 : (58 : Int32).toInt = 58 := by decide
  have n110 : (110 : Int32).toInt = 110 := by decide
  have n115 : (115 : Int32).toInt = 115 := by decide
  have n123 : (123 : Int32).toInt = 123 := by decide
  have n125 : (125 : Int32).toInt = 125 := by decide
  have w0 : WM σ σ := WM_rfl ix
  have u23 := ixi_23 ix
  have cn := cnat (x := σ.1 23) (by omega)
  refine go_aload_n (i := 0) (pc' := 1) dX12_wrongAt_0 rfl rfl rfl ?_
  refine go_iconst (v := 0) (pc' := 2) dX12_wrongAt_1 rfl (by decide) ?_
  refine pf_13_opened (pc' := 5) dX12_wrongAt_2 rfl fl_X12_218 ?_
  refine go_gen (P := fun s => WM σ s ∧ s.1 28 = (0 : Int32)) ⟨⟨ixs_28 w0.1 (by omega) (by omega), Ag_setI w0.2 (by decide)⟩, setI_same _ _ _⟩ (fun σ1 z1 => ?_)
  obtain ⟨w1, g1⟩ := z1
  have g0 := g1
  refine go_iconst (v := 0) (pc' := 6) dX12_wrongAt_5 rfl (by decide) ?_
  refine go_istore_n (i := 1) (pc' := 7) dX12_wrongAt_6 rfl rfl (by decide) ?_
  have loop7_2 : ∀ (dd2 : Nat) (σ2 : ST) (x1_2 : Int32), WM σ σ2 → (0 ≤ (x1_2).toInt ∧ (x1_2).toInt ≤ (σ.1 23).toInt) → (HK (tpT σ) (σ.1 23).toNatClampNeg (x1_2).toNatClampNeg (σ2.1 28).toNatClampNeg (σ2.2 123)) → (160 - (x1_2).toInt).toNat = dd2 → Go F L RX12 cX12_wrongAt 5 rm_X12_wrongAt (some .int) (RI F L (fun r σ2 => WM σ σ2 ∧ r.toInt = tk (tpT σ) (σ.1 23).toNatClampNeg 200 0 0 (fun _ => 0))) σ2 7 [(0, .ref (L.2.1 13)), (1, .int x1_2)] [] := by
    intro dd2
    induction dd2 using Nat.strongRecOn with
    | _ dd2 ih2 =>
      intro σ2 x1_2 w2 h_2 hk_2 hm_2
      refine go_iload_n (i := 1) (pc' := 8) dX12_wrongAt_7 rfl rfl rfl ?_
      refine go_aload_n (i := 0) (pc' := 9) dX12_wrongAt_8 rfl rfl rfl ?_
      refine gf_13_size (pc' := 12) dX12_wrongAt_9 rfl fl_X12_215 ?_
      refine go_topq (y := σ.1 23) (w2.2.1 23 (by decide)) ?_
      have g3 := ixi_23 ix
      refine gz_icmp_ge (tgt := 214) (pc' := 15) dX12_wrongAt_12 rfl (by decide) (fun c4 => ?_) (fun c4 => ?_)
      · have c1 := cnat (x := x1_2) (by omega)
        have uo := ixi_28 w2.1
        have co := cnat (x := σ2.1 28) (by omega)
        refine go_aload_n (i := 0) (pc' := 215) dX12_wrongAt_214 rfl rfl rfl ?_
        refine gf_13_opened (pc' := 218) dX12_wrongAt_215 rfl fl_X12_218 ?_
        have g5 := ixi_28 w2.1
        refine gz_if_le (tgt := 228) (pc' := 221) dX12_wrongAt_218 rfl (by decide) (fun c6 => ?_) (fun c6 => ?_)
        · refine go_iconst (v := (-1)) (pc' := 229) dX12_wrongAt_228 rfl (by decide) ?_
          exact go_iret dX12_wrongAt_229 rfl (⟨w2, by rw [HK_end hk_2 (by omega)]; first | (rw [if_neg (by omega)]; omega) | (rw [if_pos (by omega)]; omega)⟩)
        refine go_aload_n (i := 0) (pc' := 222) dX12_wrongAt_221 rfl rfl rfl ?_
        refine gf_13_size (pc' := 225) dX12_wrongAt_222 rfl fl_X12_215 ?_
        refine go_topq (y := σ.1 23) (w2.2.1 23 (by decide)) ?_
        have g7 := ixi_23 ix
        refine go_goto (tgt := 229) dX12_wrongAt_225 (by decide) ?_
        exact go_iret dX12_wrongAt_229 rfl (⟨w2, by rw [HK_end hk_2 (by omega)]; first | (rw [if_neg (by omega)]; omega) | (rw [if_pos (by omega)]; omega)⟩)
      have c1 := cnat (x := x1_2) (by omega)
      have p1 : (x1_2).toNatClampNeg < (σ.1 23).toNatClampNeg := by omega
      have uo := ixi_28 w2.1
      have co := cnat (x := σ2.1 28) (by omega)
      refine go_aload_n (i := 0) (pc' := 16) dX12_wrongAt_15 rfl rfl rfl ?_
      refine gf_13_tape (pc' := 19) dX12_wrongAt_16 rfl fl_X12_80 ?_
      refine go_iload_n (i := 1) (pc' := 20) dX12_wrongAt_19 rfl rfl rfl ?_
      refine go_iald (pc' := 21) dX12_wrongAt_20 rfl (by decide) (by decide) rfl (vin_of (n := 160) (by omega) (by omega)) ?_
      refine go_topq (y := (σ.2 119 (x1_2).toNatClampNeg)) (congrFun (w2.2.2 119 (by decide)) _) ?_
      have g8 := ixa_119 ix (x1_2).toNatClampNeg (vinlt (vin_of (n := 160) (by omega) (by omega)))
      refine go_topz (fun y9 h9 e9 => ?_)
      refine go_istore_n (i := 2) (pc' := 22) dX12_wrongAt_21 rfl rfl (by decide) ?_
      have tc : tpT σ (x1_2).toNatClampNeg = (y9).toInt := by show (σ.2 119 _).toInt = _; omega
      refine go_iload_n (i := 2) (pc' := 23) dX12_wrongAt_22 rfl rfl rfl ?_
      refine go_bipush (v := 125) (pc' := 25) dX12_wrongAt_23 rfl (by decide) ?_
      refine gz_icmp_ne (tgt := 53) (pc' := 28) dX12_wrongAt_25 rfl (by decide) (fun c10 => ?_) (fun c10 => ?_)
      · refine go_iload_n (i := 2) (pc' := 54) dX12_wrongAt_53 rfl rfl rfl ?_
        refine go_bipush (v := 123) (pc' := 56) dX12_wrongAt_54 rfl (by decide) ?_
        refine gz_icmp_eq (tgt := 74) (pc' := 59) dX12_wrongAt_56 rfl (by decide) (fun c11 => ?_) (fun c11 => ?_)
        · refine go_aload_n (i := 0) (pc' := 75) dX12_wrongAt_74 rfl rfl rfl ?_
          refine gf_13_opened (pc' := 78) dX12_wrongAt_75 rfl fl_X12_218 ?_
          have g12 := ixi_28 w2.1
          refine go_iconst (v := 4) (pc' := 79) dX12_wrongAt_78 rfl (by decide) ?_
          refine gz_icmp_ne (tgt := 84) (pc' := 82) dX12_wrongAt_79 rfl (by decide) (fun c13 => ?_) (fun c13 => ?_)
          · refine go_iload_n (i := 1) (pc' := 85) dX12_wrongAt_84 rfl rfl rfl ?_
            refine go_iconst (v := 1) (pc' := 86) dX12_wrongAt_85 rfl (by decide) ?_
            refine gz_iadd (pc' := 87) dX12_wrongAt_86 rfl (by omega) (fun v14 h14 e14 => ?_)
            refine go_aload_n (i := 0) (pc' := 88) dX12_wrongAt_87 rfl rfl rfl ?_
            refine gf_13_size (pc' := 91) dX12_wrongAt_88 rfl fl_X12_215 ?_
            refine go_topq (y := σ.1 23) (w2.2.1 23 (by decide)) ?_
            have g15 := ixi_23 ix
            refine gz_icmp_eq (tgt := 108) (pc' := 94) dX12_wrongAt_91 rfl (by decide) (fun c16 => ?_) (fun c16 => ?_)
            · refine go_iload_n (i := 1) (pc' := 109) dX12_wrongAt_108 rfl rfl rfl ?_
              refine go_iconst (v := 1) (pc' := 110) dX12_wrongAt_109 rfl (by decide) ?_
              refine gz_iadd (pc' := 111) dX12_wrongAt_110 rfl (by omega) (fun v17 h17 e17 => ?_)
              exact go_iret dX12_wrongAt_111 rfl (⟨w2, by rw [HK_sort hk_2 p1 (by omega) (by omega) (by first | exact Or.inl (by omega) | exact Or.inr (by show ¬ sortP (σ.2 119 _).toInt; rw [← ez]; exact c16))]; omega⟩)
            refine go_aload_n (i := 0) (pc' := 95) dX12_wrongAt_94 rfl rfl rfl ?_
            refine gf_13_tape (pc' := 98) dX12_wrongAt_95 rfl fl_X12_80 ?_
            refine go_iload_n (i := 1) (pc' := 99) dX12_wrongAt_98 rfl rfl rfl ?_
            refine go_iconst (v := 1) (pc' := 100) dX12_wrongAt_99 rfl (by decide) ?_
            refine gz_iadd (pc' := 101) dX12_wrongAt_100 rfl (by omega) (fun v18 h18 e18 => ?_)
            have cz := cnat (x := v18) (by omega)
            have ez : (v18).toNatClampNeg = (x1_2).toNatClampNeg + 1 := by omega
            refine go_iald (pc' := 102) dX12_wrongAt_101 rfl (by decide) (by decide) rfl (vin_of (n := 160) (by omega) (by omega)) ?_
            refine go_topq (y := (σ.2 119 (v18).toNatClampNeg)) (congrFun (w2.2.2 119 (by decide)) _) ?_
            have g19 := ixa_119 ix (v18).toNatClampNeg (vinlt (vin_of (n := 160) (by omega) (by omega)))
            refine go_csi (pc' := 105) ls_X12_227 (c_X12_isSort _ _ _ _) rfl rfl (Nat.le_of_ble_eq_true rfl) ⟨Nat.le_of_ble_eq_true rfl, Nat.le_of_ble_eq_true rfl⟩ ⟨rfl, rfl⟩ dX12_wrongAt_102 rfl (fun r20 σ20 h20 => ?_)
            obtain ⟨e20, h20⟩ := h20
            have e20 := e20.symm
            subst e20
            refine go_neB (tgt := 112) (pc' := 108) h20 dX12_wrongAt_105 rfl (by decide) (fun c21 => ?_) (fun c21 => ?_)
            · have csr : sortP (tpT σ ((x1_2).toNatClampNeg + 1)) := by show sortP (σ.2 119 _).toInt; rw [← ez]; exact c21
              refine go_aload_n (i := 0) (pc' := 113) dX12_wrongAt_112 rfl rfl rfl ?_
              refine gf_13_tape (pc' := 116) dX12_wrongAt_113 rfl fl_X12_80 ?_
              refine go_iload_n (i := 1) (pc' := 117) dX12_wrongAt_116 rfl rfl rfl ?_
              refine go_iconst (v := 1) (pc' := 118) dX12_wrongAt_117 rfl (by decide) ?_
              refine gz_iadd (pc' := 119) dX12_wrongAt_118 rfl (by omega) (fun v22 h22 e22 => ?_)
              have cz := cnat (x := v22) (by omega)
              have ez : (v22).toNatClampNeg = (x1_2).toNatClampNeg + 1 := by omega
              refine go_iald (pc' := 120) dX12_wrongAt_119 rfl (by decide) (by decide) rfl (vin_of (n := 160) (by omega) (by omega)) ?_
              refine go_topq (y := (σ.2 119 (v22).toNatClampNeg)) (congrFun (w2.2.2 119 (by decide)) _) ?_
              have g23 := ixa_119 ix (v22).toNatClampNeg (vinlt (vin_of (n := 160) (by omega) (by omega)))
              refine go_topz (fun y24 h24 e24 => ?_)
              refine go_istore_n (i := 3) (pc' := 121) dX12_wrongAt_120 rfl rfl (by decide) ?_
              have ts : tpT σ ((x1_2).toNatClampNeg + 1) = (y24).toInt := by show (σ.2 119 _).toInt = _; rw [← ez]; omega
              refine go_aload_n (i := 0) (pc' := 122) dX12_wrongAt_121 rfl rfl rfl ?_
              refine go_iload_n (i := 3) (pc' := 123) dX12_wrongAt_122 rfl rfl rfl ?_
              refine go_cvi (pc' := 126) lk_X12_230 (c_X12_isOpen _ _ _ _ w2.1) rfl rfl (Nat.le_of_ble_eq_true rfl) (by decide) rfl rfl rfl ⟨Nat.le_of_ble_eq_true rfl, Nat.le_of_ble_eq_true rfl⟩ ⟨rfl, rfl⟩ dX12_wrongAt_123 rfl (fun r25 σ25 h25 => ?_)
              obtain ⟨e25, h25⟩ := h25
              have e25 := e25.symm
              subst e25
              refine go_eqB (tgt := 131) (pc' := 129) h25 dX12_wrongAt_126 rfl (by decide) (fun c26 => ?_) (fun c26 => ?_)
              · have hx := HK_nx hk_2 p1 (by omega) (by omega) (by omega) csr (fun ⟨i, qa, qb⟩ => c26 ⟨i, by omega, by rw [← ts]; exact qb⟩)
                have mrg170_27 : ∀ (y0_27 : Int32), ((y0_27).toInt = nxF (tpT σ) (σ.1 23).toNatClampNeg (x1_2).toNatClampNeg) → Go F L RX12 cX12_wrongAt 5 rm_X12_wrongAt (some .int) (RI F L (fun r σ2 => WM σ σ2 ∧ r.toInt = tk (tpT σ) (σ.1 23).toNatClampNeg 200 0 0 (fun _ => 0))) σ2 170 [(0, .ref (L.2.1 13)), (1, .int x1_2), (2, .int y9), (3, .int y24)] [.int y0_27] := by
                  intro y0_27 hn_27
                  refine go_istore (pc' := 172) dX12_wrongAt_170 rfl (by decide) ?_
                  refine go_iload (pc' := 174) dX12_wrongAt_172 rfl rfl ?_
                  refine gz_if_ge (tgt := 182) (pc' := 177) dX12_wrongAt_174 rfl (by decide) (fun c28 => ?_) (fun c28 => ?_)
                  · have hr := nxF_rng (t := tpT σ) (n := (σ.1 23).toNatClampNeg) (p := (x1_2).toNatClampNeg) (by omega) (by omega)
                    have c4 := cnat (x := y0_27) (by omega)
                    refine go_iload_n (i := 3) (pc' := 183) dX12_wrongAt_182 rfl rfl rfl ?_
                    refine go_bipush (v := 110) (pc' := 185) dX12_wrongAt_183 rfl (by decide) ?_
                    refine gz_icmp_eq (tgt := 208) (pc' := 188) dX12_wrongAt_185 rfl (by decide) (fun c29 => ?_) (fun c29 => ?_)
                    · have uo := ixi_28 w2.1
                      have co := cnat (x := σ2.1 28) (by omega)
                      refine go_iload (pc' := 210) dX12_wrongAt_208 rfl rfl ?_
                      refine go_istore_n (i := 1) (pc' := 211) dX12_wrongAt_210 rfl rfl (by decide) ?_
                      refine go_goto (tgt := 7) dX12_wrongAt_211 (by decide) ?_
                      exact go_lv (lv' := [(0, .ref (L.2.1 13)), (1, .int y0_27)]) rfl (ih2 _ (by omega) σ2 y0_27 w2 (by omega) (by first | exact HK_pl hk_2 p1 (by omega) (by omega) (by rw [tc]; exact cpl) (by omega) | (rw [gO.2, gS.1, show (σ2.1 28).toNatClampNeg = (σ2.1 28).toNatClampNeg + 1 from by omega]; exact hx.2.2 _ _ (by omega) (by omega) (by omega) (by omega)) | exact hx.2.1 _ (by omega) (by omega) (by omega) | (rw [gO.2]; exact HK_cl hk_2 p1 (by omega) (by omega) (by omega))) rfl)
                    refine go_aload_n (i := 0) (pc' := 189) dX12_wrongAt_188 rfl rfl rfl ?_
                    refine gf_13_open (pc' := 192) dX12_wrongAt_189 rfl fl_X12_96 ?_
                    refine go_aload_n (i := 0) (pc' := 193) dX12_wrongAt_192 rfl rfl rfl ?_
                    refine gf_13_opened (pc' := 196) dX12_wrongAt_193 rfl fl_X12_218 ?_
                    have g30 := ixi_28 w2.1
                    refine go_iload_n (i := 3) (pc' := 197) dX12_wrongAt_196 rfl rfl rfl ?_
                    refine go_iast (pc' := 198) dX12_wrongAt_197 rfl (by decide) (by decide) rfl (vin_of (n := 5) (by omega) (by omega)) ?_
                    refine go_gen (P := fun s => WM σ s ∧ s.2 123 = upd (σ2.2 123) ((σ2.1 28)).toNatClampNeg y24 ∧ s.1 28 = σ2.1 28) ⟨⟨ixt_n w2.1 (by decide), Ag_setA w2.2 (by decide)⟩, ⟨setA_same _ _ _ _, rfl⟩⟩ (fun σ31 z31 => ?_)
                    obtain ⟨w31, g31⟩ := z31
                    have gS := g31
                    have gt := congrArg Int32.toInt gS.2
                    refine go_aload_n (i := 0) (pc' := 199) dX12_wrongAt_198 rfl rfl rfl ?_
                    refine go_dup (pc' := 200) dX12_wrongAt_199 rfl rfl ?_
                    refine gf_13_opened (pc' := 203) dX12_wrongAt_200 rfl fl_X12_218 ?_
                    have g32 := ixi_28 w31.1
                    refine go_iconst (v := 1) (pc' := 204) dX12_wrongAt_203 rfl (by decide) ?_
                    refine gz_iadd (pc' := 205) dX12_wrongAt_204 rfl (by omega) (fun v33 h33 e33 => ?_)
                    refine pf_13_opened (pc' := 208) dX12_wrongAt_205 rfl fl_X12_218 ?_
                    refine go_gen (P := fun s => WM σ s ∧ s.1 28 = v33 ∧ s.2 123 = σ31.2 123) ⟨⟨ixs_28 w31.1 (by omega) (by omega), Ag_setI w31.2 (by decide)⟩, ⟨setI_same _ _ _, rfl⟩⟩ (fun σ34 z34 => ?_)
                    obtain ⟨w34, g34⟩ := z34
                    have gO := g34
                    have gq := congrArg Int32.toInt gO.1
                    have uo := ixi_28 w34.1
                    have co := cnat (x := σ34.1 28) (by omega)
                    refine go_iload (pc' := 210) dX12_wrongAt_208 rfl rfl ?_
                    refine go_istore_n (i := 1) (pc' := 211) dX12_wrongAt_210 rfl rfl (by decide) ?_
                    refine go_goto (tgt := 7) dX12_wrongAt_211 (by decide) ?_
                    exact go_lv (lv' := [(0, .ref (L.2.1 13)), (1, .int y0_27)]) rfl (ih2 _ (by omega) σ34 y0_27 w34 (by omega) (by first | exact HK_pl hk_2 p1 (by omega) (by omega) (by rw [tc]; exact cpl) (by omega) | (rw [gO.2, gS.1, show (σ34.1 28).toNatClampNeg = (σ2.1 28).toNatClampNeg + 1 from by omega]; exact hx.2.2 _ _ (by omega) (by omega) (by omega) (by omega)) | exact hx.2.1 _ (by omega) (by omega) (by omega) | (rw [gO.2]; exact HK_cl hk_2 p1 (by omega) (by omega) (by omega))) rfl)
                  refine go_iconst (v := (-1)) (pc' := 178) dX12_wrongAt_177 rfl (by decide) ?_
                  refine go_iload (pc' := 180) dX12_wrongAt_178 rfl rfl ?_
                  have lz := Int32.le_toInt y0_27
                  refine gz_isub (pc' := 181) dX12_wrongAt_180 rfl (by omega) (fun v35 h35 e35 => ?_)
                  exact go_iret dX12_wrongAt_181 rfl (⟨w2, by rw [hx.1 (by omega)]; omega⟩)
                refine go_iload_n (i := 3) (pc' := 132) dX12_wrongAt_131 rfl rfl rfl ?_
                refine go_bipush (v := 115) (pc' := 134) dX12_wrongAt_132 rfl (by decide) ?_
                refine gz_icmp_ne (tgt := 149) (pc' := 137) dX12_wrongAt_134 rfl (by decide) (fun c36 => ?_) (fun c36 => ?_)
                · refine go_iload_n (i := 3) (pc' := 150) dX12_wrongAt_149 rfl rfl rfl ?_
                  refine go_bipush (v := 110) (pc' := 152) dX12_wrongAt_150 rfl (by decide) ?_
                  refine gz_icmp_ne (tgt := 167) (pc' := 155) dX12_wrongAt_152 rfl (by decide) (fun c37 => ?_) (fun c37 => ?_)
                  · refine go_iload_n (i := 1) (pc' := 168) dX12_wrongAt_167 rfl rfl rfl ?_
                    refine go_iconst (v := 2) (pc' := 169) dX12_wrongAt_168 rfl (by decide) ?_
                    refine gz_iadd (pc' := 170) dX12_wrongAt_169 rfl (by omega) (fun v38 h38 e38 => ?_)
                    exact go_lv (lv' := [(0, .ref (L.2.1 13)), (1, .int x1_2), (2, .int y9), (3, .int y24)]) rfl (mrg170_27  v38 (by unfold nxF; rw [ts]; first | (rw [if_pos (by omega)]; exact dq) | (rw [if_neg (by omega), if_pos (by omega)]; exact dq) | (rw [if_neg (by omega), if_neg (by omega)]; omega)))
                  refine go_aload_n (i := 0) (pc' := 156) dX12_wrongAt_155 rfl rfl rfl ?_
                  refine go_iload_n (i := 1) (pc' := 157) dX12_wrongAt_156 rfl rfl rfl ?_
                  refine go_iconst (v := 2) (pc' := 158) dX12_wrongAt_157 rfl (by decide) ?_
                  refine gz_iadd (pc' := 159) dX12_wrongAt_158 rfl (by omega) (fun v39 h39 e39 => ?_)
                  refine go_bipush (v := 125) (pc' := 161) dX12_wrongAt_159 rfl (by decide) ?_
                  refine go_cvi (pc' := 164) lk_X12_233 (c_X12_digits _ _ _ _ _ (by omega) w2.1) rfl rfl (Nat.le_of_ble_eq_true rfl) (by decide) rfl rfl rfl ⟨Nat.le_of_ble_eq_true rfl, Nat.le_of_ble_eq_true rfl⟩ ⟨rfl, rfl⟩ dX12_wrongAt_161 rfl (fun r40 σ40 h40 => ?_)
                  obtain ⟨e40, h40⟩ := h40
                  have e40 := e40.symm
                  subst e40
                  have cz := cnat (x := v39) (by omega)
                  have dq := h40
                  have tq : tpT σ2 = tpT σ := by unfold tpT; rw [w2.2.2 119 (by decide)]
                  rw [tq, w2.2.1 23 (by decide), show (v39).toNatClampNeg = (x1_2).toNatClampNeg + 2 from by omega, n125] at dq
                  refine go_goto (tgt := 170) dX12_wrongAt_164 (by decide) ?_
                  exact go_lv (lv' := [(0, .ref (L.2.1 13)), (1, .int x1_2), (2, .int y9), (3, .int y24)]) rfl (mrg170_27  r40 (by unfold nxF; rw [ts]; first | (rw [if_pos (by omega)]; exact dq) | (rw [if_neg (by omega), if_pos (by omega)]; exact dq) | (rw [if_neg (by omega), if_neg (by omega)]; omega)))
                refine go_aload_n (i := 0) (pc' := 138) dX12_wrongAt_137 rfl rfl rfl ?_
                refine go_iload_n (i := 1) (pc' := 139) dX12_wrongAt_138 rfl rfl rfl ?_
                refine go_iconst (v := 2) (pc' := 140) dX12_wrongAt_139 rfl (by decide) ?_
                refine gz_iadd (pc' := 141) dX12_wrongAt_140 rfl (by omega) (fun v41 h41 e41 => ?_)
                refine go_bipush (v := 58) (pc' := 143) dX12_wrongAt_141 rfl (by decide) ?_
                refine go_cvi (pc' := 146) lk_X12_233 (c_X12_digits _ _ _ _ _ (by omega) w2.1) rfl rfl (Nat.le_of_ble_eq_true rfl) (by decide) rfl rfl rfl ⟨Nat.le_of_ble_eq_true rfl, Nat.le_of_ble_eq_true rfl⟩ ⟨rfl, rfl⟩ dX12_wrongAt_143 rfl (fun r42 σ42 h42 => ?_)
                obtain ⟨e42, h42⟩ := h42
                have e42 := e42.symm
                subst e42
                have cz := cnat (x := v41) (by omega)
                have dq := h42
                have tq : tpT σ2 = tpT σ := by unfold tpT; rw [w2.2.2 119 (by decide)]
                rw [tq, w2.2.1 23 (by decide), show (v41).toNatClampNeg = (x1_2).toNatClampNeg + 2 from by omega, n58] at dq
                refine go_goto (tgt := 170) dX12_wrongAt_146 (by decide) ?_
                exact go_lv (lv' := [(0, .ref (L.2.1 13)), (1, .int x1_2), (2, .int y9), (3, .int y24)]) rfl (mrg170_27  r42 (by unfold nxF; rw [ts]; first | (rw [if_pos (by omega)]; exact dq) | (rw [if_neg (by omega), if_pos (by omega)]; exact dq) | (rw [if_neg (by omega), if_neg (by omega)]; omega)))
              refine go_iload_n (i := 1) (pc' := 130) dX12_wrongAt_129 rfl rfl rfl ?_
              exact go_iret dX12_wrongAt_130 rfl (⟨w2, by rw [HK_open hk_2 p1 (by omega) (by omega) (by omega) csr (by obtain ⟨i, qa, qb⟩ := c26; exact ⟨i, by omega, by rw [ts]; exact qb⟩)]; omega⟩)
            refine go_iload_n (i := 1) (pc' := 109) dX12_wrongAt_108 rfl rfl rfl ?_
            refine go_iconst (v := 1) (pc' := 110) dX12_wrongAt_109 rfl (by decide) ?_
            refine gz_iadd (pc' := 111) dX12_wrongAt_110 rfl (by omega) (fun v43 h43 e43 => ?_)
            exact go_iret dX12_wrongAt_111 rfl (⟨w2, by rw [HK_sort hk_2 p1 (by omega) (by omega) (by first | exact Or.inl (by omega) | exact Or.inr (by show ¬ sortP (σ.2 119 _).toInt; rw [← ez]; exact c21))]; omega⟩)
          refine go_iload_n (i := 1) (pc' := 83) dX12_wrongAt_82 rfl rfl rfl ?_
          exact go_iret dX12_wrongAt_83 rfl (⟨w2, by rw [HK_4 hk_2 p1 (by omega) (by omega)]; omega⟩)
        refine go_iload_n (i := 2) (pc' := 60) dX12_wrongAt_59 rfl rfl rfl ?_
        refine go_csi (pc' := 63) ls_X12_224 (c_X12_isPlain _ _ _ _) rfl rfl (Nat.le_of_ble_eq_true rfl) ⟨Nat.le_of_ble_eq_true rfl, Nat.le_of_ble_eq_true rfl⟩ ⟨rfl, rfl⟩ dX12_wrongAt_60 rfl (fun r44 σ44 h44 => ?_)
        obtain ⟨e44, h44⟩ := h44
        have e44 := e44.symm
        subst e44
        refine go_neB (tgt := 68) (pc' := 66) h44 dX12_wrongAt_63 rfl (by decide) (fun c45 => ?_) (fun c45 => ?_)
        · have cpl := c45
          refine gz_iinc (c := 1) (pc' := 71) dX12_wrongAt_68 rfl rfl (by decide) (by decide) (by decide) (by omega) (fun v46 h46 e46 => ?_)
          have cv := cnat (x := v46) (by omega)
          refine go_goto (tgt := 7) dX12_wrongAt_71 (by decide) ?_
          exact go_lv (lv' := [(0, .ref (L.2.1 13)), (1, .int v46)]) rfl (ih2 _ (by omega) σ2 v46 w2 (by omega) (by first | exact HK_pl hk_2 p1 (by omega) (by omega) (by rw [tc]; exact cpl) (by omega) | (rw [gO.2, gS.1, show (σ2.1 28).toNatClampNeg = (σ2.1 28).toNatClampNeg + 1 from by omega]; exact hx.2.2 _ _ (by omega) (by omega) (by omega) (by omega)) | exact hx.2.1 _ (by omega) (by omega) (by omega) | (rw [gO.2]; exact HK_cl hk_2 p1 (by omega) (by omega) (by omega))) rfl)
        refine go_iload_n (i := 1) (pc' := 67) dX12_wrongAt_66 rfl rfl rfl ?_
        exact go_iret dX12_wrongAt_67 rfl (⟨w2, by rw [HK_bad hk_2 p1 (by omega) (by omega) (by rw [tc]; exact c45)]; omega⟩)
      refine go_aload_n (i := 0) (pc' := 29) dX12_wrongAt_28 rfl rfl rfl ?_
      refine gf_13_opened (pc' := 32) dX12_wrongAt_29 rfl fl_X12_218 ?_
      have g47 := ixi_28 w2.1
      refine gz_if_ne (tgt := 37) (pc' := 35) dX12_wrongAt_32 rfl (by decide) (fun c48 => ?_) (fun c48 => ?_)
      · refine go_aload_n (i := 0) (pc' := 38) dX12_wrongAt_37 rfl rfl rfl ?_
        refine go_dup (pc' := 39) dX12_wrongAt_38 rfl rfl ?_
        refine gf_13_opened (pc' := 42) dX12_wrongAt_39 rfl fl_X12_218 ?_
        have g49 := ixi_28 w2.1
        refine go_iconst (v := 1) (pc' := 43) dX12_wrongAt_42 rfl (by decide) ?_
        refine gz_isub (pc' := 44) dX12_wrongAt_43 rfl (by omega) (fun v50 h50 e50 => ?_)
        refine pf_13_opened (pc' := 47) dX12_wrongAt_44 rfl fl_X12_218 ?_
        refine go_gen (P := fun s => WM σ s ∧ s.1 28 = v50 ∧ s.2 123 = σ2.2 123) ⟨⟨ixs_28 w2.1 (by omega) (by omega), Ag_setI w2.2 (by decide)⟩, ⟨setI_same _ _ _, rfl⟩⟩ (fun σ51 z51 => ?_)
        obtain ⟨w51, g51⟩ := z51
        have gO := g51
        have gq := congrArg Int32.toInt gO.1
        refine gz_iinc (c := 1) (pc' := 50) dX12_wrongAt_47 rfl rfl (by decide) (by decide) (by decide) (by omega) (fun v52 h52 e52 => ?_)
        have cv := cnat (x := v52) (by omega)
        have uo := ixi_28 w51.1
        have co := cnat (x := σ51.1 28) (by omega)
        refine go_goto (tgt := 7) dX12_wrongAt_50 (by decide) ?_
        exact go_lv (lv' := [(0, .ref (L.2.1 13)), (1, .int v52)]) rfl (ih2 _ (by omega) σ51 v52 w51 (by omega) (by first | exact HK_pl hk_2 p1 (by omega) (by omega) (by rw [tc]; exact cpl) (by omega) | (rw [gO.2, gS.1, show (σ51.1 28).toNatClampNeg = (σ2.1 28).toNatClampNeg + 1 from by omega]; exact hx.2.2 _ _ (by omega) (by omega) (by omega) (by omega)) | exact hx.2.1 _ (by omega) (by omega) (by omega) | (rw [gO.2]; exact HK_cl hk_2 p1 (by omega) (by omega) (by omega))) rfl)
      refine go_iload_n (i := 1) (pc' := 36) dX12_wrongAt_35 rfl rfl rfl ?_
      exact go_iret dX12_wrongAt_36 rfl (⟨w2, by rw [HK_cl0 hk_2 p1 (by omega) (by omega)]; omega⟩)
  exact go_lv (lv' := [(0, .ref (L.2.1 13)), (1, .int (0 : Int32))]) rfl (loop7_2 _ σ1 (0 : Int32) w1 (by omega) (by rw [show (σ1.1 28).toNatClampNeg = 0 from by rw [g0]; rfl]; exact HK_0 (by omega)) rfl)
