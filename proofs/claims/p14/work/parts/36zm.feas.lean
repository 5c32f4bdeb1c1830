/-! ===== days: the least day from z on of a weekday w (none: w < 0) ===== -/
def dwn (w z : Int) : Int := if 0 ≤ w then z + (w - z) % 7 else z
theorem dwn_ge (w z : Int) : z ≤ dwn w z ∧ dwn w z ≤ z + 6 := by
  unfold dwn
  split <;> omega
theorem dwn_w {w z : Int} (h : 0 ≤ w) (h7 : w < 7) : dwn w z % 7 = w := by
  unfold dwn
  rw [if_pos h]
  omega
theorem dwn_le {w z x : Int} (h7 : w < 7) (hz : z ≤ x) (hw : 0 ≤ w → x % 7 = w) : dwn w z ≤ x := by
  unfold dwn
  split
  · rename_i h
    have := hw h
    omega
  · exact hz
theorem dwn_add7 (w z m : Int) : dwn w (z + 7 * m) = dwn w z + 7 * m := by
  unfold dwn
  split
  · rw [show (w - (z + 7 * m)) % 7 = (w - z) % 7 by omega]
    omega
  · rfl
theorem dwn_no {w z : Int} (h : w < 0) : dwn w z = z := by
  unfold dwn
  rw [if_neg (by omega)]
/-! ===== of 49 LETTERS of 12 one comes again: one with a weekday, or one with no weekday between ===== -/
theorem php : ∀ (m : Nat) (f : Nat → Nat), (∀ i : Nat, i ≤ m → f i < m) → ∃ i j : Nat, i < j ∧ j ≤ m ∧ f i = f j
  | 0, f, h => absurd (h 0 (Nat.le_refl 0)) (Nat.not_lt_zero _)
  | m + 1, f, h => by
    by_cases c : ∃ i : Nat, i ≤ m ∧ f i = f (m + 1)
    · obtain ⟨i, hi, e⟩ := c
      exact ⟨i, m + 1, by omega, Nat.le_refl _, e⟩
    · have hn : ∀ i : Nat, i ≤ m → f i ≠ f (m + 1) := fun i hi e => c ⟨i, hi, e⟩
      have hl := h (m + 1) (Nat.le_refl _)
      obtain ⟨i, j, h1, h2, h3⟩ := php m (fun i => if f i = m then f (m + 1) else f i) (fun i hi => by
        have a := h i (by omega)
        have b := hn i hi
        show (if f i = m then f (m + 1) else f i) < m
        split <;> omega)
      have bi := hn i (by omega)
      have bj := hn j h2
      have h3' : (if f i = m then f (m + 1) else f i) = (if f j = m then f (m + 1) else f j) := h3
      refine ⟨i, j, h1, by omega, ?_⟩
      by_cases ci : f i = m
      · by_cases cj : f j = m
        · omega
        · rw [if_pos ci, if_neg cj] at h3'
          exact absurd h3'.symm bj
      · by_cases cj : f j = m
        · rw [if_neg ci, if_pos cj] at h3'
          exact absurd h3' bi
        · rw [if_neg ci, if_neg cj] at h3'
          exact h3'
/-- how many below u have it -/
def rk (w : Nat → Bool) : Nat → Nat
  | 0 => 0
  | u + 1 => rk w u + (if w u = true then 1 else 0)
theorem rk_add (w : Nat → Bool) (u : Nat) : ∀ k : Nat, rk w u ≤ rk w (u + k) ∧ rk w (u + k) ≤ rk w u + k
  | 0 => ⟨Nat.le_refl _, Nat.le_refl _⟩
  | k + 1 => by
    have := rk_add w u k
    have e : rk w (u + (k + 1)) = rk w (u + k) + (if w (u + k) = true then 1 else 0) := rfl
    rw [e]
    split <;> omega
theorem rk_lt {w : Nat → Bool} {u v : Nat} (h : w u = true) (huv : u < v) : rk w u < rk w v := by
  have a := (rk_add w (u + 1) (v - (u + 1))).1
  have e : rk w (u + 1) = rk w u + (if w u = true then 1 else 0) := rfl
  rw [e, if_pos h, show u + 1 + (v - (u + 1)) = v by omega] at a
  omega
theorem rk_ltN {w : Nat → Bool} {u v : Nat} (h : w u = false) (huv : u < v) : u - rk w u < v - rk w v := by
  have a := (rk_add w (u + 1) (v - (u + 1))).2
  have b := (rk_add w 0 u).2
  have e : rk w (u + 1) = rk w u + (if w u = true then 1 else 0) := rfl
  have e0 : rk w 0 = 0 := rfl
  rw [e, if_neg (by rw [h]; decide), show u + 1 + (v - (u + 1)) = v by omega] at a
  rw [e0, show 0 + u = u by omega] at b
  omega
theorem rk_inj {w : Nat → Bool} {u v : Nat} (hu : w u = true) (hv : w v = true) (e : rk w u = rk w v) : u = v := by
  rcases Nat.lt_trichotomy u v with z | z | z
  · have := rk_lt hu z
    omega
  · exact z
  · have := rk_lt hv z
    omega
theorem rk_injN {w : Nat → Bool} {u v : Nat} (hu : w u = false) (hv : w v = false) (e : u - rk w u = v - rk w v) : u = v := by
  rcases Nat.lt_trichotomy u v with z | z | z
  · have := rk_ltN hu z
    omega
  · exact z
  · have := rk_ltN hv z
    omega
/-- the last one with a weekday ahead of i (0: none) -/
def lw (w : Nat → Bool) (v : Nat → Nat) : Nat → Nat
  | 0 => 0
  | i + 1 => if w (v i) = true then rk w (v i) + 1 else lw w v i
theorem lw_spec (w : Nat → Bool) (v : Nat → Nat) : ∀ i : Nat, (lw w v i = 0 ∧ ∀ t : Nat, t < i → w (v t) = false) ∨ (∃ s : Nat, s < i ∧ w (v s) = true ∧ lw w v i = rk w (v s) + 1 ∧ ∀ t : Nat, s < t → t < i → w (v t) = false)
  | 0 => Or.inl ⟨rfl, fun t ht => absurd ht (Nat.not_lt_zero t)⟩
  | i + 1 => by
    have e : lw w v (i + 1) = if w (v i) = true then rk w (v i) + 1 else lw w v i := rfl
    by_cases c : w (v i) = true
    · rw [if_pos c] at e
      exact Or.inr ⟨i, by omega, c, e, fun t h1 h2 => by omega⟩
    · rw [if_neg c] at e
      have cf : w (v i) = false := by
        cases h : w (v i)
        · rfl
        · exact absurd h c
      rcases lw_spec w v i with ⟨h1, h2⟩ | ⟨s, h1, h2, h3, h4⟩
      · refine Or.inl ⟨e.trans h1, fun t ht => ?_⟩
        by_cases z : t = i
        · rw [z]
          exact cf
        · exact h2 t (by omega)
      · refine Or.inr ⟨s, by omega, h2, e.trans h3, fun t h5 h6 => ?_⟩
        by_cases z : t = i
        · rw [z]
          exact cf
        · exact h4 t h5 (by omega)
/-- two of the same code -/
theorem code_one {W a b r s : Nat} (hW : W ≤ 12) (hr : r < 12 - W) (hs : s < 12 - W) (e : W + a * (12 - W) + r = W + b * (12 - W) + s) : a = b ∧ r = s := by
  rcases (show W = 0 ∨ W = 1 ∨ W = 2 ∨ W = 3 ∨ W = 4 ∨ W = 5 ∨ W = 6 ∨ W = 7 ∨ W = 8 ∨ W = 9 ∨ W = 10 ∨ W = 11 ∨ W = 12 by omega) with rfl | rfl | rfl | rfl | rfl | rfl | rfl | rfl | rfl | rfl | rfl | rfl | rfl <;> simp only [Nat.reduceSub] at hr hs e <;> omega
theorem code_lt {W a r : Nat} (hW : W ≤ 12) (ha : a ≤ W) (hr : r < 12 - W) : W + a * (12 - W) + r < 48 := by
  rcases (show W = 0 ∨ W = 1 ∨ W = 2 ∨ W = 3 ∨ W = 4 ∨ W = 5 ∨ W = 6 ∨ W = 7 ∨ W = 8 ∨ W = 9 ∨ W = 10 ∨ W = 11 ∨ W = 12 by omega) with rfl | rfl | rfl | rfl | rfl | rfl | rfl | rfl | rfl | rfl | rfl | rfl | rfl <;> simp only [Nat.reduceSub] at hr ⊢ <;> omega
theorem bool_f {b : Bool} (h : ¬ b = true) : b = false := by
  cases b
  · rfl
  · exact absurd rfl h
theorem rep (w : Nat → Bool) (v : Nat → Nat) (hv : ∀ i : Nat, i ≤ 48 → v i < 12) : ∃ i j : Nat, i < j ∧ j ≤ 48 ∧ v i = v j ∧ (w (v i) = true ∨ ∀ t : Nat, i ≤ t → t ≤ j → w (v t) = false) := by
  have hW : rk w 12 ≤ 12 := by
    have := (rk_add w 0 12).2
    have e0 : rk w 0 = 0 := rfl
    rw [e0] at this
    omega
  have rW : ∀ i : Nat, i ≤ 48 → w (v i) = true → rk w (v i) < rk w 12 := fun i hi h => rk_lt h (hv i hi)
  have rN : ∀ i : Nat, i ≤ 48 → w (v i) = false → v i - rk w (v i) < 12 - rk w 12 := fun i hi h => rk_ltN h (hv i hi)
  have hl : ∀ i : Nat, i ≤ 48 → lw w v i ≤ rk w 12 := fun i hi => by
    rcases lw_spec w v i with ⟨h1, -⟩ | ⟨s, h1, h2, h3, -⟩
    · omega
    · have := rW s (by omega) h2
      omega
  obtain ⟨i, j, h1, h2, h3⟩ := php 48 (fun i => if w (v i) = true then rk w (v i) else rk w 12 + lw w v i * (12 - rk w 12) + (v i - rk w (v i))) (fun i hi => by
    show (if w (v i) = true then rk w (v i) else rk w 12 + lw w v i * (12 - rk w 12) + (v i - rk w (v i))) < 48
    by_cases c : w (v i) = true
    · rw [if_pos c]
      have := rW i hi c
      omega
    · rw [if_neg c]
      exact code_lt hW (hl i hi) (rN i hi (bool_f c)))
  have h3' : (if w (v i) = true then rk w (v i) else rk w 12 + lw w v i * (12 - rk w 12) + (v i - rk w (v i))) = (if w (v j) = true then rk w (v j) else rk w 12 + lw w v j * (12 - rk w 12) + (v j - rk w (v j))) := h3
  by_cases ci : w (v i) = true
  · by_cases cj : w (v j) = true
    · rw [if_pos ci, if_pos cj] at h3'
      exact ⟨i, j, h1, h2, rk_inj ci cj h3', Or.inl ci⟩
    · rw [if_pos ci, if_neg cj] at h3'
      have := rW i (by omega) ci
      omega
  · by_cases cj : w (v j) = true
    · rw [if_neg ci, if_pos cj] at h3'
      have := rW j h2 cj
      omega
    · rw [if_neg ci, if_neg cj] at h3'
      have fi := bool_f ci
      have fj := bool_f cj
      obtain ⟨e1, e2⟩ := code_one hW (rN i (by omega) fi) (rN j h2 fj) h3'
      have en := rk_injN fi fj e2
      rcases lw_spec w v i with ⟨a1, a2⟩ | ⟨s, a1, a2, a3, a4⟩ <;> rcases lw_spec w v j with ⟨b1, b2⟩ | ⟨q, b1, b2, b3, b4⟩
      · refine ⟨i, j, h1, h2, en, Or.inr (fun t t1 t2 => ?_)⟩
        by_cases z : t = j
        · rw [z]
          exact fj
        · exact b2 t (by omega)
      · omega
      · omega
      · by_cases z : q < i
        · refine ⟨i, j, h1, h2, en, Or.inr (fun t t1 t2 => ?_)⟩
          by_cases z2 : t = j
          · rw [z2]
            exact fj
          · exact b4 t (by omega) (by omega)
        · exact ⟨s, q, by omega, by omega, rk_inj a2 b2 (by omega), Or.inl a2⟩
/-! ===== what raises a low, told back to where it began ===== -/
def CHN (wk : Nat → Int) (E : Nat → Nat → Int → Prop) (low : Nat → Int) (n b : Nat) : Prop := ∃ (v : Nat → Nat) (y d : Nat → Int), v n = b ∧ y n = low b ∧ (∀ i : Nat, i ≤ n → v i < 12 ∧ (0 ≤ wk (v i) → y i % 7 = wk (v i)) ∧ y i ≤ low (v i)) ∧ (∀ i : Nat, i < n → E (v i) (v (i + 1)) (d i) ∧ y (i + 1) = dwn (wk (v (i + 1))) (y i + d i)) ∧ ∀ i j : Nat, i < j → j ≤ n → v i = v j → y i < y j
theorem CHN_0 {wk : Nat → Int} {E : Nat → Nat → Int → Prop} {low : Nat → Int} {b : Nat} (hb : b < 12) (hw : 0 ≤ wk b → low b % 7 = wk b) : CHN wk E low 0 b := ⟨fun _ => b, fun _ => low b, fun _ => 0, rfl, rfl, fun i hi => ⟨hb, hw, Int.le_refl _⟩, fun i hi => absurd hi (Nat.not_lt_zero i), fun i j h1 h2 => by omega⟩
theorem CHN_mono {wk : Nat → Int} {E : Nat → Nat → Int → Prop} {low low2 : Nat → Int} {n b : Nat} (h : CHN wk E low n b) (hm : ∀ q : Nat, low q ≤ low2 q) (hb : low2 b = low b) : CHN wk E low2 n b := by
  obtain ⟨v, y, d, h1, h2, h3, h4, h5⟩ := h
  exact ⟨v, y, d, h1, h2.trans hb.symm, fun i hi => ⟨(h3 i hi).1, (h3 i hi).2.1, Int.le_trans (h3 i hi).2.2 (hm _)⟩, h4, h5⟩
theorem CHN_up {wk : Nat → Int} {E : Nat → Nat → Int → Prop} {low low2 : Nat → Int} {n a b : Nat} {s z : Int} (h : CHN wk E low n a) (he : E a b s) (hb : b < 12) (h7 : wk b < 7) (ez : z = dwn (wk b) (low a + s)) (hz : low b < z) (hm : ∀ q : Nat, low q ≤ low2 q) (e2 : low2 b = z) : CHN wk E low2 (n + 1) b := by
  obtain ⟨v, y, d, h1, h2, h3, h4, h5⟩ := h
  have p : ∀ i : Nat, i ≤ n → (if i ≤ n then v i else b) = v i := fun i hi => if_pos hi
  have q : ∀ i : Nat, i ≤ n → (if i ≤ n then y i else z) = y i := fun i hi => if_pos hi
  have p1 : (if n + 1 ≤ n then v (n + 1) else b) = b := if_neg (by omega)
  have q1 : (if n + 1 ≤ n then y (n + 1) else z) = z := if_neg (by omega)
  refine ⟨fun i => if i ≤ n then v i else b, fun i => if i ≤ n then y i else z, fun i => if i < n then d i else s, p1, q1.trans e2.symm, fun i hi => ?_, fun i hi => ?_, fun i j h6 h7' h8 => ?_⟩
  · by_cases c : i ≤ n
    · show (if i ≤ n then v i else b) < 12 ∧ (0 ≤ wk (if i ≤ n then v i else b) → (if i ≤ n then y i else z) % 7 = wk (if i ≤ n then v i else b)) ∧ (if i ≤ n then y i else z) ≤ low2 (if i ≤ n then v i else b)
      rw [p i c, q i c]
      have := h3 i c
      exact ⟨this.1, this.2.1, Int.le_trans this.2.2 (hm _)⟩
    · have ei : i = n + 1 := by omega
      subst ei
      show (if n + 1 ≤ n then v (n + 1) else b) < 12 ∧ (0 ≤ wk (if n + 1 ≤ n then v (n + 1) else b) → (if n + 1 ≤ n then y (n + 1) else z) % 7 = wk (if n + 1 ≤ n then v (n + 1) else b)) ∧ (if n + 1 ≤ n then y (n + 1) else z) ≤ low2 (if n + 1 ≤ n then v (n + 1) else b)
      rw [p1, q1, e2, ez]
      exact ⟨hb, fun hw => dwn_w hw h7, Int.le_refl _⟩
  · show E (if i ≤ n then v i else b) (if i + 1 ≤ n then v (i + 1) else b) (if i < n then d i else s) ∧ (if i + 1 ≤ n then y (i + 1) else z) = dwn (wk (if i + 1 ≤ n then v (i + 1) else b)) ((if i ≤ n then y i else z) + (if i < n then d i else s))
    by_cases c : i < n
    · rw [if_pos (show i ≤ n by omega), if_pos (show i + 1 ≤ n by omega), if_pos c, if_pos (show i + 1 ≤ n by omega), if_pos (show i ≤ n by omega)]
      exact h4 i c
    · have ei : i = n := by omega
      subst ei
      rw [if_pos (Nat.le_refl i), p1, if_neg (Nat.lt_irrefl i), q1, if_pos (Nat.le_refl i), h1, h2]
      exact ⟨he, ez⟩
  · have h8' : (if i ≤ n then v i else b) = (if j ≤ n then v j else b) := h8
    show (if i ≤ n then y i else z) < (if j ≤ n then y j else z)
    by_cases c : j ≤ n
    · rw [p i (by omega), p j c] at h8'
      rw [q i (by omega), q j c]
      exact h5 i j h6 c h8'
    · rw [p i (by omega), if_neg c] at h8'
      rw [q i (by omega), if_neg c]
      have := (h3 i (by omega)).2.2
      rw [h8'] at this
      omega
theorem CHN_no {wk : Nat → Int} {E : Nat → Nat → Int → Prop} {low x : Nat → Int} {n b : Nat} (h : CHN wk E low n b) (hn : 48 ≤ n) (h7 : ∀ u : Nat, u < 12 → wk u < 7) (hx : ∀ a c : Nat, ∀ s : Int, E a c s → x a + s ≤ x c) (hw : ∀ u : Nat, u < 12 → 0 ≤ wk u → x u % 7 = wk u) (hl : ∀ u : Nat, u < 12 → low u ≤ x u) : False := by
  obtain ⟨v, y, d, -, -, h3, h4, h5⟩ := h
  obtain ⟨i, j, r1, r2, r3, r4⟩ := rep (fun u => decide (0 ≤ wk u)) v (fun i hi => (h3 i (by omega)).1)
  have lt := h5 i j r1 (by omega) r3
  have yi := h3 i (by omega)
  rcases r4 with r4 | r4
  · have wi : 0 ≤ wk (v i) := of_decide_eq_true r4
    have a := yi.2.1 wi
    have c := hw (v i) yi.1 wi
    have st : ∀ t : Nat, i + t ≤ n → y (i + t) + 7 * ((x (v i) - y i) / 7) ≤ x (v (i + t)) := fun t => by
      induction t with
      | zero =>
        intro _
        rw [Nat.add_zero]
        omega
      | succ t ih =>
        intro ht
        have q := ih (by omega)
        have e := h4 (i + t) (by omega)
        have g := hx _ _ _ e.1
        have k := h3 (i + t + 1) (by omega)
        rw [show i + (t + 1) = i + t + 1 by omega, e.2, ← dwn_add7]
        exact dwn_le (h7 _ k.1) (by omega) (hw _ k.1)
    have f := st (j - i) (by omega)
    rw [show i + (j - i) = j by omega, ← r3] at f
    omega
  · have st : ∀ t : Nat, i + t ≤ j → y (i + t) + (x (v i) - y i) ≤ x (v (i + t)) := fun t => by
      induction t with
      | zero =>
        intro _
        rw [Nat.add_zero]
        omega
      | succ t ih =>
        intro ht
        have q := ih (by omega)
        have e := h4 (i + t) (by omega)
        have g := hx _ _ _ e.1
        have k := r4 (i + t + 1) (by omega) (by omega)
        have kn : ¬ 0 ≤ wk (v (i + t + 1)) := of_decide_eq_false k
        rw [show i + (t + 1) = i + t + 1 by omega, e.2, dwn_no (by omega)]
        omega
    have f := st (j - i) (by omega)
    rw [show i + (j - i) = j by omega, ← r3] at f
    omega
/-- a low of u has come by r steps at least -/
def CGE (wk : Nat → Int) (E : Nat → Nat → Int → Prop) (low : Nat → Int) (r u : Nat) : Prop := ∃ n : Nat, r ≤ n ∧ CHN wk E low n u
theorem CGE_le {wk : Nat → Int} {E : Nat → Nat → Int → Prop} {low : Nat → Int} {r r2 u : Nat} (h : CGE wk E low r u) (hr : r2 ≤ r) : CGE wk E low r2 u := by
  obtain ⟨n, h1, h2⟩ := h
  exact ⟨n, by omega, h2⟩
/-- in round r, ahead of BOUND k: those of K that do not hold leave from one that has come by so many steps -/
def RND (wk : Nat → Int) (E : Nat → Nat → Int → Prop) (K : Nat) (kp : Nat → Prop) (sr ds : Nat → Nat) (sh : Nat → Int) (r k : Nat) (low : Nat → Int) : Prop := (∀ u : Nat, u < 12 → CGE wk E low 0 u) ∧ ∀ e : Nat, e < K → kp e → low (sr e) + sh e ≤ low (ds e) ∨ CGE wk E low (if e < k then r + 1 else r) (sr e)
theorem RND_0 {wk : Nat → Int} {E : Nat → Nat → Int → Prop} {K : Nat} {kp : Nat → Prop} {sr ds : Nat → Nat} {sh low : Nat → Int} (hs : ∀ e : Nat, e < K → kp e → sr e < 12) (hw : ∀ u : Nat, u < 12 → 0 ≤ wk u → low u % 7 = wk u) : RND wk E K kp sr ds sh 0 0 low := ⟨fun u hu => ⟨0, Nat.le_refl 0, CHN_0 hu (hw u hu)⟩, fun e he hk => Or.inr ⟨0, by rw [if_neg (Nat.not_lt_zero e)]; exact Nat.le_refl 0, CHN_0 (hs e he hk) (hw _ (hs e he hk))⟩⟩
theorem RND_next {wk : Nat → Int} {E : Nat → Nat → Int → Prop} {K : Nat} {kp : Nat → Prop} {sr ds : Nat → Nat} {sh low : Nat → Int} {r : Nat} (h : RND wk E K kp sr ds sh r K low) : RND wk E K kp sr ds sh (r + 1) 0 low := ⟨h.1, fun e he hk => by
  have := h.2 e he hk
  rw [if_pos he] at this
  rw [if_neg (Nat.not_lt_zero e)]
  exact this⟩
/-- a BOUND that is left out, or holds -/
theorem RND_skip {wk : Nat → Int} {E : Nat → Nat → Int → Prop} {K : Nat} {kp : Nat → Prop} {sr ds : Nat → Nat} {sh low : Nat → Int} {r k : Nat} (h : RND wk E K kp sr ds sh r k low) (hs : kp k → low (sr k) + sh k ≤ low (ds k)) : RND wk E K kp sr ds sh r (k + 1) low := ⟨h.1, fun e he hk => by
  by_cases c : e = k
  · subst c
    exact Or.inl (hs hk)
  · have := h.2 e he hk
    by_cases z : e < k
    · rw [if_pos z] at this
      rw [if_pos (show e < k + 1 by omega)]
      exact this
    · rw [if_neg z] at this
      rw [if_neg (show ¬ e < k + 1 by omega)]
      exact this⟩
/-- a BOUND that raises -/
theorem RND_up {wk : Nat → Int} {E : Nat → Nat → Int → Prop} {K : Nat} {kp : Nat → Prop} {sr ds : Nat → Nat} {sh low low2 : Nat → Int} {r k : Nat} (h : RND wk E K kp sr ds sh r k low) (hK : k < K) (hk : kp k) (he : E (sr k) (ds k) (sh k)) (hb : ds k < 12) (h7 : wk (ds k) < 7) (hz : low (ds k) < dwn (wk (ds k)) (low (sr k) + sh k)) (e2 : low2 (ds k) = dwn (wk (ds k)) (low (sr k) + sh k)) (en : ∀ q : Nat, q ≠ ds k → low2 q = low q) : RND wk E K kp sr ds sh r (k + 1) low2 ∧ CGE wk E low2 (r + 1) (ds k) := by
  have hm : ∀ q : Nat, low q ≤ low2 q := fun q => by
    by_cases c : q = ds k
    · rw [c, e2]
      omega
    · rw [en q c]
      exact Int.le_refl _
  have hv : ¬ low (sr k) + sh k ≤ low (ds k) → CGE wk E low r (sr k) := fun c => by
    rcases h.2 k hK hk with q | q
    · exact absurd q c
    · rw [if_neg (Nat.lt_irrefl k)] at q
      exact q
  have mv : ∀ (m u : Nat), CGE wk E low m u → u ≠ ds k → CGE wk E low2 m u := fun m u q hu => by
    obtain ⟨n, q1, q2⟩ := q
    exact ⟨n, q1, CHN_mono q2 hm (en u hu)⟩
  -- the one that is raised
  have hd : (low (sr k) + sh k ≤ low (ds k) → False) → CGE wk E low2 (r + 1) (ds k) := fun c => by
    obtain ⟨n, q1, q2⟩ := hv c
    exact ⟨n + 1, by omega, CHN_up q2 he hb h7 rfl hz hm e2⟩
  have ns : low (sr k) + sh k ≤ low (ds k) → CGE wk E low2 0 (ds k) := fun _ => by
    obtain ⟨n, q1, q2⟩ := h.1 (ds k) hb
    exact ⟨0, Nat.le_refl 0, CHN_0 hb (fun hw => by rw [e2]; exact dwn_w hw h7)⟩
  have key : ¬ low (sr k) + sh k ≤ low (ds k) ∨ low (sr k) + sh k ≤ low (ds k) := (Classical.em _).symm
  rcases key with c | c
  · have top := hd c
    refine ⟨⟨fun u hu => ?_, fun e he2 hk2 => ?_⟩, top⟩
    · by_cases z : u = ds k
      · rw [z]
        exact CGE_le top (Nat.zero_le _)
      · exact mv 0 u (h.1 u hu) z
    · by_cases z : sr e = ds k
      · refine Or.inr ?_
        rw [z]
        refine CGE_le top ?_
        split <;> omega
      · by_cases w : e = k
        · subst w
          refine Or.inl ?_
          rw [en _ z, e2]
          exact (dwn_ge _ _).1
        · rcases h.2 e he2 hk2 with q | q
          · refine Or.inl ?_
            rw [en _ z]
            exact Int.le_trans q (hm _)
          · refine Or.inr (mv _ _ ?_ z)
            by_cases y : e < k
            · rw [if_pos y] at q
              rw [if_pos (show e < k + 1 by omega)]
              exact q
            · rw [if_neg y] at q
              rw [if_neg (show ¬ e < k + 1 by omega)]
              exact q
  · -- it holds already: the weekday alone cannot raise it
    exfalso
    have := h.1 (ds k) hb
    obtain ⟨n, -, v, y, d, g1, g2, g3, -⟩ := this
    have g := (g3 n (Nat.le_refl n)).2.1
    rw [g1, g2] at g
    have := dwn_le (w := wk (ds k)) h7 c g
    omega
