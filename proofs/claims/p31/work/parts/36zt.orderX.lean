/-! ===== sets of LETTERS as bits ===== -/
theorem bx_all : ∀ h : Fin 64, ∀ q : Fin 64, ∀ k : Fin 12, ((Int32.ofNat (64 * h.val + q.val) >>> (Int32.ofNat k.val &&& 31)) &&& 1) = (if (64 * h.val + q.val).testBit k.val = true then 1 else 0) := by decide +kernel
theorem bc_all : ∀ h : Fin 64, ∀ q : Fin 64, (bcf (Int32.ofNat (64 * h.val + q.val))).toInt = (cntb (64 * h.val + q.val) 12 : Int) := by decide +kernel
theorem bitx {x k : Int32} (hx : 0 ≤ x.toInt ∧ x.toInt < 4096) (hk : 0 ≤ k.toInt ∧ k.toInt < 12) : ((x >>> (k &&& 31)) &&& 1).toInt = if x.toNatClampNeg.testBit k.toNatClampNeg = true then 1 else 0 := by
  have cx := cnat hx.1
  have ck := cnat hk.1
  have h := bx_all ⟨x.toNatClampNeg / 64, by omega⟩ ⟨x.toNatClampNeg % 64, by omega⟩ ⟨k.toNatClampNeg, by omega⟩
  have e : 64 * (x.toNatClampNeg / 64) + x.toNatClampNeg % 64 = x.toNatClampNeg := by omega
  simp only [e] at h
  rw [of_nat hx.1, of_nat hk.1] at h
  rw [h]
  show (if x.toNatClampNeg.testBit k.toNatClampNeg = true then (1 : Int32) else 0).toInt = _
  split <;> decide
theorem bcx {x : Int32} (hx : 0 ≤ x.toInt ∧ x.toInt < 4096) : (bcf x).toInt = (cntb x.toNatClampNeg 12 : Int) := by
  have cx := cnat hx.1
  have h := bc_all ⟨x.toNatClampNeg / 64, by omega⟩ ⟨x.toNatClampNeg % 64, by omega⟩
  have e : 64 * (x.toNatClampNeg / 64) + x.toNatClampNeg % 64 = x.toNatClampNeg := by omega
  simp only [e] at h
  rw [of_nat hx.1] at h
  exact h
theorem u32_z (x : Int32) (c : UInt32) (k : Nat) (hc : c.toNat % 32 = k) (hk : k ≤ 12) : (x.toUInt32 >>> c).toInt32.toInt = 0 ↔ 0 ≤ x.toInt ∧ x.toInt < (2 : Int) ^ k := by
  have h1 : (x.toUInt32 >>> c).toNat = x.toUInt32.toNat / 2 ^ k := by
    rw [UInt32.toNat_shiftRight, hc, Nat.shiftRight_eq_div_pow]
  have h2 : x.toInt = if 2 * x.toUInt32.toNat < 2 ^ 32 then (x.toUInt32.toNat : Int) else (x.toUInt32.toNat : Int) - 2 ^ 32 := BitVec.toInt_eq_toNat_cond x.toBitVec
  have h3 : x.toUInt32.toNat < 2 ^ 32 := x.toBitVec.isLt
  have h4 : (x.toUInt32 >>> c).toInt32.toInt = 0 ↔ (x.toUInt32 >>> c).toNat = 0 := by
    constructor
    · intro z
      have z2 : (x.toUInt32 >>> c).toInt32 = 0 := Int32.toInt_inj.mp z
      have z3 := congrArg Int32.toUInt32 z2
      have z4 : (x.toUInt32 >>> c) = 0 := z3
      rw [z4]
      rfl
    · intro z
      have z2 : (x.toUInt32 >>> c) = 0 := UInt32.toNat_inj.mp z
      rw [z2]
      rfl
  have p1 : 2 ^ k ≤ 2 ^ 12 := Nat.pow_le_pow_right (by decide) hk
  have p2 : 0 < 2 ^ k := Nat.two_pow_pos k
  have p3 : ((2 : Int) ^ k) = ((2 ^ k : Nat) : Int) := by simp
  rw [h4, h1, p3, Nat.div_eq_zero_iff_lt p2]
  have p4 : (2 : Nat) ^ 12 = 4096 := rfl
  split at h2 <;> omega
theorem os_n {x n : Int32} (hn : 0 ≤ n.toInt ∧ n.toInt ≤ 12) : (x.toUInt32 >>> (n.toUInt32 &&& Int32.toUInt32 31)).toInt32.toInt = 0 ↔ 0 ≤ x.toInt ∧ x.toInt < (2 : Int) ^ n.toNatClampNeg := by
  have cn := cnat hn.1
  have e : ∀ k : Fin 13, ((Int32.ofNat k.val).toUInt32 &&& Int32.toUInt32 31).toNat % 32 = k.val := by decide
  have q := e ⟨n.toNatClampNeg, by omega⟩
  rw [of_nat hn.1] at q
  exact u32_z x _ _ q (by omega)
theorem pow12 {k : Nat} (hk : k ≤ 12) : (2 : Int) ^ k ≤ 4096 := by
  have p1 : 2 ^ k ≤ 2 ^ 12 := Nat.pow_le_pow_right (by decide) hk
  have p3 : ((2 : Int) ^ k) = ((2 ^ k : Nat) : Int) := by simp
  have p4 : (2 : Nat) ^ 12 = 4096 := rfl
  omega
theorem cntb_le (p : Nat) {a : Nat} : ∀ b : Nat, a ≤ b → cntb p a ≤ cntb p b
  | 0, h => by
    rw [show a = 0 by omega]
    exact Nat.le_refl _
  | b + 1, h => by
    by_cases c : a = b + 1
    · rw [c]
      exact Nat.le_refl _
    · exact Nat.le_trans (cntb_le p b (by omega)) (Nat.le_add_right _ _)
theorem cntb_t {p i : Nat} (h : p.testBit i = true) : cntb p (i + 1) = cntb p i + 1 := by
  show cntb p i + (if p.testBit i = true then 1 else 0) = _
  rw [if_pos h]
theorem cntb_f {p i : Nat} (h : p.testBit i = false) : cntb p (i + 1) = cntb p i := by
  show cntb p i + (if p.testBit i = true then 1 else 0) = _
  rw [h]
  rfl
/-- the first m places of f: the bits of x below i, the lesser first -/
def LSI (x i m : Nat) (f : Nat → Nat) : Prop := m = cntb x i ∧ (∀ p : Nat, p < m → f p < i ∧ x.testBit (f p) = true) ∧ (∀ p q : Nat, p < q → q < m → f p < f q) ∧ ∀ j : Nat, j < i → x.testBit j = true → ∃ p : Nat, p < m ∧ f p = j
theorem LSI_0 (x : Nat) (f : Nat → Nat) : LSI x 0 0 f := ⟨rfl, fun p hp => absurd hp (Nat.not_lt_zero _), fun p q _ hq => absurd hq (Nat.not_lt_zero _), fun j hj => absurd hj (Nat.not_lt_zero _)⟩
theorem LSI_no {x i i2 m : Nat} {f : Nat → Nat} (h : LSI x i m f) (hb : x.testBit i = false) (e : i2 = i + 1) : LSI x i2 m f := by
  subst e
  refine ⟨h.1.trans (cntb_f hb).symm, fun p hp => ⟨by have := (h.2.1 p hp).1; omega, (h.2.1 p hp).2⟩, h.2.2.1, fun j hj hx => h.2.2.2 j ?_ hx⟩
  by_cases c : j = i
  · rw [c, hb] at hx
    exact absurd hx (by decide)
  · omega
theorem LSI_put {x i i2 m m2 : Nat} {f f2 : Nat → Nat} (h : LSI x i m f) (hb : x.testBit i = true) (e : i2 = i + 1) (e2 : m2 = m + 1) (h1 : f2 m = i) (h2 : ∀ p : Nat, p ≠ m → f2 p = f p) : LSI x i2 m2 f2 := by
  subst e
  subst e2
  refine ⟨by rw [cntb_t hb, ← h.1], fun p hp => ?_, fun p q hp hq => ?_, fun j hj hx => ?_⟩
  · by_cases c : p = m
    · rw [c, h1]
      exact ⟨by omega, hb⟩
    · rw [h2 p c]
      have := h.2.1 p (by omega)
      exact ⟨by omega, this.2⟩
  · rw [h2 p (by omega)]
    by_cases c : q = m
    · rw [c, h1]
      exact (h.2.1 p (by omega)).1
    · rw [h2 q c]
      exact h.2.2.1 p q hp (by omega)
  · by_cases c : j = i
    · exact ⟨m, by omega, by rw [h1, c]⟩
    · obtain ⟨p, hp, ep⟩ := h.2.2.2 j (by omega) hx
      exact ⟨p, by omega, by rw [h2 p (by omega)]; exact ep⟩
/-- the set x -/
def SB (x : Nat) (j : Nat) : Prop := x.testBit j = true
theorem SB_lt {x n j : Nat} (hx : x < 2 ^ n) (h : SB x j) : j < n := by
  by_cases c : j < n
  · exact c
  · exfalso
    have q : x < 2 ^ j := Nat.lt_of_lt_of_le hx (Nat.pow_le_pow_right (by decide) (by omega))
    unfold SB at h
    rw [Nat.testBit_lt_two_pow q] at h
    exact absurd h (by decide)
theorem LSI_LSF {x n m : Nat} {f : Nat → Nat} (h : LSI x n m f) (hx : x < 2 ^ n) : LSF (SB x) m f := ⟨⟨fun p hp => (h.2.1 p hp).2, fun j hj => h.2.2.2 j (SB_lt hx hj) hj⟩, h.2.2.1⟩
/-! ===== sorting in place ===== -/
def LTX (L : Nat → Int) (w : Int) (x y : Nat) : Prop := LTW w (L x) (L y) ∨ (L x = L y ∧ x < y)
theorem LTX_t {L : Nat → Int} {w : Int} {x y z : Nat} (h : LTX L w x y) (g : LTX L w y z) : LTX L w x z := by
  unfold LTX LTW at *
  omega
def TIE (L : Nat → Int) (ρ : Nat → Nat) (m : Nat) : Prop := ∀ p q : Nat, p < q → q < m → L (ρ p) = L (ρ q) → ρ p < ρ q
def PRM (ρ ρ2 : Nat → Nat) (m : Nat) : Prop := ∀ j : Nat, (∃ p : Nat, p < m ∧ ρ2 p = j) ↔ ∃ p : Nat, p < m ∧ ρ p = j
theorem PRM_r (ρ : Nat → Nat) (m : Nat) : PRM ρ ρ m := fun _ => Iff.rfl
theorem PRM_t {ρ ρ2 ρ3 : Nat → Nat} {m : Nat} (h : PRM ρ ρ2 m) (g : PRM ρ2 ρ3 m) : PRM ρ ρ3 m := fun j => (g j).trans (h j)
theorem HASR_p {S : Nat → Prop} {m : Nat} {ρ ρ2 : Nat → Nat} (h : HASR S m ρ) (g : PRM ρ ρ2 m) : HASR S m ρ2 := ⟨fun p hp => by
  obtain ⟨q, hq, eq⟩ := (g (ρ2 p)).mp ⟨p, hp, rfl⟩
  rw [← eq]
  exact h.1 q hq, fun j hj => (g j).mpr (h.2 j hj)⟩
/-- DAYS of a row -/
def RNG (L : Nat → Int) (ρ : Nat → Nat) (m : Nat) : Prop := ∀ p : Nat, p < m → 0 ≤ L (ρ p) ∧ L (ρ p) ≤ 9999
theorem RNG_p {L : Nat → Int} {ρ ρ2 : Nat → Nat} {m : Nat} (g : PRM ρ ρ2 m) (h : RNG L ρ m) : RNG L ρ2 m := fun p hp => by
  obtain ⟨q, hq, eq⟩ := (g (ρ2 p)).mp ⟨p, hp, rfl⟩
  rw [← eq]
  exact h q hq
def sw (ρ : Nat → Nat) (j p : Nat) : Nat := if p = j - 1 then ρ j else if p = j then ρ (j - 1) else ρ p
theorem sw_a (ρ : Nat → Nat) (j : Nat) : sw ρ j (j - 1) = ρ j := if_pos rfl
theorem sw_b (ρ : Nat → Nat) {j : Nat} (h : 1 ≤ j) : sw ρ j j = ρ (j - 1) := by
  unfold sw
  rw [if_neg (by omega), if_pos rfl]
theorem sw_n (ρ : Nat → Nat) {j p : Nat} (h : p ≠ j - 1) (h2 : p ≠ j) : sw ρ j p = ρ p := by
  unfold sw
  rw [if_neg h, if_neg h2]
theorem sw_prm (ρ : Nat → Nat) {j m : Nat} (h : 1 ≤ j) (hj : j < m) : PRM ρ (sw ρ j) m := fun x => by
  constructor
  · rintro ⟨p, hp, e⟩
    by_cases c : p = j - 1
    · exact ⟨j, hj, by rw [← e, c, sw_a]⟩
    · by_cases d : p = j
      · exact ⟨j - 1, by omega, by rw [← e, d, sw_b ρ h]⟩
      · exact ⟨p, hp, by rw [← e, sw_n ρ c d]⟩
  · rintro ⟨p, hp, e⟩
    by_cases c : p = j - 1
    · exact ⟨j, hj, by rw [sw_b ρ h, ← c]; exact e⟩
    · by_cases d : p = j
      · exact ⟨j - 1, by omega, by rw [sw_a, ← d]; exact e⟩
      · exact ⟨p, hp, by rw [sw_n ρ c d]; exact e⟩
/-- the first i stand sorted -/
def SRI (L : Nat → Int) (w : Int) (ρ : Nat → Nat) (i : Nat) : Prop := ∀ p q : Nat, p < q → q < i → LTX L w (ρ p) (ρ q)
def INS (L : Nat → Int) (w : Int) (ρ : Nat → Nat) (m i j : Nat) : Prop := TIE L ρ m ∧ (∀ p q : Nat, p < q → q ≤ i → p ≠ j → q ≠ j → LTX L w (ρ p) (ρ q)) ∧ ∀ q : Nat, j < q → q ≤ i → LTX L w (ρ j) (ρ q)
theorem INS_0 {L : Nat → Int} {w : Int} {ρ : Nat → Nat} {m i : Nat} (h : SRI L w ρ i) (t : TIE L ρ m) : INS L w ρ m i i := ⟨t, fun p q hp hq h1 h2 => h p q hp (by omega), fun q h1 h2 => by exfalso; omega⟩
theorem INS_sw {L : Nat → Int} {w : Int} {ρ : Nat → Nat} {m i j j2 : Nat} (h : INS L w ρ m i j) (hj : 1 ≤ j) (hi : j ≤ i) (hm : i < m) (hw : LTW w (L (ρ j)) (L (ρ (j - 1)))) (e : j2 = j - 1) : INS L w (sw ρ j) m i j2 := by
  subst e
  obtain ⟨t, h1, h2⟩ := h
  refine ⟨fun p q hp hq el => ?_, fun p q hp hq n1 n2 => ?_, fun q h3 h4 => ?_⟩
  · by_cases a : p = j - 1
    · by_cases b : q = j
      · rw [a, b, sw_a, sw_b ρ hj] at el
        unfold LTW at hw
        omega
      · rw [a, sw_a, sw_n ρ (by omega) b] at el ⊢
        exact t j q (by omega) hq el
    · by_cases b : p = j
      · rw [b, sw_b ρ hj, sw_n ρ (by omega) (by omega)] at el ⊢
        exact t (j - 1) q (by omega) hq el
      · rw [sw_n ρ a b] at el ⊢
        by_cases c : q = j - 1
        · rw [c, sw_a] at el ⊢
          exact t p j (by omega) (by omega) el
        · by_cases d : q = j
          · rw [d, sw_b ρ hj] at el ⊢
            exact t p (j - 1) (by omega) (by omega) el
          · rw [sw_n ρ c d] at el ⊢
            exact t p q hp hq el
  · by_cases b : p = j
    · rw [b, sw_b ρ hj, sw_n ρ (by omega) (by omega)]
      exact h1 (j - 1) q (by omega) hq (by omega) (by omega)
    · rw [sw_n ρ n1 b]
      by_cases d : q = j
      · rw [d, sw_b ρ hj]
        exact h1 p (j - 1) (by omega) (by omega) (by omega) (by omega)
      · rw [sw_n ρ n2 d]
        exact h1 p q hp hq b d
  · rw [sw_a]
    by_cases d : q = j
    · rw [d, sw_b ρ hj]
      exact Or.inl hw
    · rw [sw_n ρ (by omega) d]
      exact h2 q (by omega) h4
theorem INS_end {L : Nat → Int} {w : Int} {ρ : Nat → Nat} {m i i2 j : Nat} (h : INS L w ρ m i j) (hi : j ≤ i) (hm : i < m) (hw : w = 1 ∨ w = -1) (c : j = 0 ∨ ¬ LTW w (L (ρ j)) (L (ρ (j - 1)))) (e : i2 = i + 1) : SRI L w ρ i2 := by
  subst e
  obtain ⟨t, h1, h2⟩ := h
  intro p q hp hq
  by_cases b : p = j
  · rw [b] at hp ⊢
    exact h2 q hp (by omega)
  · by_cases d : q = j
    · rcases c with c | c
      · exfalso
        omega
      · have last : LTX L w (ρ (j - 1)) (ρ j) := by
          have t2 := t (j - 1) j (by omega) (by omega)
          unfold LTX LTW
          unfold LTW at c
          by_cases el : L (ρ (j - 1)) = L (ρ j)
          · exact Or.inr ⟨el, t2 el⟩
          · omega
        rw [d]
        by_cases x : p = j - 1
        · rw [x]
          exact last
        · exact LTX_t (h1 p (j - 1) (by omega) (by omega) b (by omega)) last
    · exact h1 p q hp (by omega) b d
theorem SRI_SRT {L : Nat → Int} {w : Int} {ρ : Nat → Nat} {i m : Nat} (h : SRI L w ρ i) (e : m ≤ i) : SRT L w ρ m := fun p q hp hq => h p q hp (by omega)
theorem SRT_TIE {L : Nat → Int} {w : Int} {ρ : Nat → Nat} {m : Nat} (h : SRT L w ρ m) : TIE L ρ m := fun p q hp hq el => by
  have z := h p q hp hq
  unfold LTW at z
  omega
theorem upd2_sw {f g : Nat → Int32} {j : Nat} (h : 1 ≤ j) (e : g = upd (upd f j (f (j - 1))) (j - 1) (f j)) : (fun p => (g p).toNatClampNeg) = sw (fun p => (f p).toNatClampNeg) j := by
  funext p
  rw [e]
  by_cases a : p = j - 1
  · rw [a, upd_eq, sw_a]
  · rw [upd_ne a]
    by_cases b : p = j
    · rw [b, upd_eq, sw_b _ h]
    · rw [upd_ne b, sw_n _ a b]
/-! ===== which row the class ends with ===== -/
theorem SRT_hd {S : Nat → Prop} {L : Nat → Int} {w : Int} {ρ : Nat → Nat} {m : Nat} (h : SRT L w ρ m) (hr : HASR S m ρ) {j : Nat} (hj : S j) : ρ 0 = j ∨ LTX L w (ρ 0) j := by
  obtain ⟨p, hp, e⟩ := hr.2 j hj
  by_cases c : p = 0
  · left
    rw [← c]
    exact e
  · right
    rw [← e]
    exact h 0 p (by omega) hp
theorem SRT_tl {S : Nat → Prop} {L : Nat → Int} {ρ : Nat → Nat} {m : Nat} (h : SRT L 1 ρ m) (hr : HASR S m ρ) {j : Nat} (hj : S j) : L j ≤ L (ρ (m - 1)) := by
  obtain ⟨p, hp, e⟩ := hr.2 j hj
  by_cases c : p = m - 1
  · rw [← e, c]
    exact Int.le_refl _
  · rw [← e]
    have z := h p (m - 1) (by omega) (by omega)
    unfold LTW at z
    omega
theorem SRT_up0 {S : Nat → Prop} {L : Nat → Int} {ρ : Nat → Nat} {m : Nat} (h : SRT L 1 ρ m) (hr : HASR S m ρ) {j : Nat} (hj : S j) : L (ρ 0) ≤ L j ∧ (L j ≤ L (ρ 0) → ρ 0 ≤ j) := by
  rcases SRT_hd h hr hj with e | e
  · rw [e]
    exact ⟨Int.le_refl _, fun _ => Nat.le_refl _⟩
  · unfold LTX LTW at e
    refine ⟨by omega, fun z => by omega⟩
theorem SRT_dn0 {S : Nat → Prop} {L : Nat → Int} {ρ : Nat → Nat} {m : Nat} (h : SRT L (-1) ρ m) (hr : HASR S m ρ) {j : Nat} (hj : S j) : L j ≤ L (ρ 0) ∧ (L (ρ 0) ≤ L j → ρ 0 ≤ j) := by
  rcases SRT_hd h hr hj with e | e
  · rw [e]
    exact ⟨Int.le_refl _, fun _ => Nat.le_refl _⟩
  · unfold LTX LTW at e
    refine ⟨by omega, fun z => by omega⟩
theorem ORW_b {S : Nat → Prop} {L : Nat → Int} {B : Nat → Nat → Prop} {m : Nat} {ρ ρ2 : Nat → Nat} (h1 : SRT L 1 ρ m) (r1 : HASR S m ρ) (h2 : SRT L (-1) ρ2 m) (r2 : HASR S m ρ2) (hf : FREE S B) (h0 : 0 < m) (hc : ρ2 0 ≤ ρ 0) : ORW S L B m ρ2 := ⟨r2, Or.inr ⟨h2, hf, fun j hj hmin => by
  have a := SRT_up0 h1 r1 hj
  have b := hmin (ρ 0) (r1.1 0 h0)
  have := a.2 b
  omega⟩⟩
theorem ORW_c {S : Nat → Prop} {L : Nat → Int} {B : Nat → Nat → Prop} {m : Nat} {ρ ρ2 ρ3 : Nat → Nat} (h1 : SRT L 1 ρ m) (r1 : HASR S m ρ) (h2 : SRT L (-1) ρ2 m) (r2 : HASR S m ρ2) (h3 : SRT L 1 ρ3 m) (r3 : HASR S m ρ3) (h0 : 0 < m) (hc : ρ 0 < ρ2 0) : ORW S L B m ρ3 := ⟨r3, Or.inl ⟨h3, Or.inr fun j hj hmax => by
  have a := SRT_dn0 h2 r2 hj
  have b := a.2 (hmax (ρ2 0) (r2.1 0 h0))
  have c := SRT_up0 h3 r3 (r1.1 0 h0)
  have d := SRT_up0 h1 r1 (r3.1 0 h0)
  have e := c.2 d.1
  omega⟩⟩
theorem FREE_row {S : Nat → Prop} {L : Nat → Int} {w : Int} {A : Nat → Nat → Prop} {m : Nat} {ρ : Nat → Nat} (h : SRT L w ρ m) (hr : HASR S m ρ) : (∀ i j : Nat, i < m → j < m → i ≠ j → ¬ A (ρ i) (ρ j)) ↔ FREE S A := by
  constructor
  · intro z x y sx sy ne
    obtain ⟨i, hi, ei⟩ := hr.2 x sx
    obtain ⟨j, hj, ej⟩ := hr.2 y sy
    rw [← ei, ← ej]
    exact z i j hi hj (fun e => ne (by rw [← ei, ← ej, e]))
  · intro z i j hi hj ne
    refine z _ _ (hr.1 i hi) (hr.1 j hj) (fun e => ?_)
    by_cases c : i < j
    · exact SRT_ne h c hj e
    · exact SRT_ne h (show j < i by omega) hi e.symm
theorem ORW_cg {S : Nat → Prop} {L L2 : Nat → Int} {B B2 : Nat → Nat → Prop} {m : Nat} {ρ : Nat → Nat} (e : ∀ j : Nat, S j → L j = L2 j) (f : ∀ i j : Nat, S i → S j → (B i j ↔ B2 i j)) (h : ORW S L B m ρ) : ORW S L2 B2 m ρ := by
  obtain ⟨hr, h⟩ := h
  have sr : ∀ w : Int, SRT L w ρ m → SRT L2 w ρ m := fun w s p q hp hq => by
    have z := s p q hp hq
    rw [e _ (hr.1 p (by omega)), e _ (hr.1 q hq)] at z
    exact z
  have fr : FREE S B ↔ FREE S B2 := ⟨fun z i j si sj ne y => z i j si sj ne ((f i j si sj).mpr y), fun z i j si sj ne y => z i j si sj ne ((f i j si sj).mp y)⟩
  refine ⟨hr, ?_⟩
  rcases h with ⟨s, c⟩ | ⟨s, c, d⟩
  · refine Or.inl ⟨sr 1 s, ?_⟩
    rcases c with c | c
    · exact Or.inl (fun z => c (fr.mpr z))
    · exact Or.inr (fun j hj hm => c j hj (fun i hi => by rw [e i hi, e j hj]; exact hm i hi))
  · exact Or.inr ⟨sr (-1) s, fr.mp c, fun j hj hm => d j hj (fun i hi => by rw [e i hi, e j hj]; exact hm i hi)⟩
/-- what the row comes to: no LETTERS, or the wanted row and its jumps -/
def JPA (S : Nat → Prop) (L : Nat → Int) (r : Int) : Prop := ((∀ j : Nat, ¬ S j) ∧ r = 0) ∨ ∃ i j : Nat, S i ∧ S j ∧ (∀ k : Nat, S k → L i ≤ L k ∧ L k ≤ L j) ∧ r = L j - L i
theorem JPA_one {S : Nat → Prop} {L : Nat → Int} {r r2 : Int} (h : JPA S L r) (g : JPA S L r2) : r = r2 := by
  rcases h with ⟨a, b⟩ | ⟨i, j, si, sj, a, b⟩ <;> rcases g with ⟨c, d⟩ | ⟨x, y, sx, sy, c, d⟩
  · omega
  · exact absurd sx (a x)
  · exact absurd si (c i)
  · have := a x sx
    have := a y sy
    have := c i si
    have := c j sj
    omega
theorem JPA_cg {S : Nat → Prop} {L L2 : Nat → Int} {r : Int} (e : ∀ j : Nat, S j → L j = L2 j) (h : JPA S L r) : JPA S L2 r := by
  rcases h with ⟨a, b⟩ | ⟨i, j, si, sj, a, b⟩
  · exact Or.inl ⟨a, b⟩
  · exact Or.inr ⟨i, j, si, sj, fun k sk => by rw [← e i si, ← e j sj, ← e k sk]; exact a k sk, by rw [← e i si, ← e j sj]; exact b⟩
def ARR (S : Nat → Prop) (L : Nat → Int) (A : Nat → Nat → Prop) (m : Nat) (j : Int) (ρ : Nat → Nat) : Prop := JPA S L j ∧ (m = 0 ∨ ORW S L A m ρ)
theorem ARR_0 {S : Nat → Prop} {L : Nat → Int} {A : Nat → Nat → Prop} {m : Nat} {j : Int} {ρ : Nat → Nat} (h : HASR S m ρ) (hm : m = 0) (hj : j = 0) : ARR S L A m j ρ := ⟨Or.inl ⟨fun x hx => by
  obtain ⟨p, hp, -⟩ := h.2 x hx
  omega, hj⟩, Or.inl hm⟩
theorem JPA_up {S : Nat → Prop} {L : Nat → Int} {m : Nat} {ρ : Nat → Nat} {j : Int} (h : SRT L 1 ρ m) (hr : HASR S m ρ) (h0 : 0 < m) (e : j = L (ρ (m - 1)) - L (ρ 0)) : JPA S L j := Or.inr ⟨ρ 0, ρ (m - 1), hr.1 0 h0, hr.1 (m - 1) (by omega), fun k hk => ⟨(SRT_up0 h hr hk).1, SRT_tl h hr hk⟩, e⟩
theorem ARR_cg {S : Nat → Prop} {L L2 : Nat → Int} {A A2 : Nat → Nat → Prop} {m : Nat} {j : Int} {ρ : Nat → Nat} (e : ∀ j : Nat, S j → L j = L2 j) (f : ∀ i j : Nat, S i → S j → (A i j ↔ A2 i j)) (h : ARR S L A m j ρ) : ARR S L2 A2 m j ρ := ⟨JPA_cg e h.1, h.2.imp id (ORW_cg e f)⟩
/-- the class's row, and its BEFORE -/
def rwX (s : ST) : Nat → Nat := fun p => (s.2 54 p).toNatClampNeg
def AH (s : ST) (a b : Nat) : Prop := (s.2 34 a).toInt < (s.2 33 b).toInt ∨ 0 < dX s (s.2 38 a).toNatClampNeg (s.2 38 b).toNatClampNeg
abbrev WXuI (i : Nat) : Prop := i = 17 ∨ i = 18
abbrev WXuA (k : Nat) : Prop := k = 54
/-- BEFORE of two LETTERS -/
def BFx (E : Nat → Nat → Int → Prop) (rt : Nat → Nat) (L H : Nat → Int) (i j : Nat) : Prop := H i < L j ∨ LDS E (rt i) (rt j)
/-- a set that may be ordered -/
def OKS (x n : Int32) : Prop := (0 ≤ x.toInt ∧ x.toInt < (2 : Int) ^ n.toNatClampNeg) ∧ cntb x.toNatClampNeg 12 ≤ 8
theorem OKS_x {x n : Int32} (hn : 0 ≤ n.toInt ∧ n.toInt ≤ 12) (h : OKS x n) : 0 ≤ x.toInt ∧ x.toInt < 4096 := by
  have cn := cnat hn.1
  have p := pow12 (k := n.toNatClampNeg) (by omega)
  have q := h.1
  omega
theorem OKS_of {x n : Int32} (hn : 0 ≤ n.toInt ∧ n.toInt ≤ 12) : ((x.toUInt32 >>> (n.toUInt32 &&& Int32.toUInt32 31)).toInt32.toInt = 0 ∧ (bcf x).toInt ≤ 8) ↔ OKS x n := by
  have cn := cnat hn.1
  have p := pow12 (k := n.toNatClampNeg) (by omega)
  unfold OKS
  rw [os_n hn]
  constructor
  · intro h
    have b := bcx (x := x) ⟨h.1.1, by omega⟩
    exact ⟨h.1, by omega⟩
  · intro h
    have b := bcx (x := x) ⟨h.1.1, by omega⟩
    exact ⟨h.1, by omega⟩
theorem OKS_lt {x n : Int32} (h : OKS x n) (hn : 0 ≤ n.toInt) {j : Nat} (hj : SB x.toNatClampNeg j) : (j : Int) < n.toInt := by
  have cn := cnat hn
  have cx := cnat h.1.1
  have p3 : ((2 : Int) ^ n.toNatClampNeg) = ((2 ^ n.toNatClampNeg : Nat) : Int) := by simp
  have q := h.1.2
  rw [p3] at q
  have z := SB_lt (n := n.toNatClampNeg) (by omega) hj
  omega
def JMR (F : (Nat → Int) → Prop) (n : Int) (S : Nat → Prop) (r : Int32) : Prop := ((∀ x : Nat → Int, ¬ F x) ∧ r = -1) ∨ ∃ L H : Nat → Int, LG F n L H ∧ JPA S L r.toInt
def ODR (F : (Nat → Int) → Prop) (n : Int) (S : Nat → Prop) (E : Nat → Nat → Int → Prop) (rt : Nat → Nat) (m b : Nat) (r : Int32) : Prop := ((∀ x : Nat → Int, ¬ F x) ∧ r = -1) ∨ ∃ (L H : Nat → Int) (ρ : Nat → Nat), LG F n L H ∧ ORW S L (BFx E rt L H) m ρ ∧ r.toInt = (ρ b : Int)
def WXu (σ σ2 : ST) : Prop := IV σ2 ∧ Ag WXuI WXuA σ σ2
theorem WXu_rfl {σ : ST} (h : IV σ) : WXu σ σ := ⟨h, Ag_rfl σ⟩
theorem WXu_trans {σ σ2 σ3 : ST} (h : WXu σ σ2) (h2 : WXu σ2 σ3) : WXu σ σ3 := ⟨h2.1, Ag_trans h.2 h2.2⟩
theorem WXu_WX {σ σ2 : ST} (h : WXu σ σ2) : WX σ σ2 := ⟨h.1, ⟨fun i hi => h.2.1 i (fun q => hi (by unfold sxI; unfold WXuI at q; omega)), fun k hk => h.2.2 k (fun q => hk (by unfold sxA; unfold WXuA at q; omega))⟩⟩
/-- what arrange leaves (a name of its own: omega must not look into it) -/
def AXP (F : (Nat → Int) → Prop) (n : Int) (S : Nat → Prop) (E : Nat → Nat → Int → Prop) (rt : Nat → Nat) (m : Nat) (s : ST) (r : Int32) : Prop := (r.toInt = 0 ∧ ∀ x : Nat → Int, ¬ F x) ∨ (r.toInt = 1 ∧ ∃ L H : Nat → Int, LG F n L H ∧ (s.1 18).toNatClampNeg = m ∧ ARR S L (BFx E rt L H) (s.1 18).toNatClampNeg (s.1 17).toInt (rwX s))
theorem AXP_no {F : (Nat → Int) → Prop} {n : Int} {S : Nat → Prop} {E : Nat → Nat → Int → Prop} {rt : Nat → Nat} {m : Nat} {s : ST} {r : Int32} (h : AXP F n S E rt m s r) (e : r.toInt = 0) : ∀ x : Nat → Int, ¬ F x := by
  rcases h with ⟨-, a⟩ | ⟨a, -⟩
  · exact a
  · rw [a] at e
    exact absurd e (by decide)
theorem AXP_y {F : (Nat → Int) → Prop} {n : Int} {S : Nat → Prop} {E : Nat → Nat → Int → Prop} {rt : Nat → Nat} {m : Nat} {s : ST} {r : Int32} (h : AXP F n S E rt m s r) (e : r.toInt ≠ 0) : ∃ L H : Nat → Int, LG F n L H ∧ (s.1 18).toNatClampNeg = m ∧ ARR S L (BFx E rt L H) (s.1 18).toNatClampNeg (s.1 17).toInt (rwX s) := by
  rcases h with ⟨a, -⟩ | ⟨-, a⟩
  · exact absurd a e
  · exact a
theorem AH_u {σ s : ST} (h : WXu σ s) : AH s = AH σ := by
  funext a b
  unfold AH dX
  rw [h.2.2 33 (by decide), h.2.2 34 (by decide), h.2.2 38 (by decide), h.2.2 _ (by unfold WXuA; omega)]
theorem low_u {σ s : ST} (h : WXu σ s) : lowX s = lowX σ := by
  unfold lowX
  rw [h.2.2 33 (by decide)]

def tX_jumps (σ : ST) (a r : Int32) (σ2 : ST) : Prop := WX σ σ2 ∧ ((¬ OKS a (σ.1 3) ∧ r = -2) ∨ (OKS a (σ.1 3) ∧ JMR (FSX σ (kpF (allS (σ.1 4)))) (σ.1 3).toInt (SB (a).toNatClampNeg) r))
def tX_order (σ : ST) (a b r : Int32) (σ2 : ST) : Prop := WX σ σ2 ∧ ((¬ OKS a (σ.1 3) ∧ r = -2) ∨ (OKS a (σ.1 3) ∧ ((¬ (0 ≤ b.toInt ∧ b.toInt < (cntb (a).toNatClampNeg 12 : Int)) ∧ r = -1) ∨ ((0 ≤ b.toInt ∧ b.toInt < (cntb (a).toNatClampNeg 12 : Int)) ∧ ODR (FSX σ (kpF (allS (σ.1 4)))) (σ.1 3).toInt (SB (a).toNatClampNeg) (EdX σ (kpF (allS (σ.1 4)))) (rtX σ) (cntb (a).toNatClampNeg 12) (b).toNatClampNeg r))))
set_option maxHeartbeats 4000000 in
set_option maxRecDepth 100000 in
theorem f_X7_collect (l : Launch) (L : WL) (σ : ST) (x : Int32) (hx : 0 ≤ x.toInt ∧ x.toInt < 4096) (hc : cntb (x).toNatClampNeg 12 ≤ 8) (ix : IV σ) : CtV l L yX7_collect cX7_collect 3 none rm_X7_collect [.ref (L.2.1 11), .int x] σ (fun σ2 => WXu σ σ2 ∧ LSI (x).toNatClampNeg 12 (σ2.1 18).toNatClampNeg (rwX σ2)) := by
  refine ctV_go (own := RX7) (by decide) rfl (Nat.le_of_ble_eq_true rfl) (fun F hF => ?_)
  subst hF
  have n0 : (0 : Int32).toInt = 0 := by decide
  have n1 : (1 : Int32).toInt = 1 := by decide
  have n8 : (8 : Int32).toInt = 8 := by decide
  have n12 : (12 : Int32).toInt = 12 := by decide
  have w0 : WXu σ σ := WXu_rfl ix
  have z0 : (0 : Int32).toNatClampNeg = 0 := rfl
  refine go_aload_n (i := 0) (pc' := 1) dX7_collect_0 rfl rfl rfl ?_
  refine go_iconst (v := 0) (pc' := 2) dX7_collect_1 rfl (by decide) ?_
  refine pf_11_size (pc' := 5) dX7_collect_2 rfl fl_X7_17 ?_
  refine go_gen (P := fun s => WXu σ s ∧ s.1 18 = 0) ⟨⟨ixs_18 w0.1 (by omega) (by omega), Ag_setI w0.2 (by decide)⟩, setI_same _ _ _⟩ (fun σ1 z1 => ?_)
  obtain ⟨w1, g1⟩ := z1
  have gs := g1
  refine go_iconst (v := 0) (pc' := 6) dX7_collect_5 rfl (by decide) ?_
  refine go_istore_n (i := 2) (pc' := 7) dX7_collect_6 rfl rfl (by decide) ?_
  have loop7_2 : ∀ (dd2 : Nat) (σ2 : ST) (x2_2 : Int32), WXu σ σ2 → (0 ≤ (x2_2).toInt ∧ (x2_2).toInt ≤ 12) → (LSI (x).toNatClampNeg (x2_2).toNatClampNeg (σ2.1 18).toNatClampNeg (rwX σ2)) → (12 - (x2_2).toInt).toNat = dd2 → Go F L RX7 cX7_collect 3 rm_X7_collect none (RV F L (fun σ2 => WXu σ σ2 ∧ LSI (x).toNatClampNeg 12 (σ2.1 18).toNatClampNeg (rwX σ2))) σ2 7 [(0, .ref (L.2.1 11)), (1, .int x), (2, .int x2_2)] [] := by
    intro dd2
    induction dd2 using Nat.strongRecOn with
    | _ dd2 ih2 =>
      intro σ2 x2_2 w2 h_2 hL_2 hm_2
      refine go_iload_n (i := 2) (pc' := 8) dX7_collect_7 rfl rfl rfl ?_
      refine go_bipush (v := 12) (pc' := 10) dX7_collect_8 rfl (by decide) ?_
      refine gz_icmp_ge (tgt := 57) (pc' := 13) dX7_collect_10 rfl (by decide) (fun c3 => ?_) (fun c3 => ?_)
      · exact go_vret dX7_collect_57 rfl (⟨w2, by have cv := cnat (x := x2_2) (by omega); have z := hL_2; rw [show (x2_2).toNatClampNeg = 12 from by omega] at z; exact z⟩)
      have c2 := cnat (x := x2_2) (by omega)
      have bx := bitx (k := x2_2) hx (by omega)
      have g18 := ixi_18 w2.1
      have c18 := cnat g18.1
      refine go_iload_n (i := 1) (pc' := 14) dX7_collect_13 rfl rfl rfl ?_
      refine go_iload_n (i := 2) (pc' := 15) dX7_collect_14 rfl rfl rfl ?_
      refine go_ishr (pc' := 16) dX7_collect_15 rfl ?_
      refine go_iconst (v := 1) (pc' := 17) dX7_collect_16 rfl (by decide) ?_
      refine go_iand (pc' := 18) dX7_collect_17 rfl ?_
      refine go_iconst (v := 1) (pc' := 19) dX7_collect_18 rfl (by decide) ?_
      refine gz_icmp_ne (tgt := 51) (pc' := 22) dX7_collect_19 rfl (by decide) (fun c4 => ?_) (fun c4 => ?_)
      · refine gz_iinc (c := 1) (pc' := 54) dX7_collect_51 rfl rfl (by decide) (by decide) (by decide) (by omega) (fun v5 h5 e5 => ?_)
        refine go_goto (tgt := 7) dX7_collect_54 (by decide) ?_
        exact go_lv (lv' := [(0, .ref (L.2.1 11)), (1, .int x), (2, .int v5)]) rfl (ih2 _ (by omega) σ2 v5 w2 (by omega) (by have cv := cnat (x := v5) (by omega); first | exact LSI_no hL_2 (bF1 bx (by omega)) (by omega) | exact LSI_put hL_2 b1 (by omega) (by have c18 := cnat (x := σ2.1 18) (by omega); omega) er1 er2 | (exfalso; have z := ixi_18 w2.1; omega)) rfl)
      have b1 : (x).toNatClampNeg.testBit (x2_2).toNatClampNeg = true := bT1 bx (by omega)
      have lim : (σ2.1 18).toNatClampNeg < 8 := by
        have z1 := cntb_t b1
        have z2 := cntb_le (x).toNatClampNeg (a := (x2_2).toNatClampNeg + 1) 12 (by omega)
        have z3 := hL_2.1
        omega
      refine go_aload_n (i := 0) (pc' := 23) dX7_collect_22 rfl rfl rfl ?_
      refine gf_11_size (pc' := 26) dX7_collect_23 rfl fl_X7_17 ?_
      have g6 := ixi_18 w2.1
      refine go_bipush (v := 8) (pc' := 28) dX7_collect_26 rfl (by decide) ?_
      refine gz_icmp_ge (tgt := 51) (pc' := 31) dX7_collect_28 rfl (by decide) (fun c7 => ?_) (fun c7 => ?_)
      · refine gz_iinc (c := 1) (pc' := 54) dX7_collect_51 rfl rfl (by decide) (by decide) (by decide) (by omega) (fun v8 h8 e8 => ?_)
        refine go_goto (tgt := 7) dX7_collect_54 (by decide) ?_
        exact go_lv (lv' := [(0, .ref (L.2.1 11)), (1, .int x), (2, .int v8)]) rfl (ih2 _ (by omega) σ2 v8 w2 (by omega) (by have cv := cnat (x := v8) (by omega); first | exact LSI_no hL_2 (bF1 bx (by omega)) (by omega) | exact LSI_put hL_2 b1 (by omega) (by have c18 := cnat (x := σ2.1 18) (by omega); omega) er1 er2 | (exfalso; have z := ixi_18 w2.1; omega)) rfl)
      refine go_aload_n (i := 0) (pc' := 32) dX7_collect_31 rfl rfl rfl ?_
      refine gf_11_row (pc' := 35) dX7_collect_32 rfl fl_X7_9 ?_
      refine go_aload_n (i := 0) (pc' := 36) dX7_collect_35 rfl rfl rfl ?_
      refine gf_11_size (pc' := 39) dX7_collect_36 rfl fl_X7_17 ?_
      have g9 := ixi_18 w2.1
      refine go_iload_n (i := 2) (pc' := 40) dX7_collect_39 rfl rfl rfl ?_
      refine go_iast (pc' := 41) dX7_collect_40 rfl (by decide) (by decide) rfl (vin_of (n := 8) (by omega) (by omega)) ?_
      refine go_gen (P := fun s => WXu σ s ∧ (s.2 54 = upd (σ2.2 54) ((σ2.1 18)).toNatClampNeg x2_2) ∧ s.1 = σ2.1) ⟨⟨ixt_54 w2.1 (by omega) (by omega), Ag_setA w2.2 (by decide)⟩, ⟨setA_same _ _ _ _, rfl⟩⟩ (fun σ10 z10 => ?_)
      obtain ⟨w10, g10⟩ := z10
      have gr := g10
      have gr18 := congrArg Int32.toInt (congrFun gr.2 18)
      refine go_aload_n (i := 0) (pc' := 42) dX7_collect_41 rfl rfl rfl ?_
      refine go_dup (pc' := 43) dX7_collect_42 rfl rfl ?_
      refine gf_11_size (pc' := 46) dX7_collect_43 rfl fl_X7_17 ?_
      have g11 := ixi_18 w10.1
      refine go_iconst (v := 1) (pc' := 47) dX7_collect_46 rfl (by decide) ?_
      refine gz_iadd (pc' := 48) dX7_collect_47 rfl (by omega) (fun v12 h12 e12 => ?_)
      refine pf_11_size (pc' := 51) dX7_collect_48 rfl fl_X7_17 ?_
      refine go_gen (P := fun s => WXu σ s ∧ s.1 18 = v12 ∧ s.2 = σ10.2) ⟨⟨ixs_18 w10.1 (by omega) (by omega), Ag_setI w10.2 (by decide)⟩, ⟨setI_same _ _ _, rfl⟩⟩ (fun σ13 z13 => ?_)
      obtain ⟨w13, g13⟩ := z13
      have gz := g13
      have gz18 := congrArg Int32.toInt gz.1
      have er1 : rwX σ13 (σ2.1 18).toNatClampNeg = (x2_2).toNatClampNeg := by
        unfold rwX
        rw [gz.2, gr.1, upd_eq]
      have er2 : ∀ p : Nat, p ≠ (σ2.1 18).toNatClampNeg → rwX σ13 p = rwX σ2 p := fun p hp => by
        unfold rwX
        rw [gz.2, gr.1, upd_ne hp]
      refine gz_iinc (c := 1) (pc' := 54) dX7_collect_51 rfl rfl (by decide) (by decide) (by decide) (by omega) (fun v14 h14 e14 => ?_)
      refine go_goto (tgt := 7) dX7_collect_54 (by decide) ?_
      exact go_lv (lv' := [(0, .ref (L.2.1 11)), (1, .int x), (2, .int v14)]) rfl (ih2 _ (by omega) σ13 v14 w13 (by omega) (by have cv := cnat (x := v14) (by omega); first | exact LSI_no hL_2 (bF1 bx (by omega)) (by omega) | exact LSI_put hL_2 b1 (by omega) (by have c18 := cnat (x := σ13.1 18) (by omega); omega) er1 er2 | (exfalso; have z := ixi_18 w13.1; omega)) rfl)
  exact go_lv (lv' := [(0, .ref (L.2.1 11)), (1, .int x), (2, .int (0 : Int32))]) rfl (loop7_2 _ σ1 (0 : Int32) w1 (by omega) (by rw [gs, z0]; exact LSI_0 _ _) rfl)
set_option maxHeartbeats 4000000 in
set_option maxRecDepth 100000 in
theorem f_X7_sort_1 (l : Launch) (L : WL) (σ : ST) (ht : TIE (lowX σ) (rwX σ) (σ.1 18).toNatClampNeg) (hd : RNG (lowX σ) (rwX σ) (σ.1 18).toNatClampNeg) (ix : IV σ) : CtV l L yX7_sort cX7_sort 6 none rm_X7_sort [.ref (L.2.1 11), .ref (L.2.1 33), .int (1 : Int32)] σ (fun σ2 => WXu σ σ2 ∧ σ2.1 = σ.1 ∧ SRT (lowX σ) 1 (rwX σ2) (σ.1 18).toNatClampNeg ∧ PRM (rwX σ) (rwX σ2) (σ.1 18).toNatClampNeg) := by
  refine ctV_go (own := RX7) (by decide) rfl (Nat.le_of_ble_eq_true rfl) (fun F hF => ?_)
  subst hF
  have n1 : (1 : Int32).toInt = 1 := by decide
  have w0 : WXu σ σ := WXu_rfl ix
  have u18 := ixi_18 ix
  have c18 := cnat u18.1
  have one : (1 : Int32).toNatClampNeg = 1 := rfl
  skip
  refine go_iconst (v := 1) (pc' := 1) dX7_sort_0 rfl (by decide) ?_
  refine go_istore_n (i := 3) (pc' := 2) dX7_sort_1 rfl rfl (by decide) ?_
  have loop2_1 : ∀ (dd1 : Nat) (σ1 : ST) (x3_1 : Int32), WXu σ σ1 → (1 ≤ (x3_1).toInt ∧ (x3_1).toInt ≤ 8) → (σ1.1 = σ.1) → (SRI (lowX σ) 1 (rwX σ1) (x3_1).toNatClampNeg) → (TIE (lowX σ) (rwX σ1) (σ.1 18).toNatClampNeg) → (PRM (rwX σ) (rwX σ1) (σ.1 18).toNatClampNeg) → (8 - (x3_1).toInt).toNat = dd1 → Go F L RX7 cX7_sort 6 rm_X7_sort none (RV F L (fun σ2 => WXu σ σ2 ∧ σ2.1 = σ.1 ∧ SRT (lowX σ) 1 (rwX σ2) (σ.1 18).toNatClampNeg ∧ PRM (rwX σ) (rwX σ2) (σ.1 18).toNatClampNeg)) σ1 2 [(0, .ref (L.2.1 11)), (1, .ref (L.2.1 33)), (2, .int (1 : Int32)), (3, .int x3_1)] [] := by
    intro dd1
    induction dd1 using Nat.strongRecOn with
    | _ dd1 ih1 =>
      intro σ1 x3_1 w1 h_1 hs_1 hS_1 hT_1 hP_1 hm_1
      refine go_iload_n (i := 3) (pc' := 3) dX7_sort_2 rfl rfl rfl ?_
      refine go_aload_n (i := 0) (pc' := 4) dX7_sort_3 rfl rfl rfl ?_
      refine gf_11_size (pc' := 7) dX7_sort_4 rfl fl_X7_17 ?_
      have g2 := ixi_18 w1.1
      refine gz_icmp_ge (tgt := 92) (pc' := 10) dX7_sort_7 rfl (by decide) (fun c3 => ?_) (fun c3 => ?_)
      · exact go_vret dX7_sort_92 rfl (⟨w1, hs_1, SRI_SRT hS_1 (by have cv := cnat (x := x3_1) (by omega); have k18 := congrArg Int32.toInt (congrFun hs_1 18); omega), hP_1⟩)
      have c3 := cnat (x := x3_1) (by omega)
      have k18 := congrArg Int32.toInt (congrFun hs_1 18)
      refine go_iload_n (i := 3) (pc' := 11) dX7_sort_10 rfl rfl rfl ?_
      refine go_istore (pc' := 13) dX7_sort_11 rfl (by decide) ?_
      have loop13_4 : ∀ (dd4 : Nat) (σ4 : ST) (x4_4 : Int32), WXu σ σ4 → (0 ≤ (x4_4).toInt ∧ (x4_4).toInt ≤ (x3_1).toInt) → (σ4.1 = σ.1) → (INS (lowX σ) 1 (rwX σ4) (σ.1 18).toNatClampNeg (x3_1).toNatClampNeg (x4_4).toNatClampNeg) → (PRM (rwX σ) (rwX σ4) (σ.1 18).toNatClampNeg) → (x4_4).toInt.toNat = dd4 → Go F L RX7 cX7_sort 6 rm_X7_sort none (RV F L (fun σ2 => WXu σ σ2 ∧ σ2.1 = σ.1 ∧ SRT (lowX σ) 1 (rwX σ2) (σ.1 18).toNatClampNeg ∧ PRM (rwX σ) (rwX σ2) (σ.1 18).toNatClampNeg)) σ4 13 [(0, .ref (L.2.1 11)), (1, .ref (L.2.1 33)), (2, .int (1 : Int32)), (3, .int x3_1), (4, .int x4_4)] [] := by
        intro dd4
        induction dd4 using Nat.strongRecOn with
        | _ dd4 ih4 =>
          intro σ4 x4_4 w4 h_4 hs_4 hJ_4 hP_4 hm_4
          refine go_iload (pc' := 15) dX7_sort_13 rfl rfl ?_
          refine gz_if_le (tgt := 86) (pc' := 18) dX7_sort_15 rfl (by decide) (fun c5 => ?_) (fun c5 => ?_)
          · refine gz_iinc (c := 1) (pc' := 89) dX7_sort_86 rfl rfl (by decide) (by decide) (by decide) (by omega) (fun v6 h6 e6 => ?_)
            refine go_goto (tgt := 2) dX7_sort_89 (by decide) ?_
            exact go_lv (lv' := [(0, .ref (L.2.1 11)), (1, .ref (L.2.1 33)), (2, .int (1 : Int32)), (3, .int v6)]) rfl (ih1 _ (by omega) σ4 v6 w4 (by omega) hs_4 (by have cv := cnat (x := v6) (by omega); have c4 := cnat (x := x4_4) (by omega); exact INS_end hJ_4 (by omega) (by omega) (by decide) (by first | exact Or.inl (by omega) | exact Or.inr (fun z => by unfold LTW at z; omega)) (by omega)) hJ_4.1 hP_4 rfl)
          have c4 := cnat (x := x4_4) (by omega)
          have e33 : σ4.2 33 = σ.2 33 := w4.2.2 33 (by decide)
          refine go_aload_n (i := 1) (pc' := 19) dX7_sort_18 rfl rfl rfl ?_
          refine go_aload_n (i := 0) (pc' := 20) dX7_sort_19 rfl rfl rfl ?_
          refine gf_11_row (pc' := 23) dX7_sort_20 rfl fl_X7_9 ?_
          refine go_iload (pc' := 25) dX7_sort_23 rfl rfl ?_
          refine go_iconst (v := 1) (pc' := 26) dX7_sort_25 rfl (by decide) ?_
          refine gz_isub (pc' := 27) dX7_sort_26 rfl (by omega) (fun v7 h7 e7 => ?_)
          refine go_iald (pc' := 28) dX7_sort_27 rfl (by decide) (by decide) rfl (vin_of (n := 8) (by omega) (by omega)) ?_
          refine go_rngA (ixa_54 w4.1) (vinlt (vin_of (n := 8) (by omega) (by omega))) (fun g8 => ?_)
          refine go_iald (pc' := 29) dX7_sort_28 rfl (by decide) (by decide) rfl (vin_of (n := 12) (by omega) (by omega)) ?_
          refine go_aload_n (i := 1) (pc' := 30) dX7_sort_29 rfl rfl rfl ?_
          refine go_aload_n (i := 0) (pc' := 31) dX7_sort_30 rfl rfl rfl ?_
          refine gf_11_row (pc' := 34) dX7_sort_31 rfl fl_X7_9 ?_
          refine go_iload (pc' := 36) dX7_sort_34 rfl rfl ?_
          refine go_iald (pc' := 37) dX7_sort_36 rfl (by decide) (by decide) rfl (vin_of (n := 8) (by omega) (by omega)) ?_
          refine go_rngA (ixa_54 w4.1) (vinlt (vin_of (n := 8) (by omega) (by omega))) (fun g9 => ?_)
          refine go_iald (pc' := 38) dX7_sort_37 rfl (by decide) (by decide) rfl (vin_of (n := 12) (by omega) (by omega)) ?_
          have ja : (v7).toNatClampNeg = (x4_4).toNatClampNeg - 1 := by have z := cnat (x := v7) (by omega); omega
          have la : ((σ4.2 33 ((σ4.2 54 (v7).toNatClampNeg)).toNatClampNeg)).toInt = lowX σ (rwX σ4 ((x4_4).toNatClampNeg - 1)) := by
            unfold lowX rwX
            rw [← ja, ← e33]
          have lb : ((σ4.2 33 ((σ4.2 54 (x4_4).toNatClampNeg)).toNatClampNeg)).toInt = lowX σ (rwX σ4 (x4_4).toNatClampNeg) := by
            unfold lowX rwX
            rw [← e33]
          have rg := RNG_p hP_4 hd
          have r1 := rg ((x4_4).toNatClampNeg - 1) (by omega)
          have r2 := rg (x4_4).toNatClampNeg (by omega)
          refine gz_isub (pc' := 39) dX7_sort_38 rfl (by omega) (fun v10 h10 e10 => ?_)
          refine go_iload_n (i := 2) (pc' := 40) dX7_sort_39 rfl rfl rfl ?_
          refine gz_imul (pc' := 41) dX7_sort_40 rfl (by rw [n1]; omega) (fun v11 h11 e11 => ?_)
          rw [n1] at e11
          refine gz_if_le (tgt := 86) (pc' := 44) dX7_sort_41 rfl (by decide) (fun c12 => ?_) (fun c12 => ?_)
          · refine gz_iinc (c := 1) (pc' := 89) dX7_sort_86 rfl rfl (by decide) (by decide) (by decide) (by omega) (fun v13 h13 e13 => ?_)
            refine go_goto (tgt := 2) dX7_sort_89 (by decide) ?_
            exact go_lv (lv' := [(0, .ref (L.2.1 11)), (1, .ref (L.2.1 33)), (2, .int (1 : Int32)), (3, .int v13)]) rfl (ih1 _ (by omega) σ4 v13 w4 (by omega) hs_4 (by have cv := cnat (x := v13) (by omega); have c4 := cnat (x := x4_4) (by omega); exact INS_end hJ_4 (by omega) (by omega) (by decide) (by first | exact Or.inl (by omega) | exact Or.inr (fun z => by unfold LTW at z; omega)) (by omega)) hJ_4.1 hP_4 rfl)
          have ltw : LTW 1 (lowX σ (rwX σ4 (x4_4).toNatClampNeg)) (lowX σ (rwX σ4 ((x4_4).toNatClampNeg - 1))) := Or.inl ⟨rfl, by omega⟩
          refine go_aload_n (i := 0) (pc' := 45) dX7_sort_44 rfl rfl rfl ?_
          refine gf_11_row (pc' := 48) dX7_sort_45 rfl fl_X7_9 ?_
          refine go_iload (pc' := 50) dX7_sort_48 rfl rfl ?_
          refine go_iald (pc' := 51) dX7_sort_50 rfl (by decide) (by decide) rfl (vin_of (n := 8) (by omega) (by omega)) ?_
          refine go_rngA (ixa_54 w4.1) (vinlt (vin_of (n := 8) (by omega) (by omega))) (fun g14 => ?_)
          refine go_topz (fun y15 h15 e15 => ?_)
          refine go_istore (pc' := 53) dX7_sort_51 rfl (by decide) ?_
          have hy5 : (y15) = σ4.2 54 (x4_4).toNatClampNeg := by first | rfl | assumption
          refine go_aload_n (i := 0) (pc' := 54) dX7_sort_53 rfl rfl rfl ?_
          refine gf_11_row (pc' := 57) dX7_sort_54 rfl fl_X7_9 ?_
          refine go_iload (pc' := 59) dX7_sort_57 rfl rfl ?_
          refine go_aload_n (i := 0) (pc' := 60) dX7_sort_59 rfl rfl rfl ?_
          refine gf_11_row (pc' := 63) dX7_sort_60 rfl fl_X7_9 ?_
          refine go_iload (pc' := 65) dX7_sort_63 rfl rfl ?_
          refine go_iconst (v := 1) (pc' := 66) dX7_sort_65 rfl (by decide) ?_
          refine gz_isub (pc' := 67) dX7_sort_66 rfl (by omega) (fun v16 h16 e16 => ?_)
          refine go_iald (pc' := 68) dX7_sort_67 rfl (by decide) (by decide) rfl (vin_of (n := 8) (by omega) (by omega)) ?_
          refine go_rngA (ixa_54 w4.1) (vinlt (vin_of (n := 8) (by omega) (by omega))) (fun g17 => ?_)
          refine go_iast (pc' := 69) dX7_sort_68 rfl (by decide) (by decide) rfl (vin_of (n := 8) (by omega) (by omega)) ?_
          refine go_gen (P := fun s => WXu σ s ∧ (s.2 54 = upd (σ4.2 54) (x4_4).toNatClampNeg (σ4.2 54 (v16).toNatClampNeg)) ∧ s.1 = σ4.1) ⟨⟨ixt_54 w4.1 (by omega) (by omega), Ag_setA w4.2 (by decide)⟩, ⟨setA_same _ _ _ _, rfl⟩⟩ (fun σ18 z18 => ?_)
          obtain ⟨w18, g18⟩ := z18
          have gA := g18
          refine go_aload_n (i := 0) (pc' := 70) dX7_sort_69 rfl rfl rfl ?_
          refine gf_11_row (pc' := 73) dX7_sort_70 rfl fl_X7_9 ?_
          refine go_iload (pc' := 75) dX7_sort_73 rfl rfl ?_
          refine go_iconst (v := 1) (pc' := 76) dX7_sort_75 rfl (by decide) ?_
          refine gz_isub (pc' := 77) dX7_sort_76 rfl (by omega) (fun v19 h19 e19 => ?_)
          refine go_iload (pc' := 79) dX7_sort_77 rfl rfl ?_
          refine go_iast (pc' := 80) dX7_sort_79 rfl (by decide) (by decide) rfl (vin_of (n := 8) (by omega) (by omega)) ?_
          refine go_gen (P := fun s => WXu σ s ∧ (s.2 54 = upd (σ18.2 54) (v19).toNatClampNeg y15) ∧ s.1 = σ18.1) ⟨⟨ixt_54 w18.1 (by omega) (by omega), Ag_setA w18.2 (by decide)⟩, ⟨setA_same _ _ _ _, rfl⟩⟩ (fun σ20 z20 => ?_)
          obtain ⟨w20, g20⟩ := z20
          have gB := g20
          have jb : (v16).toNatClampNeg = (x4_4).toNatClampNeg - 1 := by have z := cnat (x := v16) (by omega); omega
          have jc : (v19).toNatClampNeg = (x4_4).toNatClampNeg - 1 := by have z := cnat (x := v19) (by omega); omega
          have esw : rwX σ20 = sw (rwX σ4) (x4_4).toNatClampNeg := upd2_sw (by omega) (by rw [gB.1, gA.1, jb, jc, hy5])
          refine gz_iinc (c := (-1)) (pc' := 83) dX7_sort_80 rfl rfl (by decide) (by decide) (by decide) (by omega) (fun v21 h21 e21 => ?_)
          refine go_goto (tgt := 13) dX7_sort_83 (by decide) ?_
          exact go_lv (lv' := [(0, .ref (L.2.1 11)), (1, .ref (L.2.1 33)), (2, .int (1 : Int32)), (3, .int x3_1), (4, .int v21)]) rfl (ih4 _ (by omega) σ20 v21 w20 (by omega) (by rw [gB.2, gA.2]; exact hs_4) (by have cv := cnat (x := v21) (by omega); rw [esw]; exact INS_sw hJ_4 (by omega) (by omega) (by omega) ltw (by omega)) (by rw [esw]; exact PRM_t hP_4 (sw_prm _ (by omega) (by omega))) rfl)
      exact go_lv (lv' := [(0, .ref (L.2.1 11)), (1, .ref (L.2.1 33)), (2, .int (1 : Int32)), (3, .int x3_1), (4, .int x3_1)]) rfl (loop13_4 _ σ1 x3_1 w1 (by omega) hs_1 (INS_0 hS_1 hT_1) hP_1 rfl)
  exact go_lv (lv' := [(0, .ref (L.2.1 11)), (1, .ref (L.2.1 33)), (2, .int (1 : Int32)), (3, .int (1 : Int32))]) rfl (loop2_1 _ σ (1 : Int32) w0 (by omega) rfl (fun p q hp hq => by exfalso; rw [one] at hq; omega) ht (PRM_r _ _) rfl)
set_option maxHeartbeats 4000000 in
set_option maxRecDepth 100000 in
theorem f_X7_sort_m (l : Launch) (L : WL) (σ : ST) (ht : TIE (lowX σ) (rwX σ) (σ.1 18).toNatClampNeg) (hd : RNG (lowX σ) (rwX σ) (σ.1 18).toNatClampNeg) (ix : IV σ) : CtV l L yX7_sort cX7_sort 6 none rm_X7_sort [.ref (L.2.1 11), .ref (L.2.1 33), .int (-1 : Int32)] σ (fun σ2 => WXu σ σ2 ∧ σ2.1 = σ.1 ∧ SRT (lowX σ) (-1) (rwX σ2) (σ.1 18).toNatClampNeg ∧ PRM (rwX σ) (rwX σ2) (σ.1 18).toNatClampNeg) := by
  refine ctV_go (own := RX7) (by decide) rfl (Nat.le_of_ble_eq_true rfl) (fun F hF => ?_)
  subst hF
  have n1 : (1 : Int32).toInt = 1 := by decide
  have w0 : WXu σ σ := WXu_rfl ix
  have u18 := ixi_18 ix
  have c18 := cnat u18.1
  have one : (1 : Int32).toNatClampNeg = 1 := rfl
  have nm1 : (-1 : Int32).toInt = -1 := by decide
  refine go_iconst (v := 1) (pc' := 1) dX7_sort_0 rfl (by decide) ?_
  refine go_istore_n (i := 3) (pc' := 2) dX7_sort_1 rfl rfl (by decide) ?_
  have loop2_1 : ∀ (dd1 : Nat) (σ1 : ST) (x3_1 : Int32), WXu σ σ1 → (1 ≤ (x3_1).toInt ∧ (x3_1).toInt ≤ 8) → (σ1.1 = σ.1) → (SRI (lowX σ) (-1) (rwX σ1) (x3_1).toNatClampNeg) → (TIE (lowX σ) (rwX σ1) (σ.1 18).toNatClampNeg) → (PRM (rwX σ) (rwX σ1) (σ.1 18).toNatClampNeg) → (8 - (x3_1).toInt).toNat = dd1 → Go F L RX7 cX7_sort 6 rm_X7_sort none (RV F L (fun σ2 => WXu σ σ2 ∧ σ2.1 = σ.1 ∧ SRT (lowX σ) (-1) (rwX σ2) (σ.1 18).toNatClampNeg ∧ PRM (rwX σ) (rwX σ2) (σ.1 18).toNatClampNeg)) σ1 2 [(0, .ref (L.2.1 11)), (1, .ref (L.2.1 33)), (2, .int (-1 : Int32)), (3, .int x3_1)] [] := by
    intro dd1
    induction dd1 using Nat.strongRecOn with
    | _ dd1 ih1 =>
      intro σ1 x3_1 w1 h_1 hs_1 hS_1 hT_1 hP_1 hm_1
      refine go_iload_n (i := 3) (pc' := 3) dX7_sort_2 rfl rfl rfl ?_
      refine go_aload_n (i := 0) (pc' := 4) dX7_sort_3 rfl rfl rfl ?_
      refine gf_11_size (pc' := 7) dX7_sort_4 rfl fl_X7_17 ?_
      have g2 := ixi_18 w1.1
      refine gz_icmp_ge (tgt := 92) (pc' := 10) dX7_sort_7 rfl (by decide) (fun c3 => ?_) (fun c3 => ?_)
      · exact go_vret dX7_sort_92 rfl (⟨w1, hs_1, SRI_SRT hS_1 (by have cv := cnat (x := x3_1) (by omega); have k18 := congrArg Int32.toInt (congrFun hs_1 18); omega), hP_1⟩)
      have c3 := cnat (x := x3_1) (by omega)
      have k18 := congrArg Int32.toInt (congrFun hs_1 18)
      refine go_iload_n (i := 3) (pc' := 11) dX7_sort_10 rfl rfl rfl ?_
      refine go_istore (pc' := 13) dX7_sort_11 rfl (by decide) ?_
      have loop13_4 : ∀ (dd4 : Nat) (σ4 : ST) (x4_4 : Int32), WXu σ σ4 → (0 ≤ (x4_4).toInt ∧ (x4_4).toInt ≤ (x3_1).toInt) → (σ4.1 = σ.1) → (INS (lowX σ) (-1) (rwX σ4) (σ.1 18).toNatClampNeg (x3_1).toNatClampNeg (x4_4).toNatClampNeg) → (PRM (rwX σ) (rwX σ4) (σ.1 18).toNatClampNeg) → (x4_4).toInt.toNat = dd4 → Go F L RX7 cX7_sort 6 rm_X7_sort none (RV F L (fun σ2 => WXu σ σ2 ∧ σ2.1 = σ.1 ∧ SRT (lowX σ) (-1) (rwX σ2) (σ.1 18).toNatClampNeg ∧ PRM (rwX σ) (rwX σ2) (σ.1 18).toNatClampNeg)) σ4 13 [(0, .ref (L.2.1 11)), (1, .ref (L.2.1 33)), (2, .int (-1 : Int32)), (3, .int x3_1), (4, .int x4_4)] [] := by
        intro dd4
        induction dd4 using Nat.strongRecOn with
        | _ dd4 ih4 =>
          intro σ4 x4_4 w4 h_4 hs_4 hJ_4 hP_4 hm_4
          refine go_iload (pc' := 15) dX7_sort_13 rfl rfl ?_
          refine gz_if_le (tgt := 86) (pc' := 18) dX7_sort_15 rfl (by decide) (fun c5 => ?_) (fun c5 => ?_)
          · refine gz_iinc (c := 1) (pc' := 89) dX7_sort_86 rfl rfl (by decide) (by decide) (by decide) (by omega) (fun v6 h6 e6 => ?_)
            refine go_goto (tgt := 2) dX7_sort_89 (by decide) ?_
            exact go_lv (lv' := [(0, .ref (L.2.1 11)), (1, .ref (L.2.1 33)), (2, .int (-1 : Int32)), (3, .int v6)]) rfl (ih1 _ (by omega) σ4 v6 w4 (by omega) hs_4 (by have cv := cnat (x := v6) (by omega); have c4 := cnat (x := x4_4) (by omega); exact INS_end hJ_4 (by omega) (by omega) (by decide) (by first | exact Or.inl (by omega) | exact Or.inr (fun z => by unfold LTW at z; omega)) (by omega)) hJ_4.1 hP_4 rfl)
          have c4 := cnat (x := x4_4) (by omega)
          have e33 : σ4.2 33 = σ.2 33 := w4.2.2 33 (by decide)
          refine go_aload_n (i := 1) (pc' := 19) dX7_sort_18 rfl rfl rfl ?_
          refine go_aload_n (i := 0) (pc' := 20) dX7_sort_19 rfl rfl rfl ?_
          refine gf_11_row (pc' := 23) dX7_sort_20 rfl fl_X7_9 ?_
          refine go_iload (pc' := 25) dX7_sort_23 rfl rfl ?_
          refine go_iconst (v := 1) (pc' := 26) dX7_sort_25 rfl (by decide) ?_
          refine gz_isub (pc' := 27) dX7_sort_26 rfl (by omega) (fun v7 h7 e7 => ?_)
          refine go_iald (pc' := 28) dX7_sort_27 rfl (by decide) (by decide) rfl (vin_of (n := 8) (by omega) (by omega)) ?_
          refine go_rngA (ixa_54 w4.1) (vinlt (vin_of (n := 8) (by omega) (by omega))) (fun g8 => ?_)
          refine go_iald (pc' := 29) dX7_sort_28 rfl (by decide) (by decide) rfl (vin_of (n := 12) (by omega) (by omega)) ?_
          refine go_aload_n (i := 1) (pc' := 30) dX7_sort_29 rfl rfl rfl ?_
          refine go_aload_n (i := 0) (pc' := 31) dX7_sort_30 rfl rfl rfl ?_
          refine gf_11_row (pc' := 34) dX7_sort_31 rfl fl_X7_9 ?_
          refine go_iload (pc' := 36) dX7_sort_34 rfl rfl ?_
          refine go_iald (pc' := 37) dX7_sort_36 rfl (by decide) (by decide) rfl (vin_of (n := 8) (by omega) (by omega)) ?_
          refine go_rngA (ixa_54 w4.1) (vinlt (vin_of (n := 8) (by omega) (by omega))) (fun g9 => ?_)
          refine go_iald (pc' := 38) dX7_sort_37 rfl (by decide) (by decide) rfl (vin_of (n := 12) (by omega) (by omega)) ?_
          have ja : (v7).toNatClampNeg = (x4_4).toNatClampNeg - 1 := by have z := cnat (x := v7) (by omega); omega
          have la : ((σ4.2 33 ((σ4.2 54 (v7).toNatClampNeg)).toNatClampNeg)).toInt = lowX σ (rwX σ4 ((x4_4).toNatClampNeg - 1)) := by
            unfold lowX rwX
            rw [← ja, ← e33]
          have lb : ((σ4.2 33 ((σ4.2 54 (x4_4).toNatClampNeg)).toNatClampNeg)).toInt = lowX σ (rwX σ4 (x4_4).toNatClampNeg) := by
            unfold lowX rwX
            rw [← e33]
          have rg := RNG_p hP_4 hd
          have r1 := rg ((x4_4).toNatClampNeg - 1) (by omega)
          have r2 := rg (x4_4).toNatClampNeg (by omega)
          refine gz_isub (pc' := 39) dX7_sort_38 rfl (by omega) (fun v10 h10 e10 => ?_)
          refine go_iload_n (i := 2) (pc' := 40) dX7_sort_39 rfl rfl rfl ?_
          refine gz_imul (pc' := 41) dX7_sort_40 rfl (by rw [nm1]; omega) (fun v11 h11 e11 => ?_)
          rw [nm1] at e11
          refine gz_if_le (tgt := 86) (pc' := 44) dX7_sort_41 rfl (by decide) (fun c12 => ?_) (fun c12 => ?_)
          · refine gz_iinc (c := 1) (pc' := 89) dX7_sort_86 rfl rfl (by decide) (by decide) (by decide) (by omega) (fun v13 h13 e13 => ?_)
            refine go_goto (tgt := 2) dX7_sort_89 (by decide) ?_
            exact go_lv (lv' := [(0, .ref (L.2.1 11)), (1, .ref (L.2.1 33)), (2, .int (-1 : Int32)), (3, .int v13)]) rfl (ih1 _ (by omega) σ4 v13 w4 (by omega) hs_4 (by have cv := cnat (x := v13) (by omega); have c4 := cnat (x := x4_4) (by omega); exact INS_end hJ_4 (by omega) (by omega) (by decide) (by first | exact Or.inl (by omega) | exact Or.inr (fun z => by unfold LTW at z; omega)) (by omega)) hJ_4.1 hP_4 rfl)
          have ltw : LTW (-1) (lowX σ (rwX σ4 (x4_4).toNatClampNeg)) (lowX σ (rwX σ4 ((x4_4).toNatClampNeg - 1))) := Or.inr ⟨rfl, by omega⟩
          refine go_aload_n (i := 0) (pc' := 45) dX7_sort_44 rfl rfl rfl ?_
          refine gf_11_row (pc' := 48) dX7_sort_45 rfl fl_X7_9 ?_
          refine go_iload (pc' := 50) dX7_sort_48 rfl rfl ?_
          refine go_iald (pc' := 51) dX7_sort_50 rfl (by decide) (by decide) rfl (vin_of (n := 8) (by omega) (by omega)) ?_
          refine go_rngA (ixa_54 w4.1) (vinlt (vin_of (n := 8) (by omega) (by omega))) (fun g14 => ?_)
          refine go_topz (fun y15 h15 e15 => ?_)
          refine go_istore (pc' := 53) dX7_sort_51 rfl (by decide) ?_
          have hy5 : (y15) = σ4.2 54 (x4_4).toNatClampNeg := by first | rfl | assumption
          refine go_aload_n (i := 0) (pc' := 54) dX7_sort_53 rfl rfl rfl ?_
          refine gf_11_row (pc' := 57) dX7_sort_54 rfl fl_X7_9 ?_
          refine go_iload (pc' := 59) dX7_sort_57 rfl rfl ?_
          refine go_aload_n (i := 0) (pc' := 60) dX7_sort_59 rfl rfl rfl ?_
          refine gf_11_row (pc' := 63) dX7_sort_60 rfl fl_X7_9 ?_
          refine go_iload (pc' := 65) dX7_sort_63 rfl rfl ?_
          refine go_iconst (v := 1) (pc' := 66) dX7_sort_65 rfl (by decide) ?_
          refine gz_isub (pc' := 67) dX7_sort_66 rfl (by omega) (fun v16 h16 e16 => ?_)
          refine go_iald (pc' := 68) dX7_sort_67 rfl (by decide) (by decide) rfl (vin_of (n := 8) (by omega) (by omega)) ?_
          refine go_rngA (ixa_54 w4.1) (vinlt (vin_of (n := 8) (by omega) (by omega))) (fun g17 => ?_)
          refine go_iast (pc' := 69) dX7_sort_68 rfl (by decide) (by decide) rfl (vin_of (n := 8) (by omega) (by omega)) ?_
          refine go_gen (P := fun s => WXu σ s ∧ (s.2 54 = upd (σ4.2 54) (x4_4).toNatClampNeg (σ4.2 54 (v16).toNatClampNeg)) ∧ s.1 = σ4.1) ⟨⟨ixt_54 w4.1 (by omega) (by omega), Ag_setA w4.2 (by decide)⟩, ⟨setA_same _ _ _ _, rfl⟩⟩ (fun σ18 z18 => ?_)
          obtain ⟨w18, g18⟩ := z18
          have gA := g18
          refine go_aload_n (i := 0) (pc' := 70) dX7_sort_69 rfl rfl rfl ?_
          refine gf_11_row (pc' := 73) dX7_sort_70 rfl fl_X7_9 ?_
          refine go_iload (pc' := 75) dX7_sort_73 rfl rfl ?_
          refine go_iconst (v := 1) (pc' := 76) dX7_sort_75 rfl (by decide) ?_
          refine gz_isub (pc' := 77) dX7_sort_76 rfl (by omega) (fun v19 h19 e19 => ?_)
          refine go_iload (pc' := 79) dX7_sort_77 rfl rfl ?_
          refine go_iast (pc' := 80) dX7_sort_79 rfl (by decide) (by decide) rfl (vin_of (n := 8) (by omega) (by omega)) ?_
          refine go_gen (P := fun s => WXu σ s ∧ (s.2 54 = upd (σ18.2 54) (v19).toNatClampNeg y15) ∧ s.1 = σ18.1) ⟨⟨ixt_54 w18.1 (by omega) (by omega), Ag_setA w18.2 (by decide)⟩, ⟨setA_same _ _ _ _, rfl⟩⟩ (fun σ20 z20 => ?_)
          obtain ⟨w20, g20⟩ := z20
          have gB := g20
          have jb : (v16).toNatClampNeg = (x4_4).toNatClampNeg - 1 := by have z := cnat (x := v16) (by omega); omega
          have jc : (v19).toNatClampNeg = (x4_4).toNatClampNeg - 1 := by have z := cnat (x := v19) (by omega); omega
          have esw : rwX σ20 = sw (rwX σ4) (x4_4).toNatClampNeg := upd2_sw (by omega) (by rw [gB.1, gA.1, jb, jc, hy5])
          refine gz_iinc (c := (-1)) (pc' := 83) dX7_sort_80 rfl rfl (by decide) (by decide) (by decide) (by omega) (fun v21 h21 e21 => ?_)
          refine go_goto (tgt := 13) dX7_sort_83 (by decide) ?_
          exact go_lv (lv' := [(0, .ref (L.2.1 11)), (1, .ref (L.2.1 33)), (2, .int (-1 : Int32)), (3, .int x3_1), (4, .int v21)]) rfl (ih4 _ (by omega) σ20 v21 w20 (by omega) (by rw [gB.2, gA.2]; exact hs_4) (by have cv := cnat (x := v21) (by omega); rw [esw]; exact INS_sw hJ_4 (by omega) (by omega) (by omega) ltw (by omega)) (by rw [esw]; exact PRM_t hP_4 (sw_prm _ (by omega) (by omega))) rfl)
      exact go_lv (lv' := [(0, .ref (L.2.1 11)), (1, .ref (L.2.1 33)), (2, .int (-1 : Int32)), (3, .int x3_1), (4, .int x3_1)]) rfl (loop13_4 _ σ1 x3_1 w1 (by omega) hs_1 (INS_0 hS_1 hT_1) hP_1 rfl)
  exact go_lv (lv' := [(0, .ref (L.2.1 11)), (1, .ref (L.2.1 33)), (2, .int (-1 : Int32)), (3, .int (1 : Int32))]) rfl (loop2_1 _ σ (1 : Int32) w0 (by omega) rfl (fun p q hp hq => by exfalso; rw [one] at hq; omega) ht (PRM_r _ _) rfl)
set_option maxHeartbeats 4000000 in
set_option maxRecDepth 100000 in
theorem f_X7_isFree (l : Launch) (L : WL) (σ : ST)  (ix : IV σ) : CtI l L yX7_isFree cX7_isFree 4 (some .boolean) rm_X7_isFree [.ref (L.2.1 11), .ref (L.2.1 3)] σ (fun r σ2 => σ2 = σ ∧ bq (∀ i j : Nat, i < (σ.1 18).toNatClampNeg → j < (σ.1 18).toNatClampNeg → i ≠ j → ¬ AH σ (rwX σ i) (rwX σ j)) r) := by
  refine ctI_go (own := RX7) (by decide) rfl (Nat.le_of_ble_eq_true rfl) (fun F hF => ?_)
  subst hF
  have n0 : (0 : Int32).toInt = 0 := by decide
  have n1 : (1 : Int32).toInt = 1 := by decide
  have w0 : WX σ σ := WX_rfl ix
  have u18 := ixi_18 ix
  have c18 := cnat u18.1
  have z0 : (0 : Int32).toNatClampNeg = 0 := rfl
  refine go_iconst (v := 0) (pc' := 1) dX7_isFree_0 rfl (by decide) ?_
  refine go_istore_n (i := 2) (pc' := 2) dX7_isFree_1 rfl rfl (by decide) ?_
  have loop2_1 : ∀ (dd1 : Nat) (x2_1 : Int32), (0 ≤ (x2_1).toInt ∧ (x2_1).toInt ≤ (σ.1 18).toInt) → (∀ p q : Nat, (p < (x2_1).toNatClampNeg ∨ (p = (x2_1).toNatClampNeg ∧ q < 0)) → q < (σ.1 18).toNatClampNeg → p ≠ q → ¬ AH σ (rwX σ p) (rwX σ q)) → (8 - (x2_1).toInt).toNat = dd1 → Go F L RX7 cX7_isFree 4 rm_X7_isFree (some .boolean) (RI F L (fun r σ2 => σ2 = σ ∧ bq (∀ i j : Nat, i < (σ.1 18).toNatClampNeg → j < (σ.1 18).toNatClampNeg → i ≠ j → ¬ AH σ (rwX σ i) (rwX σ j)) r)) σ 2 [(0, .ref (L.2.1 11)), (1, .ref (L.2.1 3)), (2, .int x2_1)] [] := by
    intro dd1
    induction dd1 using Nat.strongRecOn with
    | _ dd1 ih1 =>
      intro x2_1 h_1 hf_1 hm_1
      refine go_iload_n (i := 2) (pc' := 3) dX7_isFree_2 rfl rfl rfl ?_
      refine go_aload_n (i := 0) (pc' := 4) dX7_isFree_3 rfl rfl rfl ?_
      refine gf_11_size (pc' := 7) dX7_isFree_4 rfl fl_X7_17 ?_
      have g2 := ixi_18 w0.1
      refine gz_icmp_ge (tgt := 58) (pc' := 10) dX7_isFree_7 rfl (by decide) (fun c3 => ?_) (fun c3 => ?_)
      · refine go_iconst (v := 1) (pc' := 59) dX7_isFree_58 rfl (by decide) ?_
        exact go_zret dX7_isFree_59 rfl rfl (⟨rfl, bq_t (fun i j hi hj ne => hf_1 i j (by have cv := cnat (x := x2_1) (by omega); omega) hj ne)⟩)
      have c2 := cnat (x := x2_1) (by omega)
      refine go_iconst (v := 0) (pc' := 11) dX7_isFree_10 rfl (by decide) ?_
      refine go_istore_n (i := 3) (pc' := 12) dX7_isFree_11 rfl rfl (by decide) ?_
      have loop12_4 : ∀ (dd4 : Nat) (x3_4 : Int32), (0 ≤ (x3_4).toInt ∧ (x3_4).toInt ≤ (σ.1 18).toInt) → (∀ p q : Nat, (p < (x2_1).toNatClampNeg ∨ (p = (x2_1).toNatClampNeg ∧ q < (x3_4).toNatClampNeg)) → q < (σ.1 18).toNatClampNeg → p ≠ q → ¬ AH σ (rwX σ p) (rwX σ q)) → (8 - (x3_4).toInt).toNat = dd4 → Go F L RX7 cX7_isFree 4 rm_X7_isFree (some .boolean) (RI F L (fun r σ2 => σ2 = σ ∧ bq (∀ i j : Nat, i < (σ.1 18).toNatClampNeg → j < (σ.1 18).toNatClampNeg → i ≠ j → ¬ AH σ (rwX σ i) (rwX σ j)) r)) σ 12 [(0, .ref (L.2.1 11)), (1, .ref (L.2.1 3)), (2, .int x2_1), (3, .int x3_4)] [] := by
        intro dd4
        induction dd4 using Nat.strongRecOn with
        | _ dd4 ih4 =>
          intro x3_4 h_4 hf_4 hm_4
          refine go_iload_n (i := 3) (pc' := 13) dX7_isFree_12 rfl rfl rfl ?_
          refine go_aload_n (i := 0) (pc' := 14) dX7_isFree_13 rfl rfl rfl ?_
          refine gf_11_size (pc' := 17) dX7_isFree_14 rfl fl_X7_17 ?_
          have g5 := ixi_18 w0.1
          refine gz_icmp_ge (tgt := 52) (pc' := 20) dX7_isFree_17 rfl (by decide) (fun c6 => ?_) (fun c6 => ?_)
          · refine gz_iinc (c := 1) (pc' := 55) dX7_isFree_52 rfl rfl (by decide) (by decide) (by decide) (by omega) (fun v7 h7 e7 => ?_)
            refine go_goto (tgt := 2) dX7_isFree_55 (by decide) ?_
            exact go_lv (lv' := [(0, .ref (L.2.1 11)), (1, .ref (L.2.1 3)), (2, .int v7)]) rfl (ih1 _ (by omega)  v7 (by omega) (by have cv := cnat (x := v7) (by omega); have c3 := cnat (x := x3_4) (by omega); exact fun p q h1 h2 h3 => hf_4 p q (by omega) h2 h3) rfl)
          have c3 := cnat (x := x3_4) (by omega)
          refine go_iload_n (i := 2) (pc' := 21) dX7_isFree_20 rfl rfl rfl ?_
          refine go_iload_n (i := 3) (pc' := 22) dX7_isFree_21 rfl rfl rfl ?_
          refine gz_icmp_eq (tgt := 46) (pc' := 25) dX7_isFree_22 rfl (by decide) (fun c8 => ?_) (fun c8 => ?_)
          · refine gz_iinc (c := 1) (pc' := 49) dX7_isFree_46 rfl rfl (by decide) (by decide) (by decide) (by omega) (fun v9 h9 e9 => ?_)
            refine go_goto (tgt := 12) dX7_isFree_49 (by decide) ?_
            exact go_lv (lv' := [(0, .ref (L.2.1 11)), (1, .ref (L.2.1 3)), (2, .int x2_1), (3, .int v9)]) rfl (ih4 _ (by omega)  v9 (by omega) (by
              have cv := cnat (x := v9) (by omega)
              exact fun p q h1 h2 h3 => by
                by_cases d : p = (x2_1).toNatClampNeg ∧ q = (x3_4).toNatClampNeg
                · rw [d.1, d.2] at h3 ⊢
                  first
                  | exact c8
                  | (exfalso; omega)
                · exact hf_4 p q (by omega) h2 h3) rfl)
          refine go_aload_n (i := 1) (pc' := 26) dX7_isFree_25 rfl rfl rfl ?_
          refine go_aload_n (i := 0) (pc' := 27) dX7_isFree_26 rfl rfl rfl ?_
          refine gf_11_row (pc' := 30) dX7_isFree_27 rfl fl_X7_9 ?_
          refine go_iload_n (i := 2) (pc' := 31) dX7_isFree_30 rfl rfl rfl ?_
          refine go_iald (pc' := 32) dX7_isFree_31 rfl (by decide) (by decide) rfl (vin_of (n := 8) (by omega) (by omega)) ?_
          refine go_rngA (ixa_54 w0.1) (vinlt (vin_of (n := 8) (by omega) (by omega))) (fun g10 => ?_)
          refine go_aload_n (i := 0) (pc' := 33) dX7_isFree_32 rfl rfl rfl ?_
          refine gf_11_row (pc' := 36) dX7_isFree_33 rfl fl_X7_9 ?_
          refine go_iload_n (i := 3) (pc' := 37) dX7_isFree_36 rfl rfl rfl ?_
          refine go_iald (pc' := 38) dX7_isFree_37 rfl (by decide) (by decide) rfl (vin_of (n := 8) (by omega) (by omega)) ?_
          refine go_rngA (ixa_54 w0.1) (vinlt (vin_of (n := 8) (by omega) (by omega))) (fun g11 => ?_)
          refine go_cvi (pc' := 41) lk_X7_39 (f_X0_isAhead _ _ _ _ _ (by omega) (by omega) w0.1) rfl rfl (Nat.le_of_ble_eq_true rfl) (by decide) rfl rfl rfl ⟨Nat.le_of_ble_eq_true rfl, Nat.le_of_ble_eq_true rfl⟩ ⟨rfl, rfl⟩ dX7_isFree_38 rfl (fun r12 σ12 h12 => ?_)
          obtain ⟨e12, h12⟩ := h12
          have e12 := e12.symm
          subst e12
          refine go_eqB (tgt := 46) (pc' := 44) h12 dX7_isFree_41 rfl (by decide) (fun c13 => ?_) (fun c13 => ?_)
          · refine gz_iinc (c := 1) (pc' := 49) dX7_isFree_46 rfl rfl (by decide) (by decide) (by decide) (by omega) (fun v14 h14 e14 => ?_)
            refine go_goto (tgt := 12) dX7_isFree_49 (by decide) ?_
            exact go_lv (lv' := [(0, .ref (L.2.1 11)), (1, .ref (L.2.1 3)), (2, .int x2_1), (3, .int v14)]) rfl (ih4 _ (by omega)  v14 (by omega) (by
              have cv := cnat (x := v14) (by omega)
              exact fun p q h1 h2 h3 => by
                by_cases d : p = (x2_1).toNatClampNeg ∧ q = (x3_4).toNatClampNeg
                · rw [d.1, d.2] at h3 ⊢
                  first
                  | exact c13
                  | (exfalso; omega)
                · exact hf_4 p q (by omega) h2 h3) rfl)
          refine go_iconst (v := 0) (pc' := 45) dX7_isFree_44 rfl (by decide) ?_
          exact go_zret dX7_isFree_45 rfl rfl (⟨rfl, bq_f (fun q => q (x2_1).toNatClampNeg (x3_4).toNatClampNeg (by omega) (by omega) (by omega) c13)⟩)
      exact go_lv (lv' := [(0, .ref (L.2.1 11)), (1, .ref (L.2.1 3)), (2, .int x2_1), (3, .int (0 : Int32))]) rfl (loop12_4 _  (0 : Int32) (by omega) (fun p q h => by rw [z0] at h; exact hf_1 p q h) rfl)
  exact go_lv (lv' := [(0, .ref (L.2.1 11)), (1, .ref (L.2.1 3)), (2, .int (0 : Int32))]) rfl (loop2_1 _  (0 : Int32) (by omega) (fun p q h => by exfalso; rw [z0] at h; omega) rfl)
set_option maxHeartbeats 4000000 in
set_option maxRecDepth 100000 in
theorem f_X7_arrange (l : Launch) (L : WL) (σ : ST) (a : Int32) (hx : 0 ≤ a.toInt ∧ a.toInt < 4096) (hc : cntb (a).toNatClampNeg 12 ≤ 8) (hd : ∀ j : Nat, SB (a).toNatClampNeg j → 0 ≤ lowX σ j ∧ lowX σ j ≤ 9999) (ix : IV σ) : CtV l L yX7_arrange cX7_arrange 4 none rm_X7_arrange [.ref (L.2.1 11), .int a, .ref (L.2.1 3)] σ (fun σ2 => WXu σ σ2 ∧ (σ2.1 18).toNatClampNeg = cntb (a).toNatClampNeg 12 ∧ ARR (SB (a).toNatClampNeg) (lowX σ) (AH σ) (σ2.1 18).toNatClampNeg (σ2.1 17).toInt (rwX σ2)) := by
  refine ctV_go (own := RX7) (by decide) rfl (Nat.le_of_ble_eq_true rfl) (fun F hF => ?_)
  subst hF
  have nm1 : (-1 : Int32).toInt = -1 := by decide
  have n0 : (0 : Int32).toInt = 0 := by decide
  have n1 : (1 : Int32).toInt = 1 := by decide
  have w0 : WXu σ σ := WXu_rfl ix
  have ca := cnat hx.1
  have xp : (a).toNatClampNeg < 2 ^ 12 := by
    have p4 : (2 : Nat) ^ 12 = 4096 := rfl
    omega
  have z0 : (0 : Int32).toNatClampNeg = 0 := rfl
  refine go_aload_n (i := 0) (pc' := 1) dX7_arrange_0 rfl rfl rfl ?_
  refine go_iload_n (i := 1) (pc' := 2) dX7_arrange_1 rfl rfl rfl ?_
  refine go_cvv (pc' := 5) lk_X7_20 (f_X7_collect _ _ _ _ hx hc w0.1) rfl rfl (Nat.le_of_ble_eq_true rfl) (by decide) rfl rfl rfl ⟨Nat.le_of_ble_eq_true rfl, Nat.le_of_ble_eq_true rfl⟩ ⟨rfl, rfl⟩ dX7_arrange_2 rfl (fun σ1 h1 => ?_)
  obtain ⟨u1, h1⟩ := h1
  have w1 := WXu_trans w0 u1
  have hc0 := h1
  have hf0 := LSI_LSF hc0 xp
  refine go_aload_n (i := 0) (pc' := 6) dX7_arrange_5 rfl rfl rfl ?_
  refine go_iconst (v := 0) (pc' := 7) dX7_arrange_6 rfl (by decide) ?_
  refine pf_11_jumps (pc' := 10) dX7_arrange_7 rfl fl_X7_13 ?_
  refine go_gen (P := fun s => WXu σ s ∧ (s.1 17 = (0 : Int32) ∧ s.1 18 = σ1.1 18) ∧ s.2 = σ1.2) ⟨⟨ixs_n w1.1 (by decide), Ag_setI w1.2 (by decide)⟩, ⟨⟨setI_same _ _ _, setI_ne (a := 18) _ _ _ (by decide)⟩, rfl⟩⟩ (fun σ2 z2 => ?_)
  obtain ⟨w2, g2⟩ := z2
  have g7 := g2
  refine go_aload_n (i := 0) (pc' := 11) dX7_arrange_10 rfl rfl rfl ?_
  refine gf_11_size (pc' := 14) dX7_arrange_11 rfl fl_X7_17 ?_
  have g3 := ixi_18 w2.1
  refine gz_if_ne (tgt := 18) (pc' := 17) dX7_arrange_14 rfl (by decide) (fun c4 => ?_) (fun c4 => ?_)
  · have er7 : rwX σ2 = rwX σ1 := by
      unfold rwX
      rw [g7.2]
    have c7 := cnat (x := σ2.1 18) (ixi_18 w2.1).1
    have u7 := ixi_18 w2.1
    have lw7 := low_u w2
    have hr7 : HASR (SB (a).toNatClampNeg) (σ2.1 18).toNatClampNeg (rwX σ2) := by
      rw [er7, g7.1.2]
      exact hf0.1
    have t24 : TIE (lowX σ2) (rwX σ2) (σ2.1 18).toNatClampNeg := by
      rw [er7, g7.1.2]
      exact fun p q hp hq _ => hf0.2 p q hp hq
    have d24 : RNG (lowX σ2) (rwX σ2) (σ2.1 18).toNatClampNeg := by
      rw [lw7]
      exact fun p hp => hd _ (hr7.1 p hp)
    refine go_aload_n (i := 0) (pc' := 19) dX7_arrange_18 rfl rfl rfl ?_
    refine go_aload_n (i := 2) (pc' := 20) dX7_arrange_19 rfl rfl rfl ?_
    refine gf_3_lows (pc' := 23) dX7_arrange_20 rfl fl_X7_24 ?_
    refine go_iconst (v := 1) (pc' := 24) dX7_arrange_23 rfl (by decide) ?_
    refine go_cvv (pc' := 27) lk_X7_29 (f_X7_sort_1 _ _ _ t24 d24 w2.1) rfl rfl (Nat.le_of_ble_eq_true rfl) (by decide) rfl rfl rfl ⟨Nat.le_of_ble_eq_true rfl, Nat.le_of_ble_eq_true rfl⟩ ⟨rfl, rfl⟩ dX7_arrange_24 rfl (fun σ5 h5 => ?_)
    obtain ⟨u5, h5⟩ := h5
    have w5 := WXu_trans w2 u5
    have s24 := h5
    have e33 : σ5.2 33 = σ.2 33 := w5.2.2 33 (by decide)
    have k24 := congrArg Int32.toInt (congrFun s24.1 18)
    refine go_aload_n (i := 0) (pc' := 28) dX7_arrange_27 rfl rfl rfl ?_
    refine go_aload_n (i := 2) (pc' := 29) dX7_arrange_28 rfl rfl rfl ?_
    refine gf_3_lows (pc' := 32) dX7_arrange_29 rfl fl_X7_24 ?_
    refine go_aload_n (i := 0) (pc' := 33) dX7_arrange_32 rfl rfl rfl ?_
    refine gf_11_row (pc' := 36) dX7_arrange_33 rfl fl_X7_9 ?_
    refine go_aload_n (i := 0) (pc' := 37) dX7_arrange_36 rfl rfl rfl ?_
    refine gf_11_size (pc' := 40) dX7_arrange_37 rfl fl_X7_17 ?_
    have g6 := ixi_18 w5.1
    refine go_iconst (v := 1) (pc' := 41) dX7_arrange_40 rfl (by decide) ?_
    refine gz_isub (pc' := 42) dX7_arrange_41 rfl (by omega) (fun v7 h7 e7 => ?_)
    refine go_iald (pc' := 43) dX7_arrange_42 rfl (by decide) (by decide) rfl (vin_of (n := 8) (by omega) (by omega)) ?_
    refine go_rngA (ixa_54 w5.1) (vinlt (vin_of (n := 8) (by omega) (by omega))) (fun g8 => ?_)
    refine go_iald (pc' := 44) dX7_arrange_43 rfl (by decide) (by decide) rfl (vin_of (n := 12) (by omega) (by omega)) ?_
    refine go_aload_n (i := 2) (pc' := 45) dX7_arrange_44 rfl rfl rfl ?_
    refine gf_3_lows (pc' := 48) dX7_arrange_45 rfl fl_X7_24 ?_
    refine go_aload_n (i := 0) (pc' := 49) dX7_arrange_48 rfl rfl rfl ?_
    refine gf_11_row (pc' := 52) dX7_arrange_49 rfl fl_X7_9 ?_
    refine go_iconst (v := 0) (pc' := 53) dX7_arrange_52 rfl (by decide) ?_
    refine go_iald (pc' := 54) dX7_arrange_53 rfl (by decide) (by decide) rfl (vin_of (n := 8) (by omega) (by omega)) ?_
    refine go_rngA (ixa_54 w5.1) (vinlt (vin_of (n := 8) (by omega) (by omega))) (fun g9 => ?_)
    refine go_iald (pc' := 55) dX7_arrange_54 rfl (by decide) (by decide) rfl (vin_of (n := 12) (by omega) (by omega)) ?_
    have cS := cnat (x := σ5.1 18) (by omega)
    have ji : (v7).toNatClampNeg = (σ5.1 18).toNatClampNeg - 1 := by
      have z := cnat (x := v7) (by omega)
      omega
    have a1 : ((σ5.2 33 ((σ5.2 54 (v7).toNatClampNeg)).toNatClampNeg)).toInt = lowX σ (rwX σ5 ((σ5.1 18).toNatClampNeg - 1)) := by
      unfold lowX rwX
      rw [← ji, ← e33]
    have a2 : ((σ5.2 33 ((σ5.2 54 ((0 : Int32)).toNatClampNeg)).toNatClampNeg)).toInt = lowX σ (rwX σ5 0) := by
      unfold lowX rwX
      rw [← e33, z0]
    have rgS : RNG (lowX σ) (rwX σ5) (σ5.1 18).toNatClampNeg := by
      rw [s24.1, ← lw7]
      exact RNG_p s24.2.2 d24
    have r1 := rgS ((σ5.1 18).toNatClampNeg - 1) (by omega)
    have r2 := rgS 0 (by omega)
    refine gz_isub (pc' := 56) dX7_arrange_55 rfl (by omega) (fun v10 h10 e10 => ?_)
    refine pf_11_jumps (pc' := 59) dX7_arrange_56 rfl fl_X7_13 ?_
    refine go_gen (P := fun s => WXu σ s ∧ (s.1 17 = v10 ∧ s.1 18 = σ5.1 18) ∧ s.2 = σ5.2) ⟨⟨ixs_n w5.1 (by decide), Ag_setI w5.2 (by decide)⟩, ⟨⟨setI_same _ _ _, setI_ne (a := 18) _ _ _ (by decide)⟩, rfl⟩⟩ (fun σ11 z11 => ?_)
    obtain ⟨w11, g11⟩ := z11
    have g56 := g11
    have k56 : σ11.1 18 = σ2.1 18 := g56.1.2.trans (congrFun s24.1 18)
    have erD : rwX σ11 = rwX σ5 := by
      unfold rwX
      rw [g56.2]
    have hsrt : SRT (lowX σ) 1 (rwX σ11) (σ11.1 18).toNatClampNeg := by
      rw [erD, k56, ← lw7]
      exact s24.2.1
    have hrr : HASR (SB (a).toNatClampNeg) (σ11.1 18).toNatClampNeg (rwX σ11) := by
      rw [erD, k56]
      exact HASR_p hr7 s24.2.2
    have h0m : 0 < (σ11.1 18).toNatClampNeg := by
      rw [k56]
      omega
    have hj : (σ11.1 17).toInt = lowX σ (rwX σ11 ((σ11.1 18).toNatClampNeg - 1)) - lowX σ (rwX σ11 0) := by
      rw [g56.1.1, erD, g56.1.2]
      omega
    have hJ : JPA (SB (a).toNatClampNeg) (lowX σ) (σ11.1 17).toInt := JPA_up hsrt hrr h0m hj
    have cnt : (σ11.1 18).toNatClampNeg = cntb (a).toNatClampNeg 12 := by
      rw [k56, g7.1.2]
      exact hc0.1
    have lwD := low_u w11
    have ahD := AH_u w11
    have gD := ixa_54 w11.1 0 (by decide)
    refine go_aload_n (i := 0) (pc' := 60) dX7_arrange_59 rfl rfl rfl ?_
    refine gf_11_row (pc' := 63) dX7_arrange_60 rfl fl_X7_9 ?_
    refine go_iconst (v := 0) (pc' := 64) dX7_arrange_63 rfl (by decide) ?_
    refine go_iald (pc' := 65) dX7_arrange_64 rfl (by decide) (by decide) rfl (vin_of (n := 8) (by omega) (by omega)) ?_
    refine go_rngA (ixa_54 w11.1) (vinlt (vin_of (n := 8) (by omega) (by omega))) (fun g12 => ?_)
    refine go_topz (fun y13 h13 e13 => ?_)
    refine go_istore_n (i := 3) (pc' := 66) dX7_arrange_65 rfl rfl (by decide) ?_
    refine go_aload_n (i := 0) (pc' := 67) dX7_arrange_66 rfl rfl rfl ?_
    refine go_aload_n (i := 2) (pc' := 68) dX7_arrange_67 rfl rfl rfl ?_
    refine go_cvi (pc' := 71) lk_X7_33 (f_X7_isFree _ _ _ w11.1) rfl rfl (Nat.le_of_ble_eq_true rfl) (by decide) rfl rfl rfl ⟨Nat.le_of_ble_eq_true rfl, Nat.le_of_ble_eq_true rfl⟩ ⟨rfl, rfl⟩ dX7_arrange_68 rfl (fun r14 σ14 h14 => ?_)
    obtain ⟨e14, h14⟩ := h14
    have e14 := e14.symm
    subst e14
    refine go_eqB (tgt := 102) (pc' := 74) h14 dX7_arrange_71 rfl (by decide) (fun c15 => ?_) (fun c15 => ?_)
    · exact go_vret dX7_arrange_102 rfl (⟨w11, cnt, hJ, Or.inr ⟨hrr, Or.inl ⟨hsrt, Or.inl (fun f => c15 (by rw [ahD]; exact (FREE_row hsrt hrr).mpr f))⟩⟩⟩)
    have hfree : FREE (SB (a).toNatClampNeg) (AH σ) := (FREE_row hsrt hrr).mp (by rw [← ahD]; exact c15)
    have t80 : TIE (lowX σ11) (rwX σ11) (σ11.1 18).toNatClampNeg := by rw [lwD]; exact SRT_TIE hsrt
    have d80 : RNG (lowX σ11) (rwX σ11) (σ11.1 18).toNatClampNeg := by rw [lwD]; exact fun p hp => hd _ (hrr.1 p hp)
    refine go_aload_n (i := 0) (pc' := 75) dX7_arrange_74 rfl rfl rfl ?_
    refine go_aload_n (i := 2) (pc' := 76) dX7_arrange_75 rfl rfl rfl ?_
    refine gf_3_lows (pc' := 79) dX7_arrange_76 rfl fl_X7_24 ?_
    refine go_iconst (v := (-1)) (pc' := 80) dX7_arrange_79 rfl (by decide) ?_
    refine go_cvv (pc' := 83) lk_X7_29 (f_X7_sort_m _ _ _ t80 d80 w11.1) rfl rfl (Nat.le_of_ble_eq_true rfl) (by decide) rfl rfl rfl ⟨Nat.le_of_ble_eq_true rfl, Nat.le_of_ble_eq_true rfl⟩ ⟨rfl, rfl⟩ dX7_arrange_80 rfl (fun σ16 h16 => ?_)
    obtain ⟨u16, h16⟩ := h16
    have w16 := WXu_trans w11 u16
    have s80 := h16
    have h2s : SRT (lowX σ) (-1) (rwX σ16) (σ11.1 18).toNatClampNeg := by
      rw [← lwD]
      exact s80.2.1
    have h2r := HASR_p hrr s80.2.2
    have gE := ixa_54 w16.1 0 (by decide)
    have hy3 : (y13) = σ11.2 54 ((0 : Int32)).toNatClampNeg := by first | rfl | assumption
    refine go_iload_n (i := 3) (pc' := 84) dX7_arrange_83 rfl rfl rfl ?_
    refine go_aload_n (i := 0) (pc' := 85) dX7_arrange_84 rfl rfl rfl ?_
    refine gf_11_row (pc' := 88) dX7_arrange_85 rfl fl_X7_9 ?_
    refine go_iconst (v := 0) (pc' := 89) dX7_arrange_88 rfl (by decide) ?_
    refine go_iald (pc' := 90) dX7_arrange_89 rfl (by decide) (by decide) rfl (vin_of (n := 8) (by omega) (by omega)) ?_
    refine go_rngA (ixa_54 w16.1) (vinlt (vin_of (n := 8) (by omega) (by omega))) (fun g17 => ?_)
    refine gz_icmp_ge (tgt := 102) (pc' := 93) dX7_arrange_90 rfl (by decide) (fun c18 => ?_) (fun c18 => ?_)
    · exact go_vret dX7_arrange_102 rfl (by
          refine ⟨w16, ?_⟩
          rw [s80.1]
          rw [hy3, z0] at c18
          have le : rwX σ16 0 ≤ rwX σ11 0 := by
            unfold rwX
            have y1 := cnat gD.1
            have y2 := cnat gE.1
            omega
          exact ⟨cnt, hJ, Or.inr (ORW_b hsrt hrr h2s h2r hfree h0m le)⟩)
    have lwE := low_u w16
    have t99 : TIE (lowX σ16) (rwX σ16) (σ16.1 18).toNatClampNeg := by rw [lwE, s80.1]; exact SRT_TIE h2s
    have d99 : RNG (lowX σ16) (rwX σ16) (σ16.1 18).toNatClampNeg := by rw [lwE, s80.1]; exact fun p hp => hd _ (h2r.1 p hp)
    refine go_aload_n (i := 0) (pc' := 94) dX7_arrange_93 rfl rfl rfl ?_
    refine go_aload_n (i := 2) (pc' := 95) dX7_arrange_94 rfl rfl rfl ?_
    refine gf_3_lows (pc' := 98) dX7_arrange_95 rfl fl_X7_24 ?_
    refine go_iconst (v := 1) (pc' := 99) dX7_arrange_98 rfl (by decide) ?_
    refine go_cvv (pc' := 102) lk_X7_29 (f_X7_sort_1 _ _ _ t99 d99 w16.1) rfl rfl (Nat.le_of_ble_eq_true rfl) (by decide) rfl rfl rfl ⟨Nat.le_of_ble_eq_true rfl, Nat.le_of_ble_eq_true rfl⟩ ⟨rfl, rfl⟩ dX7_arrange_99 rfl (fun σ19 h19 => ?_)
    obtain ⟨u19, h19⟩ := h19
    have w19 := WXu_trans w16 u19
    have s99 := h19
    exact go_vret dX7_arrange_102 rfl (by
        refine ⟨w19, ?_⟩
        rw [s99.1, s80.1]
        rw [hy3, z0] at c18
        have lt : rwX σ11 0 < rwX σ16 0 := by
          unfold rwX
          have y1 := cnat gD.1
          have y2 := cnat gE.1
          omega
        exact ⟨cnt, hJ, Or.inr (ORW_c hsrt hrr h2s h2r (by rw [← lwE, ← s80.1]; exact s99.2.1) (HASR_p h2r (by rw [← s80.1]; exact s99.2.2)) h0m lt)⟩)
  exact go_vret dX7_arrange_17 rfl (⟨w2, by rw [g7.1.2]; exact hc0.1, ARR_0 (by rw [(show rwX σ2 = rwX σ1 from by unfold rwX; rw [g7.2]), g7.1.2]; exact hf0.1) (by have z := cnat (x := σ2.1 18) (by omega); omega) (by rw [g7.1.1]; exact n0)⟩)
set_option maxHeartbeats 4000000 in
set_option maxRecDepth 100000 in
theorem f_X11_arrange (l : Launch) (L : WL) (σ : ST) (a : Int32) (ok : OKS a (σ.1 3)) (ix : IV σ) (fd : FDX σ) : CtI l L yX11_arrange cX11_arrange 2 (some .boolean) rm_X11_arrange [.ref (L.2.1 0), .int a] σ (fun r σ2 => WX σ σ2 ∧ AXP (FSX σ (kpF (allS (σ.1 4)))) (σ.1 3).toInt (SB (a).toNatClampNeg) (EdX σ (kpF (allS (σ.1 4)))) (rtX σ) (cntb (a).toNatClampNeg 12) σ2 r) := by
  refine ctI_go (own := RX11) (by decide) rfl (Nat.le_of_ble_eq_true rfl) (fun F hF => ?_)
  subst hF
  have n0 : (0 : Int32).toInt = 0 := by decide
  have n1 : (1 : Int32).toInt = 1 := by decide
  have w0 : WX σ σ := WX_rfl ix
  have gl := ixi_3 ix
  have gb := ixi_4 ix
  have cN := cnat gl.1
  have hx := OKS_x gl ok
  refine go_aload_n (i := 0) (pc' := 1) dX11_arrange_0 rfl rfl rfl ?_
  refine gf_0_calendar (pc' := 4) dX11_arrange_1 rfl fl_X11_26 ?_
  refine go_aload_n (i := 0) (pc' := 5) dX11_arrange_4 rfl rfl rfl ?_
  refine gf_0_letters (pc' := 8) dX11_arrange_5 rfl fl_X11_19 ?_
  refine go_cvi (pc' := 11) lk_X11_171 (f_X0_settle _ _ _ w0.1 fd) rfl rfl (Nat.le_of_ble_eq_true rfl) (by decide) rfl rfl rfl ⟨Nat.le_of_ble_eq_true rfl, Nat.le_of_ble_eq_true rfl⟩ ⟨rfl, rfl⟩ dX11_arrange_8 rfl (fun r1 σ1 h1 => ?_)
  obtain ⟨u1, h1⟩ := h1
  have w1 := WX_trans w0 u1
  have st := h1
  have us := u1
  refine gz_if_ne (tgt := 16) (pc' := 14) dX11_arrange_11 rfl (by decide) (fun c2 => ?_) (fun c2 => ?_)
  · have sg := (st.resolve_left (fun q => c2 q.1)).2
    have sd := SD_WX us
    refine go_aload_n (i := 0) (pc' := 17) dX11_arrange_16 rfl rfl rfl ?_
    refine gf_0_calendar (pc' := 20) dX11_arrange_17 rfl fl_X11_26 ?_
    refine go_aload_n (i := 0) (pc' := 21) dX11_arrange_20 rfl rfl rfl ?_
    refine gf_0_letters (pc' := 24) dX11_arrange_21 rfl fl_X11_19 ?_
    refine gf_2_size (pc' := 27) dX11_arrange_24 rfl fl_X11_185 ?_
    have g3 := ixi_3 w1.1
    refine go_cvv (pc' := 30) lk_X11_188 (f_X0_measurePaths (kp := kpF (allS (σ.1 4))) _ _ _ _ rfl (σ.1 3).toNatClampNeg (by rw [sd.1]; omega) w1.1 (FD_e sd fd) sg.1 (fun k hk => kp_allN (by omega) (by rw [sd.2.1] at hk; exact hk)) ((FSX_e sd).mpr sg.2.1)) rfl rfl (Nat.le_of_ble_eq_true rfl) (by decide) rfl rfl rfl ⟨Nat.le_of_ble_eq_true rfl, Nat.le_of_ble_eq_true rfl⟩ ⟨rfl, rfl⟩ dX11_arrange_27 rfl (fun σ4 h4 => ?_)
    obtain ⟨u4, h4⟩ := h4
    have w4 := WX_trans w1 (WXq_WX u4)
    have mp := h4
    have um := u4
    have el : lowX σ4 = lowX σ1 := by
      unfold lowX
      rw [um.2.2 33 (by decide)]
    have hdS : ∀ j : Nat, (SB (a).toNatClampNeg) j → 0 ≤ lowX σ4 j ∧ lowX σ4 j ≤ 9999 := fun j hj => by
      rw [el]
      have lt := OKS_lt ok gl.1 hj
      have q := sg.2.1.1 j lt
      have g8 := ixa_28 ix j (by omega)
      have g9 := ixa_29 ix j (by omega)
      omega
    refine go_aload_n (i := 0) (pc' := 31) dX11_arrange_30 rfl rfl rfl ?_
    refine gf_0_sequence (pc' := 34) dX11_arrange_31 rfl fl_X11_78 ?_
    refine go_iload_n (i := 1) (pc' := 35) dX11_arrange_34 rfl rfl rfl ?_
    refine go_aload_n (i := 0) (pc' := 36) dX11_arrange_35 rfl rfl rfl ?_
    refine gf_0_calendar (pc' := 39) dX11_arrange_36 rfl fl_X11_26 ?_
    refine go_cvv (pc' := 42) lk_X11_338 (f_X7_arrange _ _ _ _ hx ok.2 hdS w4.1) rfl rfl (Nat.le_of_ble_eq_true rfl) (by decide) rfl rfl rfl ⟨Nat.le_of_ble_eq_true rfl, Nat.le_of_ble_eq_true rfl⟩ ⟨rfl, rfl⟩ dX11_arrange_39 rfl (fun σ5 h5 => ?_)
    obtain ⟨u5, h5⟩ := h5
    have w5 := WX_trans w4 (WXu_WX u5)
    have ar := h5
    refine go_iconst (v := 1) (pc' := 43) dX11_arrange_42 rfl (by decide) ?_
    exact go_zret dX11_arrange_43 rfl rfl (by
        have k3 := congrArg Int32.toInt sd.1
        have er : ∀ q : Nat, rtX σ1 q = rtX σ q := fun q => by
          unfold rtX
          rw [sd.2.2.2.2.2.1]
        have key : ∀ i j : Nat, (SB (a).toNatClampNeg) i → (SB (a).toNatClampNeg) j → (AH σ4 i j ↔ BFx (EdX σ (kpF (allS (σ.1 4)))) (rtX σ) (lowX σ1) (higX σ1) i j) := fun i j hi hj => by
          have li := OKS_lt ok gl.1 hi
          have lj := OKS_lt ok gl.1 hj
          have ra := rts_n sg.1 (j := i) (by omega)
          have rb := rts_n sg.1 (j := j) (by omega)
          have fa := (fd.1 i (by omega)).1
          have fb := (fd.1 j (by omega)).1
          unfold AH BFx
          rw [um.2.2 33 (by decide), um.2.2 34 (by decide), um.2.2 38 (by decide), ra, rb, er, er, mp _ _ (by omega) (by omega), EdX_e sd]
          exact Iff.rfl
        exact ⟨w5, Or.inr ⟨n1, _, _, sg.2, ar.1, ARR_cg (fun j _ => congrFun el j) key ar.2⟩⟩)
  refine go_iconst (v := 0) (pc' := 15) dX11_arrange_14 rfl (by decide) ?_
  exact go_zret dX11_arrange_15 rfl rfl (⟨w1, Or.inl ⟨n0, (st.resolve_right (fun q => by have := q.1; omega)).2⟩⟩)
set_option maxHeartbeats 4000000 in
set_option maxRecDepth 100000 in
theorem f_X11_jumps (l : Launch) (L : WL) (σ : ST) (a : Int32) (ix : IV σ) (fd : FDX σ) : CtI l L yX11_jumps cX11_jumps 2 (some .int) rm_X11_jumps [.ref (L.2.1 0), .int a] σ (fun r σ2 => tX_jumps σ a r σ2) := by
  refine ctI_go (own := RX11) (by decide) rfl (Nat.le_of_ble_eq_true rfl) (fun F hF => ?_)
  subst hF
  have nm2 : (-2 : Int32).toInt = -2 := by decide
  have nm1 : (-1 : Int32).toInt = -1 := by decide
  have w0 : WX σ σ := WX_rfl ix
  have gl := ixi_3 ix
  refine go_aload_n (i := 0) (pc' := 1) dX11_jumps_0 rfl rfl rfl ?_
  refine go_iload_n (i := 1) (pc' := 2) dX11_jumps_1 rfl rfl rfl ?_
  refine go_cvi (pc' := 5) lk_X11_280 (b_X11_isOrderable _ _ _ _ w0.1) rfl rfl (Nat.le_of_ble_eq_true rfl) (by decide) rfl rfl rfl ⟨Nat.le_of_ble_eq_true rfl, Nat.le_of_ble_eq_true rfl⟩ ⟨rfl, rfl⟩ dX11_jumps_2 rfl (fun r1 σ1 h1 => ?_)
  obtain ⟨e1, h1⟩ := h1
  have e1 := e1.symm
  subst e1
  refine go_neB (tgt := 11) (pc' := 8) h1 dX11_jumps_5 rfl (by decide) (fun c2 => ?_) (fun c2 => ?_)
  · have ok := (OKS_of gl).mp c2
    refine go_aload_n (i := 0) (pc' := 12) dX11_jumps_11 rfl rfl rfl ?_
    refine go_iload_n (i := 1) (pc' := 13) dX11_jumps_12 rfl rfl rfl ?_
    refine go_cvi (pc' := 16) lk_X11_283 (f_X11_arrange _ _ _ _ ok w0.1 fd) rfl rfl (Nat.le_of_ble_eq_true rfl) (by decide) rfl rfl rfl ⟨Nat.le_of_ble_eq_true rfl, Nat.le_of_ble_eq_true rfl⟩ ⟨rfl, rfl⟩ dX11_jumps_13 rfl (fun r3 σ3 h3 => ?_)
    obtain ⟨u3, h3⟩ := h3
    have w3 := WX_trans w0 u3
    have ar := h3
    refine gz_if_eq (tgt := 29) (pc' := 19) dX11_jumps_16 rfl (by decide) (fun c4 => ?_) (fun c4 => ?_)
    · refine go_iconst (v := (-1)) (pc' := 30) dX11_jumps_29 rfl (by decide) ?_
      exact go_iret dX11_jumps_30 rfl (⟨w3, Or.inr ⟨ok, by first | exact Or.inr ⟨L, H, lg, arr.1⟩ | exact Or.inl ⟨AXP_no ar (by omega), rfl⟩⟩⟩)
    obtain ⟨L, H, lg, -, arr⟩ := AXP_y ar (by omega)
    refine go_aload_n (i := 0) (pc' := 20) dX11_jumps_19 rfl rfl rfl ?_
    refine gf_0_sequence (pc' := 23) dX11_jumps_20 rfl fl_X11_78 ?_
    refine gf_11_jumps (pc' := 26) dX11_jumps_23 rfl fl_X11_286 ?_
    refine go_goto (tgt := 30) dX11_jumps_26 (by decide) ?_
    exact go_iret dX11_jumps_30 rfl (⟨w3, Or.inr ⟨ok, by first | exact Or.inr ⟨L, H, lg, arr.1⟩ | exact Or.inl ⟨AXP_no ar (by omega), rfl⟩⟩⟩)
  refine go_bipush (v := (-2)) (pc' := 10) dX11_jumps_8 rfl (by decide) ?_
  exact go_iret dX11_jumps_10 rfl (⟨w0, Or.inl ⟨fun q => c2 ((OKS_of gl).mpr q), rfl⟩⟩)
set_option maxHeartbeats 4000000 in
set_option maxRecDepth 100000 in
theorem f_X11_order (l : Launch) (L : WL) (σ : ST) (a b : Int32) (ix : IV σ) (fd : FDX σ) : CtI l L yX11_order cX11_order 3 (some .int) rm_X11_order [.ref (L.2.1 0), .int a, .int b] σ (fun r σ2 => tX_order σ a b r σ2) := by
  refine ctI_go (own := RX11) (by decide) rfl (Nat.le_of_ble_eq_true rfl) (fun F hF => ?_)
  subst hF
  have nm2 : (-2 : Int32).toInt = -2 := by decide
  have nm1 : (-1 : Int32).toInt = -1 := by decide
  have w0 : WX σ σ := WX_rfl ix
  have gl := ixi_3 ix
  refine go_aload_n (i := 0) (pc' := 1) dX11_order_0 rfl rfl rfl ?_
  refine go_iload_n (i := 1) (pc' := 2) dX11_order_1 rfl rfl rfl ?_
  refine go_cvi (pc' := 5) lk_X11_280 (b_X11_isOrderable _ _ _ _ w0.1) rfl rfl (Nat.le_of_ble_eq_true rfl) (by decide) rfl rfl rfl ⟨Nat.le_of_ble_eq_true rfl, Nat.le_of_ble_eq_true rfl⟩ ⟨rfl, rfl⟩ dX11_order_2 rfl (fun r1 σ1 h1 => ?_)
  obtain ⟨e1, h1⟩ := h1
  have e1 := e1.symm
  subst e1
  refine go_neB (tgt := 11) (pc' := 8) h1 dX11_order_5 rfl (by decide) (fun c2 => ?_) (fun c2 => ?_)
  · have ok := (OKS_of gl).mp c2
    have bc := bcx (OKS_x gl ok)
    have lim := ok.2
    refine go_iload_n (i := 2) (pc' := 12) dX11_order_11 rfl rfl rfl ?_
    refine gz_if_lt (tgt := 43) (pc' := 15) dX11_order_12 rfl (by decide) (fun c3 => ?_) (fun c3 => ?_)
    · refine go_iconst (v := (-1)) (pc' := 44) dX11_order_43 rfl (by decide) ?_
      exact go_iret dX11_order_44 rfl (⟨w0, Or.inr ⟨ok, by
            first
            | (have _ := lg
               refine Or.inr ⟨by omega, Or.inr ⟨L, H, _, lg, (by rw [cnt] at arr; exact arr.2.resolve_left (by omega)), ?_⟩⟩
               exact (cnat g54.1).symm)
            | (have _ := ar
               exact Or.inr ⟨by omega, Or.inl ⟨AXP_no ar (by omega), rfl⟩⟩)
            | exact Or.inl ⟨by omega, rfl⟩⟩⟩)
    refine go_iload_n (i := 2) (pc' := 16) dX11_order_15 rfl rfl rfl ?_
    refine go_iload_n (i := 1) (pc' := 17) dX11_order_16 rfl rfl rfl ?_
    refine go_csi (pc' := 20) ls_X11_219 (b_bitCount _ _ _ _) rfl rfl (Nat.le_of_ble_eq_true rfl) ⟨Nat.le_of_ble_eq_true rfl, Nat.le_of_ble_eq_true rfl⟩ ⟨rfl, rfl⟩ dX11_order_17 rfl (fun r4 σ4 h4 => ?_)
    obtain ⟨e4, h4⟩ := h4
    have e4 := e4.symm
    subst e4
    subst h4
    refine gz_icmp_ge (tgt := 43) (pc' := 23) dX11_order_20 rfl (by decide) (fun c5 => ?_) (fun c5 => ?_)
    · refine go_iconst (v := (-1)) (pc' := 44) dX11_order_43 rfl (by decide) ?_
      exact go_iret dX11_order_44 rfl (⟨w0, Or.inr ⟨ok, by
            first
            | (have _ := lg
               refine Or.inr ⟨by omega, Or.inr ⟨L, H, _, lg, (by rw [cnt] at arr; exact arr.2.resolve_left (by omega)), ?_⟩⟩
               exact (cnat g54.1).symm)
            | (have _ := ar
               exact Or.inr ⟨by omega, Or.inl ⟨AXP_no ar (by omega), rfl⟩⟩)
            | exact Or.inl ⟨by omega, rfl⟩⟩⟩)
    refine go_aload_n (i := 0) (pc' := 24) dX11_order_23 rfl rfl rfl ?_
    refine go_iload_n (i := 1) (pc' := 25) dX11_order_24 rfl rfl rfl ?_
    refine go_cvi (pc' := 28) lk_X11_283 (f_X11_arrange _ _ _ _ ok w0.1 fd) rfl rfl (Nat.le_of_ble_eq_true rfl) (by decide) rfl rfl rfl ⟨Nat.le_of_ble_eq_true rfl, Nat.le_of_ble_eq_true rfl⟩ ⟨rfl, rfl⟩ dX11_order_25 rfl (fun r6 σ6 h6 => ?_)
    obtain ⟨u6, h6⟩ := h6
    have w6 := WX_trans w0 u6
    have ar := h6
    refine gz_if_eq (tgt := 43) (pc' := 31) dX11_order_28 rfl (by decide) (fun c7 => ?_) (fun c7 => ?_)
    · refine go_iconst (v := (-1)) (pc' := 44) dX11_order_43 rfl (by decide) ?_
      exact go_iret dX11_order_44 rfl (⟨w6, Or.inr ⟨ok, by
            first
            | (have _ := lg
               refine Or.inr ⟨by omega, Or.inr ⟨L, H, _, lg, (by rw [cnt] at arr; exact arr.2.resolve_left (by omega)), ?_⟩⟩
               exact (cnat g54.1).symm)
            | (have _ := ar
               exact Or.inr ⟨by omega, Or.inl ⟨AXP_no ar (by omega), rfl⟩⟩)
            | exact Or.inl ⟨by omega, rfl⟩⟩⟩)
    obtain ⟨L, H, lg, cnt, arr⟩ := AXP_y ar (by omega)
    have cb := cnat (x := b) (by omega)
    have g54 := ixa_54 w6.1 (b).toNatClampNeg (by omega)
    refine go_aload_n (i := 0) (pc' := 32) dX11_order_31 rfl rfl rfl ?_
    refine gf_0_sequence (pc' := 35) dX11_order_32 rfl fl_X11_78 ?_
    refine gf_11_row (pc' := 38) dX11_order_35 rfl fl_X11_289 ?_
    refine go_iload_n (i := 2) (pc' := 39) dX11_order_38 rfl rfl rfl ?_
    refine go_iald (pc' := 40) dX11_order_39 rfl (by decide) (by decide) rfl (vin_of (n := 8) (by omega) (by omega)) ?_
    refine go_rngA (ixa_54 w6.1) (vinlt (vin_of (n := 8) (by omega) (by omega))) (fun g8 => ?_)
    refine go_goto (tgt := 44) dX11_order_40 (by decide) ?_
    exact go_iret dX11_order_44 rfl (⟨w6, Or.inr ⟨ok, by
          first
          | (have _ := lg
             refine Or.inr ⟨by omega, Or.inr ⟨L, H, _, lg, (by rw [cnt] at arr; exact arr.2.resolve_left (by omega)), ?_⟩⟩
             exact (cnat g54.1).symm)
          | (have _ := ar
             exact Or.inr ⟨by omega, Or.inl ⟨AXP_no ar (by omega), rfl⟩⟩)
          | exact Or.inl ⟨by omega, rfl⟩⟩⟩)
  refine go_bipush (v := (-2)) (pc' := 10) dX11_order_8 rfl (by decide) ?_
  exact go_iret dX11_order_10 rfl (⟨w0, Or.inl ⟨fun q => c2 ((OKS_of gl).mpr q), rfl⟩⟩)
