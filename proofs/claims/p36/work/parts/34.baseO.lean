theorem go_abs {F : FX} {L : WL} {own : String} {cc : ByteArray} {nL : Nat} {R : Room} {ret : Option FieldType} {Q : State → Prop} {σ : ST} {pc pc' : Nat} {lv : List (Nat × Value)} {st : List Value} {idx : Nat} {x : Int32} (hdg : decode cc pc = .ok (.invokestatic idx, 3)) (hp : pc + 3 = pc') (hlk : Cond.methodLink own idx Lib.Math.abs.name ∈ WD) (hw : (st.map fun v => v.category).sum + 13 ≤ R.locals) (hf : 1 ≤ R.frames)
    (k : Go F L own cc nL R ret Q σ pc' lv (.int (if 0 ≤ x then x else 0 - x) :: st)) : Go F L own cc nL R ret Q σ pc lv (.int x :: st) := by
  subst hp
  intro hok H locs ls hP hS hl
  exact va_mabs hok.1 hok.2.1 (hok.2.2.1.trans hl.1.symm) hok.2.2.2.1 (hok.2.2.2.2.1 _ hlk) (hok.2.2.2.2.1 _ sm_Lib_Math_abs_name) (hok.2.2.2.2.1 _ ini_java_lang_Math) (hok.2.2.2.2.1 _ co_Lib_Math_abs_name) hf hw hok.2.2.2.2.2.2.2.2.2.2.2.1 hok.2.2.2.2.2.2.2.2.2.2.2.2 hdg (k hok H locs ls hP hS hl)
theorem gz_abs {F : FX} {L : WL} {own : String} {cc : ByteArray} {nL : Nat} {R : Room} {ret : Option FieldType} {Q : State → Prop} {σ : ST} {pc pc' : Nat} {lv : List (Nat × Value)} {st : List Value} {idx : Nat} {x : Int32} (hdg : decode cc pc = .ok (.invokestatic idx, 3)) (hp : pc + 3 = pc') (hlk : Cond.methodLink own idx Lib.Math.abs.name ∈ WD) (hw : (st.map fun v => v.category).sum + 13 ≤ R.locals) (hf : 1 ≤ R.frames) (h1 : -2147483648 < x.toInt)
    (k : ∀ v : Int32, (v = if 0 ≤ x then x else 0 - x) → ((0 ≤ x.toInt ∧ v.toInt = x.toInt) ∨ (x.toInt < 0 ∧ v.toInt = - x.toInt)) → Go F L own cc nL R ret Q σ pc' lv (.int v :: st)) : Go F L own cc nL R ret Q σ pc lv (.int x :: st) := go_abs hdg hp hlk hw hf (k _ rfl (by
  have z0 : (0 : Int32).toInt = 0 := by decide
  have z1 := Int32.toInt_lt x
  by_cases h : 0 ≤ x
  · rw [if_pos h]
    rw [Int32.le_iff_toInt_le] at h
    omega
  · rw [if_neg h]
    rw [Int32.le_iff_toInt_le] at h
    have e : (0 - x).toInt = 0 - x.toInt := by rw [i32_sub (by rw [z0]; omega) (by rw [z0]; omega), z0]
    rw [e]
    omega))
/-! ===== sets of up to 8 as bits ===== -/
def cntb (p : Nat) : Nat → Nat
  | 0 => 0
  | m + 1 => cntb p m + (if p.testBit m = true then 1 else 0)
theorem bt_all : ∀ p : Fin 256, ∀ k : Fin 8, ((Int32.ofNat p.val >>> (Int32.ofNat k.val &&& 31)) &&& 1) = (if p.val.testBit k.val = true then 1 else 0) ∧ (Int32.ofNat p.val ||| ((1 : Int32) <<< (Int32.ofNat k.val &&& 31))) = Int32.ofNat (p.val ||| (1 <<< k.val)) := by decide +kernel
theorem bo_all : ∀ p : Fin 256, ∀ k : Fin 8, p.val.testBit k.val = false → (p.val ||| (1 <<< k.val)) < 256 ∧ p.val < (p.val ||| (1 <<< k.val)) ∧ cntb (p.val ||| (1 <<< k.val)) 8 = cntb p.val 8 + 1 := by decide +kernel
theorem ca_all : ∀ m : Fin 9, cntb (2 ^ m.val - 1) 8 = m.val ∧ ((1 : Int32) <<< (Int32.ofNat m.val &&& 31)) - 1 = Int32.ofNat (2 ^ m.val - 1) := by decide +kernel
theorem sh_all : ∀ k : Fin 8, ((1 : Int32) <<< (Int32.ofNat k.val &&& 31)) = Int32.ofNat (1 <<< k.val) ∧ 1 <<< k.val < 256 := by decide +kernel
theorem ofN_toInt {n : Nat} (h : n < 2147483648) : (Int32.ofNat n).toInt = n := by
  exact nI_toInt (n := n) h
theorem of_nat {x : Int32} (h : 0 ≤ x.toInt) : Int32.ofNat x.toNatClampNeg = x := by
  apply Int32.toInt_inj.mp
  have c := cnat h
  have g := Int32.toInt_lt x
  rw [ofN_toInt (by omega), c]
theorem bit_get {p k : Int32} (hp : 0 ≤ p.toInt ∧ p.toInt < 256) (hk : 0 ≤ k.toInt ∧ k.toInt < 8) : ((p >>> (k &&& 31)) &&& 1).toInt = if p.toNatClampNeg.testBit k.toNatClampNeg = true then 1 else 0 := by
  have cp := cnat hp.1
  have ck := cnat hk.1
  have h := (bt_all ⟨p.toNatClampNeg, by omega⟩ ⟨k.toNatClampNeg, by omega⟩).1
  rw [of_nat hp.1, of_nat hk.1] at h
  rw [h]
  show (if p.toNatClampNeg.testBit k.toNatClampNeg = true then (1 : Int32) else 0).toInt = _
  split <;> decide
theorem bit_put {p k : Int32} (hp : 0 ≤ p.toInt ∧ p.toInt < 256) (hk : 0 ≤ k.toInt ∧ k.toInt < 8) (hb : p.toNatClampNeg.testBit k.toNatClampNeg = false) : (p ||| ((1 : Int32) <<< (k &&& 31))).toInt = ((p.toNatClampNeg ||| (1 <<< k.toNatClampNeg) : Nat) : Int) ∧ (p.toNatClampNeg ||| (1 <<< k.toNatClampNeg)) < 256 ∧ p.toNatClampNeg < (p.toNatClampNeg ||| (1 <<< k.toNatClampNeg)) ∧ cntb (p.toNatClampNeg ||| (1 <<< k.toNatClampNeg)) 8 = cntb p.toNatClampNeg 8 + 1 := by
  have cp := cnat hp.1
  have ck := cnat hk.1
  have h := (bt_all ⟨p.toNatClampNeg, by omega⟩ ⟨k.toNatClampNeg, by omega⟩).2
  have h2 := bo_all ⟨p.toNatClampNeg, by omega⟩ ⟨k.toNatClampNeg, by omega⟩ hb
  rw [of_nat hp.1, of_nat hk.1] at h
  refine ⟨?_, h2⟩
  have h3 := h2.1
  rw [h, ofN_toInt (by exact Nat.lt_trans h3 (by decide))]
theorem bit_one {k : Int32} (hk : 0 ≤ k.toInt ∧ k.toInt < 8) : ((1 : Int32) <<< (k &&& 31)).toInt = ((1 <<< k.toNatClampNeg : Nat) : Int) ∧ 1 <<< k.toNatClampNeg < 256 := by
  have ck := cnat hk.1
  have h := sh_all ⟨k.toNatClampNeg, by omega⟩
  rw [of_nat hk.1] at h
  have h3 := h.2
  exact ⟨by rw [h.1, ofN_toInt (by exact Nat.lt_trans h3 (by decide))], h3⟩
theorem bit_all {m : Int32} (hm : 0 ≤ m.toInt ∧ m.toInt ≤ 8) : (((1 : Int32) <<< (m &&& 31)) - 1).toInt = ((2 ^ m.toNatClampNeg - 1 : Nat) : Int) ∧ cntb (2 ^ m.toNatClampNeg - 1) 8 = m.toNatClampNeg ∧ 2 ^ m.toNatClampNeg ≤ 256 := by
  have cm := cnat hm.1
  have h := ca_all ⟨m.toNatClampNeg, by omega⟩
  rw [of_nat hm.1] at h
  have h3 : 2 ^ m.toNatClampNeg ≤ 2 ^ 8 := Nat.pow_le_pow_right (by decide) (by omega)
  have h4 : 2 ^ m.toNatClampNeg ≤ 256 := h3
  exact ⟨by rw [h.2, ofN_toInt (by show 2 ^ m.toNatClampNeg - 1 < 2147483648; omega)], h.1, h4⟩
theorem bit_lt {p k m : Nat} (hp : p < 2 ^ m) (hk : k < m) : (p ||| (1 <<< k)) < 2 ^ m := Nat.or_lt_two_pow hp (by rw [Nat.one_shiftLeft]; exact Nat.pow_lt_pow_right (by decide) hk)
theorem bF1 {t : Bool} {x : Int} (h : x = if t = true then 1 else 0) (c : x ≠ 1) : t = false := by
  cases t
  · rfl
  · exact absurd h c
theorem bF0 {t : Bool} {x : Int} (h : x = if t = true then 1 else 0) (c : x = 0) : t = false := by
  cases t
  · rfl
  · rw [c] at h
    exact absurd h (by decide)
theorem bT1 {t : Bool} {x : Int} (h : x = if t = true then 1 else 0) (c : x = 1) : t = true := by
  cases t
  · rw [c] at h
    exact absurd h (by decide)
  · rfl
theorem bT0 {t : Bool} {x : Int} (h : x = if t = true then 1 else 0) (c : x ≠ 0) : t = true := by
  cases t
  · exact absurd h c
  · rfl
/-- the set P laid, the k-th of m may stand next -/
def MAY (σ : ST) (m P k : Nat) : Prop := P.testBit k = false ∧ ∀ j : Nat, j < m → j ≠ k → P.testBit j = false → ¬ BEF σ (σ.2 132 j).toNatClampNeg (σ.2 132 k).toNatClampNeg
/-- the jump from the a-th to the b-th -/
def JMP (σ : ST) (a b : Nat) : Int := if 0 ≤ (σ.2 120 (σ.2 132 b).toNatClampNeg).toInt - (σ.2 120 (σ.2 132 a).toNatClampNeg).toInt then (σ.2 120 (σ.2 132 b).toNatClampNeg).toInt - (σ.2 120 (σ.2 132 a).toNatClampNeg).toInt else -((σ.2 120 (σ.2 132 b).toNatClampNeg).toInt - (σ.2 120 (σ.2 132 a).toNatClampNeg).toInt)
theorem JMP_nn (σ : ST) (a b : Nat) : 0 ≤ JMP σ a b := by
  unfold JMP
  split <;> omega
/-- what the order asks is as it was -/
def JK (s s2 : ST) : Prop := s2.2 120 = s.2 120 ∧ s2.2 121 = s.2 121 ∧ s2.2 122 = s.2 122 ∧ s2.2 132 = s.2 132 ∧ s2.1 30 = s.1 30
theorem MAY_e {s s2 : ST} (h : JK s s2) (m P k : Nat) : MAY s2 m P k = MAY s m P k := by
  unfold MAY BEF
  rw [h.1, h.2.1, h.2.2.1, h.2.2.2.1]
theorem JMP_e {s s2 : ST} (h : JK s s2) (a b : Nat) : JMP s2 a b = JMP s a b := by
  unfold JMP
  rw [h.1, h.2.2.2.1]
def RES (σ : ST) (m P a : Nat) (r : Int) : Prop := 0 ≤ r ∧ r ≤ 100000000 ∧ (r < 100000000 → ∃ k : Nat, k < m ∧ MAY σ m P k ∧ JMP σ a k + (σ.2 133 (8 * (P ||| (1 <<< k)) + k)).toInt = r)
theorem RES_0 (σ : ST) (m P a : Nat) : RES σ m P a 100000000 := ⟨by decide, by decide, fun q => absurd q (by decide)⟩
theorem RES_min {σ : ST} {m P a k : Nat} {b c v : Int} (h : RES σ m P a b) (hk : k < m) (hm : MAY σ m P k) (hc : JMP σ a k + (σ.2 133 (8 * (P ||| (1 <<< k)) + k)).toInt = c) (h0 : 0 ≤ c) (hv : (v ≤ b ∧ v ≤ c) ∧ (v = b ∨ v = c)) : RES σ m P a v := by
  obtain ⟨h1, h2, h3⟩ := h
  rcases hv.2 with e | e
  · rw [e]
    exact ⟨h1, h2, h3⟩
  · refine ⟨by omega, by omega, fun _ => ⟨k, hk, hm, by omega⟩⟩
def TB (σ : ST) (m P a : Nat) : Prop := (σ.2 133 (8 * P + a)).toInt < 100000000 → ∃ k : Nat, k < m ∧ MAY σ m P k ∧ JMP σ a k + (σ.2 133 (8 * (P ||| (1 <<< k)) + k)).toInt = (σ.2 133 (8 * P + a)).toInt
theorem TB_store {s s2 : ST} {M P0 A0 idx : Nat} {w : Int32} (hJ : JK s s2) (e : s2.2 133 = upd (s.2 133) idx w) (ei : idx = 8 * P0 + A0) (hA : A0 < 8) (hM : M ≤ 8) (hM2 : 2 ^ M ≤ 256) (hT : ∀ P a : Nat, (P0 < P ∨ (P = P0 ∧ a < A0)) → P + 1 < 2 ^ M → a < M → TB s M P a) (hw : P0 + 1 < 2 ^ M → RES s M P0 A0 w.toInt) : ∀ P a : Nat, (P0 < P ∨ (P = P0 ∧ a < A0 + 1)) → P + 1 < 2 ^ M → a < M → TB s2 M P a := fun P a hP hP2 ha => by
  have far : ∀ k : Nat, k < M → MAY s M P k → P0 ≤ P → s2.2 133 (8 * (P ||| (1 <<< k)) + k) = s.2 133 (8 * (P ||| (1 <<< k)) + k) := fun k hk hm hle => by
    have b := (bo_all ⟨P, by omega⟩ ⟨k, by omega⟩ hm.1).2.1
    rw [e]
    exact if_neg (by
      have b2 : P < P ||| (1 <<< k) := b
      omega)
  unfold TB
  by_cases z : P = P0 ∧ a = A0
  · have e1 : s2.2 133 (8 * P + a) = w := by
      rw [e]
      exact if_pos (by omega)
    rw [e1]
    intro q
    have g := hw (by omega)
    rw [← z.1, ← z.2] at g
    obtain ⟨k, k1, k2, k3⟩ := g.2.2 q
    refine ⟨k, k1, by rw [MAY_e hJ]; exact k2, ?_⟩
    rw [JMP_e hJ, far k k1 k2 (by omega)]
    exact k3
  · have e1 : s2.2 133 (8 * P + a) = s.2 133 (8 * P + a) := by
      rw [e]
      exact if_neg (by omega)
    rw [e1]
    intro q
    obtain ⟨k, k1, k2, k3⟩ := hT P a (by omega) hP2 ha q
    refine ⟨k, k1, by rw [MAY_e hJ]; exact k2, ?_⟩
    rw [JMP_e hJ, far k k1 k2 (by omega)]
    exact k3
def FD (σ : ST) : Prop := ∀ P a : Nat, P + 1 < 2 ^ (σ.1 30).toNatClampNeg → a < (σ.1 30).toNatClampNeg → TB σ (σ.1 30).toNatClampNeg P a
/-- the least of the first n, and that it is had -/
def LS0 (σ : ST) (n : Nat) (r : Int) : Prop := 0 ≤ r ∧ r ≤ 100000000 ∧ (r < 100000000 → ∃ k : Nat, k < (σ.1 30).toNatClampNeg ∧ MAY σ (σ.1 30).toNatClampNeg 0 k ∧ (σ.2 133 (8 * (0 ||| (1 <<< k)) + k)).toInt = r) ∧ ∀ k : Nat, k < n → MAY σ (σ.1 30).toNatClampNeg 0 k → r ≤ (σ.2 133 (8 * (0 ||| (1 <<< k)) + k)).toInt
def LST (σ : ST) (r : Int) : Prop := ((σ.1 30).toInt = 0 ∧ r = 0) ∨ ((σ.1 30).toInt ≠ 0 ∧ LS0 σ (σ.1 30).toNatClampNeg r)
theorem LST_lt {σ : ST} {r r2 : Int} (h : LST σ r) (h2 : LST σ r2) (q : r < 100000000) : r2 < 100000000 := by
  rcases h with ⟨h0, h⟩ | ⟨h0, h1, h3, h4, h5⟩ <;> rcases h2 with ⟨g0, g⟩ | ⟨g0, g1, g3, g4, g5⟩
  · omega
  · omega
  · omega
  · obtain ⟨k, k1, k2, k3⟩ := h4 q
    have := g5 k k1 k2
    omega
theorem LS0_min {σ : ST} {k n : Nat} {b c v : Int} (h : LS0 σ k b) (hn : n = k + 1) (hk : k < (σ.1 30).toNatClampNeg) (hm : MAY σ (σ.1 30).toNatClampNeg 0 k) (hc : (σ.2 133 (8 * (0 ||| (1 <<< k)) + k)).toInt = c) (h0 : 0 ≤ c) (hv : (v ≤ b ∧ v ≤ c) ∧ (v = b ∨ v = c)) : LS0 σ n v := by
  obtain ⟨h1, h2, h3, h4⟩ := h
  have up : ∀ j : Nat, j < n → MAY σ (σ.1 30).toNatClampNeg 0 j → v ≤ (σ.2 133 (8 * (0 ||| (1 <<< j)) + j)).toInt := fun j hj mj => by
    by_cases e : j = k
    · rw [e, hc]
      exact hv.1.2
    · have := h4 j (by omega) mj
      omega
  rcases hv.2 with e | e
  · refine ⟨by omega, by omega, fun q => ?_, up⟩
    rw [e]
    exact h3 (by omega)
  · exact ⟨by omega, by omega, fun _ => ⟨k, hk, hm, by omega⟩, up⟩
theorem LS0_no {σ : ST} {k n : Nat} {b : Int} (h : LS0 σ k b) (hn : n = k + 1) (c : ¬ MAY σ (σ.1 30).toNatClampNeg 0 k) : LS0 σ n b := ⟨h.1, h.2.1, h.2.2.1, fun j hj mj => by
  by_cases e : j = k
  · exact absurd (e ▸ mj) c
  · exact h.2.2.2 j (by omega) mj⟩
/-- where the order's walk stands: the set P laid, n in it, at the a-th, left to go l -/
def OW (σ : ST) (P n : Nat) (a l : Int) : Prop := P < 2 ^ (σ.1 30).toNatClampNeg ∧ cntb P 8 = n ∧ 0 ≤ l ∧ l < 100000000 ∧ ((a = -1 ∧ P = 0 ∧ ∃ k : Nat, k < (σ.1 30).toNatClampNeg ∧ MAY σ (σ.1 30).toNatClampNeg 0 k ∧ (σ.2 133 (8 * (0 ||| (1 <<< k)) + k)).toInt = l) ∨ (0 ≤ a ∧ a < ((σ.1 30).toNatClampNeg : Int) ∧ (σ.2 133 (8 * P + a.toNat)).toInt = l))
theorem OW_start {σ : ST} {r : Int} (h : LST σ r) (q : r < 100000000) (h0 : (σ.1 30).toInt ≠ 0) : OW σ 0 0 (-1) r := by
  rcases h with ⟨h, -⟩ | ⟨-, h1, h2, h3, -⟩
  · exact absurd h h0
  · exact ⟨Nat.two_pow_pos _, by decide, h1, q, Or.inl ⟨rfl, rfl, h3 q⟩⟩
theorem OW_ex {σ : ST} {P n : Nat} {a l : Int} (fd : FD σ) (h : OW σ P n a l) (hm : 0 ≤ (σ.1 30).toInt ∧ (σ.1 30).toInt ≤ 8) (hn : n < (σ.1 30).toNatClampNeg) : ∃ k : Nat, k < (σ.1 30).toNatClampNeg ∧ MAY σ (σ.1 30).toNatClampNeg P k ∧ (if a < 0 then 0 else JMP σ a.toNat k) + (σ.2 133 (8 * (P ||| (1 <<< k)) + k)).toInt = l := by
  obtain ⟨h1, h2, h3, h4, h5⟩ := h
  rcases h5 with ⟨e1, e2, k, k1, k2, k3⟩ | ⟨e1, e2, e3⟩
  · refine ⟨k, k1, by rw [e2]; exact k2, ?_⟩
    rw [if_pos (by omega), e2, k3]
    omega
  · have g := bit_all hm
    have z : P + 1 < 2 ^ (σ.1 30).toNatClampNeg := by
      by_cases q : P + 1 < 2 ^ (σ.1 30).toNatClampNeg
      · exact q
      · exfalso
        have e : P = 2 ^ (σ.1 30).toNatClampNeg - 1 := by omega
        rw [e, g.2.1] at h2
        omega
    obtain ⟨k, k1, k2, k3⟩ := fd P a.toNat z (by omega) (by rw [e3]; exact h4)
    exact ⟨k, k1, k2, by rw [if_neg (by omega)]; omega⟩
theorem OW_go {σ : ST} {P n k P2 : Nat} {a l a2 l2 : Int} (h : OW σ P n a l) (hm : 0 ≤ (σ.1 30).toInt ∧ (σ.1 30).toInt ≤ 8) (hk : k < (σ.1 30).toNatClampNeg) (hM : MAY σ (σ.1 30).toNatClampNeg P k) (hl : 0 ≤ l2 ∧ l2 ≤ l) (ea : a2 = k) (eP : P2 = P ||| (1 <<< k)) (el : l2 = (σ.2 133 (8 * (P ||| (1 <<< k)) + k)).toInt) : OW σ P2 (n + 1) a2 l2 := by
  obtain ⟨h1, h2, h3, h4, h5⟩ := h
  have g := bit_all hm
  have cm := cnat hm.1
  have b := (bo_all ⟨P, by omega⟩ ⟨k, by omega⟩ hM.1).2.2
  subst eP
  subst ea
  refine ⟨bit_lt h1 hk, ?_, by omega, by omega, Or.inr ⟨by omega, by omega, ?_⟩⟩
  · rw [← h2]
    exact b
  · rw [el]
    rfl
set_option maxHeartbeats 4000000 in
set_option maxRecDepth 100000 in
theorem c_X12_may (l : Launch) (L : WL) (σ : ST) (p k : Int32) (hp : 0 ≤ p.toInt ∧ p.toInt < 256) (hk : 0 ≤ k.toInt ∧ k.toInt < 8) (ix : IV σ) : CtI l L yX12_may cX12_may 4 (some .boolean) rm_X12_may [.ref (L.2.1 13), .int p, .int k] σ (fun r σ2 => σ2 = σ ∧ bq (MAY σ (σ.1 30).toNatClampNeg (p).toNatClampNeg (k).toNatClampNeg) r) := by
  refine ctI_go (own := RX12) (by decide) rfl (Nat.le_of_ble_eq_true rfl) (fun F hF => ?_)
  subst hF
  have n0 : (0 : Int32).toInt = 0 := by decide
  have n1 : (1 : Int32).toInt = 1 := by decide
  have w0 : WM σ σ := WM_rfl ix
  have u30 := ixi_30 ix
  have cm := cnat (x := σ.1 30) (by omega)
  have cp := cnat (x := p) (by omega)
  have ck := cnat (x := k) (by omega)
  have b0 := bit_get hp hk
  refine go_iload_n (i := 1) (pc' := 1) dX12_may_0 rfl rfl rfl ?_
  refine go_iload_n (i := 2) (pc' := 2) dX12_may_1 rfl rfl rfl ?_
  refine go_ishr (pc' := 3) dX12_may_2 rfl ?_
  refine go_iconst (v := 1) (pc' := 4) dX12_may_3 rfl (by decide) ?_
  refine go_iand (pc' := 5) dX12_may_4 rfl ?_
  refine go_iconst (v := 1) (pc' := 6) dX12_may_5 rfl (by decide) ?_
  refine gz_icmp_ne (tgt := 11) (pc' := 9) dX12_may_6 rfl (by decide) (fun c1 => ?_) (fun c1 => ?_)
  · have k0 := bF1 b0 c1
    refine go_iconst (v := 0) (pc' := 12) dX12_may_11 rfl (by decide) ?_
    refine go_istore_n (i := 3) (pc' := 13) dX12_may_12 rfl rfl (by decide) ?_
    have loop13_2 : ∀ (dd2 : Nat) (x3_2 : Int32), (0 ≤ (x3_2).toInt ∧ (x3_2).toInt ≤ (σ.1 30).toInt) → (∀ i : Nat, (i : Int) < (x3_2).toInt → (i ≠ (k).toNatClampNeg → (p).toNatClampNeg.testBit i = false → ¬ BEF σ (σ.2 132 i).toNatClampNeg (σ.2 132 (k).toNatClampNeg).toNatClampNeg)) → (8 - (x3_2).toInt).toNat = dd2 → Go F L RX12 cX12_may 4 rm_X12_may (some .boolean) (RI F L (fun r σ2 => σ2 = σ ∧ bq (MAY σ (σ.1 30).toNatClampNeg (p).toNatClampNeg (k).toNatClampNeg) r)) σ 13 [(0, .ref (L.2.1 13)), (1, .int p), (2, .int k), (3, .int x3_2)] [] := by
      intro dd2
      induction dd2 using Nat.strongRecOn with
      | _ dd2 ih2 =>
        intro x3_2 h_2 hv_2 hm_2
        refine go_iload_n (i := 3) (pc' := 14) dX12_may_13 rfl rfl rfl ?_
        refine go_aload_n (i := 0) (pc' := 15) dX12_may_14 rfl rfl rfl ?_
        refine gf_13_many (pc' := 18) dX12_may_15 rfl fl_X12_272 ?_
        have g3 := ixi_30 w0.1
        refine gz_icmp_ge (tgt := 61) (pc' := 21) dX12_may_18 rfl (by decide) (fun c4 => ?_) (fun c4 => ?_)
        · refine go_iconst (v := 1) (pc' := 62) dX12_may_61 rfl (by decide) ?_
          exact go_zret dX12_may_62 rfl rfl (⟨rfl, bq_t ⟨k0, fun j hj ne bt => hv_2 j (by omega) ne bt⟩⟩)
        have c3 := cnat (x := x3_2) (by omega)
        have bj := bit_get (p := p) (k := x3_2) hp (by omega)
        refine go_iload_n (i := 3) (pc' := 22) dX12_may_21 rfl rfl rfl ?_
        refine go_iload_n (i := 2) (pc' := 23) dX12_may_22 rfl rfl rfl ?_
        refine gz_icmp_eq (tgt := 55) (pc' := 26) dX12_may_23 rfl (by decide) (fun c5 => ?_) (fun c5 => ?_)
        · refine gz_iinc (c := 1) (pc' := 58) dX12_may_55 rfl rfl (by decide) (by decide) (by decide) (by omega) (fun v6 h6 e6 => ?_)
          refine go_goto (tgt := 13) dX12_may_58 (by decide) ?_
          exact go_lv (lv' := [(0, .ref (L.2.1 13)), (1, .int p), (2, .int k), (3, .int v6)]) rfl (ih2 _ (by omega)  v6 (by omega) (all_step hv_2 (by omega) (by omega) (fun ne bt => by first | exact absurd (by omega) ne | exact absurd (bT0 bj c5) (by rw [bt]; decide) | exact c5)) rfl)
        refine go_iload_n (i := 1) (pc' := 27) dX12_may_26 rfl rfl rfl ?_
        refine go_iload_n (i := 3) (pc' := 28) dX12_may_27 rfl rfl rfl ?_
        refine go_ishr (pc' := 29) dX12_may_28 rfl ?_
        refine go_iconst (v := 1) (pc' := 30) dX12_may_29 rfl (by decide) ?_
        refine go_iand (pc' := 31) dX12_may_30 rfl ?_
        refine gz_if_ne (tgt := 55) (pc' := 34) dX12_may_31 rfl (by decide) (fun c7 => ?_) (fun c7 => ?_)
        · refine gz_iinc (c := 1) (pc' := 58) dX12_may_55 rfl rfl (by decide) (by decide) (by decide) (by omega) (fun v8 h8 e8 => ?_)
          refine go_goto (tgt := 13) dX12_may_58 (by decide) ?_
          exact go_lv (lv' := [(0, .ref (L.2.1 13)), (1, .int p), (2, .int k), (3, .int v8)]) rfl (ih2 _ (by omega)  v8 (by omega) (all_step hv_2 (by omega) (by omega) (fun ne bt => by first | exact absurd (by omega) ne | exact absurd (bT0 bj c7) (by rw [bt]; decide) | exact c7)) rfl)
        have bz := bF0 bj c7
        refine go_aload_n (i := 0) (pc' := 35) dX12_may_34 rfl rfl rfl ?_
        refine go_aload_n (i := 0) (pc' := 36) dX12_may_35 rfl rfl rfl ?_
        refine gf_13_some (pc' := 39) dX12_may_36 rfl fl_X12_123 ?_
        refine go_iload_n (i := 3) (pc' := 40) dX12_may_39 rfl rfl rfl ?_
        refine go_iald (pc' := 41) dX12_may_40 rfl (by decide) (by decide) rfl (vin_of (n := 8) (by omega) (by omega)) ?_
        refine go_rngA (ixa_132 w0.1) (vinlt (vin_of (n := 8) (by omega) (by omega))) (fun g9 => ?_)
        refine go_aload_n (i := 0) (pc' := 42) dX12_may_41 rfl rfl rfl ?_
        refine gf_13_some (pc' := 45) dX12_may_42 rfl fl_X12_123 ?_
        refine go_iload_n (i := 2) (pc' := 46) dX12_may_45 rfl rfl rfl ?_
        refine go_iald (pc' := 47) dX12_may_46 rfl (by decide) (by decide) rfl (vin_of (n := 8) (by omega) (by omega)) ?_
        refine go_rngA (ixa_132 w0.1) (vinlt (vin_of (n := 8) (by omega) (by omega))) (fun g10 => ?_)
        refine go_cvi (pc' := 50) lk_X12_196 (c_X12_isBefore _ _ _ _ _ (by omega) (by omega) w0.1) rfl rfl (Nat.le_of_ble_eq_true rfl) (by decide) rfl rfl rfl ⟨Nat.le_of_ble_eq_true rfl, Nat.le_of_ble_eq_true rfl⟩ ⟨rfl, rfl⟩ dX12_may_47 rfl (fun r11 σ11 h11 => ?_)
        obtain ⟨e11, h11⟩ := h11
        have e11 := e11.symm
        subst e11
        refine go_eqB (tgt := 55) (pc' := 53) h11 dX12_may_50 rfl (by decide) (fun c12 => ?_) (fun c12 => ?_)
        · refine gz_iinc (c := 1) (pc' := 58) dX12_may_55 rfl rfl (by decide) (by decide) (by decide) (by omega) (fun v13 h13 e13 => ?_)
          refine go_goto (tgt := 13) dX12_may_58 (by decide) ?_
          exact go_lv (lv' := [(0, .ref (L.2.1 13)), (1, .int p), (2, .int k), (3, .int v13)]) rfl (ih2 _ (by omega)  v13 (by omega) (all_step hv_2 (by omega) (by omega) (fun ne bt => by first | exact absurd (by omega) ne | exact absurd (bT0 bj c12) (by rw [bt]; decide) | exact c12)) rfl)
        refine go_iconst (v := 0) (pc' := 54) dX12_may_53 rfl (by decide) ?_
        exact go_zret dX12_may_54 rfl rfl (⟨rfl, bq_f (fun q => q.2 (x3_2).toNatClampNeg (by omega) (by omega) bz c12)⟩)
    exact go_lv (lv' := [(0, .ref (L.2.1 13)), (1, .int p), (2, .int k), (3, .int (0 : Int32))]) rfl (loop13_2 _  (0 : Int32) (by omega) (fun i hi => by exfalso; omega) rfl)
  refine go_iconst (v := 0) (pc' := 10) dX12_may_9 rfl (by decide) ?_
  exact go_zret dX12_may_10 rfl rfl (⟨rfl, bq_f (fun q => by have z := bT1 b0 c1; rw [q.1] at z; exact absurd z (by decide))⟩)
set_option maxHeartbeats 4000000 in
set_option maxRecDepth 100000 in
theorem c_X12_jump (l : Launch) (L : WL) (σ : ST) (a b : Int32) (ha : 0 ≤ a.toInt ∧ a.toInt < 8) (hb : 0 ≤ b.toInt ∧ b.toInt < 8) (ix : IV σ) : CtI l L yX12_jump cX12_jump 3 (some .int) rm_X12_jump [.ref (L.2.1 13), .int a, .int b] σ (fun r σ2 => σ2 = σ ∧ r.toInt = JMP σ (a).toNatClampNeg (b).toNatClampNeg ∧ r.toInt ≤ 64001) := by
  refine ctI_go (own := RX12) (by decide) rfl (Nat.le_of_ble_eq_true rfl) (fun F hF => ?_)
  subst hF
  have w0 : WM σ σ := WM_rfl ix
  refine go_aload_n (i := 0) (pc' := 1) dX12_jump_0 rfl rfl rfl ?_
  refine gf_13_low (pc' := 4) dX12_jump_1 rfl fl_X12_83 ?_
  refine go_aload_n (i := 0) (pc' := 5) dX12_jump_4 rfl rfl rfl ?_
  refine gf_13_some (pc' := 8) dX12_jump_5 rfl fl_X12_123 ?_
  refine go_iload_n (i := 2) (pc' := 9) dX12_jump_8 rfl rfl rfl ?_
  refine go_iald (pc' := 10) dX12_jump_9 rfl (by decide) (by decide) rfl (vin_of (n := 8) (by omega) (by omega)) ?_
  refine go_rngA (ixa_132 w0.1) (vinlt (vin_of (n := 8) (by omega) (by omega))) (fun g1 => ?_)
  refine go_iald (pc' := 11) dX12_jump_10 rfl (by decide) (by decide) rfl (vin_of (n := 12) (by omega) (by omega)) ?_
  refine go_rngA (ixa_120 w0.1) (vinlt (vin_of (n := 12) (by omega) (by omega))) (fun g2 => ?_)
  refine go_aload_n (i := 0) (pc' := 12) dX12_jump_11 rfl rfl rfl ?_
  refine gf_13_low (pc' := 15) dX12_jump_12 rfl fl_X12_83 ?_
  refine go_aload_n (i := 0) (pc' := 16) dX12_jump_15 rfl rfl rfl ?_
  refine gf_13_some (pc' := 19) dX12_jump_16 rfl fl_X12_123 ?_
  refine go_iload_n (i := 1) (pc' := 20) dX12_jump_19 rfl rfl rfl ?_
  refine go_iald (pc' := 21) dX12_jump_20 rfl (by decide) (by decide) rfl (vin_of (n := 8) (by omega) (by omega)) ?_
  refine go_rngA (ixa_132 w0.1) (vinlt (vin_of (n := 8) (by omega) (by omega))) (fun g3 => ?_)
  refine go_iald (pc' := 22) dX12_jump_21 rfl (by decide) (by decide) rfl (vin_of (n := 12) (by omega) (by omega)) ?_
  refine go_rngA (ixa_120 w0.1) (vinlt (vin_of (n := 12) (by omega) (by omega))) (fun g4 => ?_)
  refine gz_isub (pc' := 23) dX12_jump_22 rfl (by omega) (fun v5 h5 e5 => ?_)
  refine gz_abs (pc' := 26) dX12_jump_23 rfl ml_X12_278 (Nat.le_of_ble_eq_true rfl) (Nat.le_of_ble_eq_true rfl) (by omega) (fun v6 h6 e6 => ?_)
  exact go_iret dX12_jump_26 rfl (⟨rfl, by unfold JMP; split <;> omega, by omega⟩)
set_option maxHeartbeats 4000000 in
set_option maxRecDepth 100000 in
theorem c_X12_rest (l : Launch) (L : WL) (σ : ST) (p a : Int32) (hp : 0 ≤ p.toInt ∧ p.toInt < 256) (ha : 0 ≤ a.toInt ∧ a.toInt < 8) (ix : IV σ) : CtI l L yX12_rest cX12_rest 5 (some .int) rm_X12_rest [.ref (L.2.1 13), .int p, .int a] σ (fun r σ2 => σ2 = σ ∧ RES σ (σ.1 30).toNatClampNeg (p).toNatClampNeg (a).toNatClampNeg r.toInt) := by
  refine ctI_go (own := RX12) (by decide) rfl (Nat.le_of_ble_eq_true rfl) (fun F hF => ?_)
  subst hF
  have n0 : (0 : Int32).toInt = 0 := by decide
  have n1 : (1 : Int32).toInt = 1 := by decide
  have n8 : (8 : Int32).toInt = 8 := by decide
  have n100000000 : (100000000 : Int32).toInt = 100000000 := by decide
  have w0 : WM σ σ := WM_rfl ix
  have u30 := ixi_30 ix
  have cm := cnat (x := σ.1 30) (by omega)
  have cp := cnat (x := p) (by omega)
  refine go_ldcw (pc' := 3) dX12_rest_0 rfl cst_X12_282 ?_
  refine go_istore_n (i := 3) (pc' := 4) dX12_rest_3 rfl rfl (by decide) ?_
  refine go_iconst (v := 0) (pc' := 5) dX12_rest_4 rfl (by decide) ?_
  refine go_istore (pc' := 7) dX12_rest_5 rfl (by decide) ?_
  have loop7_1 : ∀ (dd1 : Nat) (x3_1 : Int32) (x4_1 : Int32), (0 ≤ (x4_1).toInt ∧ (x4_1).toInt ≤ (σ.1 30).toInt) → (RES σ (σ.1 30).toNatClampNeg (p).toNatClampNeg (a).toNatClampNeg (x3_1).toInt) → (8 - (x4_1).toInt).toNat = dd1 → Go F L RX12 cX12_rest 5 rm_X12_rest (some .int) (RI F L (fun r σ2 => σ2 = σ ∧ RES σ (σ.1 30).toNatClampNeg (p).toNatClampNeg (a).toNatClampNeg r.toInt)) σ 7 [(0, .ref (L.2.1 13)), (1, .int p), (2, .int a), (3, .int x3_1), (4, .int x4_1)] [] := by
    intro dd1
    induction dd1 using Nat.strongRecOn with
    | _ dd1 ih1 =>
      intro x3_1 x4_1 h_1 hb_1 hm_1
      refine go_iload (pc' := 9) dX12_rest_7 rfl rfl ?_
      refine go_aload_n (i := 0) (pc' := 10) dX12_rest_9 rfl rfl rfl ?_
      refine gf_13_many (pc' := 13) dX12_rest_10 rfl fl_X12_272 ?_
      have g2 := ixi_30 w0.1
      refine gz_icmp_ge (tgt := 62) (pc' := 16) dX12_rest_13 rfl (by decide) (fun c3 => ?_) (fun c3 => ?_)
      · refine go_iload_n (i := 3) (pc' := 63) dX12_rest_62 rfl rfl rfl ?_
        exact go_iret dX12_rest_63 rfl (⟨rfl, hb_1⟩)
      refine go_aload_n (i := 0) (pc' := 17) dX12_rest_16 rfl rfl rfl ?_
      refine go_iload_n (i := 1) (pc' := 18) dX12_rest_17 rfl rfl rfl ?_
      refine go_iload (pc' := 20) dX12_rest_18 rfl rfl ?_
      refine go_cvi (pc' := 23) lk_X12_283 (c_X12_may _ _ _ _ _ (by omega) (by omega) w0.1) rfl rfl (Nat.le_of_ble_eq_true rfl) (by decide) rfl rfl rfl ⟨Nat.le_of_ble_eq_true rfl, Nat.le_of_ble_eq_true rfl⟩ ⟨rfl, rfl⟩ dX12_rest_20 rfl (fun r4 σ4 h4 => ?_)
      obtain ⟨e4, h4⟩ := h4
      have e4 := e4.symm
      subst e4
      refine go_eqB (tgt := 56) (pc' := 26) h4 dX12_rest_23 rfl (by decide) (fun c5 => ?_) (fun c5 => ?_)
      · refine gz_iinc (c := 1) (pc' := 59) dX12_rest_56 rfl rfl (by decide) (by decide) (by decide) (by omega) (fun v6 h6 e6 => ?_)
        refine go_goto (tgt := 7) dX12_rest_59 (by decide) ?_
        exact go_lv (lv' := [(0, .ref (L.2.1 13)), (1, .int p), (2, .int a), (3, .int x3_1), (4, .int v6)]) rfl (ih1 _ (by omega)  x3_1 v6 (by omega) (by first | exact hb_1 | exact RES_min hb_1 (by omega) my (by rw [← ez]) (by omega) (by omega)) rfl)
      have my := c5
      have c4 := cnat (x := x4_1) (by omega)
      have bp := bit_put (p := p) (k := x4_1) hp (by omega) my.1
      refine go_iload_n (i := 3) (pc' := 27) dX12_rest_26 rfl rfl rfl ?_
      refine go_aload_n (i := 0) (pc' := 28) dX12_rest_27 rfl rfl rfl ?_
      refine go_iload_n (i := 2) (pc' := 29) dX12_rest_28 rfl rfl rfl ?_
      refine go_iload (pc' := 31) dX12_rest_29 rfl rfl ?_
      refine go_cvi (pc' := 34) lk_X12_286 (c_X12_jump _ _ _ _ _ (by omega) (by omega) w0.1) rfl rfl (Nat.le_of_ble_eq_true rfl) (by decide) rfl rfl rfl ⟨Nat.le_of_ble_eq_true rfl, Nat.le_of_ble_eq_true rfl⟩ ⟨rfl, rfl⟩ dX12_rest_31 rfl (fun r7 σ7 h7 => ?_)
      obtain ⟨e7, h7⟩ := h7
      have e7 := e7.symm
      subst e7
      have jn := JMP_nn σ (a).toNatClampNeg (x4_1).toNatClampNeg
      refine go_aload_n (i := 0) (pc' := 35) dX12_rest_34 rfl rfl rfl ?_
      refine gf_13_jumps (pc' := 38) dX12_rest_35 rfl fl_X12_126 ?_
      refine go_bipush (v := 8) (pc' := 40) dX12_rest_38 rfl (by decide) ?_
      refine go_iload_n (i := 1) (pc' := 41) dX12_rest_40 rfl rfl rfl ?_
      refine go_iconst (v := 1) (pc' := 42) dX12_rest_41 rfl (by decide) ?_
      refine go_iload (pc' := 44) dX12_rest_42 rfl rfl ?_
      refine go_ishl (pc' := 45) dX12_rest_44 rfl ?_
      refine go_ior (pc' := 46) dX12_rest_45 rfl ?_
      refine gz_imulc (n := 8) (pc' := 47) dX12_rest_46 rfl (by decide) (by omega) (fun v8 h8 e8 => ?_)
      refine go_iload (pc' := 49) dX12_rest_47 rfl rfl ?_
      refine gz_iadd (pc' := 50) dX12_rest_49 rfl (by omega) (fun v9 h9 e9 => ?_)
      have ez : (v9).toNatClampNeg = 8 * ((p).toNatClampNeg ||| (1 <<< (x4_1).toNatClampNeg)) + (x4_1).toNatClampNeg := by have cz := cnat (x := v9) (by omega); omega
      refine go_iald (pc' := 51) dX12_rest_50 rfl (by decide) (by decide) rfl (vin_of (n := 2048) (by omega) (by omega)) ?_
      refine go_rngA (ixa_133 w0.1) (vinlt (vin_of (n := 2048) (by omega) (by omega))) (fun g10 => ?_)
      refine gz_iadd (pc' := 52) dX12_rest_51 rfl (by omega) (fun v11 h11 e11 => ?_)
      have he51 : (v11).toInt = JMP σ (a).toNatClampNeg (x4_1).toNatClampNeg + (σ.2 133 (v9).toNatClampNeg).toInt := by omega
      have hb1 := hb_1.1
      refine gz_min (pc' := 55) dX12_rest_52 rfl ml_X12_178 (Nat.le_of_ble_eq_true rfl) (Nat.le_of_ble_eq_true rfl) (fun v12 h12 e12 => ?_)
      refine go_istore_n (i := 3) (pc' := 56) dX12_rest_55 rfl rfl (by decide) ?_
      refine gz_iinc (c := 1) (pc' := 59) dX12_rest_56 rfl rfl (by decide) (by decide) (by decide) (by omega) (fun v13 h13 e13 => ?_)
      refine go_goto (tgt := 7) dX12_rest_59 (by decide) ?_
      exact go_lv (lv' := [(0, .ref (L.2.1 13)), (1, .int p), (2, .int a), (3, .int v12), (4, .int v13)]) rfl (ih1 _ (by omega)  v12 v13 (by omega) (by first | exact hb_1 | exact RES_min hb_1 (by omega) my (by rw [← ez]) (by omega) (by omega)) rfl)
  exact go_lv (lv' := [(0, .ref (L.2.1 13)), (1, .int p), (2, .int a), (3, .int (100000000 : Int32)), (4, .int (0 : Int32))]) rfl (loop7_1 _  (100000000 : Int32) (0 : Int32) (by omega) (by rw [n100000000]; exact RES_0 _ _ _ _) rfl)
set_option maxHeartbeats 4000000 in
set_option maxRecDepth 100000 in
theorem c_X12_leastOf (l : Launch) (L : WL) (σ : ST)  (ix : IV σ) : CtI l L yX12_leastOf cX12_leastOf 3 (some .int) rm_X12_leastOf [.ref (L.2.1 13)] σ (fun r σ2 => σ2 = σ ∧ LST σ r.toInt) := by
  refine ctI_go (own := RX12) (by decide) rfl (Nat.le_of_ble_eq_true rfl) (fun F hF => ?_)
  subst hF
  have n0 : (0 : Int32).toInt = 0 := by decide
  have n1 : (1 : Int32).toInt = 1 := by decide
  have n8 : (8 : Int32).toInt = 8 := by decide
  have n100000000 : (100000000 : Int32).toInt = 100000000 := by decide
  have w0 : WM σ σ := WM_rfl ix
  have u30 := ixi_30 ix
  have cm := cnat (x := σ.1 30) (by omega)
  refine go_aload_n (i := 0) (pc' := 1) dX12_leastOf_0 rfl rfl rfl ?_
  refine gf_13_many (pc' := 4) dX12_leastOf_1 rfl fl_X12_272 ?_
  have g1 := ixi_30 w0.1
  refine gz_if_ne (tgt := 9) (pc' := 7) dX12_leastOf_4 rfl (by decide) (fun c2 => ?_) (fun c2 => ?_)
  · refine go_ldcw (pc' := 12) dX12_leastOf_9 rfl cst_X12_282 ?_
    refine go_istore_n (i := 1) (pc' := 13) dX12_leastOf_12 rfl rfl (by decide) ?_
    refine go_iconst (v := 0) (pc' := 14) dX12_leastOf_13 rfl (by decide) ?_
    refine go_istore_n (i := 2) (pc' := 15) dX12_leastOf_14 rfl rfl (by decide) ?_
    have loop15_3 : ∀ (dd3 : Nat) (x1_3 : Int32) (x2_3 : Int32), (0 ≤ (x2_3).toInt ∧ (x2_3).toInt ≤ (σ.1 30).toInt) → (LS0 σ (x2_3).toNatClampNeg (x1_3).toInt) → (8 - (x2_3).toInt).toNat = dd3 → Go F L RX12 cX12_leastOf 3 rm_X12_leastOf (some .int) (RI F L (fun r σ2 => σ2 = σ ∧ LST σ r.toInt)) σ 15 [(0, .ref (L.2.1 13)), (1, .int x1_3), (2, .int x2_3)] [] := by
      intro dd3
      induction dd3 using Nat.strongRecOn with
      | _ dd3 ih3 =>
        intro x1_3 x2_3 h_3 hb_3 hm_3
        refine go_iload_n (i := 2) (pc' := 16) dX12_leastOf_15 rfl rfl rfl ?_
        refine go_aload_n (i := 0) (pc' := 17) dX12_leastOf_16 rfl rfl rfl ?_
        refine gf_13_many (pc' := 20) dX12_leastOf_17 rfl fl_X12_272 ?_
        have g4 := ixi_30 w0.1
        refine gz_icmp_ge (tgt := 56) (pc' := 23) dX12_leastOf_20 rfl (by decide) (fun c5 => ?_) (fun c5 => ?_)
        · refine go_iload_n (i := 1) (pc' := 57) dX12_leastOf_56 rfl rfl rfl ?_
          exact go_iret dX12_leastOf_57 rfl (⟨rfl, Or.inr ⟨by omega, by have c2 := cnat (x := x2_3) (by omega); rw [show (σ.1 30).toNatClampNeg = (x2_3).toNatClampNeg from by omega]; exact hb_3⟩⟩)
        have c4 := cnat (x := x2_3) (by omega)
        refine go_aload_n (i := 0) (pc' := 24) dX12_leastOf_23 rfl rfl rfl ?_
        refine go_iconst (v := 0) (pc' := 25) dX12_leastOf_24 rfl (by decide) ?_
        refine go_iload_n (i := 2) (pc' := 26) dX12_leastOf_25 rfl rfl rfl ?_
        refine go_cvi (pc' := 29) lk_X12_283 (c_X12_may _ _ _ _ _ (by omega) (by omega) w0.1) rfl rfl (Nat.le_of_ble_eq_true rfl) (by decide) rfl rfl rfl ⟨Nat.le_of_ble_eq_true rfl, Nat.le_of_ble_eq_true rfl⟩ ⟨rfl, rfl⟩ dX12_leastOf_26 rfl (fun r6 σ6 h6 => ?_)
        obtain ⟨e6, h6⟩ := h6
        have e6 := e6.symm
        subst e6
        refine go_eqB (tgt := 50) (pc' := 32) h6 dX12_leastOf_29 rfl (by decide) (fun c7 => ?_) (fun c7 => ?_)
        · refine gz_iinc (c := 1) (pc' := 53) dX12_leastOf_50 rfl rfl (by decide) (by decide) (by decide) (by omega) (fun v8 h8 e8 => ?_)
          refine go_goto (tgt := 15) dX12_leastOf_53 (by decide) ?_
          exact go_lv (lv' := [(0, .ref (L.2.1 13)), (1, .int x1_3), (2, .int v8)]) rfl (ih3 _ (by omega)  x1_3 v8 (by omega) (by have cv := cnat (x := v8) (by omega); first | exact LS0_min hb_3 (by omega) (by omega) my (by rw [Nat.zero_or, ← hq, ← ez]) (by omega) (by omega) | exact LS0_no hb_3 (by omega) c7) rfl)
        have my := c7
        have c4 := cnat (x := x2_3) (by omega)
        have bp := bit_one (k := x2_3) (by omega)
        obtain ⟨qq, hq⟩ : ∃ q : Nat, q = 1 <<< (x2_3).toNatClampNeg := ⟨_, rfl⟩
        rw [← hq] at bp
        refine go_iload_n (i := 1) (pc' := 33) dX12_leastOf_32 rfl rfl rfl ?_
        refine go_aload_n (i := 0) (pc' := 34) dX12_leastOf_33 rfl rfl rfl ?_
        refine gf_13_jumps (pc' := 37) dX12_leastOf_34 rfl fl_X12_126 ?_
        refine go_bipush (v := 8) (pc' := 39) dX12_leastOf_37 rfl (by decide) ?_
        refine go_iconst (v := 1) (pc' := 40) dX12_leastOf_39 rfl (by decide) ?_
        refine go_iload_n (i := 2) (pc' := 41) dX12_leastOf_40 rfl rfl rfl ?_
        refine go_ishl (pc' := 42) dX12_leastOf_41 rfl ?_
        refine gz_imulc (n := 8) (pc' := 43) dX12_leastOf_42 rfl (by decide) (by omega) (fun v9 h9 e9 => ?_)
        refine go_iload_n (i := 2) (pc' := 44) dX12_leastOf_43 rfl rfl rfl ?_
        refine gz_iadd (pc' := 45) dX12_leastOf_44 rfl (by omega) (fun v10 h10 e10 => ?_)
        have ez : (v10).toNatClampNeg = 8 * qq + (x2_3).toNatClampNeg := by have cz := cnat (x := v10) (by omega); omega
        refine go_iald (pc' := 46) dX12_leastOf_45 rfl (by decide) (by decide) rfl (vin_of (n := 2048) (by omega) (by omega)) ?_
        refine go_rngA (ixa_133 w0.1) (vinlt (vin_of (n := 2048) (by omega) (by omega))) (fun g11 => ?_)
        have hb1 := hb_3.1
        refine gz_min (pc' := 49) dX12_leastOf_46 rfl ml_X12_178 (Nat.le_of_ble_eq_true rfl) (Nat.le_of_ble_eq_true rfl) (fun v12 h12 e12 => ?_)
        refine go_istore_n (i := 1) (pc' := 50) dX12_leastOf_49 rfl rfl (by decide) ?_
        refine gz_iinc (c := 1) (pc' := 53) dX12_leastOf_50 rfl rfl (by decide) (by decide) (by decide) (by omega) (fun v13 h13 e13 => ?_)
        refine go_goto (tgt := 15) dX12_leastOf_53 (by decide) ?_
        exact go_lv (lv' := [(0, .ref (L.2.1 13)), (1, .int v12), (2, .int v13)]) rfl (ih3 _ (by omega)  v12 v13 (by omega) (by have cv := cnat (x := v13) (by omega); first | exact LS0_min hb_3 (by omega) (by omega) my (by rw [Nat.zero_or, ← hq, ← ez]) (by omega) (by omega) | exact LS0_no hb_3 (by omega) c7) rfl)
    exact go_lv (lv' := [(0, .ref (L.2.1 13)), (1, .int (100000000 : Int32)), (2, .int (0 : Int32))]) rfl (loop15_3 _  (100000000 : Int32) (0 : Int32) (by omega) (by rw [n100000000]; exact ⟨by decide, by decide, fun q => absurd q (by decide), fun j hj => absurd hj (Nat.not_lt_zero _)⟩) rfl)
  refine go_iconst (v := 0) (pc' := 8) dX12_leastOf_7 rfl (by decide) ?_
  exact go_iret dX12_leastOf_8 rfl (⟨rfl, Or.inl ⟨by omega, by omega⟩⟩)
set_option maxHeartbeats 4000000 in
set_option maxRecDepth 100000 in
theorem c_X12_finds (l : Launch) (L : WL) (σ : ST) (a : Int32) (ix : IV σ) (im : IM σ) : CtI l L yX12_finds cX12_finds 5 (some .int) rm_X12_finds [.ref (L.2.1 13), .int a] σ (fun r σ2 => WM σ σ2 ∧ (r.toInt = 0 → FD σ2)) := by
  refine ctI_go (own := RX12) (by decide) rfl (Nat.le_of_ble_eq_true rfl) (fun F hF => ?_)
  subst hF
  have nm2 : (-2 : Int32).toInt = -2 := by decide
  have nm1 : (-1 : Int32).toInt = -1 := by decide
  have n0 : (0 : Int32).toInt = 0 := by decide
  have n1 : (1 : Int32).toInt = 1 := by decide
  have n8 : (8 : Int32).toInt = 8 := by decide
  have w0 : WM σ σ := WM_rfl ix
  have u19 := ixi_19 ix
  have u20 := ixi_20 ix
  have u21 := ixi_21 ix
  have u22 := ixi_22 ix
  have z0 : (0 : Int32).toNatClampNeg = 0 := by decide
  refine go_iload_n (i := 1) (pc' := 1) dX12_finds_0 rfl rfl rfl ?_
  refine gz_if_lt (tgt := 14) (pc' := 4) dX12_finds_1 rfl (by decide) (fun c1 => ?_) (fun c1 => ?_)
  · refine go_bipush (v := (-2)) (pc' := 16) dX12_finds_14 rfl (by decide) ?_
    exact go_iret dX12_finds_16 rfl (⟨w0, fun q => by exfalso; omega⟩)
  refine go_iload_n (i := 1) (pc' := 5) dX12_finds_4 rfl rfl rfl ?_
  refine go_iconst (v := 1) (pc' := 6) dX12_finds_5 rfl (by decide) ?_
  refine go_aload_n (i := 0) (pc' := 7) dX12_finds_6 rfl rfl rfl ?_
  refine gf_13_letters (pc' := 10) dX12_finds_7 rfl fl_X12_142 ?_
  have g2 := ixi_20 ix
  refine go_ishl (pc' := 11) dX12_finds_10 rfl ?_
  refine gz_icmp_lt (tgt := 17) (pc' := 14) dX12_finds_11 rfl (by decide) (fun c3 => ?_) (fun c3 => ?_)
  · refine go_aload_n (i := 0) (pc' := 18) dX12_finds_17 rfl rfl rfl ?_
    refine go_iconst (v := 0) (pc' := 19) dX12_finds_18 rfl (by decide) ?_
    refine pf_13_many (pc' := 22) dX12_finds_19 rfl fl_X12_272 ?_
    refine go_gen (P := WM σ) ⟨ixs_30 w0.1 (by omega) (by omega), Ag_setI w0.2 (by decide)⟩ (fun σ4 w4 => ?_)
    refine go_iconst (v := 0) (pc' := 23) dX12_finds_22 rfl (by decide) ?_
    refine go_istore_n (i := 2) (pc' := 24) dX12_finds_23 rfl rfl (by decide) ?_
    have loop24_5 : ∀ (dd5 : Nat) (σ5 : ST) (x2_5 : Int32), WM σ σ5 → (0 ≤ (x2_5).toInt ∧ (x2_5).toInt ≤ 12) → (12 - (x2_5).toInt).toNat = dd5 → Go F L RX12 cX12_finds 5 rm_X12_finds (some .int) (RI F L (fun r σ2 => WM σ σ2 ∧ (r.toInt = 0 → FD σ2))) σ5 24 [(0, .ref (L.2.1 13)), (1, .int a), (2, .int x2_5)] [] := by
      intro dd5
      induction dd5 using Nat.strongRecOn with
      | _ dd5 ih5 =>
        intro σ5 x2_5 w5 h_5 hm_5
        refine go_iload_n (i := 2) (pc' := 25) dX12_finds_24 rfl rfl rfl ?_
        refine go_aload_n (i := 0) (pc' := 26) dX12_finds_25 rfl rfl rfl ?_
        refine gf_13_letters (pc' := 29) dX12_finds_26 rfl fl_X12_142 ?_
        refine go_topq (y := σ.1 20) (w5.2.1 20 (by decide)) ?_
        have g6 := ixi_20 ix
        refine gz_icmp_ge (tgt := 81) (pc' := 32) dX12_finds_29 rfl (by decide) (fun c7 => ?_) (fun c7 => ?_)
        · refine go_aload_n (i := 0) (pc' := 82) dX12_finds_81 rfl rfl rfl ?_
          refine go_cvi (pc' := 85) lk_X12_184 (c_X12_clashAll _ _ _ w5.1 (IM_q w5 im)) rfl rfl (Nat.le_of_ble_eq_true rfl) (by decide) rfl rfl rfl ⟨Nat.le_of_ble_eq_true rfl, Nat.le_of_ble_eq_true rfl⟩ ⟨rfl, rfl⟩ dX12_finds_82 rfl (fun r8 σ8 h8 => ?_)
          obtain ⟨u8, h8⟩ := h8
          have w8 := WM_trans w5 u8
          refine gz_if_eq (tgt := 90) (pc' := 88) dX12_finds_85 rfl (by decide) (fun c9 => ?_) (fun c9 => ?_)
          · refine go_aload_n (i := 0) (pc' := 91) dX12_finds_90 rfl rfl rfl ?_
            refine go_cvv (pc' := 94) lk_X12_193 (c_X12_findWays _ _ _ w8.1) rfl rfl (Nat.le_of_ble_eq_true rfl) (by decide) rfl rfl rfl ⟨Nat.le_of_ble_eq_true rfl, Nat.le_of_ble_eq_true rfl⟩ ⟨rfl, rfl⟩ dX12_finds_91 rfl (fun σ10 h10 => ?_)
            have w10 := WM_trans w8 h10
            have ub := ixi_30 w10.1
            have cb := cnat (x := σ10.1 30) (by omega)
            have ba := bit_all ub
            have ba3 := ba.2.2
            refine go_iconst (v := 1) (pc' := 95) dX12_finds_94 rfl (by decide) ?_
            refine go_aload_n (i := 0) (pc' := 96) dX12_finds_95 rfl rfl rfl ?_
            refine gf_13_many (pc' := 99) dX12_finds_96 rfl fl_X12_272 ?_
            have g11 := ixi_30 w10.1
            refine go_ishl (pc' := 100) dX12_finds_99 rfl ?_
            refine go_iconst (v := 1) (pc' := 101) dX12_finds_100 rfl (by decide) ?_
            refine go_isub (pc' := 102) dX12_finds_101 rfl ?_
            refine go_topz (fun y12 h12 e12 => ?_)
            refine go_istore_n (i := 2) (pc' := 103) dX12_finds_102 rfl rfl (by decide) ?_
            refine go_iload_n (i := 2) (pc' := 104) dX12_finds_103 rfl rfl rfl ?_
            refine go_istore_n (i := 3) (pc' := 105) dX12_finds_104 rfl rfl (by decide) ?_
            have loop105_13 : ∀ (dd13 : Nat) (σ13 : ST) (x3_13 : Int32), WM σ σ13 → (-1 ≤ (x3_13).toInt ∧ (x3_13).toInt ≤ (y12).toInt) → (JK σ10 σ13) → (∀ P a : Nat, (x3_13).toInt < (P : Int) → P + 1 < 2 ^ (σ10.1 30).toNatClampNeg → a < (σ10.1 30).toNatClampNeg → TB σ13 (σ10.1 30).toNatClampNeg P a) → ((x3_13).toInt + 1).toNat = dd13 → Go F L RX12 cX12_finds 5 rm_X12_finds (some .int) (RI F L (fun r σ2 => WM σ σ2 ∧ (r.toInt = 0 → FD σ2))) σ13 105 [(0, .ref (L.2.1 13)), (1, .int a), (2, .int y12), (3, .int x3_13)] [] := by
              intro dd13
              induction dd13 using Nat.strongRecOn with
              | _ dd13 ih13 =>
                intro σ13 x3_13 w13 h_13 he_13 hT_13 hm_13
                refine go_iload_n (i := 3) (pc' := 106) dX12_finds_105 rfl rfl rfl ?_
                refine gz_if_lt (tgt := 161) (pc' := 109) dX12_finds_106 rfl (by decide) (fun c14 => ?_) (fun c14 => ?_)
                · refine go_iconst (v := 0) (pc' := 162) dX12_finds_161 rfl (by decide) ?_
                  exact go_iret dX12_finds_162 rfl (⟨w13, fun _ P a h1 h2 => by rw [he_13.2.2.2.2] at h1 h2 ⊢; exact hT_13 P a (by omega) h1 h2⟩)
                have c3 := cnat (x := x3_13) (by omega)
                refine go_iconst (v := 0) (pc' := 110) dX12_finds_109 rfl (by decide) ?_
                refine go_istore (pc' := 112) dX12_finds_110 rfl (by decide) ?_
                have loop112_15 : ∀ (dd15 : Nat) (σ15 : ST) (x4_15 : Int32), WM σ σ15 → (0 ≤ (x4_15).toInt ∧ (x4_15).toInt ≤ (σ10.1 30).toInt) → (JK σ10 σ15) → (∀ P a : Nat, ((x3_13).toNatClampNeg < P ∨ (P = (x3_13).toNatClampNeg ∧ a < (x4_15).toNatClampNeg)) → P + 1 < 2 ^ (σ10.1 30).toNatClampNeg → a < (σ10.1 30).toNatClampNeg → TB σ15 (σ10.1 30).toNatClampNeg P a) → (8 - (x4_15).toInt).toNat = dd15 → Go F L RX12 cX12_finds 5 rm_X12_finds (some .int) (RI F L (fun r σ2 => WM σ σ2 ∧ (r.toInt = 0 → FD σ2))) σ15 112 [(0, .ref (L.2.1 13)), (1, .int a), (2, .int y12), (3, .int x3_13), (4, .int x4_15)] [] := by
                  intro dd15
                  induction dd15 using Nat.strongRecOn with
                  | _ dd15 ih15 =>
                    intro σ15 x4_15 w15 h_15 he_15 hT_15 hm_15
                    refine go_iload (pc' := 114) dX12_finds_112 rfl rfl ?_
                    refine go_aload_n (i := 0) (pc' := 115) dX12_finds_114 rfl rfl rfl ?_
                    refine gf_13_many (pc' := 118) dX12_finds_115 rfl fl_X12_272 ?_
                    have g16 := ixi_30 w15.1
                    refine gz_icmp_ge (tgt := 155) (pc' := 121) dX12_finds_118 rfl (by decide) (fun c17 => ?_) (fun c17 => ?_)
                    · have c4 := cnat (x := x4_15) (by omega)
                      have em := congrArg Int32.toInt he_15.2.2.2.2
                      refine gz_iinc (c := (-1)) (pc' := 158) dX12_finds_155 rfl rfl (by decide) (by decide) (by decide) (by omega) (fun v18 h18 e18 => ?_)
                      refine go_goto (tgt := 105) dX12_finds_158 (by decide) ?_
                      exact go_lv (lv' := [(0, .ref (L.2.1 13)), (1, .int a), (2, .int y12), (3, .int v18)]) rfl (ih13 _ (by omega) σ15 v18 w15 (by omega) he_15 (fun P a h1 h2 h3 => hT_15 P a (by omega) h2 h3) rfl)
                    have c4 := cnat (x := x4_15) (by omega)
                    have em := congrArg Int32.toInt he_15.2.2.2.2
                    refine go_aload_n (i := 0) (pc' := 122) dX12_finds_121 rfl rfl rfl ?_
                    refine gf_13_jumps (pc' := 125) dX12_finds_122 rfl fl_X12_126 ?_
                    refine go_bipush (v := 8) (pc' := 127) dX12_finds_125 rfl (by decide) ?_
                    refine go_iload_n (i := 3) (pc' := 128) dX12_finds_127 rfl rfl rfl ?_
                    refine gz_imulc (n := 8) (pc' := 129) dX12_finds_128 rfl (by decide) (by omega) (fun v19 h19 e19 => ?_)
                    refine go_iload (pc' := 131) dX12_finds_129 rfl rfl ?_
                    refine gz_iadd (pc' := 132) dX12_finds_131 rfl (by omega) (fun v20 h20 e20 => ?_)
                    have ez : (v20).toNatClampNeg = 8 * (x3_13).toNatClampNeg + (x4_15).toNatClampNeg := by have cz := cnat (x := v20) (by omega); omega
                    refine go_iload_n (i := 3) (pc' := 133) dX12_finds_132 rfl rfl rfl ?_
                    refine go_iload_n (i := 2) (pc' := 134) dX12_finds_133 rfl rfl rfl ?_
                    have mrg148_21 : ∀ (y0_21 : Int32), ((0 ≤ (y0_21).toInt ∧ (y0_21).toInt ≤ 100000000) ∧ ((x3_13).toNatClampNeg + 1 < 2 ^ (σ10.1 30).toNatClampNeg → RES σ15 (σ10.1 30).toNatClampNeg (x3_13).toNatClampNeg (x4_15).toNatClampNeg (y0_21).toInt)) → Go F L RX12 cX12_finds 5 rm_X12_finds (some .int) (RI F L (fun r σ2 => WM σ σ2 ∧ (r.toInt = 0 → FD σ2))) σ15 148 [(0, .ref (L.2.1 13)), (1, .int a), (2, .int y12), (3, .int x3_13), (4, .int x4_15)] [.int y0_21, .int v20, .ref (L.2.1 133)] := by
                      intro y0_21 hv_21
                      refine go_iast (pc' := 149) dX12_finds_148 rfl (by decide) (by decide) rfl (vin_of (n := 2048) (by omega) (by omega)) ?_
                      refine go_gen (P := fun s => WM σ s ∧ (s.2 133 = upd (σ15.2 133) (v20).toNatClampNeg y0_21) ∧ JK σ15 s) ⟨⟨ixt_133 w15.1 (by omega) (by omega), Ag_setA w15.2 (by decide)⟩, ⟨setA_same _ _ _ _, setA_ne (a := 120) _ 133 _ _ (by decide), setA_ne (a := 121) _ 133 _ _ (by decide), setA_ne (a := 122) _ 133 _ _ (by decide), setA_ne (a := 132) _ 133 _ _ (by decide), rfl⟩⟩ (fun σ22 z22 => ?_)
                      obtain ⟨w22, g22⟩ := z22
                      have gj := g22
                      refine gz_iinc (c := 1) (pc' := 152) dX12_finds_149 rfl rfl (by decide) (by decide) (by decide) (by omega) (fun v23 h23 e23 => ?_)
                      refine go_goto (tgt := 112) dX12_finds_152 (by decide) ?_
                      exact go_lv (lv' := [(0, .ref (L.2.1 13)), (1, .int a), (2, .int y12), (3, .int x3_13), (4, .int v23)]) rfl (ih15 _ (by omega) σ22 v23 w22 (by omega) ⟨gj.2.1.trans he_15.1, gj.2.2.1.trans he_15.2.1, gj.2.2.2.1.trans he_15.2.2.1, gj.2.2.2.2.1.trans he_15.2.2.2.1, gj.2.2.2.2.2.trans he_15.2.2.2.2⟩ (fun P a h1 h2 h3 => TB_store gj.2 gj.1 ez (by omega) (by omega) ba3 hT_15 hv_21.2 P a (by have cv := cnat (x := v23) (by omega); omega) h2 h3) rfl)
                    refine gz_icmp_ne (tgt := 141) (pc' := 137) dX12_finds_134 rfl (by decide) (fun c24 => ?_) (fun c24 => ?_)
                    · refine go_aload_n (i := 0) (pc' := 142) dX12_finds_141 rfl rfl rfl ?_
                      refine go_iload_n (i := 3) (pc' := 143) dX12_finds_142 rfl rfl rfl ?_
                      refine go_iload (pc' := 145) dX12_finds_143 rfl rfl ?_
                      refine go_cvi (pc' := 148) lk_X12_275 (c_X12_rest _ _ _ _ _ (by omega) (by omega) w15.1) rfl rfl (Nat.le_of_ble_eq_true rfl) (by decide) rfl rfl rfl ⟨Nat.le_of_ble_eq_true rfl, Nat.le_of_ble_eq_true rfl⟩ ⟨rfl, rfl⟩ dX12_finds_145 rfl (fun r25 σ25 h25 => ?_)
                      obtain ⟨e25, h25⟩ := h25
                      have e25 := e25.symm
                      subst e25
                      exact go_lv (lv' := [(0, .ref (L.2.1 13)), (1, .int a), (2, .int y12), (3, .int x3_13), (4, .int x4_15)]) rfl (mrg148_21  r25 (by first | exact ⟨by omega, fun q => by exfalso; omega⟩ | (have rs := h25; rw [he_15.2.2.2.2] at rs; exact ⟨⟨rs.1, rs.2.1⟩, fun _ => rs⟩)))
                    refine go_iconst (v := 0) (pc' := 138) dX12_finds_137 rfl (by decide) ?_
                    refine go_goto (tgt := 148) dX12_finds_138 (by decide) ?_
                    exact go_lv (lv' := [(0, .ref (L.2.1 13)), (1, .int a), (2, .int y12), (3, .int x3_13), (4, .int x4_15)]) rfl (mrg148_21  (0 : Int32) (by first | exact ⟨by omega, fun q => by exfalso; omega⟩ | (have rs := h10; rw [he_15.2.2.2.2] at rs; exact ⟨⟨rs.1, rs.2.1⟩, fun _ => rs⟩)))
                exact go_lv (lv' := [(0, .ref (L.2.1 13)), (1, .int a), (2, .int y12), (3, .int x3_13), (4, .int (0 : Int32))]) rfl (loop112_15 _ σ13 (0 : Int32) w13 (by omega) he_13 (fun P a h1 h2 h3 => hT_13 P a (by omega) h2 h3) rfl)
            exact go_lv (lv' := [(0, .ref (L.2.1 13)), (1, .int a), (2, .int y12), (3, .int y12)]) rfl (loop105_13 _ σ10 y12 w10 (by omega) ⟨rfl, rfl, rfl, rfl, rfl⟩ (fun P a h1 h2 h3 => by exfalso; omega) rfl)
          refine go_iconst (v := (-1)) (pc' := 89) dX12_finds_88 rfl (by decide) ?_
          exact go_iret dX12_finds_89 rfl (⟨w8, fun q => by exfalso; omega⟩)
        refine go_iload_n (i := 1) (pc' := 33) dX12_finds_32 rfl rfl rfl ?_
        refine go_iload_n (i := 2) (pc' := 34) dX12_finds_33 rfl rfl rfl ?_
        refine go_ishr (pc' := 35) dX12_finds_34 rfl ?_
        refine go_iconst (v := 1) (pc' := 36) dX12_finds_35 rfl (by decide) ?_
        refine go_iand (pc' := 37) dX12_finds_36 rfl ?_
        refine gz_if_ne (tgt := 43) (pc' := 40) dX12_finds_37 rfl (by decide) (fun c26 => ?_) (fun c26 => ?_)
        · refine go_aload_n (i := 0) (pc' := 44) dX12_finds_43 rfl rfl rfl ?_
          refine gf_13_many (pc' := 47) dX12_finds_44 rfl fl_X12_272 ?_
          have g27 := ixi_30 w5.1
          refine go_bipush (v := 8) (pc' := 49) dX12_finds_47 rfl (by decide) ?_
          refine gz_icmp_ne (tgt := 55) (pc' := 52) dX12_finds_49 rfl (by decide) (fun c28 => ?_) (fun c28 => ?_)
          · refine go_aload_n (i := 0) (pc' := 56) dX12_finds_55 rfl rfl rfl ?_
            refine gf_13_some (pc' := 59) dX12_finds_56 rfl fl_X12_123 ?_
            refine go_aload_n (i := 0) (pc' := 60) dX12_finds_59 rfl rfl rfl ?_
            refine gf_13_many (pc' := 63) dX12_finds_60 rfl fl_X12_272 ?_
            have g29 := ixi_30 w5.1
            refine go_iload_n (i := 2) (pc' := 64) dX12_finds_63 rfl rfl rfl ?_
            refine go_iast (pc' := 65) dX12_finds_64 rfl (by decide) (by decide) rfl (vin_of (n := 8) (by omega) (by omega)) ?_
            refine go_gen (P := fun s => WM σ s ∧ s.1 30 = σ5.1 30) ⟨⟨ixt_132 w5.1 (by omega) (by omega), Ag_setA w5.2 (by decide)⟩, rfl⟩ (fun σ30 z30 => ?_)
            obtain ⟨w30, g30⟩ := z30
            have q30 := congrArg Int32.toInt g30
            refine go_aload_n (i := 0) (pc' := 66) dX12_finds_65 rfl rfl rfl ?_
            refine go_dup (pc' := 67) dX12_finds_66 rfl rfl ?_
            refine gf_13_many (pc' := 70) dX12_finds_67 rfl fl_X12_272 ?_
            have g31 := ixi_30 w30.1
            refine go_iconst (v := 1) (pc' := 71) dX12_finds_70 rfl (by decide) ?_
            refine gz_iadd (pc' := 72) dX12_finds_71 rfl (by omega) (fun v32 h32 e32 => ?_)
            refine pf_13_many (pc' := 75) dX12_finds_72 rfl fl_X12_272 ?_
            refine go_gen (P := WM σ) ⟨ixs_30 w30.1 (by omega) (by omega), Ag_setI w30.2 (by decide)⟩ (fun σ33 w33 => ?_)
            refine gz_iinc (c := 1) (pc' := 78) dX12_finds_75 rfl rfl (by decide) (by decide) (by decide) (by omega) (fun v34 h34 e34 => ?_)
            refine go_goto (tgt := 24) dX12_finds_78 (by decide) ?_
            exact go_lv (lv' := [(0, .ref (L.2.1 13)), (1, .int a), (2, .int v34)]) rfl (ih5 _ (by omega) σ33 v34 w33 (by omega) rfl)
          refine go_bipush (v := (-2)) (pc' := 54) dX12_finds_52 rfl (by decide) ?_
          exact go_iret dX12_finds_54 rfl (⟨w5, fun q => by exfalso; omega⟩)
        refine go_goto (tgt := 75) dX12_finds_40 (by decide) ?_
        refine gz_iinc (c := 1) (pc' := 78) dX12_finds_75 rfl rfl (by decide) (by decide) (by decide) (by omega) (fun v35 h35 e35 => ?_)
        refine go_goto (tgt := 24) dX12_finds_78 (by decide) ?_
        exact go_lv (lv' := [(0, .ref (L.2.1 13)), (1, .int a), (2, .int v35)]) rfl (ih5 _ (by omega) σ5 v35 w5 (by omega) rfl)
    exact go_lv (lv' := [(0, .ref (L.2.1 13)), (1, .int a), (2, .int (0 : Int32))]) rfl (loop24_5 _ σ4 (0 : Int32) w4 (by omega) rfl)
  refine go_bipush (v := (-2)) (pc' := 16) dX12_finds_14 rfl (by decide) ?_
  exact go_iret dX12_finds_16 rfl (⟨w0, fun q => by exfalso; omega⟩)
set_option maxHeartbeats 4000000 in
set_option maxRecDepth 100000 in
theorem c_X12_jumps (l : Launch) (L : WL) (σ : ST) (a : Int32) (ix : IV σ) (im : IM σ) : CtI l L yX12_jumps cX12_jumps 4 (some .int) rm_X12_jumps [.ref (L.2.1 13), .int a] σ (fun _ σ2 => WM σ σ2) := by
  refine ctI_go (own := RX12) (by decide) rfl (Nat.le_of_ble_eq_true rfl) (fun F hF => ?_)
  subst hF
  have nm1 : (-1 : Int32).toInt = -1 := by decide
  have n100000000 : (100000000 : Int32).toInt = 100000000 := by decide
  have w0 : WM σ σ := WM_rfl ix
  have u19 := ixi_19 ix
  have u20 := ixi_20 ix
  have u21 := ixi_21 ix
  have u22 := ixi_22 ix
  refine go_aload_n (i := 0) (pc' := 1) dX12_jumps_0 rfl rfl rfl ?_
  refine go_iload_n (i := 1) (pc' := 2) dX12_jumps_1 rfl rfl rfl ?_
  refine go_cvi (pc' := 5) lk_X12_289 (c_X12_finds _ _ _ _ w0.1 (IM_q w0 im)) rfl rfl (Nat.le_of_ble_eq_true rfl) (by decide) rfl rfl rfl ⟨Nat.le_of_ble_eq_true rfl, Nat.le_of_ble_eq_true rfl⟩ ⟨rfl, rfl⟩ dX12_jumps_2 rfl (fun r1 σ1 h1 => ?_)
  obtain ⟨u1, h1⟩ := h1
  have w1 := WM_trans w0 u1
  refine go_istore_n (i := 2) (pc' := 6) dX12_jumps_5 rfl rfl (by decide) ?_
  refine go_iload_n (i := 2) (pc' := 7) dX12_jumps_6 rfl rfl rfl ?_
  refine gz_if_eq (tgt := 12) (pc' := 10) dX12_jumps_7 rfl (by decide) (fun c2 => ?_) (fun c2 => ?_)
  · refine go_aload_n (i := 0) (pc' := 13) dX12_jumps_12 rfl rfl rfl ?_
    refine go_cvi (pc' := 16) lk_X12_292 (c_X12_leastOf _ _ _ w1.1) rfl rfl (Nat.le_of_ble_eq_true rfl) (by decide) rfl rfl rfl ⟨Nat.le_of_ble_eq_true rfl, Nat.le_of_ble_eq_true rfl⟩ ⟨rfl, rfl⟩ dX12_jumps_13 rfl (fun r3 σ3 h3 => ?_)
    obtain ⟨e3, h3⟩ := h3
    have e3 := e3.symm
    subst e3
    refine go_istore_n (i := 3) (pc' := 17) dX12_jumps_16 rfl rfl (by decide) ?_
    refine go_iload_n (i := 3) (pc' := 18) dX12_jumps_17 rfl rfl rfl ?_
    refine go_ldcw (pc' := 21) dX12_jumps_18 rfl cst_X12_282 ?_
    refine gz_icmp_lt (tgt := 28) (pc' := 24) dX12_jumps_21 rfl (by decide) (fun c4 => ?_) (fun c4 => ?_)
    · refine go_iload_n (i := 3) (pc' := 29) dX12_jumps_28 rfl rfl rfl ?_
      exact go_iret dX12_jumps_29 rfl (w1)
    refine go_iconst (v := (-1)) (pc' := 25) dX12_jumps_24 rfl (by decide) ?_
    refine go_goto (tgt := 29) dX12_jumps_25 (by decide) ?_
    exact go_iret dX12_jumps_29 rfl (w1)
  refine go_iload_n (i := 2) (pc' := 11) dX12_jumps_10 rfl rfl rfl ?_
  exact go_iret dX12_jumps_11 rfl (w1)
set_option maxHeartbeats 4000000 in
set_option maxRecDepth 100000 in
theorem c_X12_order (l : Launch) (L : WL) (σ : ST) (a b : Int32) (ix : IV σ) (im : IM σ) : CtI l L yX12_order cX12_order 9 (some .int) rm_X12_order [.ref (L.2.1 13), .int a, .int b] σ (fun _ σ2 => WM σ σ2) := by
  refine ctI_go (own := RX12) (by decide) rfl (Nat.le_of_ble_eq_true rfl) (fun F hF => ?_)
  subst hF
  have nm1 : (-1 : Int32).toInt = -1 := by decide
  have n0 : (0 : Int32).toInt = 0 := by decide
  have n1 : (1 : Int32).toInt = 1 := by decide
  have n8 : (8 : Int32).toInt = 8 := by decide
  have n100000000 : (100000000 : Int32).toInt = 100000000 := by decide
  have w0 : WM σ σ := WM_rfl ix
  have u19 := ixi_19 ix
  have u20 := ixi_20 ix
  have u21 := ixi_21 ix
  have u22 := ixi_22 ix
  refine go_aload_n (i := 0) (pc' := 1) dX12_order_0 rfl rfl rfl ?_
  refine go_iload_n (i := 1) (pc' := 2) dX12_order_1 rfl rfl rfl ?_
  refine go_cvi (pc' := 5) lk_X12_289 (c_X12_finds _ _ _ _ w0.1 (IM_q w0 im)) rfl rfl (Nat.le_of_ble_eq_true rfl) (by decide) rfl rfl rfl ⟨Nat.le_of_ble_eq_true rfl, Nat.le_of_ble_eq_true rfl⟩ ⟨rfl, rfl⟩ dX12_order_2 rfl (fun r1 σ1 h1 => ?_)
  obtain ⟨u1, h1⟩ := h1
  have w1 := WM_trans w0 u1
  refine go_istore_n (i := 3) (pc' := 6) dX12_order_5 rfl rfl (by decide) ?_
  refine go_iload_n (i := 3) (pc' := 7) dX12_order_6 rfl rfl rfl ?_
  refine gz_if_eq (tgt := 12) (pc' := 10) dX12_order_7 rfl (by decide) (fun c2 => ?_) (fun c2 => ?_)
  · have fd := h1 (by omega)
    have u30 := ixi_30 w1.1
    have cm := cnat (x := σ1.1 30) (by omega)
    have ba := bit_all u30
    refine go_iload_n (i := 2) (pc' := 13) dX12_order_12 rfl rfl rfl ?_
    refine go_aload_n (i := 0) (pc' := 14) dX12_order_13 rfl rfl rfl ?_
    refine gf_13_many (pc' := 17) dX12_order_14 rfl fl_X12_272 ?_
    have g3 := ixi_30 w1.1
    refine go_csi (pc' := 20) ls_X12_135 (c_X12_isIn _ _ _ _ _) rfl rfl (Nat.le_of_ble_eq_true rfl) ⟨Nat.le_of_ble_eq_true rfl, Nat.le_of_ble_eq_true rfl⟩ ⟨rfl, rfl⟩ dX12_order_17 rfl (fun r4 σ4 h4 => ?_)
    obtain ⟨e4, h4⟩ := h4
    have e4 := e4.symm
    subst e4
    refine go_eqB (tgt := 33) (pc' := 23) h4 dX12_order_20 rfl (by decide) (fun c5 => ?_) (fun c5 => ?_)
    · refine go_iconst (v := (-1)) (pc' := 34) dX12_order_33 rfl (by decide) ?_
      exact go_iret dX12_order_34 rfl (w1)
    refine go_aload_n (i := 0) (pc' := 24) dX12_order_23 rfl rfl rfl ?_
    refine go_cvi (pc' := 27) lk_X12_292 (c_X12_leastOf _ _ _ w1.1) rfl rfl (Nat.le_of_ble_eq_true rfl) (by decide) rfl rfl rfl ⟨Nat.le_of_ble_eq_true rfl, Nat.le_of_ble_eq_true rfl⟩ ⟨rfl, rfl⟩ dX12_order_24 rfl (fun r6 σ6 h6 => ?_)
    obtain ⟨e6, h6⟩ := h6
    have e6 := e6.symm
    subst e6
    have ls0 := h6
    refine go_ldcw (pc' := 30) dX12_order_27 rfl cst_X12_282 ?_
    refine gz_icmp_lt (tgt := 35) (pc' := 33) dX12_order_30 rfl (by decide) (fun c7 => ?_) (fun c7 => ?_)
    · refine go_iconst (v := 0) (pc' := 36) dX12_order_35 rfl (by decide) ?_
      refine go_istore (pc' := 38) dX12_order_36 rfl (by decide) ?_
      refine go_iconst (v := (-1)) (pc' := 39) dX12_order_38 rfl (by decide) ?_
      refine go_istore (pc' := 41) dX12_order_39 rfl (by decide) ?_
      refine go_aload_n (i := 0) (pc' := 42) dX12_order_41 rfl rfl rfl ?_
      refine go_cvi (pc' := 45) lk_X12_292 (c_X12_leastOf _ _ _ w1.1) rfl rfl (Nat.le_of_ble_eq_true rfl) (by decide) rfl rfl rfl ⟨Nat.le_of_ble_eq_true rfl, Nat.le_of_ble_eq_true rfl⟩ ⟨rfl, rfl⟩ dX12_order_42 rfl (fun r8 σ8 h8 => ?_)
      obtain ⟨e8, h8⟩ := h8
      have e8 := e8.symm
      subst e8
      have ls := h8
      refine go_istore (pc' := 47) dX12_order_45 rfl (by decide) ?_
      refine go_iconst (v := 0) (pc' := 48) dX12_order_47 rfl (by decide) ?_
      refine go_istore (pc' := 50) dX12_order_48 rfl (by decide) ?_
      have loop50_9 : ∀ (dd9 : Nat) (x4_9 : Int32) (x5_9 : Int32) (x6_9 : Int32) (x7_9 : Int32), (0 ≤ (x7_9).toInt ∧ (x7_9).toInt ≤ (b).toInt + 1) → (0 ≤ (x4_9).toInt ∧ -1 ≤ (x5_9).toInt ∧ (x5_9).toInt < 8 ∧ (1 ≤ (x7_9).toInt → 0 ≤ (x5_9).toInt)) → (OW σ1 (x4_9).toNatClampNeg (x7_9).toNatClampNeg (x5_9).toInt (x6_9).toInt) → ((b).toInt + 1 - (x7_9).toInt).toNat = dd9 → Go F L RX12 cX12_order 9 rm_X12_order (some .int) (RI F L (fun _ σ2 => WM σ σ2)) σ1 50 [(0, .ref (L.2.1 13)), (1, .int a), (2, .int b), (3, .int r1), (4, .int x4_9), (5, .int x5_9), (6, .int x6_9), (7, .int x7_9)] [] := by
        intro dd9
        induction dd9 using Nat.strongRecOn with
        | _ dd9 ih9 =>
          intro x4_9 x5_9 x6_9 x7_9 h_9 hl_9 hO_9 hm_9
          refine go_iload (pc' := 52) dX12_order_50 rfl rfl ?_
          refine go_iload_n (i := 2) (pc' := 53) dX12_order_52 rfl rfl rfl ?_
          refine gz_icmp_gt (tgt := 156) (pc' := 56) dX12_order_53 rfl (by decide) (fun c10 => ?_) (fun c10 => ?_)
          · refine go_aload_n (i := 0) (pc' := 157) dX12_order_156 rfl rfl rfl ?_
            refine gf_13_some (pc' := 160) dX12_order_157 rfl fl_X12_123 ?_
            refine go_iload (pc' := 162) dX12_order_160 rfl rfl ?_
            refine go_iald (pc' := 163) dX12_order_162 rfl (by decide) (by decide) rfl (vin_of (n := 8) (by omega) (by omega)) ?_
            refine go_rngA (ixa_132 w1.1) (vinlt (vin_of (n := 8) (by omega) (by omega))) (fun g11 => ?_)
            exact go_iret dX12_order_163 rfl (w1)
          have c5 : (x5_9).toInt < 0 ∨ ((x5_9).toNatClampNeg : Int) = (x5_9).toInt := by
            by_cases z : (x5_9).toInt < 0
            · exact Or.inl z
            · exact Or.inr (cnat (by omega))
          have cP := cnat (x := x4_9) (by omega)
          have c7 := cnat (x := x7_9) (by omega)
          have hO := hO_9
          obtain ⟨k0, e1, e2, e3⟩ := OW_ex fd hO u30 (by omega)
          have P256 : (x4_9).toInt < 256 := by have z := hO.1; omega
          refine go_iconst (v := 0) (pc' := 57) dX12_order_56 rfl (by decide) ?_
          refine go_istore (pc' := 59) dX12_order_57 rfl (by decide) ?_
          have loop59_12 : ∀ (dd12 : Nat) (x8_12 : Int32), (0 ≤ (x8_12).toInt ∧ (x8_12).toNatClampNeg ≤ k0) → (9 - (x8_12).toInt).toNat = dd12 → Go F L RX12 cX12_order 9 rm_X12_order (some .int) (RI F L (fun _ σ2 => WM σ σ2)) σ1 59 [(0, .ref (L.2.1 13)), (1, .int a), (2, .int b), (3, .int r1), (4, .int x4_9), (5, .int x5_9), (6, .int x6_9), (7, .int x7_9), (8, .int x8_12)] [] := by
            intro dd12
            induction dd12 using Nat.strongRecOn with
            | _ dd12 ih12 =>
              intro x8_12 h_12 hm_12
              have c8 := cnat (x := x8_12) (by omega)
              refine go_aload_n (i := 0) (pc' := 60) dX12_order_59 rfl rfl rfl ?_
              refine go_iload (pc' := 62) dX12_order_60 rfl rfl ?_
              refine go_iload (pc' := 64) dX12_order_62 rfl rfl ?_
              refine go_cvi (pc' := 67) lk_X12_283 (c_X12_may _ _ _ _ _ (by omega) (by omega) w1.1) rfl rfl (Nat.le_of_ble_eq_true rfl) (by decide) rfl rfl rfl ⟨Nat.le_of_ble_eq_true rfl, Nat.le_of_ble_eq_true rfl⟩ ⟨rfl, rfl⟩ dX12_order_64 rfl (fun r13 σ13 h13 => ?_)
              obtain ⟨e13, h13⟩ := h13
              have e13 := e13.symm
              subst e13
              refine go_eqB (tgt := 111) (pc' := 70) h13 dX12_order_67 rfl (by decide) (fun c14 => ?_) (fun c14 => ?_)
              · have lt : (x8_12).toNatClampNeg < k0 := by
                  have c8 := cnat (x := x8_12) (by omega)
                  by_cases z : (x8_12).toNatClampNeg = k0
                  · exfalso
                    rw [← z] at e2 e3
                    first
                    | exact c14 e2
                    | (rw [← ez] at e3; first | (rw [if_pos (by omega)] at e3; omega) | (rw [if_neg (by omega), show (x5_9).toInt.toNat = (x5_9).toNatClampNeg from rfl] at e3; omega))
                  · omega
                refine gz_iinc (c := 1) (pc' := 114) dX12_order_111 rfl rfl (by decide) (by decide) (by decide) (by omega) (fun v15 h15 e15 => ?_)
                refine go_goto (tgt := 59) dX12_order_114 (by decide) ?_
                exact go_lv (lv' := [(0, .ref (L.2.1 13)), (1, .int a), (2, .int b), (3, .int r1), (4, .int x4_9), (5, .int x5_9), (6, .int x6_9), (7, .int x7_9), (8, .int v15)]) rfl (ih12 _ (by omega)  v15 (by have c8 := cnat (x := x8_12) (by omega); have c9 := cnat (x := v15) (by omega); omega) rfl)
              have my := c14
              have c8 := cnat (x := x8_12) (by omega)
              have bp := bit_put (p := x4_9) (k := x8_12) (by omega) (by omega) my.1
              refine go_iload (pc' := 72) dX12_order_70 rfl rfl ?_
              refine gz_if_ge (tgt := 79) (pc' := 75) dX12_order_72 rfl (by decide) (fun c16 => ?_) (fun c16 => ?_)
              · refine go_aload_n (i := 0) (pc' := 80) dX12_order_79 rfl rfl rfl ?_
                refine go_iload (pc' := 82) dX12_order_80 rfl rfl ?_
                refine go_iload (pc' := 84) dX12_order_82 rfl rfl ?_
                refine go_cvi (pc' := 87) lk_X12_286 (c_X12_jump _ _ _ _ _ (by omega) (by omega) w1.1) rfl rfl (Nat.le_of_ble_eq_true rfl) (by decide) rfl rfl rfl ⟨Nat.le_of_ble_eq_true rfl, Nat.le_of_ble_eq_true rfl⟩ ⟨rfl, rfl⟩ dX12_order_84 rfl (fun r17 σ17 h17 => ?_)
                obtain ⟨e17, h17⟩ := h17
                have e17 := e17.symm
                subst e17
                have jn := JMP_nn σ1 (x5_9).toNatClampNeg (x8_12).toNatClampNeg
                refine go_aload_n (i := 0) (pc' := 88) dX12_order_87 rfl rfl rfl ?_
                refine gf_13_jumps (pc' := 91) dX12_order_88 rfl fl_X12_126 ?_
                refine go_bipush (v := 8) (pc' := 93) dX12_order_91 rfl (by decide) ?_
                refine go_iload (pc' := 95) dX12_order_93 rfl rfl ?_
                refine go_iconst (v := 1) (pc' := 96) dX12_order_95 rfl (by decide) ?_
                refine go_iload (pc' := 98) dX12_order_96 rfl rfl ?_
                refine go_ishl (pc' := 99) dX12_order_98 rfl ?_
                refine go_ior (pc' := 100) dX12_order_99 rfl ?_
                refine gz_imulc (n := 8) (pc' := 101) dX12_order_100 rfl (by decide) (by omega) (fun v18 h18 e18 => ?_)
                refine go_iload (pc' := 103) dX12_order_101 rfl rfl ?_
                refine gz_iadd (pc' := 104) dX12_order_103 rfl (by omega) (fun v19 h19 e19 => ?_)
                have ez : (v19).toNatClampNeg = 8 * ((x4_9).toNatClampNeg ||| (1 <<< (x8_12).toNatClampNeg)) + (x8_12).toNatClampNeg := by have cz := cnat (x := v19) (by omega); omega
                refine go_iald (pc' := 105) dX12_order_104 rfl (by decide) (by decide) rfl (vin_of (n := 2048) (by omega) (by omega)) ?_
                refine go_rngA (ixa_133 w1.1) (vinlt (vin_of (n := 2048) (by omega) (by omega))) (fun g20 => ?_)
                refine gz_iadd (pc' := 106) dX12_order_105 rfl (by omega) (fun v21 h21 e21 => ?_)
                refine go_iload (pc' := 108) dX12_order_106 rfl rfl ?_
                refine gz_icmp_eq (tgt := 117) (pc' := 111) dX12_order_108 rfl (by decide) (fun c22 => ?_) (fun c22 => ?_)
                · refine go_aload_n (i := 0) (pc' := 118) dX12_order_117 rfl rfl rfl ?_
                  refine gf_13_jumps (pc' := 121) dX12_order_118 rfl fl_X12_126 ?_
                  refine go_bipush (v := 8) (pc' := 123) dX12_order_121 rfl (by decide) ?_
                  refine go_iload (pc' := 125) dX12_order_123 rfl rfl ?_
                  refine go_iconst (v := 1) (pc' := 126) dX12_order_125 rfl (by decide) ?_
                  refine go_iload (pc' := 128) dX12_order_126 rfl rfl ?_
                  refine go_ishl (pc' := 129) dX12_order_128 rfl ?_
                  refine go_ior (pc' := 130) dX12_order_129 rfl ?_
                  refine gz_imulc (n := 8) (pc' := 131) dX12_order_130 rfl (by decide) (by omega) (fun v23 h23 e23 => ?_)
                  refine go_iload (pc' := 133) dX12_order_131 rfl rfl ?_
                  refine gz_iadd (pc' := 134) dX12_order_133 rfl (by omega) (fun v24 h24 e24 => ?_)
                  have ez2 : (v24).toNatClampNeg = 8 * ((x4_9).toNatClampNeg ||| (1 <<< (x8_12).toNatClampNeg)) + (x8_12).toNatClampNeg := by have cz := cnat (x := v24) (by omega); omega
                  refine go_iald (pc' := 135) dX12_order_134 rfl (by decide) (by decide) rfl (vin_of (n := 2048) (by omega) (by omega)) ?_
                  refine go_rngA (ixa_133 w1.1) (vinlt (vin_of (n := 2048) (by omega) (by omega))) (fun g25 => ?_)
                  have jj : ((σ1.2 133 (v24).toNatClampNeg)).toInt = (σ1.2 133 (v19).toNatClampNeg).toInt := by rw [ez2, ez]
                  refine go_topz (fun y26 h26 e26 => ?_)
                  refine go_istore (pc' := 137) dX12_order_135 rfl (by decide) ?_
                  refine go_iload (pc' := 139) dX12_order_137 rfl rfl ?_
                  refine go_iconst (v := 1) (pc' := 140) dX12_order_139 rfl (by decide) ?_
                  refine go_iload (pc' := 142) dX12_order_140 rfl rfl ?_
                  refine go_ishl (pc' := 143) dX12_order_142 rfl ?_
                  refine go_ior (pc' := 144) dX12_order_143 rfl ?_
                  refine go_topz (fun y27 h27 e27 => ?_)
                  refine go_istore (pc' := 146) dX12_order_144 rfl (by decide) ?_
                  refine go_iload (pc' := 148) dX12_order_146 rfl rfl ?_
                  refine go_istore (pc' := 150) dX12_order_148 rfl (by decide) ?_
                  refine gz_iinc (c := 1) (pc' := 153) dX12_order_150 rfl rfl (by decide) (by decide) (by decide) (by omega) (fun v28 h28 e28 => ?_)
                  refine go_goto (tgt := 50) dX12_order_153 (by decide) ?_
                  exact go_lv (lv' := [(0, .ref (L.2.1 13)), (1, .int a), (2, .int b), (3, .int r1), (4, .int y27), (5, .int x8_12), (6, .int y26), (7, .int v28)]) rfl (ih9 _ (by omega)  y27 x8_12 y26 v28 (by omega) (by omega) (by have cy := cnat (x := y27) (by omega); have c7v := cnat (x := v28) (by omega); rw [show (v28).toNatClampNeg = (x7_9).toNatClampNeg + 1 from by omega]; exact OW_go hO u30 (by omega) my (by omega) (by omega) (by omega) (by rw [← ez2]; omega)) rfl)
                have lt : (x8_12).toNatClampNeg < k0 := by
                  have c8 := cnat (x := x8_12) (by omega)
                  by_cases z : (x8_12).toNatClampNeg = k0
                  · exfalso
                    rw [← z] at e2 e3
                    first
                    | exact c22 e2
                    | (rw [← ez] at e3; first | (rw [if_pos (by omega)] at e3; omega) | (rw [if_neg (by omega), show (x5_9).toInt.toNat = (x5_9).toNatClampNeg from rfl] at e3; omega))
                  · omega
                refine gz_iinc (c := 1) (pc' := 114) dX12_order_111 rfl rfl (by decide) (by decide) (by decide) (by omega) (fun v29 h29 e29 => ?_)
                refine go_goto (tgt := 59) dX12_order_114 (by decide) ?_
                exact go_lv (lv' := [(0, .ref (L.2.1 13)), (1, .int a), (2, .int b), (3, .int r1), (4, .int x4_9), (5, .int x5_9), (6, .int x6_9), (7, .int x7_9), (8, .int v29)]) rfl (ih12 _ (by omega)  v29 (by have c8 := cnat (x := x8_12) (by omega); have c9 := cnat (x := v29) (by omega); omega) rfl)
              refine go_iconst (v := 0) (pc' := 76) dX12_order_75 rfl (by decide) ?_
              refine go_goto (tgt := 87) dX12_order_76 (by decide) ?_
              refine go_aload_n (i := 0) (pc' := 88) dX12_order_87 rfl rfl rfl ?_
              refine gf_13_jumps (pc' := 91) dX12_order_88 rfl fl_X12_126 ?_
              refine go_bipush (v := 8) (pc' := 93) dX12_order_91 rfl (by decide) ?_
              refine go_iload (pc' := 95) dX12_order_93 rfl rfl ?_
              refine go_iconst (v := 1) (pc' := 96) dX12_order_95 rfl (by decide) ?_
              refine go_iload (pc' := 98) dX12_order_96 rfl rfl ?_
              refine go_ishl (pc' := 99) dX12_order_98 rfl ?_
              refine go_ior (pc' := 100) dX12_order_99 rfl ?_
              refine gz_imulc (n := 8) (pc' := 101) dX12_order_100 rfl (by decide) (by omega) (fun v30 h30 e30 => ?_)
              refine go_iload (pc' := 103) dX12_order_101 rfl rfl ?_
              refine gz_iadd (pc' := 104) dX12_order_103 rfl (by omega) (fun v31 h31 e31 => ?_)
              have ez : (v31).toNatClampNeg = 8 * ((x4_9).toNatClampNeg ||| (1 <<< (x8_12).toNatClampNeg)) + (x8_12).toNatClampNeg := by have cz := cnat (x := v31) (by omega); omega
              refine go_iald (pc' := 105) dX12_order_104 rfl (by decide) (by decide) rfl (vin_of (n := 2048) (by omega) (by omega)) ?_
              refine go_rngA (ixa_133 w1.1) (vinlt (vin_of (n := 2048) (by omega) (by omega))) (fun g32 => ?_)
              refine gz_iadd (pc' := 106) dX12_order_105 rfl (by omega) (fun v33 h33 e33 => ?_)
              refine go_iload (pc' := 108) dX12_order_106 rfl rfl ?_
              refine gz_icmp_eq (tgt := 117) (pc' := 111) dX12_order_108 rfl (by decide) (fun c34 => ?_) (fun c34 => ?_)
              · refine go_aload_n (i := 0) (pc' := 118) dX12_order_117 rfl rfl rfl ?_
                refine gf_13_jumps (pc' := 121) dX12_order_118 rfl fl_X12_126 ?_
                refine go_bipush (v := 8) (pc' := 123) dX12_order_121 rfl (by decide) ?_
                refine go_iload (pc' := 125) dX12_order_123 rfl rfl ?_
                refine go_iconst (v := 1) (pc' := 126) dX12_order_125 rfl (by decide) ?_
                refine go_iload (pc' := 128) dX12_order_126 rfl rfl ?_
                refine go_ishl (pc' := 129) dX12_order_128 rfl ?_
                refine go_ior (pc' := 130) dX12_order_129 rfl ?_
                refine gz_imulc (n := 8) (pc' := 131) dX12_order_130 rfl (by decide) (by omega) (fun v35 h35 e35 => ?_)
                refine go_iload (pc' := 133) dX12_order_131 rfl rfl ?_
                refine gz_iadd (pc' := 134) dX12_order_133 rfl (by omega) (fun v36 h36 e36 => ?_)
                have ez2 : (v36).toNatClampNeg = 8 * ((x4_9).toNatClampNeg ||| (1 <<< (x8_12).toNatClampNeg)) + (x8_12).toNatClampNeg := by have cz := cnat (x := v36) (by omega); omega
                refine go_iald (pc' := 135) dX12_order_134 rfl (by decide) (by decide) rfl (vin_of (n := 2048) (by omega) (by omega)) ?_
                refine go_rngA (ixa_133 w1.1) (vinlt (vin_of (n := 2048) (by omega) (by omega))) (fun g37 => ?_)
                have jj : ((σ1.2 133 (v36).toNatClampNeg)).toInt = (σ1.2 133 (v31).toNatClampNeg).toInt := by rw [ez2, ez]
                refine go_topz (fun y38 h38 e38 => ?_)
                refine go_istore (pc' := 137) dX12_order_135 rfl (by decide) ?_
                refine go_iload (pc' := 139) dX12_order_137 rfl rfl ?_
                refine go_iconst (v := 1) (pc' := 140) dX12_order_139 rfl (by decide) ?_
                refine go_iload (pc' := 142) dX12_order_140 rfl rfl ?_
                refine go_ishl (pc' := 143) dX12_order_142 rfl ?_
                refine go_ior (pc' := 144) dX12_order_143 rfl ?_
                refine go_topz (fun y39 h39 e39 => ?_)
                refine go_istore (pc' := 146) dX12_order_144 rfl (by decide) ?_
                refine go_iload (pc' := 148) dX12_order_146 rfl rfl ?_
                refine go_istore (pc' := 150) dX12_order_148 rfl (by decide) ?_
                refine gz_iinc (c := 1) (pc' := 153) dX12_order_150 rfl rfl (by decide) (by decide) (by decide) (by omega) (fun v40 h40 e40 => ?_)
                refine go_goto (tgt := 50) dX12_order_153 (by decide) ?_
                exact go_lv (lv' := [(0, .ref (L.2.1 13)), (1, .int a), (2, .int b), (3, .int r1), (4, .int y39), (5, .int x8_12), (6, .int y38), (7, .int v40)]) rfl (ih9 _ (by omega)  y39 x8_12 y38 v40 (by omega) (by omega) (by have cy := cnat (x := y39) (by omega); have c7v := cnat (x := v40) (by omega); rw [show (v40).toNatClampNeg = (x7_9).toNatClampNeg + 1 from by omega]; exact OW_go hO u30 (by omega) my (by omega) (by omega) (by omega) (by rw [← ez2]; omega)) rfl)
              have lt : (x8_12).toNatClampNeg < k0 := by
                have c8 := cnat (x := x8_12) (by omega)
                by_cases z : (x8_12).toNatClampNeg = k0
                · exfalso
                  rw [← z] at e2 e3
                  first
                  | exact c34 e2
                  | (rw [← ez] at e3; first | (rw [if_pos (by omega)] at e3; omega) | (rw [if_neg (by omega), show (x5_9).toInt.toNat = (x5_9).toNatClampNeg from rfl] at e3; omega))
                · omega
              refine gz_iinc (c := 1) (pc' := 114) dX12_order_111 rfl rfl (by decide) (by decide) (by decide) (by omega) (fun v41 h41 e41 => ?_)
              refine go_goto (tgt := 59) dX12_order_114 (by decide) ?_
              exact go_lv (lv' := [(0, .ref (L.2.1 13)), (1, .int a), (2, .int b), (3, .int r1), (4, .int x4_9), (5, .int x5_9), (6, .int x6_9), (7, .int x7_9), (8, .int v41)]) rfl (ih12 _ (by omega)  v41 (by have c8 := cnat (x := x8_12) (by omega); have c9 := cnat (x := v41) (by omega); omega) rfl)
          exact go_lv (lv' := [(0, .ref (L.2.1 13)), (1, .int a), (2, .int b), (3, .int r1), (4, .int x4_9), (5, .int x5_9), (6, .int x6_9), (7, .int x7_9), (8, .int (0 : Int32))]) rfl (loop59_12 _  (0 : Int32) (by have z0 : (0 : Int32).toNatClampNeg = 0 := (by decide); omega) rfl)
      exact go_lv (lv' := [(0, .ref (L.2.1 13)), (1, .int a), (2, .int b), (3, .int r1), (4, .int (0 : Int32)), (5, .int (-1 : Int32)), (6, .int r8), (7, .int (0 : Int32))]) rfl (loop50_9 _  (0 : Int32) (-1 : Int32) r8 (0 : Int32) (by omega) (by omega) (by have z0 : (0 : Int32).toNatClampNeg = 0 := (by decide); rw [z0, nm1]; exact OW_start ls (LST_lt ls0 ls (by omega)) (by omega)) rfl)
    refine go_iconst (v := (-1)) (pc' := 34) dX12_order_33 rfl (by decide) ?_
    exact go_iret dX12_order_34 rfl (w1)
  refine go_iload_n (i := 3) (pc' := 11) dX12_order_10 rfl rfl rfl ?_
  exact go_iret dX12_order_11 rfl (w1)
