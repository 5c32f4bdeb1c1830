theorem gz_imulc {F : FX} {L : WL} {own : String} {cc : ByteArray} {nL : Nat} {R : Room} {ret : Option FieldType} {Q : State → Prop} {σ : ST} {pc pc' : Nat} {lv : List (Nat × Value)} {st : List Value} {n : Int} {x y : Int32} (hdg : decode cc pc = .ok (.imul, 1)) (hp : pc + 1 = pc') (hx : x.toInt = n) (h1 : -2147483648 ≤ n * y.toInt ∧ n * y.toInt < 2147483648) (k : ∀ v : Int32, v = x * y → v.toInt = n * y.toInt → Go F L own cc nL R ret Q σ pc' lv (.int v :: st)) : Go F L own cc nL R ret Q σ pc lv (.int y :: .int x :: st) := go_imul hdg hp (k _ rfl ((i32_mul (by rw [hx]; exact h1.1) (by rw [hx]; exact h1.2)).trans (by rw [hx])))
theorem nb01 {r : Int32} (h : r = 0 ∨ r = 1) : narrow .boolean (.int r) = .int r := by
  rcases h with rfl | rfl <;> rfl
theorem i32_div7 (x : Int32) : (x / 7).toInt = if 0 ≤ x.toInt ∨ (7 : Int) ∣ x.toInt then x.toInt / 7 else x.toInt / 7 + 1 := by
  have h1 := Int32.le_toInt x
  have h2 := Int32.toInt_lt x
  have e : x.toInt.tdiv 7 = if 0 ≤ x.toInt ∨ (7 : Int) ∣ x.toInt then x.toInt / 7 else x.toInt / 7 + 1 := by
    rw [Int.tdiv_eq_ediv]
    split <;> simp
  rw [Int32.toInt_div, show (7 : Int32).toInt = 7 from by decide, e]
  split <;> exact Int.bmod_eq_of_le (by omega) (by omega)
theorem i32_rem7 (x : Int32) : (x - x / 7 * 7).toInt = if 0 ≤ x.toInt ∨ (7 : Int) ∣ x.toInt then x.toInt % 7 else x.toInt % 7 - 7 := by
  have h1 := Int32.le_toInt x
  have h2 := Int32.toInt_lt x
  have d := i32_div7 x
  have s7 : (7 : Int32).toInt = 7 := by decide
  have m : (x / 7 * 7).toInt = (x / 7).toInt * 7 := by
    rw [i32_mul, s7] <;> rw [s7, d] <;> split <;> omega
  rw [i32_sub, m, d]
  · split <;> omega
  · rw [m, d]
    split <;> omega
  · rw [m, d]
    split <;> omega
theorem xor7 (x : Int32) : (x ^^^ 7).toInt < 0 ↔ x.toInt < 0 := by
  have h : (x ^^^ 7).toBitVec.msb = x.toBitVec.msb := by
    rw [Int32.toBitVec_xor, BitVec.msb_xor, show (7 : Int32).toBitVec.msb = false from by decide, Bool.xor_false]
  rw [BitVec.msb_eq_toInt, BitVec.msb_eq_toInt] at h
  have h2 : decide ((x ^^^ 7).toInt < 0) = decide (x.toInt < 0) := h
  simpa using h2
/-- what raise does: nothing, the DAY being there, or the low of a rises to v -/
def PR (σ : ST) (a t : Int32) (σ2 : ST) : Prop := (σ2 = σ ∧ t.toInt ≤ (σ.2 120 a.toNatClampNeg).toInt) ∨ ∃ v : Int32, (σ.2 120 a.toNatClampNeg).toInt < v.toInt ∧ t.toInt ≤ v.toInt ∧ v.toInt ≤ t.toInt + 6 ∧ σ2 = setI (setA σ 120 a.toNatClampNeg v) 24 1
def PS (σ : ST) (a t : Int32) (σ2 : ST) : Prop := (σ2 = σ ∧ (σ.2 121 a.toNatClampNeg).toInt ≤ t.toInt) ∨ ∃ v : Int32, v.toInt < (σ.2 121 a.toNatClampNeg).toInt ∧ v.toInt ≤ t.toInt ∧ t.toInt - 6 ≤ v.toInt ∧ σ2 = setI (setA σ 121 a.toNatClampNeg v) 24 1
theorem PR_WM {σ σ2 : ST} {a t : Int32} (h : IV σ) (h1 : t.toInt ≤ 31900) (ha : 0 ≤ a.toInt ∧ a.toInt < 12) (hp : PR σ a t σ2) : WM σ σ2 := by
  rcases hp with ⟨rfl, -⟩ | ⟨v, h2, h3, h4, rfl⟩
  · exact WM_rfl h
  · have g := ixa_120 h a.toNatClampNeg (by rw [show a.toNatClampNeg = a.toInt.toNat from rfl]; omega)
    exact ⟨ixs_n (ixt_120 h (by omega) (by omega)) (by decide), Ag_setI (Ag_setA (Ag_rfl σ) (by decide)) (by decide)⟩
theorem PS_WM {σ σ2 : ST} {a t : Int32} (h : IV σ) (h1 : -31900 ≤ t.toInt) (ha : 0 ≤ a.toInt ∧ a.toInt < 12) (hp : PS σ a t σ2) : WM σ σ2 := by
  rcases hp with ⟨rfl, -⟩ | ⟨v, h2, h3, h4, rfl⟩
  · exact WM_rfl h
  · have g := ixa_121 h a.toNatClampNeg (by rw [show a.toNatClampNeg = a.toInt.toNat from rfl]; omega)
    exact ⟨ixs_n (ixt_121 h (by omega) (by omega)) (by decide), Ag_setI (Ag_setA (Ag_rfl σ) (by decide)) (by decide)⟩
def sumF (f : Nat → Nat) : Nat → Nat
  | 0 => 0
  | n + 1 => sumF f n + f n
theorem sumF_le {f g : Nat → Nat} {n : Nat} (h : ∀ j : Nat, j < n → f j ≤ g j) : sumF f n ≤ sumF g n := by
  induction n with
  | zero => exact Nat.le_refl _
  | succ n ih =>
    have h1 := ih (fun j hj => h j (by omega))
    have h2 := h n (by omega)
    show sumF f n + f n ≤ sumF g n + g n
    omega
theorem sumF_lt {f g : Nat → Nat} {n a : Nat} (h : ∀ j : Nat, j < n → f j ≤ g j) (ha : a < n) (h2 : f a < g a) : sumF f n < sumF g n := by
  induction n with
  | zero => omega
  | succ n ih =>
    have h3 := h n (by omega)
    show sumF f n + f n < sumF g n + g n
    by_cases e : a = n
    · subst e
      have h1 := sumF_le (f := f) (g := g) (n := a) (fun j hj => h j (by omega))
      omega
    · have h1 := ih (fun j hj => h j (by omega)) (by omega)
      omega
/-- how far lows and highs may still go -/
def msr (s : ST) : Nat := sumF (fun j => (32000 - (s.2 120 j).toInt).toNat + ((s.2 121 j).toInt + 32000).toNat) 12
def mvd (s : ST) : Nat := if (s.1 24).toInt = 0 then 0 else 1
def CUp (s0 s : ST) : Prop := (∀ j : Nat, (s0.2 120 j).toInt ≤ (s.2 120 j).toInt) ∧ (∀ j : Nat, (s.2 121 j).toInt ≤ (s0.2 121 j).toInt) ∧ (msr s < msr s0 ∨ (msr s = msr s0 ∧ s.1 24 = s0.1 24))
/-- from s0 to s: lows rise, highs sink, of the first N by no more than d above the greatest, below the least -/
def CL (N : Int) (s0 s : ST) (d : Int) : Prop := CUp s0 s ∧ (∀ j : Nat, (j : Int) < N → 0 ≤ (s.2 120 j).toInt) ∧ (∀ B : Int, (∀ j : Nat, (j : Int) < N → (s0.2 120 j).toInt ≤ B) → ∀ j : Nat, (j : Int) < N → (s.2 120 j).toInt ≤ B + d) ∧ ∀ B : Int, (∀ j : Nat, (j : Int) < N → B ≤ (s0.2 121 j).toInt) → ∀ j : Nat, (j : Int) < N → B - d ≤ (s.2 121 j).toInt
theorem CL_mono {N d d2 : Int} {s0 s : ST} (h : CL N s0 s d) (hd : d ≤ d2) : CL N s0 s d2 := ⟨h.1, h.2.1, fun B hB j hj => by have := h.2.2.1 B hB j hj; omega, fun B hB j hj => by have := h.2.2.2 B hB j hj; omega⟩
theorem CL_rfl {N : Int} {s : ST} (h : ∀ j : Nat, (j : Int) < N → 0 ≤ (s.2 120 j).toInt) : CL N s s 0 := ⟨⟨fun _ => Int.le_refl _, fun _ => Int.le_refl _, Or.inr ⟨rfl, rfl⟩⟩, h, fun B hB j hj => by have := hB j hj; omega, fun B hB j hj => by have := hB j hj; omega⟩
theorem CL_raise {N d e d2 : Int} {s0 s s2 : ST} {a t : Int32} (h : CL N s0 s d) (hp : PR s a t s2) (hi : IV s2) (ha : 0 ≤ a.toInt ∧ a.toInt < N) (hN : N ≤ 12) (m : Nat) (hm : (m : Int) < N) (ht0 : 0 ≤ t.toInt) (ht : t.toInt ≤ (s.2 120 m).toInt + e) (he : 0 ≤ e) (hd : d + e + 6 ≤ d2) : CL N s0 s2 d2 := by
  rcases hp with ⟨rfl, -⟩ | ⟨v, h2, h3, h4, e2⟩
  · exact CL_mono h (by omega)
  · have ea := cnat ha.1
    have r1 : s2.2 120 a.toNatClampNeg = v := by
      rw [e2]
      show (setA s 120 a.toNatClampNeg v).2 120 a.toNatClampNeg = v
      rw [setA_same]
      exact if_pos rfl
    have r2 : ∀ j : Nat, j ≠ a.toNatClampNeg → s2.2 120 j = s.2 120 j := fun j hj => by
      rw [e2]
      show (setA s 120 a.toNatClampNeg v).2 120 j = _
      rw [setA_same]
      exact if_neg hj
    have r3 : s2.2 121 = s.2 121 := by
      rw [e2]
      exact setA_ne (a := 121) s 120 a.toNatClampNeg v (by decide)
    have r4 := (ixa_120 hi a.toNatClampNeg (by omega)).2
    rw [r1] at r4
    obtain ⟨⟨u1, u2, u3⟩, p1, p2, p3⟩ := h
    have hs : msr s2 < msr s := by
      refine sumF_lt (a := a.toNatClampNeg) (fun j hj => ?_) (by omega) ?_
      · show (32000 - (s2.2 120 j).toInt).toNat + ((s2.2 121 j).toInt + 32000).toNat ≤ (32000 - (s.2 120 j).toInt).toNat + ((s.2 121 j).toInt + 32000).toNat
        rw [r3]
        by_cases q : j = a.toNatClampNeg
        · rw [q, r1]
          omega
        · rw [r2 j q]
          exact Nat.le_refl _
      · show (32000 - (s2.2 120 _).toInt).toNat + ((s2.2 121 _).toInt + 32000).toNat < (32000 - (s.2 120 _).toInt).toNat + ((s.2 121 _).toInt + 32000).toNat
        rw [r3, r1]
        omega
    refine ⟨⟨fun j => ?_, fun j => ?_, Or.inl ?_⟩, fun j hj => ?_, fun B hB j hj => ?_, fun B hB j hj => ?_⟩
    · by_cases q : j = a.toNatClampNeg
      · rw [q, r1]
        have := u1 a.toNatClampNeg
        omega
      · rw [r2 j q]
        exact u1 j
    · rw [r3]
      exact u2 j
    · rcases u3 with u3 | ⟨u3, -⟩ <;> omega
    · by_cases q : j = a.toNatClampNeg
      · rw [q, r1]
        omega
      · rw [r2 j q]
        exact p1 j hj
    · have k1 := p2 B hB m hm
      have k2 := p2 B hB j hj
      by_cases q : j = a.toNatClampNeg
      · rw [q, r1]
        omega
      · rw [r2 j q]
        omega
    · rw [r3]
      have := p3 B hB j hj
      omega
theorem CL_sink {N d e d2 : Int} {s0 s s2 : ST} {a t : Int32} (h : CL N s0 s d) (hp : PS s a t s2) (hi : IV s2) (ha : 0 ≤ a.toInt ∧ a.toInt < N) (hN : N ≤ 12) (m : Nat) (hm : (m : Int) < N) (ht : (s.2 121 m).toInt - e ≤ t.toInt) (he : 0 ≤ e) (hd : d + e + 6 ≤ d2) : CL N s0 s2 d2 := by
  rcases hp with ⟨rfl, -⟩ | ⟨v, h2, h3, h4, e2⟩
  · exact CL_mono h (by omega)
  · have ea := cnat ha.1
    have r1 : s2.2 121 a.toNatClampNeg = v := by
      rw [e2]
      show (setA s 121 a.toNatClampNeg v).2 121 a.toNatClampNeg = v
      rw [setA_same]
      exact if_pos rfl
    have r2 : ∀ j : Nat, j ≠ a.toNatClampNeg → s2.2 121 j = s.2 121 j := fun j hj => by
      rw [e2]
      show (setA s 121 a.toNatClampNeg v).2 121 j = _
      rw [setA_same]
      exact if_neg hj
    have r3 : s2.2 120 = s.2 120 := by
      rw [e2]
      exact setA_ne (a := 120) s 121 a.toNatClampNeg v (by decide)
    have r4 := (ixa_121 hi a.toNatClampNeg (by omega)).1
    rw [r1] at r4
    obtain ⟨⟨u1, u2, u3⟩, p1, p2, p3⟩ := h
    have hs : msr s2 < msr s := by
      refine sumF_lt (a := a.toNatClampNeg) (fun j hj => ?_) (by omega) ?_
      · show (32000 - (s2.2 120 j).toInt).toNat + ((s2.2 121 j).toInt + 32000).toNat ≤ (32000 - (s.2 120 j).toInt).toNat + ((s.2 121 j).toInt + 32000).toNat
        rw [r3]
        by_cases q : j = a.toNatClampNeg
        · rw [q, r1]
          omega
        · rw [r2 j q]
          exact Nat.le_refl _
      · show (32000 - (s2.2 120 _).toInt).toNat + ((s2.2 121 _).toInt + 32000).toNat < (32000 - (s.2 120 _).toInt).toNat + ((s.2 121 _).toInt + 32000).toNat
        rw [r3, r1]
        omega
    refine ⟨⟨fun j => ?_, fun j => ?_, Or.inl ?_⟩, fun j hj => ?_, fun B hB j hj => ?_, fun B hB j hj => ?_⟩
    · rw [r3]
      exact u1 j
    · by_cases q : j = a.toNatClampNeg
      · rw [q, r1]
        have := u2 a.toNatClampNeg
        omega
      · rw [r2 j q]
        exact u2 j
    · rcases u3 with u3 | ⟨u3, -⟩ <;> omega
    · rw [r3]
      exact p1 j hj
    · rw [r3]
      have := p2 B hB j hj
      omega
    · have k1 := p3 B hB m hm
      have k2 := p3 B hB j hj
      by_cases q : j = a.toNatClampNeg
      · rw [q, r1]
        omega
      · rw [r2 j q]
        omega
theorem CL_dec {N d : Int} {h s0 s : ST} (e : s0 = setI h 24 0) (hm : (h.1 24).toInt ≠ 0) (u : CL N s0 s d) : 2 * msr s + mvd s < 2 * msr h + mvd h := by
  have e1 : msr s0 = msr h := by rw [e]; rfl
  have e2 : s0.1 24 = 0 := by rw [e]; exact setI_same _ _ _
  have e3 : mvd h = 1 := if_neg hm
  have e4 : mvd s ≤ 1 := by
    unfold mvd
    split <;> omega
  rcases u.1.2.2 with q | ⟨q, q2⟩
  · omega
  · have e5 : mvd s = 0 := by
      unfold mvd
      rw [q2, e2]
      exact if_pos (by decide)
    omega
/-- the lows and highs of a LETTER as told -/
def LB (s : ST) (j : Nat) : Prop := 0 ≤ (s.2 120 j).toInt ∧ (s.2 120 j).toInt ≤ 10005 ∧ -6 ≤ (s.2 121 j).toInt
theorem CL_init {s s1 s2 s3 s4 : ST} {l t1 t2 v : Int32} (h : ∀ j : Nat, (j : Int) < l.toInt → LB s j) (h0 : 0 ≤ l.toInt) (e1 : s1 = setA s 120 l.toNatClampNeg (-1)) (e2 : s2 = setA s1 121 l.toNatClampNeg 10000) (hr : PR s2 l t1 s3) (hs : PS s3 l t2 s4) (b1 : 0 ≤ t1.toInt ∧ t1.toInt ≤ 9999) (b2 : 0 ≤ t2.toInt ∧ t2.toInt ≤ 9999) (hv : v.toInt = l.toInt + 1) : ∀ j : Nat, (j : Int) < v.toInt → LB s4 j := by
  have ea := cnat h0
  have q1 : ∀ j : Nat, j ≠ l.toNatClampNeg → s2.2 120 j = s.2 120 j ∧ s2.2 121 j = s.2 121 j := fun j hj => by
    rw [e2, e1]
    exact ⟨by rw [setA_ne _ _ _ _ (by decide), setA_same]; exact if_neg hj, by rw [setA_same, setA_ne _ _ _ _ (by decide)]; exact if_neg hj⟩
  have q2 : s2.2 120 l.toNatClampNeg = -1 ∧ s2.2 121 l.toNatClampNeg = 10000 := by
    rw [e2, e1]
    exact ⟨by rw [setA_ne _ _ _ _ (by decide), setA_same]; exact if_pos rfl, by rw [setA_same]; exact if_pos rfl⟩
  have q3 : s3.2 121 = s2.2 121 ∧ (∀ j : Nat, j ≠ l.toNatClampNeg → s3.2 120 j = s2.2 120 j) ∧ 0 ≤ (s3.2 120 l.toNatClampNeg).toInt ∧ (s3.2 120 l.toNatClampNeg).toInt ≤ 10005 := by
    rcases hr with ⟨rfl, g⟩ | ⟨w, g1, g2, g3, e⟩
    · rw [q2.1] at g
      have : (-1 : Int32).toInt = -1 := by decide
      omega
    · rw [e]
      refine ⟨(setA_ne (a := 121) s2 120 l.toNatClampNeg w (by decide) : (setA s2 120 l.toNatClampNeg w).2 121 = s2.2 121), fun j hj => ?_, ?_⟩
      · show (setA s2 120 _ w).2 120 j = _
        rw [setA_same]
        exact if_neg hj
      · have e5 : (setI (setA s2 120 l.toNatClampNeg w) 24 1).2 120 l.toNatClampNeg = w := by
          show (setA s2 120 _ w).2 120 _ = _
          rw [setA_same]
          exact if_pos rfl
        rw [e5]
        omega
  have q4 : s4.2 120 = s3.2 120 ∧ (∀ j : Nat, j ≠ l.toNatClampNeg → s4.2 121 j = s3.2 121 j) ∧ -6 ≤ (s4.2 121 l.toNatClampNeg).toInt := by
    rcases hs with ⟨rfl, g⟩ | ⟨w, g1, g2, g3, e⟩
    · refine ⟨rfl, fun _ _ => rfl, ?_⟩
      rw [q3.1, q2.2]
      decide
    · rw [e]
      refine ⟨(setA_ne (a := 120) s3 121 l.toNatClampNeg w (by decide) : (setA s3 121 l.toNatClampNeg w).2 120 = s3.2 120), fun j hj => ?_, ?_⟩
      · show (setA s3 121 _ w).2 121 j = _
        rw [setA_same]
        exact if_neg hj
      · have e5 : (setI (setA s3 121 l.toNatClampNeg w) 24 1).2 121 l.toNatClampNeg = w := by
          show (setA s3 121 _ w).2 121 _ = _
          rw [setA_same]
          exact if_pos rfl
        rw [e5]
        omega
  intro j hj
  unfold LB
  by_cases e : j = l.toNatClampNeg
  · rw [e, q4.1]
    exact ⟨q3.2.2.1, q3.2.2.2, q4.2.2⟩
  · rw [q4.1, q4.2.1 j e, q3.2.1 j e, q3.1, (q1 j e).1, (q1 j e).2]
    exact h j (by omega)
/-- FOUND and BOUNDS of the reference name LETTERS that are there -/
def IM (σ : ST) : Prop := (∀ j : Nat, (j : Int) < (σ.1 20).toInt → (σ.2 108 j).toInt < (σ.1 20).toInt) ∧ ∀ k : Nat, (k : Int) < (σ.1 21).toInt → (σ.2 111 k).toInt < (σ.1 20).toInt ∧ (σ.2 112 k).toInt < (σ.1 20).toInt
theorem IM_q {σ σ2 : ST} (h : WM σ σ2) (im : IM σ) : IM σ2 := by
  unfold IM
  rw [h.2.1 20 (by decide), h.2.1 21 (by decide), h.2.2 108 (by decide), h.2.2 111 (by decide), h.2.2 112 (by decide)]
  exact im
theorem hB_of {h s : ST} {v : Int32} {j : Nat} (e : s = setI h 24 v) (z : LB h j) : ((s.2 120 j).toInt ≤ 31000 ∧ -31000 ≤ (s.2 121 j).toInt) ∧ 0 ≤ (s.2 120 j).toInt := by
  subst e
  obtain ⟨z1, z2, z3⟩ := z
  exact ⟨⟨Int.le_trans z2 (by decide), Int.le_trans (by decide) z3⟩, z1⟩
/-- a is before b, as the reference has it behind findWays -/
def BEF (σ : ST) (i j : Nat) : Prop := (σ.2 121 i).toInt < (σ.2 120 j).toInt ∨ 0 < (σ.2 122 (12 * i + j)).toInt
theorem cnat_lin {v a b : Int32} {n : Nat} (h : v.toInt = n * a.toInt + b.toInt) (ha : 0 ≤ a.toInt) (hb : 0 ≤ b.toInt) : v.toNatClampNeg = n * a.toNatClampNeg + b.toNatClampNeg := by
  have h1 := cnat ha
  have h2 := cnat hb
  have h3 : (v.toNatClampNeg : Int) = v.toInt := cnat (by rw [h]; exact Int.add_nonneg (Int.mul_nonneg (by omega) ha) hb)
  have h4 : (v.toNatClampNeg : Int) = ((n * a.toNatClampNeg + b.toNatClampNeg : Nat) : Int) := by
    rw [h3, h, ← h1, ← h2]
    simp
  exact Int.ofNat_inj.mp h4
set_option maxHeartbeats 4000000 in
set_option maxRecDepth 100000 in
theorem f_floorMod7 (l : Launch) (L : WL) (σ : ST) (x : Int32) : CtI l L yJ9_floorMod_7cf53 cJ9_floorMod_7cf53 3 (some .int) rm_J9_floorMod_7cf53 [.int x, .int (7 : Int32)] σ (fun r σ2 => σ2 = σ ∧ r.toInt = x.toInt % 7) := by
  refine ctI_goF (own := RJ9) (by decide +kernel) rfl (Nat.le_of_ble_eq_true rfl) (fun F hF => ?_)
  subst hF
  have n7 : (7 : Int32).toInt = 7 := by decide
  have q0 := i32_rem7 x
  have q1 := xor7 x
  refine go_iload_n (i := 0) (pc' := 1) dJ9_floorMod_7cf53_0 rfl rfl rfl ?_
  refine go_iload_n (i := 1) (pc' := 2) dJ9_floorMod_7cf53_1 rfl rfl rfl ?_
  refine go_irem (pc' := 3) dJ9_floorMod_7cf53_2 rfl (by decide) ?_
  refine go_topz (fun y1 h1 e1 => ?_)
  refine go_istore_n (i := 2) (pc' := 4) dJ9_floorMod_7cf53_3 rfl rfl (by decide) ?_
  refine go_iload_n (i := 0) (pc' := 5) dJ9_floorMod_7cf53_4 rfl rfl rfl ?_
  refine go_iload_n (i := 1) (pc' := 6) dJ9_floorMod_7cf53_5 rfl rfl rfl ?_
  refine go_ixor (pc' := 7) dJ9_floorMod_7cf53_6 rfl ?_
  refine gz_if_ge (tgt := 18) (pc' := 10) dJ9_floorMod_7cf53_7 rfl (by decide) (fun c2 => ?_) (fun c2 => ?_)
  · refine go_iload_n (i := 2) (pc' := 19) dJ9_floorMod_7cf53_18 rfl rfl rfl ?_
    exact go_iret dJ9_floorMod_7cf53_19 rfl (⟨rfl, by split at q0 <;> omega⟩)
  refine go_iload_n (i := 2) (pc' := 11) dJ9_floorMod_7cf53_10 rfl rfl rfl ?_
  refine gz_if_eq (tgt := 18) (pc' := 14) dJ9_floorMod_7cf53_11 rfl (by decide) (fun c3 => ?_) (fun c3 => ?_)
  · refine go_iload_n (i := 2) (pc' := 19) dJ9_floorMod_7cf53_18 rfl rfl rfl ?_
    exact go_iret dJ9_floorMod_7cf53_19 rfl (⟨rfl, by split at q0 <;> omega⟩)
  refine go_iload_n (i := 2) (pc' := 15) dJ9_floorMod_7cf53_14 rfl rfl rfl ?_
  refine go_iload_n (i := 1) (pc' := 16) dJ9_floorMod_7cf53_15 rfl rfl rfl ?_
  refine gz_iadd (pc' := 17) dJ9_floorMod_7cf53_16 rfl (by split at q0 <;> omega) (fun v4 h4 e4 => ?_)
  exact go_iret dJ9_floorMod_7cf53_17 rfl (⟨rfl, by split at q0 <;> omega⟩)
set_option maxHeartbeats 4000000 in
set_option maxRecDepth 100000 in
theorem c_X12_raise (l : Launch) (L : WL) (σ : ST) (a t : Int32) (ha : 0 ≤ a.toInt ∧ a.toInt < 12) (ht : 0 ≤ t.toInt ∧ t.toInt ≤ 31900) (ix : IV σ) : CtV l L yX12_raise cX12_raise 4 none rm_X12_raise [.ref (L.2.1 13), .int a, .int t] σ (fun σ2 => PR σ a t σ2) := by
  refine ctV_go (own := RX12) (by decide) rfl (Nat.le_of_ble_eq_true rfl) (fun F hF => ?_)
  subst hF
  have n1 : (1 : Int32).toInt = 1 := by decide
  have n7 : (7 : Int32).toInt = 7 := by decide
  have w0 : WM σ σ := WM_rfl ix
  have g7 := ixa_107 ix (a).toNatClampNeg (vinlt (vin_of (n := 12) (by omega) (by omega)))
  refine go_iload_n (i := 2) (pc' := 1) dX12_raise_0 rfl rfl rfl ?_
  refine go_istore_n (i := 3) (pc' := 2) dX12_raise_1 rfl rfl (by decide) ?_
  refine go_aload_n (i := 0) (pc' := 3) dX12_raise_2 rfl rfl rfl ?_
  refine gf_13_week (pc' := 6) dX12_raise_3 rfl fl_X12_44 ?_
  refine go_iload_n (i := 1) (pc' := 7) dX12_raise_6 rfl rfl rfl ?_
  refine go_iald (pc' := 8) dX12_raise_7 rfl (by decide) (by decide) rfl (vin_of (n := 12) (by omega) (by omega)) ?_
  have g1 := ixa_107 ix (a).toNatClampNeg (vinlt (show vp_in a 12 from (vin_of (n := 12) (by omega) (by omega))))
  refine gz_if_lt (tgt := 30) (pc' := 11) dX12_raise_8 rfl (by decide) (fun c2 => ?_) (fun c2 => ?_)
  · refine go_iload_n (i := 3) (pc' := 31) dX12_raise_30 rfl rfl rfl ?_
    refine go_aload_n (i := 0) (pc' := 32) dX12_raise_31 rfl rfl rfl ?_
    refine gf_13_low (pc' := 35) dX12_raise_32 rfl fl_X12_83 ?_
    refine go_iload_n (i := 1) (pc' := 36) dX12_raise_35 rfl rfl rfl ?_
    refine go_iald (pc' := 37) dX12_raise_36 rfl (by decide) (by decide) rfl (vin_of (n := 12) (by omega) (by omega)) ?_
    have g3 := ixa_120 ix (a).toNatClampNeg (vinlt (show vp_in a 12 from (vin_of (n := 12) (by omega) (by omega))))
    refine gz_icmp_gt (tgt := 41) (pc' := 40) dX12_raise_37 rfl (by decide) (fun c4 => ?_) (fun c4 => ?_)
    · refine go_aload_n (i := 0) (pc' := 42) dX12_raise_41 rfl rfl rfl ?_
      refine gf_13_low (pc' := 45) dX12_raise_42 rfl fl_X12_83 ?_
      refine go_iload_n (i := 1) (pc' := 46) dX12_raise_45 rfl rfl rfl ?_
      refine go_iload_n (i := 3) (pc' := 47) dX12_raise_46 rfl rfl rfl ?_
      refine go_iast (pc' := 48) dX12_raise_47 rfl (by decide) (by decide) rfl (vin_of (n := 12) (by omega) (by omega)) ?_
      refine go_aload_n (i := 0) (pc' := 49) dX12_raise_48 rfl rfl rfl ?_
      refine go_iconst (v := 1) (pc' := 50) dX12_raise_49 rfl (by decide) ?_
      refine pf_13_moved (pc' := 53) dX12_raise_50 rfl fl_X12_158 rfl rfl ?_
      exact go_vret dX12_raise_53 rfl (Or.inr ⟨_, by omega, by omega, by omega, rfl⟩)
    exact go_vret dX12_raise_40 rfl (Or.inl ⟨rfl, by omega⟩)
  have loop11_5 : ∀ (dd5 : Nat) (x3_5 : Int32), (t.toInt ≤ (x3_5).toInt ∧ (x3_5).toInt ≤ t.toInt + ((σ.2 107 (a).toNatClampNeg).toInt - t.toInt) % 7) → (t.toInt + 7 - (x3_5).toInt).toNat = dd5 → Go F L RX12 cX12_raise 4 rm_X12_raise none (RV F L (fun σ2 => PR σ a t σ2)) σ 11 [(0, .ref (L.2.1 13)), (1, .int a), (2, .int t), (3, .int x3_5)] [] := by
    intro dd5
    induction dd5 using Nat.strongRecOn with
    | _ dd5 ih5 =>
      intro x3_5 h_5 hm_5
      refine go_iload_n (i := 3) (pc' := 12) dX12_raise_11 rfl rfl rfl ?_
      refine go_bipush (v := 7) (pc' := 14) dX12_raise_12 rfl (by decide) ?_
      refine go_irem (pc' := 15) dX12_raise_14 rfl (by decide) ?_
      have q15 := i32_rem7 x3_5
      rw [if_pos (Or.inl (by omega))] at q15
      refine go_aload_n (i := 0) (pc' := 16) dX12_raise_15 rfl rfl rfl ?_
      refine gf_13_week (pc' := 19) dX12_raise_16 rfl fl_X12_44 ?_
      refine go_iload_n (i := 1) (pc' := 20) dX12_raise_19 rfl rfl rfl ?_
      refine go_iald (pc' := 21) dX12_raise_20 rfl (by decide) (by decide) rfl (vin_of (n := 12) (by omega) (by omega)) ?_
      have g6 := ixa_107 ix (a).toNatClampNeg (vinlt (show vp_in a 12 from (vin_of (n := 12) (by omega) (by omega))))
      refine gz_icmp_eq (tgt := 30) (pc' := 24) dX12_raise_21 rfl (by decide) (fun c7 => ?_) (fun c7 => ?_)
      · refine go_iload_n (i := 3) (pc' := 31) dX12_raise_30 rfl rfl rfl ?_
        refine go_aload_n (i := 0) (pc' := 32) dX12_raise_31 rfl rfl rfl ?_
        refine gf_13_low (pc' := 35) dX12_raise_32 rfl fl_X12_83 ?_
        refine go_iload_n (i := 1) (pc' := 36) dX12_raise_35 rfl rfl rfl ?_
        refine go_iald (pc' := 37) dX12_raise_36 rfl (by decide) (by decide) rfl (vin_of (n := 12) (by omega) (by omega)) ?_
        have g8 := ixa_120 ix (a).toNatClampNeg (vinlt (show vp_in a 12 from (vin_of (n := 12) (by omega) (by omega))))
        refine gz_icmp_gt (tgt := 41) (pc' := 40) dX12_raise_37 rfl (by decide) (fun c9 => ?_) (fun c9 => ?_)
        · refine go_aload_n (i := 0) (pc' := 42) dX12_raise_41 rfl rfl rfl ?_
          refine gf_13_low (pc' := 45) dX12_raise_42 rfl fl_X12_83 ?_
          refine go_iload_n (i := 1) (pc' := 46) dX12_raise_45 rfl rfl rfl ?_
          refine go_iload_n (i := 3) (pc' := 47) dX12_raise_46 rfl rfl rfl ?_
          refine go_iast (pc' := 48) dX12_raise_47 rfl (by decide) (by decide) rfl (vin_of (n := 12) (by omega) (by omega)) ?_
          refine go_aload_n (i := 0) (pc' := 49) dX12_raise_48 rfl rfl rfl ?_
          refine go_iconst (v := 1) (pc' := 50) dX12_raise_49 rfl (by decide) ?_
          refine pf_13_moved (pc' := 53) dX12_raise_50 rfl fl_X12_158 rfl rfl ?_
          exact go_vret dX12_raise_53 rfl (Or.inr ⟨_, by omega, by omega, by omega, rfl⟩)
        exact go_vret dX12_raise_40 rfl (Or.inl ⟨rfl, by omega⟩)
      refine gz_iinc (c := 1) (pc' := 27) dX12_raise_24 rfl rfl (by decide) (by decide) (by decide) (by omega) (fun v10 h10 e10 => ?_)
      refine go_goto (tgt := 11) dX12_raise_27 (by decide) ?_
      exact go_lv (lv' := [(0, .ref (L.2.1 13)), (1, .int a), (2, .int t), (3, .int v10)]) rfl (ih5 _ (by omega)  v10 (by omega) rfl)
  exact go_lv (lv' := [(0, .ref (L.2.1 13)), (1, .int a), (2, .int t), (3, .int t)]) rfl (loop11_5 _  t (by omega) rfl)
set_option maxHeartbeats 4000000 in
set_option maxRecDepth 100000 in
theorem c_X12_sink (l : Launch) (L : WL) (σ : ST) (a t : Int32) (ha : 0 ≤ a.toInt ∧ a.toInt < 12) (ht : -31900 ≤ t.toInt ∧ t.toInt ≤ 31900) (ix : IV σ) : CtV l L yX12_sink cX12_sink 4 none rm_X12_sink [.ref (L.2.1 13), .int a, .int t] σ (fun σ2 => PS σ a t σ2) := by
  refine ctV_go (own := RX12) (by decide) rfl (Nat.le_of_ble_eq_true rfl) (fun F hF => ?_)
  subst hF
  have n1 : (1 : Int32).toInt = 1 := by decide
  have n7 : (7 : Int32).toInt = 7 := by decide
  have w0 : WM σ σ := WM_rfl ix
  have g7 := ixa_107 ix (a).toNatClampNeg (vinlt (vin_of (n := 12) (by omega) (by omega)))
  refine go_iload_n (i := 2) (pc' := 1) dX12_sink_0 rfl rfl rfl ?_
  refine go_istore_n (i := 3) (pc' := 2) dX12_sink_1 rfl rfl (by decide) ?_
  refine go_aload_n (i := 0) (pc' := 3) dX12_sink_2 rfl rfl rfl ?_
  refine gf_13_week (pc' := 6) dX12_sink_3 rfl fl_X12_44 ?_
  refine go_iload_n (i := 1) (pc' := 7) dX12_sink_6 rfl rfl rfl ?_
  refine go_iald (pc' := 8) dX12_sink_7 rfl (by decide) (by decide) rfl (vin_of (n := 12) (by omega) (by omega)) ?_
  have g1 := ixa_107 ix (a).toNatClampNeg (vinlt (show vp_in a 12 from (vin_of (n := 12) (by omega) (by omega))))
  refine gz_if_lt (tgt := 32) (pc' := 11) dX12_sink_8 rfl (by decide) (fun c2 => ?_) (fun c2 => ?_)
  · refine go_iload_n (i := 3) (pc' := 33) dX12_sink_32 rfl rfl rfl ?_
    refine go_aload_n (i := 0) (pc' := 34) dX12_sink_33 rfl rfl rfl ?_
    refine gf_13_high (pc' := 37) dX12_sink_34 rfl fl_X12_86 ?_
    refine go_iload_n (i := 1) (pc' := 38) dX12_sink_37 rfl rfl rfl ?_
    refine go_iald (pc' := 39) dX12_sink_38 rfl (by decide) (by decide) rfl (vin_of (n := 12) (by omega) (by omega)) ?_
    have g3 := ixa_121 ix (a).toNatClampNeg (vinlt (show vp_in a 12 from (vin_of (n := 12) (by omega) (by omega))))
    refine gz_icmp_lt (tgt := 43) (pc' := 42) dX12_sink_39 rfl (by decide) (fun c4 => ?_) (fun c4 => ?_)
    · refine go_aload_n (i := 0) (pc' := 44) dX12_sink_43 rfl rfl rfl ?_
      refine gf_13_high (pc' := 47) dX12_sink_44 rfl fl_X12_86 ?_
      refine go_iload_n (i := 1) (pc' := 48) dX12_sink_47 rfl rfl rfl ?_
      refine go_iload_n (i := 3) (pc' := 49) dX12_sink_48 rfl rfl rfl ?_
      refine go_iast (pc' := 50) dX12_sink_49 rfl (by decide) (by decide) rfl (vin_of (n := 12) (by omega) (by omega)) ?_
      refine go_aload_n (i := 0) (pc' := 51) dX12_sink_50 rfl rfl rfl ?_
      refine go_iconst (v := 1) (pc' := 52) dX12_sink_51 rfl (by decide) ?_
      refine pf_13_moved (pc' := 55) dX12_sink_52 rfl fl_X12_158 rfl rfl ?_
      exact go_vret dX12_sink_55 rfl (Or.inr ⟨_, by omega, by omega, by omega, rfl⟩)
    exact go_vret dX12_sink_42 rfl (Or.inl ⟨rfl, by omega⟩)
  have loop11_5 : ∀ (dd5 : Nat) (x3_5 : Int32), ((x3_5).toInt ≤ t.toInt ∧ t.toInt - (t.toInt - (σ.2 107 (a).toNatClampNeg).toInt) % 7 ≤ (x3_5).toInt) → ((x3_5).toInt - t.toInt + 7).toNat = dd5 → Go F L RX12 cX12_sink 4 rm_X12_sink none (RV F L (fun σ2 => PS σ a t σ2)) σ 11 [(0, .ref (L.2.1 13)), (1, .int a), (2, .int t), (3, .int x3_5)] [] := by
    intro dd5
    induction dd5 using Nat.strongRecOn with
    | _ dd5 ih5 =>
      intro x3_5 h_5 hm_5
      refine go_iload_n (i := 3) (pc' := 12) dX12_sink_11 rfl rfl rfl ?_
      refine go_bipush (v := 7) (pc' := 14) dX12_sink_12 rfl (by decide) ?_
      refine go_csi (pc' := 17) ls_X12_162 (f_floorMod7 _ _ _ _) rfl rfl (Nat.le_of_ble_eq_true rfl) ⟨Nat.le_of_ble_eq_true rfl, Nat.le_of_ble_eq_true rfl⟩ ⟨rfl, rfl⟩ dX12_sink_14 rfl (fun r6 σ6 h6 => ?_)
      obtain ⟨e6, h6⟩ := h6
      have e6 := e6.symm
      subst e6
      refine go_aload_n (i := 0) (pc' := 18) dX12_sink_17 rfl rfl rfl ?_
      refine gf_13_week (pc' := 21) dX12_sink_18 rfl fl_X12_44 ?_
      refine go_iload_n (i := 1) (pc' := 22) dX12_sink_21 rfl rfl rfl ?_
      refine go_iald (pc' := 23) dX12_sink_22 rfl (by decide) (by decide) rfl (vin_of (n := 12) (by omega) (by omega)) ?_
      have g7 := ixa_107 ix (a).toNatClampNeg (vinlt (show vp_in a 12 from (vin_of (n := 12) (by omega) (by omega))))
      refine gz_icmp_eq (tgt := 32) (pc' := 26) dX12_sink_23 rfl (by decide) (fun c8 => ?_) (fun c8 => ?_)
      · refine go_iload_n (i := 3) (pc' := 33) dX12_sink_32 rfl rfl rfl ?_
        refine go_aload_n (i := 0) (pc' := 34) dX12_sink_33 rfl rfl rfl ?_
        refine gf_13_high (pc' := 37) dX12_sink_34 rfl fl_X12_86 ?_
        refine go_iload_n (i := 1) (pc' := 38) dX12_sink_37 rfl rfl rfl ?_
        refine go_iald (pc' := 39) dX12_sink_38 rfl (by decide) (by decide) rfl (vin_of (n := 12) (by omega) (by omega)) ?_
        have g9 := ixa_121 ix (a).toNatClampNeg (vinlt (show vp_in a 12 from (vin_of (n := 12) (by omega) (by omega))))
        refine gz_icmp_lt (tgt := 43) (pc' := 42) dX12_sink_39 rfl (by decide) (fun c10 => ?_) (fun c10 => ?_)
        · refine go_aload_n (i := 0) (pc' := 44) dX12_sink_43 rfl rfl rfl ?_
          refine gf_13_high (pc' := 47) dX12_sink_44 rfl fl_X12_86 ?_
          refine go_iload_n (i := 1) (pc' := 48) dX12_sink_47 rfl rfl rfl ?_
          refine go_iload_n (i := 3) (pc' := 49) dX12_sink_48 rfl rfl rfl ?_
          refine go_iast (pc' := 50) dX12_sink_49 rfl (by decide) (by decide) rfl (vin_of (n := 12) (by omega) (by omega)) ?_
          refine go_aload_n (i := 0) (pc' := 51) dX12_sink_50 rfl rfl rfl ?_
          refine go_iconst (v := 1) (pc' := 52) dX12_sink_51 rfl (by decide) ?_
          refine pf_13_moved (pc' := 55) dX12_sink_52 rfl fl_X12_158 rfl rfl ?_
          exact go_vret dX12_sink_55 rfl (Or.inr ⟨_, by omega, by omega, by omega, rfl⟩)
        exact go_vret dX12_sink_42 rfl (Or.inl ⟨rfl, by omega⟩)
      refine gz_iinc (c := (-1)) (pc' := 29) dX12_sink_26 rfl rfl (by decide) (by decide) (by decide) (by omega) (fun v11 h11 e11 => ?_)
      refine go_goto (tgt := 11) dX12_sink_29 (by decide) ?_
      exact go_lv (lv' := [(0, .ref (L.2.1 13)), (1, .int a), (2, .int t), (3, .int v11)]) rfl (ih5 _ (by omega)  v11 (by omega) rfl)
  exact go_lv (lv' := [(0, .ref (L.2.1 13)), (1, .int a), (2, .int t), (3, .int t)]) rfl (loop11_5 _  t (by omega) rfl)
set_option maxHeartbeats 4000000 in
set_option maxRecDepth 100000 in
theorem c_X12_clashes (l : Launch) (L : WL) (σ : ST) (kk : Int32) (ix : IV σ) (im : IM σ) : CtI l L yX12_clashes cX12_clashes 3 (some .boolean) rm_X12_clashes [.ref (L.2.1 13), .int kk] σ (fun r σ2 => WM σ σ2 ∧ (r = 0 ∨ r = 1)) := by
  refine ctI_go (own := RX12) (by decide) rfl (Nat.le_of_ble_eq_true rfl) (fun F hF => ?_)
  subst hF
  have nm1 : (-1 : Int32).toInt = -1 := by decide
  have n0 : (0 : Int32).toInt = 0 := by decide
  have n1 : (1 : Int32).toInt = 1 := by decide
  have n9999 : (9999 : Int32).toInt = 9999 := by decide
  have n10000 : (10000 : Int32).toInt = 10000 := by decide
  have w0 : WM σ σ := WM_rfl ix
  have u20 := ixi_20 ix
  have u21 := ixi_21 ix
  refine go_iconst (v := 0) (pc' := 1) dX12_clashes_0 rfl (by decide) ?_
  refine go_istore_n (i := 2) (pc' := 2) dX12_clashes_1 rfl rfl (by decide) ?_
  have loop2_1 : ∀ (dd1 : Nat) (σ1 : ST) (x2_1 : Int32), WM σ σ1 → (0 ≤ (x2_1).toInt ∧ (x2_1).toInt ≤ (σ.1 20).toInt) → (∀ j : Nat, (j : Int) < (x2_1).toInt → LB σ1 j) → (12 - (x2_1).toInt).toNat = dd1 → Go F L RX12 cX12_clashes 3 rm_X12_clashes (some .boolean) (RI F L (fun r σ2 => WM σ σ2 ∧ (r = 0 ∨ r = 1))) σ1 2 [(0, .ref (L.2.1 13)), (1, .int kk), (2, .int x2_1)] [] := by
    intro dd1
    induction dd1 using Nat.strongRecOn with
    | _ dd1 ih1 =>
      intro σ1 x2_1 w1 h_1 hL_1 hm_1
      refine go_iload_n (i := 2) (pc' := 3) dX12_clashes_2 rfl rfl rfl ?_
      refine go_aload_n (i := 0) (pc' := 4) dX12_clashes_3 rfl rfl rfl ?_
      refine gf_13_letters (pc' := 7) dX12_clashes_4 rfl fl_X12_142 ?_
      refine go_topq (y := σ.1 20) (w1.2.1 20 (by decide)) ?_
      have g2 := ixi_20 ix
      refine gz_icmp_ge (tgt := 54) (pc' := 10) dX12_clashes_7 rfl (by decide) (fun c3 => ?_) (fun c3 => ?_)
      · refine go_aload_n (i := 0) (pc' := 55) dX12_clashes_54 rfl rfl rfl ?_
        refine go_iconst (v := 1) (pc' := 56) dX12_clashes_55 rfl (by decide) ?_
        refine pf_13_moved (pc' := 59) dX12_clashes_56 rfl fl_X12_158 rfl rfl ?_
        refine go_gen (P := fun s => WM σ s ∧ s = setI σ1 24 (1 : Int32)) ⟨⟨ixs_n w1.1 (by decide), Ag_setI w1.2 (by decide)⟩, rfl⟩ (fun σ4 z4 => ?_)
        obtain ⟨w4, g4⟩ := z4
        have gy := g4
        have hB54 := fun (j : Nat) (hj : (j : Int) < (σ.1 20).toInt) => hB_of gy (hL_1 j (by omega))
        have loop59_5 : ∀ (dd5 : Nat) (σ5 : ST) (x2_5 : Int32), WM σ σ5 → (∀ j : Nat, (j : Int) < (σ.1 20).toInt → ((σ5.2 120 j).toInt ≤ 31000 ∧ -31000 ≤ (σ5.2 121 j).toInt) ∧ 0 ≤ (σ5.2 120 j).toInt) → 2 * msr σ5 + mvd σ5 = dd5 → Go F L RX12 cX12_clashes 3 rm_X12_clashes (some .boolean) (RI F L (fun r σ2 => WM σ σ2 ∧ (r = 0 ∨ r = 1))) σ5 59 [(0, .ref (L.2.1 13)), (1, .int kk), (2, .int x2_5)] [] := by
          intro dd5
          induction dd5 using Nat.strongRecOn with
          | _ dd5 ih5 =>
            intro σ5 x2_5 w5 hB_5 hm_5
            refine go_aload_n (i := 0) (pc' := 60) dX12_clashes_59 rfl rfl rfl ?_
            refine gf_13_moved (pc' := 63) dX12_clashes_60 rfl fl_X12_158 ?_
            refine gz_if_eq (tgt := 291) (pc' := 66) dX12_clashes_63 rfl (by decide) (fun c6 => ?_) (fun c6 => ?_)
            · refine go_iconst (v := 0) (pc' := 292) dX12_clashes_291 rfl (by decide) ?_
              exact go_zret dX12_clashes_292 rfl rfl (⟨w5, Or.inl rfl⟩)
            have c63 := c6
            refine go_aload_n (i := 0) (pc' := 67) dX12_clashes_66 rfl rfl rfl ?_
            refine go_iconst (v := 0) (pc' := 68) dX12_clashes_67 rfl (by decide) ?_
            refine pf_13_moved (pc' := 71) dX12_clashes_68 rfl fl_X12_158 rfl rfl ?_
            refine go_gen (P := fun s => WM σ s ∧ s = setI σ5 24 (0 : Int32)) ⟨⟨ixs_n w5.1 (by decide), Ag_setI w5.2 (by decide)⟩, rfl⟩ (fun σ7 z7 => ?_)
            obtain ⟨w7, g7⟩ := z7
            have gz := g7
            have hB0 : ∀ j : Nat, (j : Int) < (σ.1 20).toInt → ((σ7.2 120 j).toInt ≤ 31000 ∧ -31000 ≤ (σ7.2 121 j).toInt) ∧ 0 ≤ (σ7.2 120 j).toInt := fun j hj => by
              rw [gz]
              exact hB_5 j hj
            refine go_iconst (v := 0) (pc' := 72) dX12_clashes_71 rfl (by decide) ?_
            refine go_istore_n (i := 2) (pc' := 73) dX12_clashes_72 rfl rfl (by decide) ?_
            have loop73_8 : ∀ (dd8 : Nat) (σ8 : ST) (x2_8 : Int32), WM σ σ8 → (0 ≤ (x2_8).toInt ∧ (x2_8).toInt ≤ (σ.1 20).toInt) → (CL (σ.1 20).toInt σ7 σ8 (24 * (x2_8).toInt)) → (∀ j : Nat, (j : Int) < (x2_8).toInt → (σ7.2 120 j).toInt ≤ 9999 ∧ 0 ≤ (σ7.2 121 j).toInt) → (12 - (x2_8).toInt).toNat = dd8 → Go F L RX12 cX12_clashes 3 rm_X12_clashes (some .boolean) (RI F L (fun r σ2 => WM σ σ2 ∧ (r = 0 ∨ r = 1))) σ8 73 [(0, .ref (L.2.1 13)), (1, .int kk), (2, .int x2_8)] [] := by
              intro dd8
              induction dd8 using Nat.strongRecOn with
              | _ dd8 ih8 =>
                intro σ8 x2_8 w8 h_8 hc_8 h9_8 hm_8
                refine go_iload_n (i := 2) (pc' := 74) dX12_clashes_73 rfl rfl rfl ?_
                refine go_aload_n (i := 0) (pc' := 75) dX12_clashes_74 rfl rfl rfl ?_
                refine gf_13_letters (pc' := 78) dX12_clashes_75 rfl fl_X12_142 ?_
                refine go_topq (y := σ.1 20) (w8.2.1 20 (by decide)) ?_
                have g9 := ixi_20 ix
                refine gz_icmp_ge (tgt := 195) (pc' := 81) dX12_clashes_78 rfl (by decide) (fun c10 => ?_) (fun c10 => ?_)
                · have h9z := h9_8
                  have hcz := hc_8
                  refine go_iconst (v := 0) (pc' := 196) dX12_clashes_195 rfl (by decide) ?_
                  refine go_istore_n (i := 2) (pc' := 197) dX12_clashes_196 rfl rfl (by decide) ?_
                  have loop197_11 : ∀ (dd11 : Nat) (σ11 : ST) (x2_11 : Int32), WM σ σ11 → (0 ≤ (x2_11).toInt ∧ (x2_11).toInt ≤ (σ.1 21).toInt) → (CL (σ.1 20).toInt σ7 σ11 (288 + 1012 * (x2_11).toInt)) → (20 - (x2_11).toInt).toNat = dd11 → Go F L RX12 cX12_clashes 3 rm_X12_clashes (some .boolean) (RI F L (fun r σ2 => WM σ σ2 ∧ (r = 0 ∨ r = 1))) σ11 197 [(0, .ref (L.2.1 13)), (1, .int kk), (2, .int x2_11)] [] := by
                    intro dd11
                    induction dd11 using Nat.strongRecOn with
                    | _ dd11 ih11 =>
                      intro σ11 x2_11 w11 h_11 hc_11 hm_11
                      refine go_iload_n (i := 2) (pc' := 198) dX12_clashes_197 rfl rfl rfl ?_
                      refine go_aload_n (i := 0) (pc' := 199) dX12_clashes_198 rfl rfl rfl ?_
                      refine gf_13_bounds (pc' := 202) dX12_clashes_199 rfl fl_X12_155 ?_
                      refine go_topq (y := σ.1 21) (w11.2.1 21 (by decide)) ?_
                      have g12 := ixi_21 ix
                      refine gz_icmp_ge (tgt := 288) (pc' := 205) dX12_clashes_202 rfl (by decide) (fun c13 => ?_) (fun c13 => ?_)
                      · refine go_goto (tgt := 59) dX12_clashes_288 (by decide) ?_
                        exact go_lv (lv' := [(0, .ref (L.2.1 13)), (1, .int kk), (2, .int x2_11)]) rfl (ih5 _ (by rw [← hm_5]; exact CL_dec gz c63 hc_11) σ11 x2_11 w11 (fun j hj => by have z1 := hc_11.2.2.1 9999 (fun j hj => (h9z j (by omega)).1) j hj; have z2 := hc_11.2.2.2 0 (fun j hj => (h9z j (by omega)).2) j hj; have z3 := hc_11.2.1 j hj; omega) rfl)
                      refine go_iload_n (i := 1) (pc' := 206) dX12_clashes_205 rfl rfl rfl ?_
                      refine go_iload_n (i := 2) (pc' := 207) dX12_clashes_206 rfl rfl rfl ?_
                      refine go_ishr (pc' := 208) dX12_clashes_207 rfl ?_
                      refine go_iconst (v := 1) (pc' := 209) dX12_clashes_208 rfl (by decide) ?_
                      refine go_iand (pc' := 210) dX12_clashes_209 rfl ?_
                      refine gz_if_ne (tgt := 216) (pc' := 213) dX12_clashes_210 rfl (by decide) (fun c14 => ?_) (fun c14 => ?_)
                      · have ck := cnat (x := x2_11) (by omega)
                        have m1 := im.2 (x2_11).toNatClampNeg (by omega)
                        have ga := ixa_111 ix (x2_11).toNatClampNeg (by omega)
                        have gb := ixa_112 ix (x2_11).toNatClampNeg (by omega)
                        have ca := cnat (x := (σ.2 111 (x2_11).toNatClampNeg)) (by omega)
                        have cb := cnat (x := (σ.2 112 (x2_11).toNatClampNeg)) (by omega)
                        have bE1 := hc_11.2.2.1 9999 (fun j hj => (h9z j (by omega)).1) (σ.2 111 (x2_11).toNatClampNeg).toNatClampNeg (by omega)
                        have bE2 := hc_11.2.2.2 (0) (fun j hj => (h9z j (by omega)).2) (σ.2 111 (x2_11).toNatClampNeg).toNatClampNeg (by omega)
                        have bE3 := hc_11.2.1 (σ.2 111 (x2_11).toNatClampNeg).toNatClampNeg (by omega)
                        refine go_aload_n (i := 0) (pc' := 217) dX12_clashes_216 rfl rfl rfl ?_
                        refine go_aload_n (i := 0) (pc' := 218) dX12_clashes_217 rfl rfl rfl ?_
                        refine gf_13_boundB (pc' := 221) dX12_clashes_218 rfl fl_X12_59 ?_
                        refine go_iload_n (i := 2) (pc' := 222) dX12_clashes_221 rfl rfl rfl ?_
                        refine go_iald (pc' := 223) dX12_clashes_222 rfl (by decide) (by decide) rfl (vin_of (n := 20) (by omega) (by omega)) ?_
                        refine go_topq (y := (σ.2 112 (x2_11).toNatClampNeg)) (congrFun (w11.2.2 112 (by decide)) _) ?_
                        have g15 := ixa_112 ix (x2_11).toNatClampNeg (vinlt (vin_of (n := 20) (by omega) (by omega)))
                        refine go_iconst (v := 0) (pc' := 224) dX12_clashes_223 rfl (by decide) ?_
                        refine go_aload_n (i := 0) (pc' := 225) dX12_clashes_224 rfl rfl rfl ?_
                        refine gf_13_low (pc' := 228) dX12_clashes_225 rfl fl_X12_83 ?_
                        refine go_aload_n (i := 0) (pc' := 229) dX12_clashes_228 rfl rfl rfl ?_
                        refine gf_13_boundA (pc' := 232) dX12_clashes_229 rfl fl_X12_56 ?_
                        refine go_iload_n (i := 2) (pc' := 233) dX12_clashes_232 rfl rfl rfl ?_
                        refine go_iald (pc' := 234) dX12_clashes_233 rfl (by decide) (by decide) rfl (vin_of (n := 20) (by omega) (by omega)) ?_
                        refine go_topq (y := (σ.2 111 (x2_11).toNatClampNeg)) (congrFun (w11.2.2 111 (by decide)) _) ?_
                        have g16 := ixa_111 ix (x2_11).toNatClampNeg (vinlt (vin_of (n := 20) (by omega) (by omega)))
                        refine go_iald (pc' := 235) dX12_clashes_234 rfl (by decide) (by decide) rfl (vin_of (n := 12) (by omega) (by omega)) ?_
                        refine go_rngA (ixa_120 w11.1) (vinlt (vin_of (n := 12) (by omega) (by omega))) (fun g17 => ?_)
                        refine go_aload_n (i := 0) (pc' := 236) dX12_clashes_235 rfl rfl rfl ?_
                        refine gf_13_boundBy (pc' := 239) dX12_clashes_236 rfl fl_X12_62 ?_
                        refine go_iload_n (i := 2) (pc' := 240) dX12_clashes_239 rfl rfl rfl ?_
                        refine go_iald (pc' := 241) dX12_clashes_240 rfl (by decide) (by decide) rfl (vin_of (n := 20) (by omega) (by omega)) ?_
                        refine go_topq (y := (σ.2 113 (x2_11).toNatClampNeg)) (congrFun (w11.2.2 113 (by decide)) _) ?_
                        have g18 := ixa_113 ix (x2_11).toNatClampNeg (vinlt (vin_of (n := 20) (by omega) (by omega)))
                        refine gz_iadd (pc' := 242) dX12_clashes_241 rfl (by omega) (fun v19 h19 e19 => ?_)
                        refine gz_max (pc' := 245) dX12_clashes_242 rfl ml_X12_175 (Nat.le_of_ble_eq_true rfl) (Nat.le_of_ble_eq_true rfl) (fun v20 h20 e20 => ?_)
                        refine go_cvv (pc' := 248) lk_X12_168 (c_X12_raise _ _ _ _ _ (by omega) (by omega) w11.1) rfl rfl (Nat.le_of_ble_eq_true rfl) (by decide) rfl rfl rfl ⟨Nat.le_of_ble_eq_true rfl, Nat.le_of_ble_eq_true rfl⟩ ⟨rfl, rfl⟩ dX12_clashes_245 rfl (fun σ21 h21 => ?_)
                        have w21 := WM_trans w11 (PR_WM w11.1 (by omega) (by omega) h21)
                        have hcE := CL_raise hc_11 h21 w21.1 (by omega) (by omega) (σ.2 111 (x2_11).toNatClampNeg).toNatClampNeg (by omega) (by omega) (e := 500) (by omega) (by omega) (d2 := 288 + 1012 * (x2_11).toInt + 506) (by omega)
                        have bF1 := hcE.2.2.1 9999 (fun j hj => (h9z j (by omega)).1) (σ.2 112 (x2_11).toNatClampNeg).toNatClampNeg (by omega)
                        have bF2 := hcE.2.2.2 (0) (fun j hj => (h9z j (by omega)).2) (σ.2 112 (x2_11).toNatClampNeg).toNatClampNeg (by omega)
                        have bF3 := hcE.2.1 (σ.2 112 (x2_11).toNatClampNeg).toNatClampNeg (by omega)
                        refine go_aload_n (i := 0) (pc' := 249) dX12_clashes_248 rfl rfl rfl ?_
                        refine go_aload_n (i := 0) (pc' := 250) dX12_clashes_249 rfl rfl rfl ?_
                        refine gf_13_boundA (pc' := 253) dX12_clashes_250 rfl fl_X12_56 ?_
                        refine go_iload_n (i := 2) (pc' := 254) dX12_clashes_253 rfl rfl rfl ?_
                        refine go_iald (pc' := 255) dX12_clashes_254 rfl (by decide) (by decide) rfl (vin_of (n := 20) (by omega) (by omega)) ?_
                        refine go_topq (y := (σ.2 111 (x2_11).toNatClampNeg)) (congrFun (w21.2.2 111 (by decide)) _) ?_
                        have g22 := ixa_111 ix (x2_11).toNatClampNeg (vinlt (vin_of (n := 20) (by omega) (by omega)))
                        refine go_sipush (v := 9999) (pc' := 258) dX12_clashes_255 rfl (by decide) ?_
                        refine go_aload_n (i := 0) (pc' := 259) dX12_clashes_258 rfl rfl rfl ?_
                        refine gf_13_high (pc' := 262) dX12_clashes_259 rfl fl_X12_86 ?_
                        refine go_aload_n (i := 0) (pc' := 263) dX12_clashes_262 rfl rfl rfl ?_
                        refine gf_13_boundB (pc' := 266) dX12_clashes_263 rfl fl_X12_59 ?_
                        refine go_iload_n (i := 2) (pc' := 267) dX12_clashes_266 rfl rfl rfl ?_
                        refine go_iald (pc' := 268) dX12_clashes_267 rfl (by decide) (by decide) rfl (vin_of (n := 20) (by omega) (by omega)) ?_
                        refine go_topq (y := (σ.2 112 (x2_11).toNatClampNeg)) (congrFun (w21.2.2 112 (by decide)) _) ?_
                        have g23 := ixa_112 ix (x2_11).toNatClampNeg (vinlt (vin_of (n := 20) (by omega) (by omega)))
                        refine go_iald (pc' := 269) dX12_clashes_268 rfl (by decide) (by decide) rfl (vin_of (n := 12) (by omega) (by omega)) ?_
                        refine go_rngA (ixa_121 w21.1) (vinlt (vin_of (n := 12) (by omega) (by omega))) (fun g24 => ?_)
                        refine go_aload_n (i := 0) (pc' := 270) dX12_clashes_269 rfl rfl rfl ?_
                        refine gf_13_boundBy (pc' := 273) dX12_clashes_270 rfl fl_X12_62 ?_
                        refine go_iload_n (i := 2) (pc' := 274) dX12_clashes_273 rfl rfl rfl ?_
                        refine go_iald (pc' := 275) dX12_clashes_274 rfl (by decide) (by decide) rfl (vin_of (n := 20) (by omega) (by omega)) ?_
                        refine go_topq (y := (σ.2 113 (x2_11).toNatClampNeg)) (congrFun (w21.2.2 113 (by decide)) _) ?_
                        have g25 := ixa_113 ix (x2_11).toNatClampNeg (vinlt (vin_of (n := 20) (by omega) (by omega)))
                        refine gz_isub (pc' := 276) dX12_clashes_275 rfl (by omega) (fun v26 h26 e26 => ?_)
                        refine gz_min (pc' := 279) dX12_clashes_276 rfl ml_X12_178 (Nat.le_of_ble_eq_true rfl) (Nat.le_of_ble_eq_true rfl) (fun v27 h27 e27 => ?_)
                        refine go_cvv (pc' := 282) lk_X12_172 (c_X12_sink _ _ _ _ _ (by omega) (by omega) w21.1) rfl rfl (Nat.le_of_ble_eq_true rfl) (by decide) rfl rfl rfl ⟨Nat.le_of_ble_eq_true rfl, Nat.le_of_ble_eq_true rfl⟩ ⟨rfl, rfl⟩ dX12_clashes_279 rfl (fun σ28 h28 => ?_)
                        have w28 := WM_trans w21 (PS_WM w21.1 (by omega) (by omega) h28)
                        have hcF := CL_sink hcE h28 w28.1 (by omega) (by omega) (σ.2 112 (x2_11).toNatClampNeg).toNatClampNeg (by omega) (e := 500) (by omega) (by omega) (d2 := 288 + 1012 * (x2_11).toInt + 1012) (by omega)
                        refine gz_iinc (c := 1) (pc' := 285) dX12_clashes_282 rfl rfl (by decide) (by decide) (by decide) (by omega) (fun v29 h29 e29 => ?_)
                        refine go_goto (tgt := 197) dX12_clashes_285 (by decide) ?_
                        exact go_lv (lv' := [(0, .ref (L.2.1 13)), (1, .int kk), (2, .int v29)]) rfl (ih11 _ (by omega) σ28 v29 w28 (by omega) (by first | exact CL_mono hcF (by omega) | exact CL_mono hc_11 (by omega)) rfl)
                      refine go_goto (tgt := 282) dX12_clashes_213 (by decide) ?_
                      refine gz_iinc (c := 1) (pc' := 285) dX12_clashes_282 rfl rfl (by decide) (by decide) (by decide) (by omega) (fun v30 h30 e30 => ?_)
                      refine go_goto (tgt := 197) dX12_clashes_285 (by decide) ?_
                      exact go_lv (lv' := [(0, .ref (L.2.1 13)), (1, .int kk), (2, .int v30)]) rfl (ih11 _ (by omega) σ11 v30 w11 (by omega) (by first | exact CL_mono hcF (by omega) | exact CL_mono hc_11 (by omega)) rfl)
                  exact go_lv (lv' := [(0, .ref (L.2.1 13)), (1, .int kk), (2, .int (0 : Int32))]) rfl (loop197_11 _ σ8 (0 : Int32) w8 (by omega) (CL_mono hcz (by omega)) rfl)
                refine go_aload_n (i := 0) (pc' := 82) dX12_clashes_81 rfl rfl rfl ?_
                refine gf_13_low (pc' := 85) dX12_clashes_82 rfl fl_X12_83 ?_
                refine go_iload_n (i := 2) (pc' := 86) dX12_clashes_85 rfl rfl rfl ?_
                refine go_iald (pc' := 87) dX12_clashes_86 rfl (by decide) (by decide) rfl (vin_of (n := 12) (by omega) (by omega)) ?_
                refine go_rngA (ixa_120 w8.1) (vinlt (vin_of (n := 12) (by omega) (by omega))) (fun g31 => ?_)
                refine go_aload_n (i := 0) (pc' := 88) dX12_clashes_87 rfl rfl rfl ?_
                refine gf_13_most (pc' := 91) dX12_clashes_88 rfl fl_X12_41 ?_
                refine go_iload_n (i := 2) (pc' := 92) dX12_clashes_91 rfl rfl rfl ?_
                refine go_iald (pc' := 93) dX12_clashes_92 rfl (by decide) (by decide) rfl (vin_of (n := 12) (by omega) (by omega)) ?_
                refine go_topq (y := (σ.2 106 (x2_8).toNatClampNeg)) (congrFun (w8.2.2 106 (by decide)) _) ?_
                have g32 := ixa_106 ix (x2_8).toNatClampNeg (vinlt (vin_of (n := 12) (by omega) (by omega)))
                refine gz_icmp_gt (tgt := 111) (pc' := 96) dX12_clashes_93 rfl (by decide) (fun c33 => ?_) (fun c33 => ?_)
                · refine go_iconst (v := 1) (pc' := 112) dX12_clashes_111 rfl (by decide) ?_
                  exact go_zret dX12_clashes_112 rfl rfl (⟨w8, Or.inr rfl⟩)
                refine go_aload_n (i := 0) (pc' := 97) dX12_clashes_96 rfl rfl rfl ?_
                refine gf_13_high (pc' := 100) dX12_clashes_97 rfl fl_X12_86 ?_
                refine go_iload_n (i := 2) (pc' := 101) dX12_clashes_100 rfl rfl rfl ?_
                refine go_iald (pc' := 102) dX12_clashes_101 rfl (by decide) (by decide) rfl (vin_of (n := 12) (by omega) (by omega)) ?_
                refine go_rngA (ixa_121 w8.1) (vinlt (vin_of (n := 12) (by omega) (by omega))) (fun g34 => ?_)
                refine go_aload_n (i := 0) (pc' := 103) dX12_clashes_102 rfl rfl rfl ?_
                refine gf_13_least (pc' := 106) dX12_clashes_103 rfl fl_X12_38 ?_
                refine go_iload_n (i := 2) (pc' := 107) dX12_clashes_106 rfl rfl rfl ?_
                refine go_iald (pc' := 108) dX12_clashes_107 rfl (by decide) (by decide) rfl (vin_of (n := 12) (by omega) (by omega)) ?_
                refine go_topq (y := (σ.2 105 (x2_8).toNatClampNeg)) (congrFun (w8.2.2 105 (by decide)) _) ?_
                have g35 := ixa_105 ix (x2_8).toNatClampNeg (vinlt (vin_of (n := 12) (by omega) (by omega)))
                refine gz_icmp_ge (tgt := 113) (pc' := 111) dX12_clashes_108 rfl (by decide) (fun c36 => ?_) (fun c36 => ?_)
                · have h9l : (σ7.2 120 (x2_8).toNatClampNeg).toInt ≤ 9999 ∧ 0 ≤ (σ7.2 121 (x2_8).toNatClampNeg).toInt := by
                    have z1 := hc_8.1.1 (x2_8).toNatClampNeg
                    have z2 := hc_8.1.2.1 (x2_8).toNatClampNeg
                    omega
                  refine go_aload_n (i := 0) (pc' := 114) dX12_clashes_113 rfl rfl rfl ?_
                  refine gf_13_is (pc' := 117) dX12_clashes_114 rfl fl_X12_47 ?_
                  refine go_iload_n (i := 2) (pc' := 118) dX12_clashes_117 rfl rfl rfl ?_
                  refine go_iald (pc' := 119) dX12_clashes_118 rfl (by decide) (by decide) rfl (vin_of (n := 12) (by omega) (by omega)) ?_
                  refine go_topq (y := (σ.2 108 (x2_8).toNatClampNeg)) (congrFun (w8.2.2 108 (by decide)) _) ?_
                  have g37 := ixa_108 ix (x2_8).toNatClampNeg (vinlt (vin_of (n := 12) (by omega) (by omega)))
                  refine gz_if_ge (tgt := 125) (pc' := 122) dX12_clashes_119 rfl (by decide) (fun c38 => ?_) (fun c38 => ?_)
                  · have cl := cnat (x := x2_8) (by omega)
                    have m0 := im.1 (x2_8).toNatClampNeg (by omega)
                    have cm := cnat (x := (σ.2 108 (x2_8).toNatClampNeg)) (by omega)
                    have bA1 := hc_8.2.2.1 31000 (fun j hj => (hB0 j hj).1.1) (σ.2 108 (x2_8).toNatClampNeg).toNatClampNeg (by omega)
                    have bA2 := hc_8.2.2.2 (-31000) (fun j hj => (hB0 j hj).1.2) (σ.2 108 (x2_8).toNatClampNeg).toNatClampNeg (by omega)
                    have bA3 := hc_8.2.1 (σ.2 108 (x2_8).toNatClampNeg).toNatClampNeg (by omega)
                    refine go_aload_n (i := 0) (pc' := 126) dX12_clashes_125 rfl rfl rfl ?_
                    refine go_iload_n (i := 2) (pc' := 127) dX12_clashes_126 rfl rfl rfl ?_
                    refine go_aload_n (i := 0) (pc' := 128) dX12_clashes_127 rfl rfl rfl ?_
                    refine gf_13_low (pc' := 131) dX12_clashes_128 rfl fl_X12_83 ?_
                    refine go_aload_n (i := 0) (pc' := 132) dX12_clashes_131 rfl rfl rfl ?_
                    refine gf_13_is (pc' := 135) dX12_clashes_132 rfl fl_X12_47 ?_
                    refine go_iload_n (i := 2) (pc' := 136) dX12_clashes_135 rfl rfl rfl ?_
                    refine go_iald (pc' := 137) dX12_clashes_136 rfl (by decide) (by decide) rfl (vin_of (n := 12) (by omega) (by omega)) ?_
                    refine go_topq (y := (σ.2 108 (x2_8).toNatClampNeg)) (congrFun (w8.2.2 108 (by decide)) _) ?_
                    have g39 := ixa_108 ix (x2_8).toNatClampNeg (vinlt (vin_of (n := 12) (by omega) (by omega)))
                    refine go_iald (pc' := 138) dX12_clashes_137 rfl (by decide) (by decide) rfl (vin_of (n := 12) (by omega) (by omega)) ?_
                    refine go_rngA (ixa_120 w8.1) (vinlt (vin_of (n := 12) (by omega) (by omega))) (fun g40 => ?_)
                    refine go_cvv (pc' := 141) lk_X12_168 (c_X12_raise _ _ _ _ _ (by omega) (by omega) w8.1) rfl rfl (Nat.le_of_ble_eq_true rfl) (by decide) rfl rfl rfl ⟨Nat.le_of_ble_eq_true rfl, Nat.le_of_ble_eq_true rfl⟩ ⟨rfl, rfl⟩ dX12_clashes_138 rfl (fun σ41 h41 => ?_)
                    have w41 := WM_trans w8 (PR_WM w8.1 (by omega) (by omega) h41)
                    have hcA := CL_raise hc_8 h41 w41.1 (by omega) (by omega) (σ.2 108 (x2_8).toNatClampNeg).toNatClampNeg (by omega) (by omega) (e := 0) (by omega) (by omega) (d2 := 24 * (x2_8).toInt + 6) (by omega)
                    have bB1 := hcA.2.2.1 31000 (fun j hj => (hB0 j hj).1.1) (x2_8).toNatClampNeg (by omega)
                    have bB2 := hcA.2.2.2 (-31000) (fun j hj => (hB0 j hj).1.2) (x2_8).toNatClampNeg (by omega)
                    have bB3 := hcA.2.1 (x2_8).toNatClampNeg (by omega)
                    refine go_aload_n (i := 0) (pc' := 142) dX12_clashes_141 rfl rfl rfl ?_
                    refine go_aload_n (i := 0) (pc' := 143) dX12_clashes_142 rfl rfl rfl ?_
                    refine gf_13_is (pc' := 146) dX12_clashes_143 rfl fl_X12_47 ?_
                    refine go_iload_n (i := 2) (pc' := 147) dX12_clashes_146 rfl rfl rfl ?_
                    refine go_iald (pc' := 148) dX12_clashes_147 rfl (by decide) (by decide) rfl (vin_of (n := 12) (by omega) (by omega)) ?_
                    refine go_topq (y := (σ.2 108 (x2_8).toNatClampNeg)) (congrFun (w41.2.2 108 (by decide)) _) ?_
                    have g42 := ixa_108 ix (x2_8).toNatClampNeg (vinlt (vin_of (n := 12) (by omega) (by omega)))
                    refine go_aload_n (i := 0) (pc' := 149) dX12_clashes_148 rfl rfl rfl ?_
                    refine gf_13_low (pc' := 152) dX12_clashes_149 rfl fl_X12_83 ?_
                    refine go_iload_n (i := 2) (pc' := 153) dX12_clashes_152 rfl rfl rfl ?_
                    refine go_iald (pc' := 154) dX12_clashes_153 rfl (by decide) (by decide) rfl (vin_of (n := 12) (by omega) (by omega)) ?_
                    refine go_rngA (ixa_120 w41.1) (vinlt (vin_of (n := 12) (by omega) (by omega))) (fun g43 => ?_)
                    refine go_cvv (pc' := 157) lk_X12_168 (c_X12_raise _ _ _ _ _ (by omega) (by omega) w41.1) rfl rfl (Nat.le_of_ble_eq_true rfl) (by decide) rfl rfl rfl ⟨Nat.le_of_ble_eq_true rfl, Nat.le_of_ble_eq_true rfl⟩ ⟨rfl, rfl⟩ dX12_clashes_154 rfl (fun σ44 h44 => ?_)
                    have w44 := WM_trans w41 (PR_WM w41.1 (by omega) (by omega) h44)
                    have hcB := CL_raise hcA h44 w44.1 (by omega) (by omega) (x2_8).toNatClampNeg (by omega) (by omega) (e := 0) (by omega) (by omega) (d2 := 24 * (x2_8).toInt + 12) (by omega)
                    have bC1 := hcB.2.2.1 31000 (fun j hj => (hB0 j hj).1.1) (σ.2 108 (x2_8).toNatClampNeg).toNatClampNeg (by omega)
                    have bC2 := hcB.2.2.2 (-31000) (fun j hj => (hB0 j hj).1.2) (σ.2 108 (x2_8).toNatClampNeg).toNatClampNeg (by omega)
                    have bC3 := hcB.2.1 (σ.2 108 (x2_8).toNatClampNeg).toNatClampNeg (by omega)
                    refine go_aload_n (i := 0) (pc' := 158) dX12_clashes_157 rfl rfl rfl ?_
                    refine go_iload_n (i := 2) (pc' := 159) dX12_clashes_158 rfl rfl rfl ?_
                    refine go_aload_n (i := 0) (pc' := 160) dX12_clashes_159 rfl rfl rfl ?_
                    refine gf_13_high (pc' := 163) dX12_clashes_160 rfl fl_X12_86 ?_
                    refine go_aload_n (i := 0) (pc' := 164) dX12_clashes_163 rfl rfl rfl ?_
                    refine gf_13_is (pc' := 167) dX12_clashes_164 rfl fl_X12_47 ?_
                    refine go_iload_n (i := 2) (pc' := 168) dX12_clashes_167 rfl rfl rfl ?_
                    refine go_iald (pc' := 169) dX12_clashes_168 rfl (by decide) (by decide) rfl (vin_of (n := 12) (by omega) (by omega)) ?_
                    refine go_topq (y := (σ.2 108 (x2_8).toNatClampNeg)) (congrFun (w44.2.2 108 (by decide)) _) ?_
                    have g45 := ixa_108 ix (x2_8).toNatClampNeg (vinlt (vin_of (n := 12) (by omega) (by omega)))
                    refine go_iald (pc' := 170) dX12_clashes_169 rfl (by decide) (by decide) rfl (vin_of (n := 12) (by omega) (by omega)) ?_
                    refine go_rngA (ixa_121 w44.1) (vinlt (vin_of (n := 12) (by omega) (by omega))) (fun g46 => ?_)
                    refine go_cvv (pc' := 173) lk_X12_172 (c_X12_sink _ _ _ _ _ (by omega) (by omega) w44.1) rfl rfl (Nat.le_of_ble_eq_true rfl) (by decide) rfl rfl rfl ⟨Nat.le_of_ble_eq_true rfl, Nat.le_of_ble_eq_true rfl⟩ ⟨rfl, rfl⟩ dX12_clashes_170 rfl (fun σ47 h47 => ?_)
                    have w47 := WM_trans w44 (PS_WM w44.1 (by omega) (by omega) h47)
                    have hcC := CL_sink hcB h47 w47.1 (by omega) (by omega) (σ.2 108 (x2_8).toNatClampNeg).toNatClampNeg (by omega) (e := 0) (by omega) (by omega) (d2 := 24 * (x2_8).toInt + 18) (by omega)
                    have bD1 := hcC.2.2.1 31000 (fun j hj => (hB0 j hj).1.1) (x2_8).toNatClampNeg (by omega)
                    have bD2 := hcC.2.2.2 (-31000) (fun j hj => (hB0 j hj).1.2) (x2_8).toNatClampNeg (by omega)
                    have bD3 := hcC.2.1 (x2_8).toNatClampNeg (by omega)
                    refine go_aload_n (i := 0) (pc' := 174) dX12_clashes_173 rfl rfl rfl ?_
                    refine go_aload_n (i := 0) (pc' := 175) dX12_clashes_174 rfl rfl rfl ?_
                    refine gf_13_is (pc' := 178) dX12_clashes_175 rfl fl_X12_47 ?_
                    refine go_iload_n (i := 2) (pc' := 179) dX12_clashes_178 rfl rfl rfl ?_
                    refine go_iald (pc' := 180) dX12_clashes_179 rfl (by decide) (by decide) rfl (vin_of (n := 12) (by omega) (by omega)) ?_
                    refine go_topq (y := (σ.2 108 (x2_8).toNatClampNeg)) (congrFun (w47.2.2 108 (by decide)) _) ?_
                    have g48 := ixa_108 ix (x2_8).toNatClampNeg (vinlt (vin_of (n := 12) (by omega) (by omega)))
                    refine go_aload_n (i := 0) (pc' := 181) dX12_clashes_180 rfl rfl rfl ?_
                    refine gf_13_high (pc' := 184) dX12_clashes_181 rfl fl_X12_86 ?_
                    refine go_iload_n (i := 2) (pc' := 185) dX12_clashes_184 rfl rfl rfl ?_
                    refine go_iald (pc' := 186) dX12_clashes_185 rfl (by decide) (by decide) rfl (vin_of (n := 12) (by omega) (by omega)) ?_
                    refine go_rngA (ixa_121 w47.1) (vinlt (vin_of (n := 12) (by omega) (by omega))) (fun g49 => ?_)
                    refine go_cvv (pc' := 189) lk_X12_172 (c_X12_sink _ _ _ _ _ (by omega) (by omega) w47.1) rfl rfl (Nat.le_of_ble_eq_true rfl) (by decide) rfl rfl rfl ⟨Nat.le_of_ble_eq_true rfl, Nat.le_of_ble_eq_true rfl⟩ ⟨rfl, rfl⟩ dX12_clashes_186 rfl (fun σ50 h50 => ?_)
                    have w50 := WM_trans w47 (PS_WM w47.1 (by omega) (by omega) h50)
                    have hcD := CL_sink hcC h50 w50.1 (by omega) (by omega) (x2_8).toNatClampNeg (by omega) (e := 0) (by omega) (by omega) (d2 := 24 * (x2_8).toInt + 24) (by omega)
                    refine gz_iinc (c := 1) (pc' := 192) dX12_clashes_189 rfl rfl (by decide) (by decide) (by decide) (by omega) (fun v51 h51 e51 => ?_)
                    refine go_goto (tgt := 73) dX12_clashes_192 (by decide) ?_
                    exact go_lv (lv' := [(0, .ref (L.2.1 13)), (1, .int kk), (2, .int v51)]) rfl (ih8 _ (by omega) σ50 v51 w50 (by omega) (by first | exact CL_mono hcD (by omega) | exact CL_mono hc_8 (by omega)) (all_step h9_8 (by omega) (by omega) h9l) rfl)
                  refine go_goto (tgt := 189) dX12_clashes_122 (by decide) ?_
                  refine gz_iinc (c := 1) (pc' := 192) dX12_clashes_189 rfl rfl (by decide) (by decide) (by decide) (by omega) (fun v52 h52 e52 => ?_)
                  refine go_goto (tgt := 73) dX12_clashes_192 (by decide) ?_
                  exact go_lv (lv' := [(0, .ref (L.2.1 13)), (1, .int kk), (2, .int v52)]) rfl (ih8 _ (by omega) σ8 v52 w8 (by omega) (by first | exact CL_mono hcD (by omega) | exact CL_mono hc_8 (by omega)) (all_step h9_8 (by omega) (by omega) h9l) rfl)
                refine go_iconst (v := 1) (pc' := 112) dX12_clashes_111 rfl (by decide) ?_
                exact go_zret dX12_clashes_112 rfl rfl (⟨w8, Or.inr rfl⟩)
            exact go_lv (lv' := [(0, .ref (L.2.1 13)), (1, .int kk), (2, .int (0 : Int32))]) rfl (loop73_8 _ σ7 (0 : Int32) w7 (by omega) (CL_mono (CL_rfl (fun j hj => (hB0 j hj).2)) (by omega)) (fun j hj => by exfalso; omega) rfl)
        exact go_lv (lv' := [(0, .ref (L.2.1 13)), (1, .int kk), (2, .int x2_1)]) rfl (loop59_5 _ σ4 x2_1 w4 hB54 rfl)
      refine go_aload_n (i := 0) (pc' := 11) dX12_clashes_10 rfl rfl rfl ?_
      refine gf_13_low (pc' := 14) dX12_clashes_11 rfl fl_X12_83 ?_
      refine go_iload_n (i := 2) (pc' := 15) dX12_clashes_14 rfl rfl rfl ?_
      refine go_iconst (v := (-1)) (pc' := 16) dX12_clashes_15 rfl (by decide) ?_
      refine go_iast (pc' := 17) dX12_clashes_16 rfl (by decide) (by decide) rfl (vin_of (n := 12) (by omega) (by omega)) ?_
      refine go_gen (P := fun s => WM σ s ∧ s = setA σ1 120 (x2_1).toNatClampNeg (-1 : Int32)) ⟨⟨ixt_120 w1.1 (by omega) (by omega), Ag_setA w1.2 (by decide)⟩, rfl⟩ (fun σ53 z53 => ?_)
      obtain ⟨w53, g53⟩ := z53
      refine go_aload_n (i := 0) (pc' := 18) dX12_clashes_17 rfl rfl rfl ?_
      refine gf_13_high (pc' := 21) dX12_clashes_18 rfl fl_X12_86 ?_
      refine go_iload_n (i := 2) (pc' := 22) dX12_clashes_21 rfl rfl rfl ?_
      refine go_sipush (v := 10000) (pc' := 25) dX12_clashes_22 rfl (by decide) ?_
      refine go_iast (pc' := 26) dX12_clashes_25 rfl (by decide) (by decide) rfl (vin_of (n := 12) (by omega) (by omega)) ?_
      refine go_gen (P := fun s => WM σ s ∧ s = setA σ53 121 (x2_1).toNatClampNeg (10000 : Int32)) ⟨⟨ixt_121 w53.1 (by omega) (by omega), Ag_setA w53.2 (by decide)⟩, rfl⟩ (fun σ54 z54 => ?_)
      obtain ⟨w54, g54⟩ := z54
      refine go_aload_n (i := 0) (pc' := 27) dX12_clashes_26 rfl rfl rfl ?_
      refine go_iload_n (i := 2) (pc' := 28) dX12_clashes_27 rfl rfl rfl ?_
      refine go_aload_n (i := 0) (pc' := 29) dX12_clashes_28 rfl rfl rfl ?_
      refine gf_13_least (pc' := 32) dX12_clashes_29 rfl fl_X12_38 ?_
      refine go_iload_n (i := 2) (pc' := 33) dX12_clashes_32 rfl rfl rfl ?_
      refine go_iald (pc' := 34) dX12_clashes_33 rfl (by decide) (by decide) rfl (vin_of (n := 12) (by omega) (by omega)) ?_
      refine go_topq (y := (σ.2 105 (x2_1).toNatClampNeg)) (congrFun (w54.2.2 105 (by decide)) _) ?_
      have g55 := ixa_105 ix (x2_1).toNatClampNeg (vinlt (vin_of (n := 12) (by omega) (by omega)))
      refine go_cvv (pc' := 37) lk_X12_168 (c_X12_raise _ _ _ _ _ (by omega) (by omega) w54.1) rfl rfl (Nat.le_of_ble_eq_true rfl) (by decide) rfl rfl rfl ⟨Nat.le_of_ble_eq_true rfl, Nat.le_of_ble_eq_true rfl⟩ ⟨rfl, rfl⟩ dX12_clashes_34 rfl (fun σ56 h56 => ?_)
      have w56 := WM_trans w54 (PR_WM w54.1 (by omega) (by omega) h56)
      refine go_aload_n (i := 0) (pc' := 38) dX12_clashes_37 rfl rfl rfl ?_
      refine go_iload_n (i := 2) (pc' := 39) dX12_clashes_38 rfl rfl rfl ?_
      refine go_aload_n (i := 0) (pc' := 40) dX12_clashes_39 rfl rfl rfl ?_
      refine gf_13_most (pc' := 43) dX12_clashes_40 rfl fl_X12_41 ?_
      refine go_iload_n (i := 2) (pc' := 44) dX12_clashes_43 rfl rfl rfl ?_
      refine go_iald (pc' := 45) dX12_clashes_44 rfl (by decide) (by decide) rfl (vin_of (n := 12) (by omega) (by omega)) ?_
      refine go_topq (y := (σ.2 106 (x2_1).toNatClampNeg)) (congrFun (w56.2.2 106 (by decide)) _) ?_
      have g57 := ixa_106 ix (x2_1).toNatClampNeg (vinlt (vin_of (n := 12) (by omega) (by omega)))
      refine go_cvv (pc' := 48) lk_X12_172 (c_X12_sink _ _ _ _ _ (by omega) (by omega) w56.1) rfl rfl (Nat.le_of_ble_eq_true rfl) (by decide) rfl rfl rfl ⟨Nat.le_of_ble_eq_true rfl, Nat.le_of_ble_eq_true rfl⟩ ⟨rfl, rfl⟩ dX12_clashes_45 rfl (fun σ58 h58 => ?_)
      have w58 := WM_trans w56 (PS_WM w56.1 (by omega) (by omega) h58)
      refine gz_iinc (c := 1) (pc' := 51) dX12_clashes_48 rfl rfl (by decide) (by decide) (by decide) (by omega) (fun v59 h59 e59 => ?_)
      refine go_goto (tgt := 2) dX12_clashes_51 (by decide) ?_
      exact go_lv (lv' := [(0, .ref (L.2.1 13)), (1, .int kk), (2, .int v59)]) rfl (ih1 _ (by omega) σ58 v59 w58 (by omega) (CL_init hL_1 (by omega) (by assumption) (by assumption) (by assumption) (by assumption) (by omega) (by omega) (by omega)) rfl)
  exact go_lv (lv' := [(0, .ref (L.2.1 13)), (1, .int kk), (2, .int (0 : Int32))]) rfl (loop2_1 _ σ (0 : Int32) w0 (by omega) (fun j hj => by exfalso; omega) rfl)
set_option maxHeartbeats 4000000 in
set_option maxRecDepth 100000 in
theorem c_X12_clashAll (l : Launch) (L : WL) (σ : ST)  (ix : IV σ) (im : IM σ) : CtI l L yX12_clashAll cX12_clashAll 1 (some .boolean) rm_X12_clashAll [.ref (L.2.1 13)] σ (fun r σ2 => WM σ σ2 ∧ (r = 0 ∨ r = 1)) := by
  refine ctI_go (own := RX12) (by decide) rfl (Nat.le_of_ble_eq_true rfl) (fun F hF => ?_)
  subst hF
  have n1 : (1 : Int32).toInt = 1 := by decide
  have w0 : WM σ σ := WM_rfl ix
  refine go_aload_n (i := 0) (pc' := 1) dX12_clashAll_0 rfl rfl rfl ?_
  refine go_iconst (v := 1) (pc' := 2) dX12_clashAll_1 rfl (by decide) ?_
  refine go_aload_n (i := 0) (pc' := 3) dX12_clashAll_2 rfl rfl rfl ?_
  refine gf_13_bounds (pc' := 6) dX12_clashAll_3 rfl fl_X12_155 ?_
  have g1 := ixi_21 ix
  refine go_ishl (pc' := 7) dX12_clashAll_6 rfl ?_
  refine go_iconst (v := 1) (pc' := 8) dX12_clashAll_7 rfl (by decide) ?_
  refine go_isub (pc' := 9) dX12_clashAll_8 rfl ?_
  refine go_cvi (pc' := 12) lk_X12_181 (c_X12_clashes _ _ _ _ w0.1 (IM_q w0 im)) rfl rfl (Nat.le_of_ble_eq_true rfl) (by decide) rfl rfl rfl ⟨Nat.le_of_ble_eq_true rfl, Nat.le_of_ble_eq_true rfl⟩ ⟨rfl, rfl⟩ dX12_clashAll_9 rfl (fun r2 σ2 h2 => ?_)
  obtain ⟨u2, h2⟩ := h2
  have w2 := WM_trans w0 u2
  exact go_zret dX12_clashAll_12 rfl (nb01 h2) (⟨w2, h2⟩)
set_option maxHeartbeats 4000000 in
set_option maxRecDepth 100000 in
theorem c_X12_span (l : Launch) (L : WL) (σ : ST) (a b : Int32) (ix : IV σ) (im : IM σ) : CtI l L yX12_span cX12_span 3 (some .int) rm_X12_span [.ref (L.2.1 13), .int a, .int b] σ (fun _ σ2 => WM σ σ2) := by
  refine ctI_go (own := RX12) (by decide) rfl (Nat.le_of_ble_eq_true rfl) (fun F hF => ?_)
  subst hF
  have nm2 : (-2 : Int32).toInt = -2 := by decide
  have nm1 : (-1 : Int32).toInt = -1 := by decide
  have n2 : (2 : Int32).toInt = 2 := by decide
  have w0 : WM σ σ := WM_rfl ix
  have u19 := ixi_19 ix
  have u20 := ixi_20 ix
  have u21 := ixi_21 ix
  have u22 := ixi_22 ix
  refine go_aload_n (i := 0) (pc' := 1) dX12_span_0 rfl rfl rfl ?_
  refine go_iload_n (i := 1) (pc' := 2) dX12_span_1 rfl rfl rfl ?_
  refine go_cvi (pc' := 5) lk_X12_152 (c_X12_isLetter _ _ _ _) rfl rfl (Nat.le_of_ble_eq_true rfl) (by decide) rfl rfl rfl ⟨Nat.le_of_ble_eq_true rfl, Nat.le_of_ble_eq_true rfl⟩ ⟨rfl, rfl⟩ dX12_span_2 rfl (fun r1 σ1 h1 => ?_)
  obtain ⟨e1, h1⟩ := h1
  have e1 := e1.symm
  subst e1
  refine go_eqB (tgt := 16) (pc' := 8) h1 dX12_span_5 rfl (by decide) (fun c2 => ?_) (fun c2 => ?_)
  · refine go_bipush (v := (-2)) (pc' := 18) dX12_span_16 rfl (by decide) ?_
    exact go_iret dX12_span_18 rfl (w0)
  refine go_iload_n (i := 2) (pc' := 9) dX12_span_8 rfl rfl rfl ?_
  refine go_iconst (v := 2) (pc' := 10) dX12_span_9 rfl (by decide) ?_
  refine go_csi (pc' := 13) ls_X12_135 (c_X12_isIn _ _ _ _ _) rfl rfl (Nat.le_of_ble_eq_true rfl) ⟨Nat.le_of_ble_eq_true rfl, Nat.le_of_ble_eq_true rfl⟩ ⟨rfl, rfl⟩ dX12_span_10 rfl (fun r3 σ3 h3 => ?_)
  obtain ⟨e3, h3⟩ := h3
  have e3 := e3.symm
  subst e3
  refine go_neB (tgt := 19) (pc' := 16) h3 dX12_span_13 rfl (by decide) (fun c4 => ?_) (fun c4 => ?_)
  · refine go_aload_n (i := 0) (pc' := 20) dX12_span_19 rfl rfl rfl ?_
    refine go_cvi (pc' := 23) lk_X12_184 (c_X12_clashAll _ _ _ w0.1 (IM_q w0 im)) rfl rfl (Nat.le_of_ble_eq_true rfl) (by decide) rfl rfl rfl ⟨Nat.le_of_ble_eq_true rfl, Nat.le_of_ble_eq_true rfl⟩ ⟨rfl, rfl⟩ dX12_span_20 rfl (fun r5 σ5 h5 => ?_)
    obtain ⟨u5, h5⟩ := h5
    have w5 := WM_trans w0 u5
    refine gz_if_eq (tgt := 28) (pc' := 26) dX12_span_23 rfl (by decide) (fun c6 => ?_) (fun c6 => ?_)
    · refine go_iload_n (i := 2) (pc' := 29) dX12_span_28 rfl rfl rfl ?_
      refine gz_if_ne (tgt := 41) (pc' := 32) dX12_span_29 rfl (by decide) (fun c7 => ?_) (fun c7 => ?_)
      · refine go_aload_n (i := 0) (pc' := 42) dX12_span_41 rfl rfl rfl ?_
        refine gf_13_high (pc' := 45) dX12_span_42 rfl fl_X12_86 ?_
        refine go_iload_n (i := 1) (pc' := 46) dX12_span_45 rfl rfl rfl ?_
        refine go_iald (pc' := 47) dX12_span_46 rfl (by decide) (by decide) rfl (vin_of (n := 12) (by omega) (by omega)) ?_
        refine go_rngA (ixa_121 w5.1) (vinlt (vin_of (n := 12) (by omega) (by omega))) (fun g8 => ?_)
        exact go_iret dX12_span_47 rfl (w5)
      refine go_aload_n (i := 0) (pc' := 33) dX12_span_32 rfl rfl rfl ?_
      refine gf_13_low (pc' := 36) dX12_span_33 rfl fl_X12_83 ?_
      refine go_iload_n (i := 1) (pc' := 37) dX12_span_36 rfl rfl rfl ?_
      refine go_iald (pc' := 38) dX12_span_37 rfl (by decide) (by decide) rfl (vin_of (n := 12) (by omega) (by omega)) ?_
      refine go_rngA (ixa_120 w5.1) (vinlt (vin_of (n := 12) (by omega) (by omega))) (fun g9 => ?_)
      refine go_goto (tgt := 47) dX12_span_38 (by decide) ?_
      exact go_iret dX12_span_47 rfl (w5)
    refine go_iconst (v := (-1)) (pc' := 27) dX12_span_26 rfl (by decide) ?_
    exact go_iret dX12_span_27 rfl (w5)
  refine go_bipush (v := (-2)) (pc' := 18) dX12_span_16 rfl (by decide) ?_
  exact go_iret dX12_span_18 rfl (w0)
set_option maxHeartbeats 4000000 in
set_option maxRecDepth 100000 in
theorem c_X12_clash (l : Launch) (L : WL) (σ : ST)  (ix : IV σ) (im : IM σ) : CtI l L yX12_clash cX12_clash 3 (some .int) rm_X12_clash [.ref (L.2.1 13)] σ (fun _ σ2 => WM σ σ2) := by
  refine ctI_go (own := RX12) (by decide) rfl (Nat.le_of_ble_eq_true rfl) (fun F hF => ?_)
  subst hF
  have nm1 : (-1 : Int32).toInt = -1 := by decide
  have n1 : (1 : Int32).toInt = 1 := by decide
  have w0 : WM σ σ := WM_rfl ix
  have u19 := ixi_19 ix
  have u20 := ixi_20 ix
  have u21 := ixi_21 ix
  have u22 := ixi_22 ix
  refine go_aload_n (i := 0) (pc' := 1) dX12_clash_0 rfl rfl rfl ?_
  refine go_cvi (pc' := 4) lk_X12_184 (c_X12_clashAll _ _ _ w0.1 (IM_q w0 im)) rfl rfl (Nat.le_of_ble_eq_true rfl) (by decide) rfl rfl rfl ⟨Nat.le_of_ble_eq_true rfl, Nat.le_of_ble_eq_true rfl⟩ ⟨rfl, rfl⟩ dX12_clash_1 rfl (fun r1 σ1 h1 => ?_)
  obtain ⟨u1, h1⟩ := h1
  have w1 := WM_trans w0 u1
  refine gz_if_ne (tgt := 9) (pc' := 7) dX12_clash_4 rfl (by decide) (fun c2 => ?_) (fun c2 => ?_)
  · refine go_iconst (v := 1) (pc' := 10) dX12_clash_9 rfl (by decide) ?_
    refine go_aload_n (i := 0) (pc' := 11) dX12_clash_10 rfl rfl rfl ?_
    refine gf_13_bounds (pc' := 14) dX12_clash_11 rfl fl_X12_155 ?_
    refine go_topq (y := σ.1 21) (w1.2.1 21 (by decide)) ?_
    have g3 := ixi_21 ix
    refine go_ishl (pc' := 15) dX12_clash_14 rfl ?_
    refine go_iconst (v := 1) (pc' := 16) dX12_clash_15 rfl (by decide) ?_
    refine go_isub (pc' := 17) dX12_clash_16 rfl ?_
    refine go_topz (fun y4 h4 e4 => ?_)
    refine go_istore_n (i := 1) (pc' := 18) dX12_clash_17 rfl rfl (by decide) ?_
    refine go_aload_n (i := 0) (pc' := 19) dX12_clash_18 rfl rfl rfl ?_
    refine gf_13_bounds (pc' := 22) dX12_clash_19 rfl fl_X12_155 ?_
    refine go_topq (y := σ.1 21) (w1.2.1 21 (by decide)) ?_
    have g5 := ixi_21 ix
    refine go_iconst (v := 1) (pc' := 23) dX12_clash_22 rfl (by decide) ?_
    refine gz_isub (pc' := 24) dX12_clash_23 rfl (by omega) (fun v6 h6 e6 => ?_)
    refine go_istore_n (i := 2) (pc' := 25) dX12_clash_24 rfl rfl (by decide) ?_
    have loop25_7 : ∀ (dd7 : Nat) (σ7 : ST) (x1_7 : Int32) (x2_7 : Int32), WM σ σ7 → (-1 ≤ (x2_7).toInt ∧ (x2_7).toInt ≤ 19) → ((x2_7).toInt + 1).toNat = dd7 → Go F L RX12 cX12_clash 3 rm_X12_clash (some .int) (RI F L (fun _ σ2 => WM σ σ2)) σ7 25 [(0, .ref (L.2.1 13)), (1, .int x1_7), (2, .int x2_7)] [] := by
      intro dd7
      induction dd7 using Nat.strongRecOn with
      | _ dd7 ih7 =>
        intro σ7 x1_7 x2_7 w7 h_7 hm_7
        refine go_iload_n (i := 2) (pc' := 26) dX12_clash_25 rfl rfl rfl ?_
        refine gz_if_lt (tgt := 57) (pc' := 29) dX12_clash_26 rfl (by decide) (fun c8 => ?_) (fun c8 => ?_)
        · refine go_iload_n (i := 1) (pc' := 58) dX12_clash_57 rfl rfl rfl ?_
          exact go_iret dX12_clash_58 rfl (w7)
        refine go_aload_n (i := 0) (pc' := 30) dX12_clash_29 rfl rfl rfl ?_
        refine go_iload_n (i := 1) (pc' := 31) dX12_clash_30 rfl rfl rfl ?_
        refine go_iconst (v := 1) (pc' := 32) dX12_clash_31 rfl (by decide) ?_
        refine go_iload_n (i := 2) (pc' := 33) dX12_clash_32 rfl rfl rfl ?_
        refine go_ishl (pc' := 34) dX12_clash_33 rfl ?_
        refine go_iconst (v := (-1)) (pc' := 35) dX12_clash_34 rfl (by decide) ?_
        refine go_ixor (pc' := 36) dX12_clash_35 rfl ?_
        refine go_iand (pc' := 37) dX12_clash_36 rfl ?_
        refine go_cvi (pc' := 40) lk_X12_181 (c_X12_clashes _ _ _ _ w7.1 (IM_q w7 im)) rfl rfl (Nat.le_of_ble_eq_true rfl) (by decide) rfl rfl rfl ⟨Nat.le_of_ble_eq_true rfl, Nat.le_of_ble_eq_true rfl⟩ ⟨rfl, rfl⟩ dX12_clash_37 rfl (fun r9 σ9 h9 => ?_)
        obtain ⟨u9, h9⟩ := h9
        have w9 := WM_trans w7 u9
        refine gz_if_eq (tgt := 51) (pc' := 43) dX12_clash_40 rfl (by decide) (fun c10 => ?_) (fun c10 => ?_)
        · refine gz_iinc (c := (-1)) (pc' := 54) dX12_clash_51 rfl rfl (by decide) (by decide) (by decide) (by omega) (fun v11 h11 e11 => ?_)
          refine go_goto (tgt := 25) dX12_clash_54 (by decide) ?_
          exact go_lv (lv' := [(0, .ref (L.2.1 13)), (1, .int x1_7), (2, .int v11)]) rfl (ih7 _ (by omega) σ9 x1_7 v11 w9 (by omega) rfl)
        refine go_iload_n (i := 1) (pc' := 44) dX12_clash_43 rfl rfl rfl ?_
        refine go_iconst (v := 1) (pc' := 45) dX12_clash_44 rfl (by decide) ?_
        refine go_iload_n (i := 2) (pc' := 46) dX12_clash_45 rfl rfl rfl ?_
        refine go_ishl (pc' := 47) dX12_clash_46 rfl ?_
        refine go_iconst (v := (-1)) (pc' := 48) dX12_clash_47 rfl (by decide) ?_
        refine go_ixor (pc' := 49) dX12_clash_48 rfl ?_
        refine go_iand (pc' := 50) dX12_clash_49 rfl ?_
        refine go_topz (fun y12 h12 e12 => ?_)
        refine go_istore_n (i := 1) (pc' := 51) dX12_clash_50 rfl rfl (by decide) ?_
        refine gz_iinc (c := (-1)) (pc' := 54) dX12_clash_51 rfl rfl (by decide) (by decide) (by decide) (by omega) (fun v13 h13 e13 => ?_)
        refine go_goto (tgt := 25) dX12_clash_54 (by decide) ?_
        exact go_lv (lv' := [(0, .ref (L.2.1 13)), (1, .int y12), (2, .int v13)]) rfl (ih7 _ (by omega) σ9 y12 v13 w9 (by omega) rfl)
    exact go_lv (lv' := [(0, .ref (L.2.1 13)), (1, .int y4), (2, .int v6)]) rfl (loop25_7 _ σ1 y4 v6 w1 (by omega) rfl)
  refine go_iconst (v := (-1)) (pc' := 8) dX12_clash_7 rfl (by decide) ?_
  exact go_iret dX12_clash_8 rfl (w1)
set_option maxHeartbeats 4000000 in
set_option maxRecDepth 100000 in
theorem c_X12_leads (l : Launch) (L : WL) (σ : ST) (a b d : Int32) (ha : 0 ≤ a.toInt ∧ a.toInt < 12) (hb : 0 ≤ b.toInt ∧ b.toInt < 12) (ix : IV σ) : CtV l L yX12_leads cX12_leads 4 none rm_X12_leads [.ref (L.2.1 13), .int a, .int b, .int d] σ (fun σ2 => WM σ σ2) := by
  refine ctV_go (own := RX12) (by decide) rfl (Nat.le_of_ble_eq_true rfl) (fun F hF => ?_)
  subst hF
  have n12 : (12 : Int32).toInt = 12 := by decide
  have w0 : WM σ σ := WM_rfl ix
  refine go_aload_n (i := 0) (pc' := 1) dX12_leads_0 rfl rfl rfl ?_
  refine gf_13_way (pc' := 4) dX12_leads_1 rfl fl_X12_89 ?_
  refine go_bipush (v := 12) (pc' := 6) dX12_leads_4 rfl (by decide) ?_
  refine go_iload_n (i := 1) (pc' := 7) dX12_leads_6 rfl rfl rfl ?_
  refine gz_imulc (n := 12) (pc' := 8) dX12_leads_7 rfl (by decide) (by omega) (fun v1 h1 e1 => ?_)
  refine go_iload_n (i := 2) (pc' := 9) dX12_leads_8 rfl rfl rfl ?_
  refine gz_iadd (pc' := 10) dX12_leads_9 rfl (by omega) (fun v2 h2 e2 => ?_)
  refine go_aload_n (i := 0) (pc' := 11) dX12_leads_10 rfl rfl rfl ?_
  refine gf_13_way (pc' := 14) dX12_leads_11 rfl fl_X12_89 ?_
  refine go_bipush (v := 12) (pc' := 16) dX12_leads_14 rfl (by decide) ?_
  refine go_iload_n (i := 1) (pc' := 17) dX12_leads_16 rfl rfl rfl ?_
  refine gz_imulc (n := 12) (pc' := 18) dX12_leads_17 rfl (by decide) (by omega) (fun v3 h3 e3 => ?_)
  refine go_iload_n (i := 2) (pc' := 19) dX12_leads_18 rfl rfl rfl ?_
  refine gz_iadd (pc' := 20) dX12_leads_19 rfl (by omega) (fun v4 h4 e4 => ?_)
  refine go_iald (pc' := 21) dX12_leads_20 rfl (by decide) (by decide) rfl (vin_of (n := 144) (by omega) (by omega)) ?_
  refine go_iload_n (i := 3) (pc' := 22) dX12_leads_21 rfl rfl rfl ?_
  refine gz_max (pc' := 25) dX12_leads_22 rfl ml_X12_175 (Nat.le_of_ble_eq_true rfl) (Nat.le_of_ble_eq_true rfl) (fun v5 h5 e5 => ?_)
  refine go_iast (pc' := 26) dX12_leads_25 rfl (by decide) (by decide) rfl (vin_of (n := 144) (by omega) (by omega)) ?_
  refine go_gen (P := WM σ) ⟨ixt_n w0.1 (by decide), Ag_setA w0.2 (by decide)⟩ (fun σ6 w6 => ?_)
  exact go_vret dX12_leads_26 rfl (w6)
set_option maxHeartbeats 4000000 in
set_option maxRecDepth 100000 in
theorem c_X12_findWays (l : Launch) (L : WL) (σ : ST)  (ix : IV σ) : CtV l L yX12_findWays cX12_findWays 4 none rm_X12_findWays [.ref (L.2.1 13)] σ (fun σ2 => WM σ σ2) := by
  refine ctV_go (own := RX12) (by decide) rfl (Nat.le_of_ble_eq_true rfl) (fun F hF => ?_)
  subst hF
  have nm1000000 : (-1000000 : Int32).toInt = -1000000 := by decide
  have n0 : (0 : Int32).toInt = 0 := by decide
  have n12 : (12 : Int32).toInt = 12 := by decide
  have n144 : (144 : Int32).toInt = 144 := by decide
  have w0 : WM σ σ := WM_rfl ix
  have u19 := ixi_19 ix
  have u20 := ixi_20 ix
  have u21 := ixi_21 ix
  have u22 := ixi_22 ix
  refine go_iconst (v := 0) (pc' := 1) dX12_findWays_0 rfl (by decide) ?_
  refine go_istore_n (i := 1) (pc' := 2) dX12_findWays_1 rfl rfl (by decide) ?_
  have loop2_1 : ∀ (dd1 : Nat) (σ1 : ST) (x1_1 : Int32), WM σ σ1 → (0 ≤ (x1_1).toInt ∧ (x1_1).toInt ≤ 144) → (144 - (x1_1).toInt).toNat = dd1 → Go F L RX12 cX12_findWays 4 rm_X12_findWays none (RV F L (fun σ2 => WM σ σ2)) σ1 2 [(0, .ref (L.2.1 13)), (1, .int x1_1)] [] := by
    intro dd1
    induction dd1 using Nat.strongRecOn with
    | _ dd1 ih1 =>
      intro σ1 x1_1 w1 h_1 hm_1
      refine go_iload_n (i := 1) (pc' := 3) dX12_findWays_2 rfl rfl rfl ?_
      refine go_sipush (v := 144) (pc' := 6) dX12_findWays_3 rfl (by decide) ?_
      refine gz_icmp_ge (tgt := 23) (pc' := 9) dX12_findWays_6 rfl (by decide) (fun c2 => ?_) (fun c2 => ?_)
      · refine go_iconst (v := 0) (pc' := 24) dX12_findWays_23 rfl (by decide) ?_
        refine go_istore_n (i := 1) (pc' := 25) dX12_findWays_24 rfl rfl (by decide) ?_
        have loop25_3 : ∀ (dd3 : Nat) (σ3 : ST) (x1_3 : Int32), WM σ σ3 → (0 ≤ (x1_3).toInt ∧ (x1_3).toInt ≤ 12) → (12 - (x1_3).toInt).toNat = dd3 → Go F L RX12 cX12_findWays 4 rm_X12_findWays none (RV F L (fun σ2 => WM σ σ2)) σ3 25 [(0, .ref (L.2.1 13)), (1, .int x1_3)] [] := by
          intro dd3
          induction dd3 using Nat.strongRecOn with
          | _ dd3 ih3 =>
            intro σ3 x1_3 w3 h_3 hm_3
            refine go_iload_n (i := 1) (pc' := 26) dX12_findWays_25 rfl rfl rfl ?_
            refine go_aload_n (i := 0) (pc' := 27) dX12_findWays_26 rfl rfl rfl ?_
            refine gf_13_letters (pc' := 30) dX12_findWays_27 rfl fl_X12_142 ?_
            refine go_topq (y := σ.1 20) (w3.2.1 20 (by decide)) ?_
            have g4 := ixi_20 ix
            refine gz_icmp_ge (tgt := 75) (pc' := 33) dX12_findWays_30 rfl (by decide) (fun c5 => ?_) (fun c5 => ?_)
            · refine go_iconst (v := 0) (pc' := 76) dX12_findWays_75 rfl (by decide) ?_
              refine go_istore_n (i := 1) (pc' := 77) dX12_findWays_76 rfl rfl (by decide) ?_
              have loop77_6 : ∀ (dd6 : Nat) (σ6 : ST) (x1_6 : Int32), WM σ σ6 → (0 ≤ (x1_6).toInt ∧ (x1_6).toInt ≤ 20) → (20 - (x1_6).toInt).toNat = dd6 → Go F L RX12 cX12_findWays 4 rm_X12_findWays none (RV F L (fun σ2 => WM σ σ2)) σ6 77 [(0, .ref (L.2.1 13)), (1, .int x1_6)] [] := by
                intro dd6
                induction dd6 using Nat.strongRecOn with
                | _ dd6 ih6 =>
                  intro σ6 x1_6 w6 h_6 hm_6
                  refine go_iload_n (i := 1) (pc' := 78) dX12_findWays_77 rfl rfl rfl ?_
                  refine go_aload_n (i := 0) (pc' := 79) dX12_findWays_78 rfl rfl rfl ?_
                  refine gf_13_bounds (pc' := 82) dX12_findWays_79 rfl fl_X12_155 ?_
                  refine go_topq (y := σ.1 21) (w6.2.1 21 (by decide)) ?_
                  have g7 := ixi_21 ix
                  refine gz_icmp_ge (tgt := 113) (pc' := 85) dX12_findWays_82 rfl (by decide) (fun c8 => ?_) (fun c8 => ?_)
                  · refine go_iconst (v := 0) (pc' := 114) dX12_findWays_113 rfl (by decide) ?_
                    refine go_istore_n (i := 1) (pc' := 115) dX12_findWays_114 rfl rfl (by decide) ?_
                    have loop115_9 : ∀ (dd9 : Nat) (σ9 : ST) (x1_9 : Int32), WM σ σ9 → (0 ≤ (x1_9).toInt ∧ (x1_9).toInt ≤ 12) → (12 - (x1_9).toInt).toNat = dd9 → Go F L RX12 cX12_findWays 4 rm_X12_findWays none (RV F L (fun σ2 => WM σ σ2)) σ9 115 [(0, .ref (L.2.1 13)), (1, .int x1_9)] [] := by
                      intro dd9
                      induction dd9 using Nat.strongRecOn with
                      | _ dd9 ih9 =>
                        intro σ9 x1_9 w9 h_9 hm_9
                        refine go_iload_n (i := 1) (pc' := 116) dX12_findWays_115 rfl rfl rfl ?_
                        refine go_aload_n (i := 0) (pc' := 117) dX12_findWays_116 rfl rfl rfl ?_
                        refine gf_13_letters (pc' := 120) dX12_findWays_117 rfl fl_X12_142 ?_
                        refine go_topq (y := σ.1 20) (w9.2.1 20 (by decide)) ?_
                        have g10 := ixi_20 ix
                        refine gz_icmp_ge (tgt := 222) (pc' := 123) dX12_findWays_120 rfl (by decide) (fun c11 => ?_) (fun c11 => ?_)
                        · exact go_vret dX12_findWays_222 rfl (w9)
                        refine go_iconst (v := 0) (pc' := 124) dX12_findWays_123 rfl (by decide) ?_
                        refine go_istore_n (i := 2) (pc' := 125) dX12_findWays_124 rfl rfl (by decide) ?_
                        have loop125_12 : ∀ (dd12 : Nat) (σ12 : ST) (x2_12 : Int32), WM σ σ12 → (0 ≤ (x2_12).toInt ∧ (x2_12).toInt ≤ 12) → (12 - (x2_12).toInt).toNat = dd12 → Go F L RX12 cX12_findWays 4 rm_X12_findWays none (RV F L (fun σ2 => WM σ σ2)) σ12 125 [(0, .ref (L.2.1 13)), (1, .int x1_9), (2, .int x2_12)] [] := by
                          intro dd12
                          induction dd12 using Nat.strongRecOn with
                          | _ dd12 ih12 =>
                            intro σ12 x2_12 w12 h_12 hm_12
                            refine go_iload_n (i := 2) (pc' := 126) dX12_findWays_125 rfl rfl rfl ?_
                            refine go_aload_n (i := 0) (pc' := 127) dX12_findWays_126 rfl rfl rfl ?_
                            refine gf_13_letters (pc' := 130) dX12_findWays_127 rfl fl_X12_142 ?_
                            refine go_topq (y := σ.1 20) (w12.2.1 20 (by decide)) ?_
                            have g13 := ixi_20 ix
                            refine gz_icmp_ge (tgt := 216) (pc' := 133) dX12_findWays_130 rfl (by decide) (fun c14 => ?_) (fun c14 => ?_)
                            · refine gz_iinc (c := 1) (pc' := 219) dX12_findWays_216 rfl rfl (by decide) (by decide) (by decide) (by omega) (fun v15 h15 e15 => ?_)
                              refine go_goto (tgt := 115) dX12_findWays_219 (by decide) ?_
                              exact go_lv (lv' := [(0, .ref (L.2.1 13)), (1, .int v15)]) rfl (ih9 _ (by omega) σ12 v15 w12 (by omega) rfl)
                            refine go_iconst (v := 0) (pc' := 134) dX12_findWays_133 rfl (by decide) ?_
                            refine go_istore_n (i := 3) (pc' := 135) dX12_findWays_134 rfl rfl (by decide) ?_
                            have loop135_16 : ∀ (dd16 : Nat) (σ16 : ST) (x3_16 : Int32), WM σ σ16 → (0 ≤ (x3_16).toInt ∧ (x3_16).toInt ≤ 12) → (12 - (x3_16).toInt).toNat = dd16 → Go F L RX12 cX12_findWays 4 rm_X12_findWays none (RV F L (fun σ2 => WM σ σ2)) σ16 135 [(0, .ref (L.2.1 13)), (1, .int x1_9), (2, .int x2_12), (3, .int x3_16)] [] := by
                              intro dd16
                              induction dd16 using Nat.strongRecOn with
                              | _ dd16 ih16 =>
                                intro σ16 x3_16 w16 h_16 hm_16
                                refine go_iload_n (i := 3) (pc' := 136) dX12_findWays_135 rfl rfl rfl ?_
                                refine go_aload_n (i := 0) (pc' := 137) dX12_findWays_136 rfl rfl rfl ?_
                                refine gf_13_letters (pc' := 140) dX12_findWays_137 rfl fl_X12_142 ?_
                                refine go_topq (y := σ.1 20) (w16.2.1 20 (by decide)) ?_
                                have g17 := ixi_20 ix
                                refine gz_icmp_ge (tgt := 210) (pc' := 143) dX12_findWays_140 rfl (by decide) (fun c18 => ?_) (fun c18 => ?_)
                                · refine gz_iinc (c := 1) (pc' := 213) dX12_findWays_210 rfl rfl (by decide) (by decide) (by decide) (by omega) (fun v19 h19 e19 => ?_)
                                  refine go_goto (tgt := 125) dX12_findWays_213 (by decide) ?_
                                  exact go_lv (lv' := [(0, .ref (L.2.1 13)), (1, .int x1_9), (2, .int v19)]) rfl (ih12 _ (by omega) σ16 v19 w16 (by omega) rfl)
                                refine go_aload_n (i := 0) (pc' := 144) dX12_findWays_143 rfl rfl rfl ?_
                                refine gf_13_way (pc' := 147) dX12_findWays_144 rfl fl_X12_89 ?_
                                refine go_bipush (v := 12) (pc' := 149) dX12_findWays_147 rfl (by decide) ?_
                                refine go_iload_n (i := 2) (pc' := 150) dX12_findWays_149 rfl rfl rfl ?_
                                refine gz_imulc (n := 12) (pc' := 151) dX12_findWays_150 rfl (by decide) (by omega) (fun v20 h20 e20 => ?_)
                                refine go_iload_n (i := 1) (pc' := 152) dX12_findWays_151 rfl rfl rfl ?_
                                refine gz_iadd (pc' := 153) dX12_findWays_152 rfl (by omega) (fun v21 h21 e21 => ?_)
                                refine go_iald (pc' := 154) dX12_findWays_153 rfl (by decide) (by decide) rfl (vin_of (n := 144) (by omega) (by omega)) ?_
                                refine go_ldc (pc' := 156) dX12_findWays_154 rfl cst_X12_188 ?_
                                refine gz_icmp_le (tgt := 204) (pc' := 159) dX12_findWays_156 rfl (by decide) (fun c22 => ?_) (fun c22 => ?_)
                                · refine gz_iinc (c := 1) (pc' := 207) dX12_findWays_204 rfl rfl (by decide) (by decide) (by decide) (by omega) (fun v23 h23 e23 => ?_)
                                  refine go_goto (tgt := 135) dX12_findWays_207 (by decide) ?_
                                  exact go_lv (lv' := [(0, .ref (L.2.1 13)), (1, .int x1_9), (2, .int x2_12), (3, .int v23)]) rfl (ih16 _ (by omega) σ16 v23 w16 (by omega) rfl)
                                refine go_aload_n (i := 0) (pc' := 160) dX12_findWays_159 rfl rfl rfl ?_
                                refine gf_13_way (pc' := 163) dX12_findWays_160 rfl fl_X12_89 ?_
                                refine go_bipush (v := 12) (pc' := 165) dX12_findWays_163 rfl (by decide) ?_
                                refine go_iload_n (i := 1) (pc' := 166) dX12_findWays_165 rfl rfl rfl ?_
                                refine gz_imulc (n := 12) (pc' := 167) dX12_findWays_166 rfl (by decide) (by omega) (fun v24 h24 e24 => ?_)
                                refine go_iload_n (i := 3) (pc' := 168) dX12_findWays_167 rfl rfl rfl ?_
                                refine gz_iadd (pc' := 169) dX12_findWays_168 rfl (by omega) (fun v25 h25 e25 => ?_)
                                refine go_iald (pc' := 170) dX12_findWays_169 rfl (by decide) (by decide) rfl (vin_of (n := 144) (by omega) (by omega)) ?_
                                refine go_ldc (pc' := 172) dX12_findWays_170 rfl cst_X12_188 ?_
                                refine gz_icmp_le (tgt := 204) (pc' := 175) dX12_findWays_172 rfl (by decide) (fun c26 => ?_) (fun c26 => ?_)
                                · refine gz_iinc (c := 1) (pc' := 207) dX12_findWays_204 rfl rfl (by decide) (by decide) (by decide) (by omega) (fun v27 h27 e27 => ?_)
                                  refine go_goto (tgt := 135) dX12_findWays_207 (by decide) ?_
                                  exact go_lv (lv' := [(0, .ref (L.2.1 13)), (1, .int x1_9), (2, .int x2_12), (3, .int v27)]) rfl (ih16 _ (by omega) σ16 v27 w16 (by omega) rfl)
                                refine go_aload_n (i := 0) (pc' := 176) dX12_findWays_175 rfl rfl rfl ?_
                                refine go_iload_n (i := 2) (pc' := 177) dX12_findWays_176 rfl rfl rfl ?_
                                refine go_iload_n (i := 3) (pc' := 178) dX12_findWays_177 rfl rfl rfl ?_
                                refine go_aload_n (i := 0) (pc' := 179) dX12_findWays_178 rfl rfl rfl ?_
                                refine gf_13_way (pc' := 182) dX12_findWays_179 rfl fl_X12_89 ?_
                                refine go_bipush (v := 12) (pc' := 184) dX12_findWays_182 rfl (by decide) ?_
                                refine go_iload_n (i := 2) (pc' := 185) dX12_findWays_184 rfl rfl rfl ?_
                                refine gz_imulc (n := 12) (pc' := 186) dX12_findWays_185 rfl (by decide) (by omega) (fun v28 h28 e28 => ?_)
                                refine go_iload_n (i := 1) (pc' := 187) dX12_findWays_186 rfl rfl rfl ?_
                                refine gz_iadd (pc' := 188) dX12_findWays_187 rfl (by omega) (fun v29 h29 e29 => ?_)
                                refine go_iald (pc' := 189) dX12_findWays_188 rfl (by decide) (by decide) rfl (vin_of (n := 144) (by omega) (by omega)) ?_
                                refine go_aload_n (i := 0) (pc' := 190) dX12_findWays_189 rfl rfl rfl ?_
                                refine gf_13_way (pc' := 193) dX12_findWays_190 rfl fl_X12_89 ?_
                                refine go_bipush (v := 12) (pc' := 195) dX12_findWays_193 rfl (by decide) ?_
                                refine go_iload_n (i := 1) (pc' := 196) dX12_findWays_195 rfl rfl rfl ?_
                                refine gz_imulc (n := 12) (pc' := 197) dX12_findWays_196 rfl (by decide) (by omega) (fun v30 h30 e30 => ?_)
                                refine go_iload_n (i := 3) (pc' := 198) dX12_findWays_197 rfl rfl rfl ?_
                                refine gz_iadd (pc' := 199) dX12_findWays_198 rfl (by omega) (fun v31 h31 e31 => ?_)
                                refine go_iald (pc' := 200) dX12_findWays_199 rfl (by decide) (by decide) rfl (vin_of (n := 144) (by omega) (by omega)) ?_
                                refine go_iadd (pc' := 201) dX12_findWays_200 rfl ?_
                                refine go_cvv (pc' := 204) lk_X12_189 (c_X12_leads _ _ _ _ _ _ (by omega) (by omega) w16.1) rfl rfl (Nat.le_of_ble_eq_true rfl) (by decide) rfl rfl rfl ⟨Nat.le_of_ble_eq_true rfl, Nat.le_of_ble_eq_true rfl⟩ ⟨rfl, rfl⟩ dX12_findWays_201 rfl (fun σ32 h32 => ?_)
                                have w32 := WM_trans w16 h32
                                refine gz_iinc (c := 1) (pc' := 207) dX12_findWays_204 rfl rfl (by decide) (by decide) (by decide) (by omega) (fun v33 h33 e33 => ?_)
                                refine go_goto (tgt := 135) dX12_findWays_207 (by decide) ?_
                                exact go_lv (lv' := [(0, .ref (L.2.1 13)), (1, .int x1_9), (2, .int x2_12), (3, .int v33)]) rfl (ih16 _ (by omega) σ32 v33 w32 (by omega) rfl)
                            exact go_lv (lv' := [(0, .ref (L.2.1 13)), (1, .int x1_9), (2, .int x2_12), (3, .int (0 : Int32))]) rfl (loop135_16 _ σ12 (0 : Int32) w12 (by omega) rfl)
                        exact go_lv (lv' := [(0, .ref (L.2.1 13)), (1, .int x1_9), (2, .int (0 : Int32))]) rfl (loop125_12 _ σ9 (0 : Int32) w9 (by omega) rfl)
                    exact go_lv (lv' := [(0, .ref (L.2.1 13)), (1, .int (0 : Int32))]) rfl (loop115_9 _ σ6 (0 : Int32) w6 (by omega) rfl)
                  refine go_aload_n (i := 0) (pc' := 86) dX12_findWays_85 rfl rfl rfl ?_
                  refine go_aload_n (i := 0) (pc' := 87) dX12_findWays_86 rfl rfl rfl ?_
                  refine gf_13_boundA (pc' := 90) dX12_findWays_87 rfl fl_X12_56 ?_
                  refine go_iload_n (i := 1) (pc' := 91) dX12_findWays_90 rfl rfl rfl ?_
                  refine go_iald (pc' := 92) dX12_findWays_91 rfl (by decide) (by decide) rfl (vin_of (n := 20) (by omega) (by omega)) ?_
                  refine go_topq (y := (σ.2 111 (x1_6).toNatClampNeg)) (congrFun (w6.2.2 111 (by decide)) _) ?_
                  have g34 := ixa_111 ix (x1_6).toNatClampNeg (vinlt (vin_of (n := 20) (by omega) (by omega)))
                  refine go_aload_n (i := 0) (pc' := 93) dX12_findWays_92 rfl rfl rfl ?_
                  refine gf_13_boundB (pc' := 96) dX12_findWays_93 rfl fl_X12_59 ?_
                  refine go_iload_n (i := 1) (pc' := 97) dX12_findWays_96 rfl rfl rfl ?_
                  refine go_iald (pc' := 98) dX12_findWays_97 rfl (by decide) (by decide) rfl (vin_of (n := 20) (by omega) (by omega)) ?_
                  refine go_topq (y := (σ.2 112 (x1_6).toNatClampNeg)) (congrFun (w6.2.2 112 (by decide)) _) ?_
                  have g35 := ixa_112 ix (x1_6).toNatClampNeg (vinlt (vin_of (n := 20) (by omega) (by omega)))
                  refine go_aload_n (i := 0) (pc' := 99) dX12_findWays_98 rfl rfl rfl ?_
                  refine gf_13_boundBy (pc' := 102) dX12_findWays_99 rfl fl_X12_62 ?_
                  refine go_iload_n (i := 1) (pc' := 103) dX12_findWays_102 rfl rfl rfl ?_
                  refine go_iald (pc' := 104) dX12_findWays_103 rfl (by decide) (by decide) rfl (vin_of (n := 20) (by omega) (by omega)) ?_
                  refine go_topq (y := (σ.2 113 (x1_6).toNatClampNeg)) (congrFun (w6.2.2 113 (by decide)) _) ?_
                  have g36 := ixa_113 ix (x1_6).toNatClampNeg (vinlt (vin_of (n := 20) (by omega) (by omega)))
                  refine go_cvv (pc' := 107) lk_X12_189 (c_X12_leads _ _ _ _ _ _ (by omega) (by omega) w6.1) rfl rfl (Nat.le_of_ble_eq_true rfl) (by decide) rfl rfl rfl ⟨Nat.le_of_ble_eq_true rfl, Nat.le_of_ble_eq_true rfl⟩ ⟨rfl, rfl⟩ dX12_findWays_104 rfl (fun σ37 h37 => ?_)
                  have w37 := WM_trans w6 h37
                  refine gz_iinc (c := 1) (pc' := 110) dX12_findWays_107 rfl rfl (by decide) (by decide) (by decide) (by omega) (fun v38 h38 e38 => ?_)
                  refine go_goto (tgt := 77) dX12_findWays_110 (by decide) ?_
                  exact go_lv (lv' := [(0, .ref (L.2.1 13)), (1, .int v38)]) rfl (ih6 _ (by omega) σ37 v38 w37 (by omega) rfl)
              exact go_lv (lv' := [(0, .ref (L.2.1 13)), (1, .int (0 : Int32))]) rfl (loop77_6 _ σ3 (0 : Int32) w3 (by omega) rfl)
            refine go_aload_n (i := 0) (pc' := 34) dX12_findWays_33 rfl rfl rfl ?_
            refine gf_13_is (pc' := 37) dX12_findWays_34 rfl fl_X12_47 ?_
            refine go_iload_n (i := 1) (pc' := 38) dX12_findWays_37 rfl rfl rfl ?_
            refine go_iald (pc' := 39) dX12_findWays_38 rfl (by decide) (by decide) rfl (vin_of (n := 12) (by omega) (by omega)) ?_
            refine go_topq (y := (σ.2 108 (x1_3).toNatClampNeg)) (congrFun (w3.2.2 108 (by decide)) _) ?_
            have g39 := ixa_108 ix (x1_3).toNatClampNeg (vinlt (vin_of (n := 12) (by omega) (by omega)))
            refine gz_if_ge (tgt := 45) (pc' := 42) dX12_findWays_39 rfl (by decide) (fun c40 => ?_) (fun c40 => ?_)
            · refine go_aload_n (i := 0) (pc' := 46) dX12_findWays_45 rfl rfl rfl ?_
              refine go_iload_n (i := 1) (pc' := 47) dX12_findWays_46 rfl rfl rfl ?_
              refine go_aload_n (i := 0) (pc' := 48) dX12_findWays_47 rfl rfl rfl ?_
              refine gf_13_is (pc' := 51) dX12_findWays_48 rfl fl_X12_47 ?_
              refine go_iload_n (i := 1) (pc' := 52) dX12_findWays_51 rfl rfl rfl ?_
              refine go_iald (pc' := 53) dX12_findWays_52 rfl (by decide) (by decide) rfl (vin_of (n := 12) (by omega) (by omega)) ?_
              refine go_topq (y := (σ.2 108 (x1_3).toNatClampNeg)) (congrFun (w3.2.2 108 (by decide)) _) ?_
              have g41 := ixa_108 ix (x1_3).toNatClampNeg (vinlt (vin_of (n := 12) (by omega) (by omega)))
              refine go_iconst (v := 0) (pc' := 54) dX12_findWays_53 rfl (by decide) ?_
              refine go_cvv (pc' := 57) lk_X12_189 (c_X12_leads _ _ _ _ _ _ (by omega) (by omega) w3.1) rfl rfl (Nat.le_of_ble_eq_true rfl) (by decide) rfl rfl rfl ⟨Nat.le_of_ble_eq_true rfl, Nat.le_of_ble_eq_true rfl⟩ ⟨rfl, rfl⟩ dX12_findWays_54 rfl (fun σ42 h42 => ?_)
              have w42 := WM_trans w3 h42
              refine go_aload_n (i := 0) (pc' := 58) dX12_findWays_57 rfl rfl rfl ?_
              refine go_aload_n (i := 0) (pc' := 59) dX12_findWays_58 rfl rfl rfl ?_
              refine gf_13_is (pc' := 62) dX12_findWays_59 rfl fl_X12_47 ?_
              refine go_iload_n (i := 1) (pc' := 63) dX12_findWays_62 rfl rfl rfl ?_
              refine go_iald (pc' := 64) dX12_findWays_63 rfl (by decide) (by decide) rfl (vin_of (n := 12) (by omega) (by omega)) ?_
              refine go_topq (y := (σ.2 108 (x1_3).toNatClampNeg)) (congrFun (w42.2.2 108 (by decide)) _) ?_
              have g43 := ixa_108 ix (x1_3).toNatClampNeg (vinlt (vin_of (n := 12) (by omega) (by omega)))
              refine go_iload_n (i := 1) (pc' := 65) dX12_findWays_64 rfl rfl rfl ?_
              refine go_iconst (v := 0) (pc' := 66) dX12_findWays_65 rfl (by decide) ?_
              refine go_cvv (pc' := 69) lk_X12_189 (c_X12_leads _ _ _ _ _ _ (by omega) (by omega) w42.1) rfl rfl (Nat.le_of_ble_eq_true rfl) (by decide) rfl rfl rfl ⟨Nat.le_of_ble_eq_true rfl, Nat.le_of_ble_eq_true rfl⟩ ⟨rfl, rfl⟩ dX12_findWays_66 rfl (fun σ44 h44 => ?_)
              have w44 := WM_trans w42 h44
              refine gz_iinc (c := 1) (pc' := 72) dX12_findWays_69 rfl rfl (by decide) (by decide) (by decide) (by omega) (fun v45 h45 e45 => ?_)
              refine go_goto (tgt := 25) dX12_findWays_72 (by decide) ?_
              exact go_lv (lv' := [(0, .ref (L.2.1 13)), (1, .int v45)]) rfl (ih3 _ (by omega) σ44 v45 w44 (by omega) rfl)
            refine go_goto (tgt := 69) dX12_findWays_42 (by decide) ?_
            refine gz_iinc (c := 1) (pc' := 72) dX12_findWays_69 rfl rfl (by decide) (by decide) (by decide) (by omega) (fun v46 h46 e46 => ?_)
            refine go_goto (tgt := 25) dX12_findWays_72 (by decide) ?_
            exact go_lv (lv' := [(0, .ref (L.2.1 13)), (1, .int v46)]) rfl (ih3 _ (by omega) σ3 v46 w3 (by omega) rfl)
        exact go_lv (lv' := [(0, .ref (L.2.1 13)), (1, .int (0 : Int32))]) rfl (loop25_3 _ σ1 (0 : Int32) w1 (by omega) rfl)
      refine go_aload_n (i := 0) (pc' := 10) dX12_findWays_9 rfl rfl rfl ?_
      refine gf_13_way (pc' := 13) dX12_findWays_10 rfl fl_X12_89 ?_
      refine go_iload_n (i := 1) (pc' := 14) dX12_findWays_13 rfl rfl rfl ?_
      refine go_ldc (pc' := 16) dX12_findWays_14 rfl cst_X12_188 ?_
      refine go_iast (pc' := 17) dX12_findWays_16 rfl (by decide) (by decide) rfl (vin_of (n := 144) (by omega) (by omega)) ?_
      refine go_gen (P := WM σ) ⟨ixt_n w1.1 (by decide), Ag_setA w1.2 (by decide)⟩ (fun σ47 w47 => ?_)
      refine gz_iinc (c := 1) (pc' := 20) dX12_findWays_17 rfl rfl (by decide) (by decide) (by decide) (by omega) (fun v48 h48 e48 => ?_)
      refine go_goto (tgt := 2) dX12_findWays_20 (by decide) ?_
      exact go_lv (lv' := [(0, .ref (L.2.1 13)), (1, .int v48)]) rfl (ih1 _ (by omega) σ47 v48 w47 (by omega) rfl)
  exact go_lv (lv' := [(0, .ref (L.2.1 13)), (1, .int (0 : Int32))]) rfl (loop2_1 _ σ (0 : Int32) w0 (by omega) rfl)
set_option maxHeartbeats 4000000 in
set_option maxRecDepth 100000 in
theorem c_X12_isBefore (l : Launch) (L : WL) (σ : ST) (a b : Int32) (ha : 0 ≤ a.toInt ∧ a.toInt < 12) (hb : 0 ≤ b.toInt ∧ b.toInt < 12) (ix : IV σ) : CtI l L yX12_isBefore cX12_isBefore 3 (some .boolean) rm_X12_isBefore [.ref (L.2.1 13), .int a, .int b] σ (fun r σ2 => σ2 = σ ∧ bq (BEF σ (a).toNatClampNeg (b).toNatClampNeg) r) := by
  refine ctI_go (own := RX12) (by decide) rfl (Nat.le_of_ble_eq_true rfl) (fun F hF => ?_)
  subst hF
  have n0 : (0 : Int32).toInt = 0 := by decide
  have n1 : (1 : Int32).toInt = 1 := by decide
  have n12 : (12 : Int32).toInt = 12 := by decide
  have w0 : WM σ σ := WM_rfl ix
  refine go_aload_n (i := 0) (pc' := 1) dX12_isBefore_0 rfl rfl rfl ?_
  refine gf_13_high (pc' := 4) dX12_isBefore_1 rfl fl_X12_86 ?_
  refine go_iload_n (i := 1) (pc' := 5) dX12_isBefore_4 rfl rfl rfl ?_
  refine go_iald (pc' := 6) dX12_isBefore_5 rfl (by decide) (by decide) rfl (vin_of (n := 12) (by omega) (by omega)) ?_
  refine go_rngA (ixa_121 w0.1) (vinlt (vin_of (n := 12) (by omega) (by omega))) (fun g1 => ?_)
  refine go_aload_n (i := 0) (pc' := 7) dX12_isBefore_6 rfl rfl rfl ?_
  refine gf_13_low (pc' := 10) dX12_isBefore_7 rfl fl_X12_83 ?_
  refine go_iload_n (i := 2) (pc' := 11) dX12_isBefore_10 rfl rfl rfl ?_
  refine go_iald (pc' := 12) dX12_isBefore_11 rfl (by decide) (by decide) rfl (vin_of (n := 12) (by omega) (by omega)) ?_
  refine go_rngA (ixa_120 w0.1) (vinlt (vin_of (n := 12) (by omega) (by omega))) (fun g2 => ?_)
  refine gz_icmp_lt (tgt := 29) (pc' := 15) dX12_isBefore_12 rfl (by decide) (fun c3 => ?_) (fun c3 => ?_)
  · refine go_iconst (v := 1) (pc' := 30) dX12_isBefore_29 rfl (by decide) ?_
    refine go_goto (tgt := 34) dX12_isBefore_30 (by decide) ?_
    exact go_zret dX12_isBefore_34 rfl rfl (⟨rfl, by first | exact bq_t (Or.inl (by assumption)) | exact bq_t (Or.inr (by rw [← cv]; omega)) | exact bq_f (fun q => by unfold BEF at q; rw [← cv] at q; omega)⟩)
  refine go_aload_n (i := 0) (pc' := 16) dX12_isBefore_15 rfl rfl rfl ?_
  refine gf_13_way (pc' := 19) dX12_isBefore_16 rfl fl_X12_89 ?_
  refine go_bipush (v := 12) (pc' := 21) dX12_isBefore_19 rfl (by decide) ?_
  refine go_iload_n (i := 1) (pc' := 22) dX12_isBefore_21 rfl rfl rfl ?_
  refine gz_imulc (n := 12) (pc' := 23) dX12_isBefore_22 rfl (by decide) (by omega) (fun v4 h4 e4 => ?_)
  refine go_iload_n (i := 2) (pc' := 24) dX12_isBefore_23 rfl rfl rfl ?_
  refine gz_iadd (pc' := 25) dX12_isBefore_24 rfl (by omega) (fun v5 h5 e5 => ?_)
  have cv := cnat_lin (n := 12) (v := v5) (by omega) ha.1 hb.1
  refine go_iald (pc' := 26) dX12_isBefore_25 rfl (by decide) (by decide) rfl (vin_of (n := 144) (by omega) (by omega)) ?_
  refine gz_if_le (tgt := 33) (pc' := 29) dX12_isBefore_26 rfl (by decide) (fun c6 => ?_) (fun c6 => ?_)
  · refine go_iconst (v := 0) (pc' := 34) dX12_isBefore_33 rfl (by decide) ?_
    exact go_zret dX12_isBefore_34 rfl rfl (⟨rfl, by first | exact bq_t (Or.inl (by assumption)) | exact bq_t (Or.inr (by rw [← cv]; omega)) | exact bq_f (fun q => by unfold BEF at q; rw [← cv] at q; omega)⟩)
  refine go_iconst (v := 1) (pc' := 30) dX12_isBefore_29 rfl (by decide) ?_
  refine go_goto (tgt := 34) dX12_isBefore_30 (by decide) ?_
  exact go_zret dX12_isBefore_34 rfl rfl (⟨rfl, by first | exact bq_t (Or.inl (by assumption)) | exact bq_t (Or.inr (by rw [← cv]; omega)) | exact bq_f (fun q => by unfold BEF at q; rw [← cv] at q; omega)⟩)
set_option maxHeartbeats 4000000 in
set_option maxRecDepth 100000 in
theorem c_X12_before (l : Launch) (L : WL) (σ : ST) (a b : Int32) (ix : IV σ) (im : IM σ) : CtI l L yX12_before cX12_before 3 (some .int) rm_X12_before [.ref (L.2.1 13), .int a, .int b] σ (fun _ σ2 => WM σ σ2) := by
  refine ctI_go (own := RX12) (by decide) rfl (Nat.le_of_ble_eq_true rfl) (fun F hF => ?_)
  subst hF
  have nm2 : (-2 : Int32).toInt = -2 := by decide
  have n0 : (0 : Int32).toInt = 0 := by decide
  have n1 : (1 : Int32).toInt = 1 := by decide
  have w0 : WM σ σ := WM_rfl ix
  have u19 := ixi_19 ix
  have u20 := ixi_20 ix
  have u21 := ixi_21 ix
  have u22 := ixi_22 ix
  refine go_aload_n (i := 0) (pc' := 1) dX12_before_0 rfl rfl rfl ?_
  refine go_iload_n (i := 1) (pc' := 2) dX12_before_1 rfl rfl rfl ?_
  refine go_cvi (pc' := 5) lk_X12_152 (c_X12_isLetter _ _ _ _) rfl rfl (Nat.le_of_ble_eq_true rfl) (by decide) rfl rfl rfl ⟨Nat.le_of_ble_eq_true rfl, Nat.le_of_ble_eq_true rfl⟩ ⟨rfl, rfl⟩ dX12_before_2 rfl (fun r1 σ1 h1 => ?_)
  obtain ⟨e1, h1⟩ := h1
  have e1 := e1.symm
  subst e1
  refine go_eqB (tgt := 21) (pc' := 8) h1 dX12_before_5 rfl (by decide) (fun c2 => ?_) (fun c2 => ?_)
  · refine go_bipush (v := (-2)) (pc' := 23) dX12_before_21 rfl (by decide) ?_
    exact go_iret dX12_before_23 rfl (w0)
  refine go_aload_n (i := 0) (pc' := 9) dX12_before_8 rfl rfl rfl ?_
  refine go_iload_n (i := 2) (pc' := 10) dX12_before_9 rfl rfl rfl ?_
  refine go_cvi (pc' := 13) lk_X12_152 (c_X12_isLetter _ _ _ _) rfl rfl (Nat.le_of_ble_eq_true rfl) (by decide) rfl rfl rfl ⟨Nat.le_of_ble_eq_true rfl, Nat.le_of_ble_eq_true rfl⟩ ⟨rfl, rfl⟩ dX12_before_10 rfl (fun r3 σ3 h3 => ?_)
  obtain ⟨e3, h3⟩ := h3
  have e3 := e3.symm
  subst e3
  refine go_eqB (tgt := 21) (pc' := 16) h3 dX12_before_13 rfl (by decide) (fun c4 => ?_) (fun c4 => ?_)
  · refine go_bipush (v := (-2)) (pc' := 23) dX12_before_21 rfl (by decide) ?_
    exact go_iret dX12_before_23 rfl (w0)
  refine go_iload_n (i := 1) (pc' := 17) dX12_before_16 rfl rfl rfl ?_
  refine go_iload_n (i := 2) (pc' := 18) dX12_before_17 rfl rfl rfl ?_
  refine gz_icmp_ne (tgt := 24) (pc' := 21) dX12_before_18 rfl (by decide) (fun c5 => ?_) (fun c5 => ?_)
  · refine go_aload_n (i := 0) (pc' := 25) dX12_before_24 rfl rfl rfl ?_
    refine go_cvi (pc' := 28) lk_X12_184 (c_X12_clashAll _ _ _ w0.1 (IM_q w0 im)) rfl rfl (Nat.le_of_ble_eq_true rfl) (by decide) rfl rfl rfl ⟨Nat.le_of_ble_eq_true rfl, Nat.le_of_ble_eq_true rfl⟩ ⟨rfl, rfl⟩ dX12_before_25 rfl (fun r6 σ6 h6 => ?_)
    obtain ⟨u6, h6⟩ := h6
    have w6 := WM_trans w0 u6
    refine gz_if_eq (tgt := 33) (pc' := 31) dX12_before_28 rfl (by decide) (fun c7 => ?_) (fun c7 => ?_)
    · refine go_aload_n (i := 0) (pc' := 34) dX12_before_33 rfl rfl rfl ?_
      refine go_cvv (pc' := 37) lk_X12_193 (c_X12_findWays _ _ _ w6.1) rfl rfl (Nat.le_of_ble_eq_true rfl) (by decide) rfl rfl rfl ⟨Nat.le_of_ble_eq_true rfl, Nat.le_of_ble_eq_true rfl⟩ ⟨rfl, rfl⟩ dX12_before_34 rfl (fun σ8 h8 => ?_)
      have w8 := WM_trans w6 h8
      refine go_aload_n (i := 0) (pc' := 38) dX12_before_37 rfl rfl rfl ?_
      refine go_iload_n (i := 1) (pc' := 39) dX12_before_38 rfl rfl rfl ?_
      refine go_iload_n (i := 2) (pc' := 40) dX12_before_39 rfl rfl rfl ?_
      refine go_cvi (pc' := 43) lk_X12_196 (c_X12_isBefore _ _ _ _ _ (by omega) (by omega) w8.1) rfl rfl (Nat.le_of_ble_eq_true rfl) (by decide) rfl rfl rfl ⟨Nat.le_of_ble_eq_true rfl, Nat.le_of_ble_eq_true rfl⟩ ⟨rfl, rfl⟩ dX12_before_40 rfl (fun r9 σ9 h9 => ?_)
      obtain ⟨e9, h9⟩ := h9
      have e9 := e9.symm
      subst e9
      refine go_eqB (tgt := 50) (pc' := 46) h9 dX12_before_43 rfl (by decide) (fun c10 => ?_) (fun c10 => ?_)
      · refine go_iconst (v := 0) (pc' := 51) dX12_before_50 rfl (by decide) ?_
        exact go_iret dX12_before_51 rfl (w8)
      refine go_iconst (v := 1) (pc' := 47) dX12_before_46 rfl (by decide) ?_
      refine go_goto (tgt := 51) dX12_before_47 (by decide) ?_
      exact go_iret dX12_before_51 rfl (w8)
    refine go_iconst (v := 0) (pc' := 32) dX12_before_31 rfl (by decide) ?_
    exact go_iret dX12_before_32 rfl (w6)
  refine go_bipush (v := (-2)) (pc' := 23) dX12_before_21 rfl (by decide) ?_
  exact go_iret dX12_before_23 rfl (w0)
set_option maxHeartbeats 4000000 in
set_option maxRecDepth 100000 in
theorem c_X12_hasRead (l : Launch) (L : WL) (σ : ST) (a b d e : Int32) (ha : 0 ≤ a.toInt ∧ a.toInt < 12) (hb : 0 ≤ b.toInt ∧ b.toInt < 10) (ix : IV σ) : CtI l L yX12_hasRead cX12_hasRead 6 (some .boolean) rm_X12_hasRead [.ref (L.2.1 13), .int a, .int b, .int d, .int e] σ (fun _ σ2 => σ2 = σ) := by
  refine ctI_go (own := RX12) (by decide) rfl (Nat.le_of_ble_eq_true rfl) (fun F hF => ?_)
  subst hF
  have n0 : (0 : Int32).toInt = 0 := by decide
  have n1 : (1 : Int32).toInt = 1 := by decide
  have n5 : (5 : Int32).toInt = 5 := by decide
  have n6 : (6 : Int32).toInt = 6 := by decide
  have w0 : WM σ σ := WM_rfl ix
  refine go_aload_n (i := 0) (pc' := 1) dX12_hasRead_0 rfl rfl rfl ?_
  refine gf_13_kind (pc' := 4) dX12_hasRead_1 rfl fl_X12_26 ?_
  refine go_iload_n (i := 1) (pc' := 5) dX12_hasRead_4 rfl rfl rfl ?_
  refine go_iald (pc' := 6) dX12_hasRead_5 rfl (by decide) (by decide) rfl (vin_of (n := 12) (by omega) (by omega)) ?_
  have g1 := ixa_101 ix (a).toNatClampNeg (vinlt (vin_of (n := 12) (by omega) (by omega)))
  refine go_iconst (v := 1) (pc' := 7) dX12_hasRead_6 rfl (by decide) ?_
  refine gz_icmp_eq (tgt := 43) (pc' := 10) dX12_hasRead_7 rfl (by decide) (fun c2 => ?_) (fun c2 => ?_)
  · refine go_iconst (v := 0) (pc' := 44) dX12_hasRead_43 rfl (by decide) ?_
    exact go_zret dX12_hasRead_44 rfl rfl (rfl)
  refine go_aload_n (i := 0) (pc' := 11) dX12_hasRead_10 rfl rfl rfl ?_
  refine gf_13_kind (pc' := 14) dX12_hasRead_11 rfl fl_X12_26 ?_
  refine go_iload_n (i := 1) (pc' := 15) dX12_hasRead_14 rfl rfl rfl ?_
  refine go_iald (pc' := 16) dX12_hasRead_15 rfl (by decide) (by decide) rfl (vin_of (n := 12) (by omega) (by omega)) ?_
  have g3 := ixa_101 ix (a).toNatClampNeg (vinlt (vin_of (n := 12) (by omega) (by omega)))
  refine go_iconst (v := 5) (pc' := 17) dX12_hasRead_16 rfl (by decide) ?_
  refine gz_icmp_ne (tgt := 33) (pc' := 20) dX12_hasRead_17 rfl (by decide) (fun c4 => ?_) (fun c4 => ?_)
  · refine go_iload_n (i := 2) (pc' := 34) dX12_hasRead_33 rfl rfl rfl ?_
    refine go_aload_n (i := 0) (pc' := 35) dX12_hasRead_34 rfl rfl rfl ?_
    refine gf_13_reader (pc' := 38) dX12_hasRead_35 rfl fl_X12_32 ?_
    refine go_iload_n (i := 1) (pc' := 39) dX12_hasRead_38 rfl rfl rfl ?_
    refine go_iald (pc' := 40) dX12_hasRead_39 rfl (by decide) (by decide) rfl (vin_of (n := 12) (by omega) (by omega)) ?_
    have g5 := ixa_103 ix (a).toNatClampNeg (vinlt (vin_of (n := 12) (by omega) (by omega)))
    refine gz_icmp_eq (tgt := 45) (pc' := 43) dX12_hasRead_40 rfl (by decide) (fun c6 => ?_) (fun c6 => ?_)
    · refine go_bipush (v := 6) (pc' := 47) dX12_hasRead_45 rfl (by decide) ?_
      refine go_aload_n (i := 0) (pc' := 48) dX12_hasRead_47 rfl rfl rfl ?_
      refine gf_13_place (pc' := 51) dX12_hasRead_48 rfl fl_X12_35 ?_
      refine go_iload_n (i := 1) (pc' := 52) dX12_hasRead_51 rfl rfl rfl ?_
      refine go_iald (pc' := 53) dX12_hasRead_52 rfl (by decide) (by decide) rfl (vin_of (n := 12) (by omega) (by omega)) ?_
      have g7 := ixa_104 ix (a).toNatClampNeg (vinlt (vin_of (n := 12) (by omega) (by omega)))
      refine gz_imulc (n := 6) (pc' := 54) dX12_hasRead_53 rfl (by decide) (by omega) (fun v8 h8 e8 => ?_)
      refine go_aload_n (i := 0) (pc' := 55) dX12_hasRead_54 rfl rfl rfl ?_
      refine gf_13_home (pc' := 58) dX12_hasRead_55 rfl fl_X12_13 ?_
      refine go_iload_n (i := 2) (pc' := 59) dX12_hasRead_58 rfl rfl rfl ?_
      refine go_iald (pc' := 60) dX12_hasRead_59 rfl (by decide) (by decide) rfl (vin_of (n := 10) (by omega) (by omega)) ?_
      have g9 := ixa_97 ix (b).toNatClampNeg (vinlt (vin_of (n := 10) (by omega) (by omega)))
      refine gz_iadd (pc' := 61) dX12_hasRead_60 rfl (by omega) (fun v10 h10 e10 => ?_)
      refine go_istore (pc' := 63) dX12_hasRead_61 rfl (by decide) ?_
      refine go_iload (pc' := 65) dX12_hasRead_63 rfl rfl ?_
      refine gz_if_ne (tgt := 85) (pc' := 68) dX12_hasRead_65 rfl (by decide) (fun c11 => ?_) (fun c11 => ?_)
      · refine go_aload_n (i := 0) (pc' := 86) dX12_hasRead_85 rfl rfl rfl ?_
        refine gf_13_high (pc' := 89) dX12_hasRead_86 rfl fl_X12_86 ?_
        refine go_iload_n (i := 1) (pc' := 90) dX12_hasRead_89 rfl rfl rfl ?_
        refine go_iald (pc' := 91) dX12_hasRead_90 rfl (by decide) (by decide) rfl (vin_of (n := 12) (by omega) (by omega)) ?_
        refine go_rngA (ixa_121 w0.1) (vinlt (vin_of (n := 12) (by omega) (by omega))) (fun g12 => ?_)
        refine go_aload_n (i := 0) (pc' := 92) dX12_hasRead_91 rfl rfl rfl ?_
        refine gf_13_postMost (pc' := 95) dX12_hasRead_92 rfl fl_X12_68 ?_
        refine go_iload (pc' := 97) dX12_hasRead_95 rfl rfl ?_
        refine go_iald (pc' := 98) dX12_hasRead_97 rfl (by decide) (by decide) rfl (vin_of (n := 36) (by omega) (by omega)) ?_
        refine go_iadd (pc' := 99) dX12_hasRead_98 rfl ?_
        refine go_iload_n (i := 3) (pc' := 100) dX12_hasRead_99 rfl rfl rfl ?_
        refine gz_icmp_gt (tgt := 107) (pc' := 103) dX12_hasRead_100 rfl (by decide) (fun c13 => ?_) (fun c13 => ?_)
        · refine go_iconst (v := 0) (pc' := 108) dX12_hasRead_107 rfl (by decide) ?_
          exact go_zret dX12_hasRead_108 rfl rfl (rfl)
        refine go_iconst (v := 1) (pc' := 104) dX12_hasRead_103 rfl (by decide) ?_
        refine go_goto (tgt := 108) dX12_hasRead_104 (by decide) ?_
        exact go_zret dX12_hasRead_108 rfl rfl (rfl)
      refine go_aload_n (i := 0) (pc' := 69) dX12_hasRead_68 rfl rfl rfl ?_
      refine gf_13_low (pc' := 72) dX12_hasRead_69 rfl fl_X12_83 ?_
      refine go_iload_n (i := 1) (pc' := 73) dX12_hasRead_72 rfl rfl rfl ?_
      refine go_iald (pc' := 74) dX12_hasRead_73 rfl (by decide) (by decide) rfl (vin_of (n := 12) (by omega) (by omega)) ?_
      refine go_rngA (ixa_120 w0.1) (vinlt (vin_of (n := 12) (by omega) (by omega))) (fun g14 => ?_)
      refine go_aload_n (i := 0) (pc' := 75) dX12_hasRead_74 rfl rfl rfl ?_
      refine gf_13_postLeast (pc' := 78) dX12_hasRead_75 rfl fl_X12_65 ?_
      refine go_iload (pc' := 80) dX12_hasRead_78 rfl rfl ?_
      refine go_iald (pc' := 81) dX12_hasRead_80 rfl (by decide) (by decide) rfl (vin_of (n := 36) (by omega) (by omega)) ?_
      refine go_iadd (pc' := 82) dX12_hasRead_81 rfl ?_
      refine go_goto (tgt := 99) dX12_hasRead_82 (by decide) ?_
      refine go_iload_n (i := 3) (pc' := 100) dX12_hasRead_99 rfl rfl rfl ?_
      refine gz_icmp_gt (tgt := 107) (pc' := 103) dX12_hasRead_100 rfl (by decide) (fun c15 => ?_) (fun c15 => ?_)
      · refine go_iconst (v := 0) (pc' := 108) dX12_hasRead_107 rfl (by decide) ?_
        exact go_zret dX12_hasRead_108 rfl rfl (rfl)
      refine go_iconst (v := 1) (pc' := 104) dX12_hasRead_103 rfl (by decide) ?_
      refine go_goto (tgt := 108) dX12_hasRead_104 (by decide) ?_
      exact go_zret dX12_hasRead_108 rfl rfl (rfl)
    refine go_iconst (v := 0) (pc' := 44) dX12_hasRead_43 rfl (by decide) ?_
    exact go_zret dX12_hasRead_44 rfl rfl (rfl)
  refine go_iload_n (i := 2) (pc' := 21) dX12_hasRead_20 rfl rfl rfl ?_
  refine go_aload_n (i := 0) (pc' := 22) dX12_hasRead_21 rfl rfl rfl ?_
  refine gf_13_writer (pc' := 25) dX12_hasRead_22 rfl fl_X12_29 ?_
  refine go_iload_n (i := 1) (pc' := 26) dX12_hasRead_25 rfl rfl rfl ?_
  refine go_iald (pc' := 27) dX12_hasRead_26 rfl (by decide) (by decide) rfl (vin_of (n := 12) (by omega) (by omega)) ?_
  have g16 := ixa_102 ix (a).toNatClampNeg (vinlt (vin_of (n := 12) (by omega) (by omega)))
  refine gz_icmp_ne (tgt := 45) (pc' := 30) dX12_hasRead_27 rfl (by decide) (fun c17 => ?_) (fun c17 => ?_)
  · refine go_bipush (v := 6) (pc' := 47) dX12_hasRead_45 rfl (by decide) ?_
    refine go_aload_n (i := 0) (pc' := 48) dX12_hasRead_47 rfl rfl rfl ?_
    refine gf_13_place (pc' := 51) dX12_hasRead_48 rfl fl_X12_35 ?_
    refine go_iload_n (i := 1) (pc' := 52) dX12_hasRead_51 rfl rfl rfl ?_
    refine go_iald (pc' := 53) dX12_hasRead_52 rfl (by decide) (by decide) rfl (vin_of (n := 12) (by omega) (by omega)) ?_
    have g18 := ixa_104 ix (a).toNatClampNeg (vinlt (vin_of (n := 12) (by omega) (by omega)))
    refine gz_imulc (n := 6) (pc' := 54) dX12_hasRead_53 rfl (by decide) (by omega) (fun v19 h19 e19 => ?_)
    refine go_aload_n (i := 0) (pc' := 55) dX12_hasRead_54 rfl rfl rfl ?_
    refine gf_13_home (pc' := 58) dX12_hasRead_55 rfl fl_X12_13 ?_
    refine go_iload_n (i := 2) (pc' := 59) dX12_hasRead_58 rfl rfl rfl ?_
    refine go_iald (pc' := 60) dX12_hasRead_59 rfl (by decide) (by decide) rfl (vin_of (n := 10) (by omega) (by omega)) ?_
    have g20 := ixa_97 ix (b).toNatClampNeg (vinlt (vin_of (n := 10) (by omega) (by omega)))
    refine gz_iadd (pc' := 61) dX12_hasRead_60 rfl (by omega) (fun v21 h21 e21 => ?_)
    refine go_istore (pc' := 63) dX12_hasRead_61 rfl (by decide) ?_
    refine go_iload (pc' := 65) dX12_hasRead_63 rfl rfl ?_
    refine gz_if_ne (tgt := 85) (pc' := 68) dX12_hasRead_65 rfl (by decide) (fun c22 => ?_) (fun c22 => ?_)
    · refine go_aload_n (i := 0) (pc' := 86) dX12_hasRead_85 rfl rfl rfl ?_
      refine gf_13_high (pc' := 89) dX12_hasRead_86 rfl fl_X12_86 ?_
      refine go_iload_n (i := 1) (pc' := 90) dX12_hasRead_89 rfl rfl rfl ?_
      refine go_iald (pc' := 91) dX12_hasRead_90 rfl (by decide) (by decide) rfl (vin_of (n := 12) (by omega) (by omega)) ?_
      refine go_rngA (ixa_121 w0.1) (vinlt (vin_of (n := 12) (by omega) (by omega))) (fun g23 => ?_)
      refine go_aload_n (i := 0) (pc' := 92) dX12_hasRead_91 rfl rfl rfl ?_
      refine gf_13_postMost (pc' := 95) dX12_hasRead_92 rfl fl_X12_68 ?_
      refine go_iload (pc' := 97) dX12_hasRead_95 rfl rfl ?_
      refine go_iald (pc' := 98) dX12_hasRead_97 rfl (by decide) (by decide) rfl (vin_of (n := 36) (by omega) (by omega)) ?_
      refine go_iadd (pc' := 99) dX12_hasRead_98 rfl ?_
      refine go_iload_n (i := 3) (pc' := 100) dX12_hasRead_99 rfl rfl rfl ?_
      refine gz_icmp_gt (tgt := 107) (pc' := 103) dX12_hasRead_100 rfl (by decide) (fun c24 => ?_) (fun c24 => ?_)
      · refine go_iconst (v := 0) (pc' := 108) dX12_hasRead_107 rfl (by decide) ?_
        exact go_zret dX12_hasRead_108 rfl rfl (rfl)
      refine go_iconst (v := 1) (pc' := 104) dX12_hasRead_103 rfl (by decide) ?_
      refine go_goto (tgt := 108) dX12_hasRead_104 (by decide) ?_
      exact go_zret dX12_hasRead_108 rfl rfl (rfl)
    refine go_aload_n (i := 0) (pc' := 69) dX12_hasRead_68 rfl rfl rfl ?_
    refine gf_13_low (pc' := 72) dX12_hasRead_69 rfl fl_X12_83 ?_
    refine go_iload_n (i := 1) (pc' := 73) dX12_hasRead_72 rfl rfl rfl ?_
    refine go_iald (pc' := 74) dX12_hasRead_73 rfl (by decide) (by decide) rfl (vin_of (n := 12) (by omega) (by omega)) ?_
    refine go_rngA (ixa_120 w0.1) (vinlt (vin_of (n := 12) (by omega) (by omega))) (fun g25 => ?_)
    refine go_aload_n (i := 0) (pc' := 75) dX12_hasRead_74 rfl rfl rfl ?_
    refine gf_13_postLeast (pc' := 78) dX12_hasRead_75 rfl fl_X12_65 ?_
    refine go_iload (pc' := 80) dX12_hasRead_78 rfl rfl ?_
    refine go_iald (pc' := 81) dX12_hasRead_80 rfl (by decide) (by decide) rfl (vin_of (n := 36) (by omega) (by omega)) ?_
    refine go_iadd (pc' := 82) dX12_hasRead_81 rfl ?_
    refine go_goto (tgt := 99) dX12_hasRead_82 (by decide) ?_
    refine go_iload_n (i := 3) (pc' := 100) dX12_hasRead_99 rfl rfl rfl ?_
    refine gz_icmp_gt (tgt := 107) (pc' := 103) dX12_hasRead_100 rfl (by decide) (fun c26 => ?_) (fun c26 => ?_)
    · refine go_iconst (v := 0) (pc' := 108) dX12_hasRead_107 rfl (by decide) ?_
      exact go_zret dX12_hasRead_108 rfl rfl (rfl)
    refine go_iconst (v := 1) (pc' := 104) dX12_hasRead_103 rfl (by decide) ?_
    refine go_goto (tgt := 108) dX12_hasRead_104 (by decide) ?_
    exact go_zret dX12_hasRead_108 rfl rfl (rfl)
  refine go_goto (tgt := 43) dX12_hasRead_30 (by decide) ?_
  refine go_iconst (v := 0) (pc' := 44) dX12_hasRead_43 rfl (by decide) ?_
  exact go_zret dX12_hasRead_44 rfl rfl (rfl)
set_option maxHeartbeats 4000000 in
set_option maxRecDepth 100000 in
theorem c_X12_read (l : Launch) (L : WL) (σ : ST) (a b d e : Int32) (ix : IV σ) (im : IM σ) : CtI l L yX12_read cX12_read 5 (some .int) rm_X12_read [.ref (L.2.1 13), .int a, .int b, .int d, .int e] σ (fun _ σ2 => WM σ σ2) := by
  refine ctI_go (own := RX12) (by decide) rfl (Nat.le_of_ble_eq_true rfl) (fun F hF => ?_)
  subst hF
  have nm2 : (-2 : Int32).toInt = -2 := by decide
  have n0 : (0 : Int32).toInt = 0 := by decide
  have n1 : (1 : Int32).toInt = 1 := by decide
  have n2 : (2 : Int32).toInt = 2 := by decide
  have w0 : WM σ σ := WM_rfl ix
  have u19 := ixi_19 ix
  have u20 := ixi_20 ix
  have u21 := ixi_21 ix
  have u22 := ixi_22 ix
  refine go_aload_n (i := 0) (pc' := 1) dX12_read_0 rfl rfl rfl ?_
  refine go_iload_n (i := 1) (pc' := 2) dX12_read_1 rfl rfl rfl ?_
  refine go_cvi (pc' := 5) lk_X12_152 (c_X12_isLetter _ _ _ _) rfl rfl (Nat.le_of_ble_eq_true rfl) (by decide) rfl rfl rfl ⟨Nat.le_of_ble_eq_true rfl, Nat.le_of_ble_eq_true rfl⟩ ⟨rfl, rfl⟩ dX12_read_2 rfl (fun r1 σ1 h1 => ?_)
  obtain ⟨e1, h1⟩ := h1
  have e1 := e1.symm
  subst e1
  refine go_eqB (tgt := 32) (pc' := 8) h1 dX12_read_5 rfl (by decide) (fun c2 => ?_) (fun c2 => ?_)
  · refine go_bipush (v := (-2)) (pc' := 34) dX12_read_32 rfl (by decide) ?_
    exact go_iret dX12_read_34 rfl (w0)
  refine go_aload_n (i := 0) (pc' := 9) dX12_read_8 rfl rfl rfl ?_
  refine go_iload_n (i := 2) (pc' := 10) dX12_read_9 rfl rfl rfl ?_
  refine go_cvi (pc' := 13) lk_X12_145 (c_X12_isPerson _ _ _ _) rfl rfl (Nat.le_of_ble_eq_true rfl) (by decide) rfl rfl rfl ⟨Nat.le_of_ble_eq_true rfl, Nat.le_of_ble_eq_true rfl⟩ ⟨rfl, rfl⟩ dX12_read_10 rfl (fun r3 σ3 h3 => ?_)
  obtain ⟨e3, h3⟩ := h3
  have e3 := e3.symm
  subst e3
  refine go_eqB (tgt := 32) (pc' := 16) h3 dX12_read_13 rfl (by decide) (fun c4 => ?_) (fun c4 => ?_)
  · refine go_bipush (v := (-2)) (pc' := 34) dX12_read_32 rfl (by decide) ?_
    exact go_iret dX12_read_34 rfl (w0)
  refine go_iload_n (i := 3) (pc' := 17) dX12_read_16 rfl rfl rfl ?_
  refine go_csi (pc' := 20) ls_X12_149 (c_X12_isDay _ _ _ _) rfl rfl (Nat.le_of_ble_eq_true rfl) ⟨Nat.le_of_ble_eq_true rfl, Nat.le_of_ble_eq_true rfl⟩ ⟨rfl, rfl⟩ dX12_read_17 rfl (fun r5 σ5 h5 => ?_)
  obtain ⟨e5, h5⟩ := h5
  have e5 := e5.symm
  subst e5
  refine go_eqB (tgt := 32) (pc' := 23) h5 dX12_read_20 rfl (by decide) (fun c6 => ?_) (fun c6 => ?_)
  · refine go_bipush (v := (-2)) (pc' := 34) dX12_read_32 rfl (by decide) ?_
    exact go_iret dX12_read_34 rfl (w0)
  refine go_iload (pc' := 25) dX12_read_23 rfl rfl ?_
  refine go_iconst (v := 2) (pc' := 26) dX12_read_25 rfl (by decide) ?_
  refine go_csi (pc' := 29) ls_X12_135 (c_X12_isIn _ _ _ _ _) rfl rfl (Nat.le_of_ble_eq_true rfl) ⟨Nat.le_of_ble_eq_true rfl, Nat.le_of_ble_eq_true rfl⟩ ⟨rfl, rfl⟩ dX12_read_26 rfl (fun r7 σ7 h7 => ?_)
  obtain ⟨e7, h7⟩ := h7
  have e7 := e7.symm
  subst e7
  refine go_neB (tgt := 35) (pc' := 32) h7 dX12_read_29 rfl (by decide) (fun c8 => ?_) (fun c8 => ?_)
  · refine go_aload_n (i := 0) (pc' := 36) dX12_read_35 rfl rfl rfl ?_
    refine go_cvi (pc' := 39) lk_X12_184 (c_X12_clashAll _ _ _ w0.1 (IM_q w0 im)) rfl rfl (Nat.le_of_ble_eq_true rfl) (by decide) rfl rfl rfl ⟨Nat.le_of_ble_eq_true rfl, Nat.le_of_ble_eq_true rfl⟩ ⟨rfl, rfl⟩ dX12_read_36 rfl (fun r9 σ9 h9 => ?_)
    obtain ⟨u9, h9⟩ := h9
    have w9 := WM_trans w0 u9
    refine gz_if_ne (tgt := 58) (pc' := 42) dX12_read_39 rfl (by decide) (fun c10 => ?_) (fun c10 => ?_)
    · refine go_iconst (v := 0) (pc' := 59) dX12_read_58 rfl (by decide) ?_
      exact go_iret dX12_read_59 rfl (w9)
    refine go_aload_n (i := 0) (pc' := 43) dX12_read_42 rfl rfl rfl ?_
    refine go_iload_n (i := 1) (pc' := 44) dX12_read_43 rfl rfl rfl ?_
    refine go_iload_n (i := 2) (pc' := 45) dX12_read_44 rfl rfl rfl ?_
    refine go_iload_n (i := 3) (pc' := 46) dX12_read_45 rfl rfl rfl ?_
    refine go_iload (pc' := 48) dX12_read_46 rfl rfl ?_
    refine go_cvi (pc' := 51) lk_X12_199 (c_X12_hasRead _ _ _ _ _ _ _ (by omega) (by omega) w9.1) rfl rfl (Nat.le_of_ble_eq_true rfl) (by decide) rfl rfl rfl ⟨Nat.le_of_ble_eq_true rfl, Nat.le_of_ble_eq_true rfl⟩ ⟨rfl, rfl⟩ dX12_read_48 rfl (fun r11 σ11 h11 => ?_)
    have h11 := h11.symm
    subst h11
    refine gz_if_eq (tgt := 58) (pc' := 54) dX12_read_51 rfl (by decide) (fun c12 => ?_) (fun c12 => ?_)
    · refine go_iconst (v := 0) (pc' := 59) dX12_read_58 rfl (by decide) ?_
      exact go_iret dX12_read_59 rfl (w9)
    refine go_iconst (v := 1) (pc' := 55) dX12_read_54 rfl (by decide) ?_
    refine go_goto (tgt := 59) dX12_read_55 (by decide) ?_
    exact go_iret dX12_read_59 rfl (w9)
  refine go_bipush (v := (-2)) (pc' := 34) dX12_read_32 rfl (by decide) ?_
  exact go_iret dX12_read_34 rfl (w0)
set_option maxHeartbeats 4000000 in
set_option maxRecDepth 100000 in
theorem c_X12_reads (l : Launch) (L : WL) (σ : ST) (a b d : Int32) (ix : IV σ) (im : IM σ) : CtI l L yX12_reads cX12_reads 6 (some .int) rm_X12_reads [.ref (L.2.1 13), .int a, .int b, .int d] σ (fun _ σ2 => WM σ σ2) := by
  refine ctI_go (own := RX12) (by decide) rfl (Nat.le_of_ble_eq_true rfl) (fun F hF => ?_)
  subst hF
  have nm2 : (-2 : Int32).toInt = -2 := by decide
  have n0 : (0 : Int32).toInt = 0 := by decide
  have n1 : (1 : Int32).toInt = 1 := by decide
  have n2 : (2 : Int32).toInt = 2 := by decide
  have w0 : WM σ σ := WM_rfl ix
  have u19 := ixi_19 ix
  have u20 := ixi_20 ix
  have u21 := ixi_21 ix
  have u22 := ixi_22 ix
  refine go_aload_n (i := 0) (pc' := 1) dX12_reads_0 rfl rfl rfl ?_
  refine go_iload_n (i := 1) (pc' := 2) dX12_reads_1 rfl rfl rfl ?_
  refine go_cvi (pc' := 5) lk_X12_145 (c_X12_isPerson _ _ _ _) rfl rfl (Nat.le_of_ble_eq_true rfl) (by decide) rfl rfl rfl ⟨Nat.le_of_ble_eq_true rfl, Nat.le_of_ble_eq_true rfl⟩ ⟨rfl, rfl⟩ dX12_reads_2 rfl (fun r1 σ1 h1 => ?_)
  obtain ⟨e1, h1⟩ := h1
  have e1 := e1.symm
  subst e1
  refine go_eqB (tgt := 23) (pc' := 8) h1 dX12_reads_5 rfl (by decide) (fun c2 => ?_) (fun c2 => ?_)
  · refine go_bipush (v := (-2)) (pc' := 25) dX12_reads_23 rfl (by decide) ?_
    exact go_iret dX12_reads_25 rfl (w0)
  refine go_iload_n (i := 2) (pc' := 9) dX12_reads_8 rfl rfl rfl ?_
  refine go_csi (pc' := 12) ls_X12_149 (c_X12_isDay _ _ _ _) rfl rfl (Nat.le_of_ble_eq_true rfl) ⟨Nat.le_of_ble_eq_true rfl, Nat.le_of_ble_eq_true rfl⟩ ⟨rfl, rfl⟩ dX12_reads_9 rfl (fun r3 σ3 h3 => ?_)
  obtain ⟨e3, h3⟩ := h3
  have e3 := e3.symm
  subst e3
  refine go_eqB (tgt := 23) (pc' := 15) h3 dX12_reads_12 rfl (by decide) (fun c4 => ?_) (fun c4 => ?_)
  · refine go_bipush (v := (-2)) (pc' := 25) dX12_reads_23 rfl (by decide) ?_
    exact go_iret dX12_reads_25 rfl (w0)
  refine go_iload_n (i := 3) (pc' := 16) dX12_reads_15 rfl rfl rfl ?_
  refine go_iconst (v := 2) (pc' := 17) dX12_reads_16 rfl (by decide) ?_
  refine go_csi (pc' := 20) ls_X12_135 (c_X12_isIn _ _ _ _ _) rfl rfl (Nat.le_of_ble_eq_true rfl) ⟨Nat.le_of_ble_eq_true rfl, Nat.le_of_ble_eq_true rfl⟩ ⟨rfl, rfl⟩ dX12_reads_17 rfl (fun r5 σ5 h5 => ?_)
  obtain ⟨e5, h5⟩ := h5
  have e5 := e5.symm
  subst e5
  refine go_neB (tgt := 26) (pc' := 23) h5 dX12_reads_20 rfl (by decide) (fun c6 => ?_) (fun c6 => ?_)
  · refine go_aload_n (i := 0) (pc' := 27) dX12_reads_26 rfl rfl rfl ?_
    refine go_cvi (pc' := 30) lk_X12_184 (c_X12_clashAll _ _ _ w0.1 (IM_q w0 im)) rfl rfl (Nat.le_of_ble_eq_true rfl) (by decide) rfl rfl rfl ⟨Nat.le_of_ble_eq_true rfl, Nat.le_of_ble_eq_true rfl⟩ ⟨rfl, rfl⟩ dX12_reads_27 rfl (fun r7 σ7 h7 => ?_)
    obtain ⟨u7, h7⟩ := h7
    have w7 := WM_trans w0 u7
    refine gz_if_eq (tgt := 35) (pc' := 33) dX12_reads_30 rfl (by decide) (fun c8 => ?_) (fun c8 => ?_)
    · refine go_iconst (v := 0) (pc' := 36) dX12_reads_35 rfl (by decide) ?_
      refine go_istore (pc' := 38) dX12_reads_36 rfl (by decide) ?_
      refine go_iconst (v := 0) (pc' := 39) dX12_reads_38 rfl (by decide) ?_
      refine go_istore (pc' := 41) dX12_reads_39 rfl (by decide) ?_
      have loop41_9 : ∀ (dd9 : Nat) (σ9 : ST) (x4_9 : Int32) (x5_9 : Int32), WM σ σ9 → (0 ≤ (x5_9).toInt ∧ (x5_9).toInt ≤ 12) → (12 - (x5_9).toInt).toNat = dd9 → Go F L RX12 cX12_reads 6 rm_X12_reads (some .int) (RI F L (fun _ σ2 => WM σ σ2)) σ9 41 [(0, .ref (L.2.1 13)), (1, .int a), (2, .int b), (3, .int d), (4, .int x4_9), (5, .int x5_9)] [] := by
        intro dd9
        induction dd9 using Nat.strongRecOn with
        | _ dd9 ih9 =>
          intro σ9 x4_9 x5_9 w9 h_9 hm_9
          refine go_iload (pc' := 43) dX12_reads_41 rfl rfl ?_
          refine go_aload_n (i := 0) (pc' := 44) dX12_reads_43 rfl rfl rfl ?_
          refine gf_13_letters (pc' := 47) dX12_reads_44 rfl fl_X12_142 ?_
          refine go_topq (y := σ.1 20) (w9.2.1 20 (by decide)) ?_
          have g10 := ixi_20 ix
          refine gz_icmp_ge (tgt := 78) (pc' := 50) dX12_reads_47 rfl (by decide) (fun c11 => ?_) (fun c11 => ?_)
          · refine go_iload (pc' := 80) dX12_reads_78 rfl rfl ?_
            exact go_iret dX12_reads_80 rfl (w9)
          refine go_iload (pc' := 52) dX12_reads_50 rfl rfl ?_
          refine go_aload_n (i := 0) (pc' := 53) dX12_reads_52 rfl rfl rfl ?_
          refine go_iload (pc' := 55) dX12_reads_53 rfl rfl ?_
          refine go_iload_n (i := 1) (pc' := 56) dX12_reads_55 rfl rfl rfl ?_
          refine go_iload_n (i := 2) (pc' := 57) dX12_reads_56 rfl rfl rfl ?_
          refine go_iload_n (i := 3) (pc' := 58) dX12_reads_57 rfl rfl rfl ?_
          refine go_cvi (pc' := 61) lk_X12_199 (c_X12_hasRead _ _ _ _ _ _ _ (by omega) (by omega) w9.1) rfl rfl (Nat.le_of_ble_eq_true rfl) (by decide) rfl rfl rfl ⟨Nat.le_of_ble_eq_true rfl, Nat.le_of_ble_eq_true rfl⟩ ⟨rfl, rfl⟩ dX12_reads_58 rfl (fun r12 σ12 h12 => ?_)
          have h12 := h12.symm
          subst h12
          refine gz_if_eq (tgt := 68) (pc' := 64) dX12_reads_61 rfl (by decide) (fun c13 => ?_) (fun c13 => ?_)
          · refine go_iconst (v := 0) (pc' := 69) dX12_reads_68 rfl (by decide) ?_
            refine go_iadd (pc' := 70) dX12_reads_69 rfl ?_
            refine go_topz (fun y14 h14 e14 => ?_)
            refine go_istore (pc' := 72) dX12_reads_70 rfl (by decide) ?_
            refine gz_iinc (c := 1) (pc' := 75) dX12_reads_72 rfl rfl (by decide) (by decide) (by decide) (by omega) (fun v15 h15 e15 => ?_)
            refine go_goto (tgt := 41) dX12_reads_75 (by decide) ?_
            exact go_lv (lv' := [(0, .ref (L.2.1 13)), (1, .int a), (2, .int b), (3, .int d), (4, .int y14), (5, .int v15)]) rfl (ih9 _ (by omega) σ9 y14 v15 w9 (by omega) rfl)
          refine go_iconst (v := 1) (pc' := 65) dX12_reads_64 rfl (by decide) ?_
          refine go_goto (tgt := 69) dX12_reads_65 (by decide) ?_
          refine go_iadd (pc' := 70) dX12_reads_69 rfl ?_
          refine go_topz (fun y16 h16 e16 => ?_)
          refine go_istore (pc' := 72) dX12_reads_70 rfl (by decide) ?_
          refine gz_iinc (c := 1) (pc' := 75) dX12_reads_72 rfl rfl (by decide) (by decide) (by decide) (by omega) (fun v17 h17 e17 => ?_)
          refine go_goto (tgt := 41) dX12_reads_75 (by decide) ?_
          exact go_lv (lv' := [(0, .ref (L.2.1 13)), (1, .int a), (2, .int b), (3, .int d), (4, .int y16), (5, .int v17)]) rfl (ih9 _ (by omega) σ9 y16 v17 w9 (by omega) rfl)
      exact go_lv (lv' := [(0, .ref (L.2.1 13)), (1, .int a), (2, .int b), (3, .int d), (4, .int (0 : Int32)), (5, .int (0 : Int32))]) rfl (loop41_9 _ σ7 (0 : Int32) (0 : Int32) w7 (by omega) rfl)
    refine go_iconst (v := 0) (pc' := 34) dX12_reads_33 rfl (by decide) ?_
    exact go_iret dX12_reads_34 rfl (w7)
  refine go_bipush (v := (-2)) (pc' := 25) dX12_reads_23 rfl (by decide) ?_
  exact go_iret dX12_reads_25 rfl (w0)
set_option maxHeartbeats 4000000 in
set_option maxRecDepth 100000 in
theorem c_X12_handOf (l : Launch) (L : WL) (σ : ST) (a b : Int32) (ix : IV σ) : CtI l L yX12_handOf cX12_handOf 4 (some .int) rm_X12_handOf [.ref (L.2.1 13), .int a, .int b] σ (fun r σ2 => σ2 = σ ∧ fndP (σ.2 116) (σ.2 117) (σ.1 22).toInt a b r) := by
  refine ctI_go (own := RX12) (by decide) rfl (Nat.le_of_ble_eq_true rfl) (fun F hF => ?_)
  subst hF
  have nm1 : (-1 : Int32).toInt = -1 := by decide
  have n0 : (0 : Int32).toInt = 0 := by decide
  have w0 : WM σ σ := WM_rfl ix
  refine go_iconst (v := 0) (pc' := 1) dX12_handOf_0 rfl (by decide) ?_
  refine go_istore_n (i := 3) (pc' := 2) dX12_handOf_1 rfl rfl (by decide) ?_
  have loop2_1 : ∀ (dd1 : Nat) (x3_1 : Int32), (0 ≤ (x3_1).toInt ∧ (x3_1).toInt ≤ (σ.1 22).toInt) → (∀ i : Nat, (i : Int) < (x3_1).toInt → ¬ (σ.2 116 i = a ∧ σ.2 117 i = b)) → (10 - (x3_1).toInt).toNat = dd1 → Go F L RX12 cX12_handOf 4 rm_X12_handOf (some .int) (RI F L (fun r σ2 => σ2 = σ ∧ fndP (σ.2 116) (σ.2 117) (σ.1 22).toInt a b r)) σ 2 [(0, .ref (L.2.1 13)), (1, .int a), (2, .int b), (3, .int x3_1)] [] := by
    intro dd1
    induction dd1 using Nat.strongRecOn with
    | _ dd1 ih1 =>
      intro x3_1 h_1 hn_1 hm_1
      refine go_iload_n (i := 3) (pc' := 3) dX12_handOf_2 rfl rfl rfl ?_
      refine go_aload_n (i := 0) (pc' := 4) dX12_handOf_3 rfl rfl rfl ?_
      refine gf_13_hands (pc' := 7) dX12_handOf_4 rfl fl_X12_203 ?_
      have g2 := ixi_22 ix
      refine gz_icmp_ge (tgt := 38) (pc' := 10) dX12_handOf_7 rfl (by decide) (fun c3 => ?_) (fun c3 => ?_)
      · refine go_iconst (v := (-1)) (pc' := 39) dX12_handOf_38 rfl (by decide) ?_
        exact go_iret dX12_handOf_39 rfl (⟨rfl, Or.inl ⟨by omega, fun i hi => hn_1 i (by omega)⟩⟩)
      refine go_aload_n (i := 0) (pc' := 11) dX12_handOf_10 rfl rfl rfl ?_
      refine gf_13_handLetter (pc' := 14) dX12_handOf_11 rfl fl_X12_71 ?_
      refine go_iload_n (i := 3) (pc' := 15) dX12_handOf_14 rfl rfl rfl ?_
      refine go_iald (pc' := 16) dX12_handOf_15 rfl (by decide) (by decide) rfl (vin_of (n := 10) (by omega) (by omega)) ?_
      refine go_iload_n (i := 1) (pc' := 17) dX12_handOf_16 rfl rfl rfl ?_
      refine gz_icmp_ne (tgt := 32) (pc' := 20) dX12_handOf_17 rfl (by decide) (fun c4 => ?_) (fun c4 => ?_)
      · refine gz_iinc (c := 1) (pc' := 35) dX12_handOf_32 rfl rfl (by decide) (by decide) (by decide) (by omega) (fun v5 h5 e5 => ?_)
        refine go_goto (tgt := 2) dX12_handOf_35 (by decide) ?_
        exact go_lv (lv' := [(0, .ref (L.2.1 13)), (1, .int a), (2, .int b), (3, .int v5)]) rfl (ih1 _ (by omega)  v5 (by omega) (all_step hn_1 (by omega) (by omega) (fun e => by first | exact c4 (congrArg Int32.toInt e.1) | exact c4 (congrArg Int32.toInt e.2))) rfl)
      refine go_aload_n (i := 0) (pc' := 21) dX12_handOf_20 rfl rfl rfl ?_
      refine gf_13_handName (pc' := 24) dX12_handOf_21 rfl fl_X12_74 ?_
      refine go_iload_n (i := 3) (pc' := 25) dX12_handOf_24 rfl rfl rfl ?_
      refine go_iald (pc' := 26) dX12_handOf_25 rfl (by decide) (by decide) rfl (vin_of (n := 10) (by omega) (by omega)) ?_
      refine go_iload_n (i := 2) (pc' := 27) dX12_handOf_26 rfl rfl rfl ?_
      refine gz_icmp_ne (tgt := 32) (pc' := 30) dX12_handOf_27 rfl (by decide) (fun c6 => ?_) (fun c6 => ?_)
      · refine gz_iinc (c := 1) (pc' := 35) dX12_handOf_32 rfl rfl (by decide) (by decide) (by decide) (by omega) (fun v7 h7 e7 => ?_)
        refine go_goto (tgt := 2) dX12_handOf_35 (by decide) ?_
        exact go_lv (lv' := [(0, .ref (L.2.1 13)), (1, .int a), (2, .int b), (3, .int v7)]) rfl (ih1 _ (by omega)  v7 (by omega) (all_step hn_1 (by omega) (by omega) (fun e => by first | exact c6 (congrArg Int32.toInt e.1) | exact c6 (congrArg Int32.toInt e.2))) rfl)
      refine go_iload_n (i := 3) (pc' := 31) dX12_handOf_30 rfl rfl rfl ?_
      exact go_iret dX12_handOf_31 rfl (⟨rfl, Or.inr ⟨by omega, by omega, ⟨Int32.toInt_inj.mp (by assumption), Int32.toInt_inj.mp (by assumption)⟩, hn_1⟩⟩)
  exact go_lv (lv' := [(0, .ref (L.2.1 13)), (1, .int a), (2, .int b), (3, .int (0 : Int32))]) rfl (loop2_1 _  (0 : Int32) (by have := ixi_22 ix; omega) (fun i hi => by exfalso; omega) rfl)
set_option maxHeartbeats 4000000 in
set_option maxRecDepth 100000 in
theorem c_X12_meansOf (l : Launch) (L : WL) (σ : ST) (a b : Int32) (ha : 0 ≤ a.toInt ∧ a.toInt < 12) (ix : IV σ) (im : IM σ) : CtI l L yX12_meansOf cX12_meansOf 8 (some .int) rm_X12_meansOf [.ref (L.2.1 13), .int a, .int b] σ (fun _ σ2 => WM σ σ2) := by
  refine ctI_go (own := RX12) (by decide) rfl (Nat.le_of_ble_eq_true rfl) (fun F hF => ?_)
  subst hF
  have n0 : (0 : Int32).toInt = 0 := by decide
  have n1 : (1 : Int32).toInt = 1 := by decide
  have n10 : (10 : Int32).toInt = 10 := by decide
  have w0 : WM σ σ := WM_rfl ix
  have u19 := ixi_19 ix
  have u20 := ixi_20 ix
  have u21 := ixi_21 ix
  have u22 := ixi_22 ix
  refine go_aload_n (i := 0) (pc' := 1) dX12_meansOf_0 rfl rfl rfl ?_
  refine go_iload_n (i := 1) (pc' := 2) dX12_meansOf_1 rfl rfl rfl ?_
  refine go_iload_n (i := 2) (pc' := 3) dX12_meansOf_2 rfl rfl rfl ?_
  refine go_cvi (pc' := 6) lk_X12_206 (c_X12_handOf _ _ _ _ _ w0.1) rfl rfl (Nat.le_of_ble_eq_true rfl) (by decide) rfl rfl rfl ⟨Nat.le_of_ble_eq_true rfl, Nat.le_of_ble_eq_true rfl⟩ ⟨rfl, rfl⟩ dX12_meansOf_3 rfl (fun r1 σ1 h1 => ?_)
  obtain ⟨e1, h1⟩ := h1
  have e1 := e1.symm
  subst e1
  have q1 := fndP_rng h1
  refine go_istore_n (i := 3) (pc' := 7) dX12_meansOf_6 rfl rfl (by decide) ?_
  refine go_iload_n (i := 3) (pc' := 8) dX12_meansOf_7 rfl rfl rfl ?_
  refine gz_if_lt (tgt := 23) (pc' := 11) dX12_meansOf_8 rfl (by decide) (fun c2 => ?_) (fun c2 => ?_)
  · refine go_aload_n (i := 0) (pc' := 24) dX12_meansOf_23 rfl rfl rfl ?_
    refine go_cvi (pc' := 27) lk_X12_184 (c_X12_clashAll _ _ _ w0.1 (IM_q w0 im)) rfl rfl (Nat.le_of_ble_eq_true rfl) (by decide) rfl rfl rfl ⟨Nat.le_of_ble_eq_true rfl, Nat.le_of_ble_eq_true rfl⟩ ⟨rfl, rfl⟩ dX12_meansOf_24 rfl (fun r3 σ3 h3 => ?_)
    obtain ⟨u3, h3⟩ := h3
    have w3 := WM_trans w0 u3
    refine go_istore (pc' := 29) dX12_meansOf_27 rfl (by decide) ?_
    refine go_iconst (v := 0) (pc' := 30) dX12_meansOf_29 rfl (by decide) ?_
    refine go_istore (pc' := 32) dX12_meansOf_30 rfl (by decide) ?_
    refine go_aload_n (i := 0) (pc' := 33) dX12_meansOf_32 rfl rfl rfl ?_
    refine gf_13_persons (pc' := 36) dX12_meansOf_33 rfl fl_X12_139 ?_
    refine go_topq (y := σ.1 19) (w3.2.1 19 (by decide)) ?_
    have g4 := ixi_19 ix
    refine go_iconst (v := 1) (pc' := 37) dX12_meansOf_36 rfl (by decide) ?_
    refine gz_isub (pc' := 38) dX12_meansOf_37 rfl (by omega) (fun v5 h5 e5 => ?_)
    refine go_istore (pc' := 40) dX12_meansOf_38 rfl (by decide) ?_
    have loop40_6 : ∀ (dd6 : Nat) (σ6 : ST) (x5_6 : Int32) (x6_6 : Int32), WM σ σ6 → (-1 ≤ (x6_6).toInt ∧ (x6_6).toInt ≤ 9) → ((x6_6).toInt + 1).toNat = dd6 → Go F L RX12 cX12_meansOf 8 rm_X12_meansOf (some .int) (RI F L (fun _ σ2 => WM σ σ2)) σ6 40 [(0, .ref (L.2.1 13)), (1, .int a), (2, .int b), (3, .int r1), (4, .int r3), (5, .int x5_6), (6, .int x6_6)] [] := by
      intro dd6
      induction dd6 using Nat.strongRecOn with
      | _ dd6 ih6 =>
        intro σ6 x5_6 x6_6 w6 h_6 hm_6
        refine go_iload (pc' := 42) dX12_meansOf_40 rfl rfl ?_
        refine gz_if_lt (tgt := 143) (pc' := 45) dX12_meansOf_42 rfl (by decide) (fun c7 => ?_) (fun c7 => ?_)
        · refine go_iload (pc' := 145) dX12_meansOf_143 rfl rfl ?_
          exact go_iret dX12_meansOf_145 rfl (w6)
        have mrg87_8 : ∀ (y0_8 : Int32), Go F L RX12 cX12_meansOf 8 rm_X12_meansOf (some .int) (RI F L (fun _ σ2 => WM σ σ2)) σ6 87 [(0, .ref (L.2.1 13)), (1, .int a), (2, .int b), (3, .int r1), (4, .int r3), (5, .int x5_6), (6, .int x6_6)] [.int y0_8] := by
          intro y0_8
          refine go_istore (pc' := 89) dX12_meansOf_87 rfl (by decide) ?_
          refine go_aload_n (i := 0) (pc' := 90) dX12_meansOf_89 rfl rfl rfl ?_
          refine gf_13_name (pc' := 93) dX12_meansOf_90 rfl fl_X12_9 ?_
          refine go_iload (pc' := 95) dX12_meansOf_93 rfl rfl ?_
          refine go_iald (pc' := 96) dX12_meansOf_95 rfl (by decide) (by decide) rfl (vin_of (n := 10) (by omega) (by omega)) ?_
          refine go_topq (y := (σ.2 96 (x6_6).toNatClampNeg)) (congrFun (w6.2.2 96 (by decide)) _) ?_
          refine go_iload_n (i := 2) (pc' := 97) dX12_meansOf_96 rfl rfl rfl ?_
          refine gz_icmp_ne (tgt := 137) (pc' := 100) dX12_meansOf_97 rfl (by decide) (fun c9 => ?_) (fun c9 => ?_)
          · refine gz_iinc (c := (-1)) (pc' := 140) dX12_meansOf_137 rfl rfl (by decide) (by decide) (by decide) (by omega) (fun v10 h10 e10 => ?_)
            refine go_goto (tgt := 40) dX12_meansOf_140 (by decide) ?_
            exact go_lv (lv' := [(0, .ref (L.2.1 13)), (1, .int a), (2, .int b), (3, .int r1), (4, .int r3), (5, .int x5_6), (6, .int v10)]) rfl (ih6 _ (by omega) σ6 x5_6 v10 w6 (by omega) rfl)
          refine go_aload_n (i := 0) (pc' := 101) dX12_meansOf_100 rfl rfl rfl ?_
          refine gf_13_known (pc' := 104) dX12_meansOf_101 rfl fl_X12_22 ?_
          refine go_bipush (v := 10) (pc' := 106) dX12_meansOf_104 rfl (by decide) ?_
          refine go_aload_n (i := 0) (pc' := 107) dX12_meansOf_106 rfl rfl rfl ?_
          refine gf_13_writer (pc' := 110) dX12_meansOf_107 rfl fl_X12_29 ?_
          refine go_iload_n (i := 1) (pc' := 111) dX12_meansOf_110 rfl rfl rfl ?_
          refine go_iald (pc' := 112) dX12_meansOf_111 rfl (by decide) (by decide) rfl (vin_of (n := 12) (by omega) (by omega)) ?_
          refine go_topq (y := (σ.2 102 (a).toNatClampNeg)) (congrFun (w6.2.2 102 (by decide)) _) ?_
          have g11 := ixa_102 ix (a).toNatClampNeg (vinlt (vin_of (n := 12) (by omega) (by omega)))
          refine gz_imulc (n := 10) (pc' := 113) dX12_meansOf_112 rfl (by decide) (by omega) (fun v12 h12 e12 => ?_)
          refine go_iload (pc' := 115) dX12_meansOf_113 rfl rfl ?_
          refine gz_iadd (pc' := 116) dX12_meansOf_115 rfl (by omega) (fun v13 h13 e13 => ?_)
          refine go_zald (pc' := 117) dX12_meansOf_116 rfl (by decide) (by decide) rfl (vin_of (n := 100) (by omega) (by omega)) ?_
          refine go_topq (y := (σ.2 100 (v13).toNatClampNeg)) (congrFun (w6.2.2 100 (by decide)) _) ?_
          have g14 := ixa_100 ix (v13).toNatClampNeg (vinlt (vin_of (n := 100) (by omega) (by omega)))
          refine gz_if_eq (tgt := 137) (pc' := 120) dX12_meansOf_117 rfl (by decide) (fun c15 => ?_) (fun c15 => ?_)
          · refine gz_iinc (c := (-1)) (pc' := 140) dX12_meansOf_137 rfl rfl (by decide) (by decide) (by decide) (by omega) (fun v16 h16 e16 => ?_)
            refine go_goto (tgt := 40) dX12_meansOf_140 (by decide) ?_
            exact go_lv (lv' := [(0, .ref (L.2.1 13)), (1, .int a), (2, .int b), (3, .int r1), (4, .int r3), (5, .int x5_6), (6, .int v16)]) rfl (ih6 _ (by omega) σ6 x5_6 v16 w6 (by omega) rfl)
          refine go_iload (pc' := 122) dX12_meansOf_120 rfl rfl ?_
          refine gz_if_ne (tgt := 128) (pc' := 125) dX12_meansOf_122 rfl (by decide) (fun c17 => ?_) (fun c17 => ?_)
          · refine go_aload_n (i := 0) (pc' := 129) dX12_meansOf_128 rfl rfl rfl ?_
            refine go_iload (pc' := 131) dX12_meansOf_129 rfl rfl ?_
            refine pf_13_meant (pc' := 134) dX12_meansOf_131 rfl fl_X12_209 ?_
            refine go_gen (P := WM σ) ⟨ixs_n w6.1 (by decide), Ag_setI w6.2 (by decide)⟩ (fun σ18 w18 => ?_)
            refine go_iinc (c := 1) (pc' := 137) dX12_meansOf_134 rfl rfl (by decide) (by decide) ?_
            refine gz_iinc (c := (-1)) (pc' := 140) dX12_meansOf_137 rfl rfl (by decide) (by decide) (by decide) (by omega) (fun v20 h20 e20 => ?_)
            refine go_goto (tgt := 40) dX12_meansOf_140 (by decide) ?_
            exact go_lv (lv' := [(0, .ref (L.2.1 13)), (1, .int a), (2, .int b), (3, .int r1), (4, .int r3), (5, .int (x5_6 + 1)), (6, .int v20)]) rfl (ih6 _ (by omega) σ18 (x5_6 + 1) v20 w18 (by omega) rfl)
          refine go_goto (tgt := 137) dX12_meansOf_125 (by decide) ?_
          refine gz_iinc (c := (-1)) (pc' := 140) dX12_meansOf_137 rfl rfl (by decide) (by decide) (by decide) (by omega) (fun v21 h21 e21 => ?_)
          refine go_goto (tgt := 40) dX12_meansOf_140 (by decide) ?_
          exact go_lv (lv' := [(0, .ref (L.2.1 13)), (1, .int a), (2, .int b), (3, .int r1), (4, .int r3), (5, .int x5_6), (6, .int v21)]) rfl (ih6 _ (by omega) σ6 x5_6 v21 w6 (by omega) rfl)
        refine go_iload (pc' := 47) dX12_meansOf_45 rfl rfl ?_
        refine gz_if_ne (tgt := 82) (pc' := 50) dX12_meansOf_47 rfl (by decide) (fun c22 => ?_) (fun c22 => ?_)
        · refine go_iconst (v := 1) (pc' := 83) dX12_meansOf_82 rfl (by decide) ?_
          refine go_goto (tgt := 87) dX12_meansOf_83 (by decide) ?_
          exact go_lv (lv' := [(0, .ref (L.2.1 13)), (1, .int a), (2, .int b), (3, .int r1), (4, .int r3), (5, .int x5_6), (6, .int x6_6)]) rfl (mrg87_8  (1 : Int32) )
        refine go_aload_n (i := 0) (pc' := 51) dX12_meansOf_50 rfl rfl rfl ?_
        refine gf_13_first (pc' := 54) dX12_meansOf_51 rfl fl_X12_16 ?_
        refine go_iload (pc' := 56) dX12_meansOf_54 rfl rfl ?_
        refine go_iald (pc' := 57) dX12_meansOf_56 rfl (by decide) (by decide) rfl (vin_of (n := 10) (by omega) (by omega)) ?_
        refine go_topq (y := (σ.2 98 (x6_6).toNatClampNeg)) (congrFun (w6.2.2 98 (by decide)) _) ?_
        refine go_aload_n (i := 0) (pc' := 58) dX12_meansOf_57 rfl rfl rfl ?_
        refine gf_13_high (pc' := 61) dX12_meansOf_58 rfl fl_X12_86 ?_
        refine go_iload_n (i := 1) (pc' := 62) dX12_meansOf_61 rfl rfl rfl ?_
        refine go_iald (pc' := 63) dX12_meansOf_62 rfl (by decide) (by decide) rfl (vin_of (n := 12) (by omega) (by omega)) ?_
        refine go_rngA (ixa_121 w6.1) (vinlt (vin_of (n := 12) (by omega) (by omega))) (fun g23 => ?_)
        refine gz_icmp_gt (tgt := 86) (pc' := 66) dX12_meansOf_63 rfl (by decide) (fun c24 => ?_) (fun c24 => ?_)
        · refine go_iconst (v := 0) (pc' := 87) dX12_meansOf_86 rfl (by decide) ?_
          exact go_lv (lv' := [(0, .ref (L.2.1 13)), (1, .int a), (2, .int b), (3, .int r1), (4, .int r3), (5, .int x5_6), (6, .int x6_6)]) rfl (mrg87_8  (0 : Int32) )
        refine go_aload_n (i := 0) (pc' := 67) dX12_meansOf_66 rfl rfl rfl ?_
        refine gf_13_last (pc' := 70) dX12_meansOf_67 rfl fl_X12_19 ?_
        refine go_iload (pc' := 72) dX12_meansOf_70 rfl rfl ?_
        refine go_iald (pc' := 73) dX12_meansOf_72 rfl (by decide) (by decide) rfl (vin_of (n := 10) (by omega) (by omega)) ?_
        refine go_topq (y := (σ.2 99 (x6_6).toNatClampNeg)) (congrFun (w6.2.2 99 (by decide)) _) ?_
        refine go_aload_n (i := 0) (pc' := 74) dX12_meansOf_73 rfl rfl rfl ?_
        refine gf_13_low (pc' := 77) dX12_meansOf_74 rfl fl_X12_83 ?_
        refine go_iload_n (i := 1) (pc' := 78) dX12_meansOf_77 rfl rfl rfl ?_
        refine go_iald (pc' := 79) dX12_meansOf_78 rfl (by decide) (by decide) rfl (vin_of (n := 12) (by omega) (by omega)) ?_
        refine go_rngA (ixa_120 w6.1) (vinlt (vin_of (n := 12) (by omega) (by omega))) (fun g25 => ?_)
        refine gz_icmp_lt (tgt := 86) (pc' := 82) dX12_meansOf_79 rfl (by decide) (fun c26 => ?_) (fun c26 => ?_)
        · refine go_iconst (v := 0) (pc' := 87) dX12_meansOf_86 rfl (by decide) ?_
          exact go_lv (lv' := [(0, .ref (L.2.1 13)), (1, .int a), (2, .int b), (3, .int r1), (4, .int r3), (5, .int x5_6), (6, .int x6_6)]) rfl (mrg87_8  (0 : Int32) )
        refine go_iconst (v := 1) (pc' := 83) dX12_meansOf_82 rfl (by decide) ?_
        refine go_goto (tgt := 87) dX12_meansOf_83 (by decide) ?_
        exact go_lv (lv' := [(0, .ref (L.2.1 13)), (1, .int a), (2, .int b), (3, .int r1), (4, .int r3), (5, .int x5_6), (6, .int x6_6)]) rfl (mrg87_8  (1 : Int32) )
    exact go_lv (lv' := [(0, .ref (L.2.1 13)), (1, .int a), (2, .int b), (3, .int r1), (4, .int r3), (5, .int (0 : Int32)), (6, .int v5)]) rfl (loop40_6 _ σ3 (0 : Int32) v5 w3 (by omega) rfl)
  refine go_aload_n (i := 0) (pc' := 12) dX12_meansOf_11 rfl rfl rfl ?_
  refine go_aload_n (i := 0) (pc' := 13) dX12_meansOf_12 rfl rfl rfl ?_
  refine gf_13_handPerson (pc' := 16) dX12_meansOf_13 rfl fl_X12_77 ?_
  refine go_iload_n (i := 3) (pc' := 17) dX12_meansOf_16 rfl rfl rfl ?_
  refine go_iald (pc' := 18) dX12_meansOf_17 rfl (by decide) (by decide) rfl (vin_of (n := 10) (by omega) (by omega)) ?_
  have g27 := ixa_118 ix (r1).toNatClampNeg (vinlt (vin_of (n := 10) (by omega) (by omega)))
  refine pf_13_meant (pc' := 21) dX12_meansOf_18 rfl fl_X12_209 ?_
  refine go_gen (P := WM σ) ⟨ixs_n w0.1 (by decide), Ag_setI w0.2 (by decide)⟩ (fun σ28 w28 => ?_)
  refine go_iconst (v := 1) (pc' := 22) dX12_meansOf_21 rfl (by decide) ?_
  exact go_iret dX12_meansOf_22 rfl (w28)
set_option maxHeartbeats 4000000 in
set_option maxRecDepth 100000 in
theorem c_X12_means (l : Launch) (L : WL) (σ : ST) (a b : Int32) (ix : IV σ) (im : IM σ) : CtI l L yX12_means cX12_means 3 (some .int) rm_X12_means [.ref (L.2.1 13), .int a, .int b] σ (fun _ σ2 => WM σ σ2) := by
  refine ctI_go (own := RX12) (by decide) rfl (Nat.le_of_ble_eq_true rfl) (fun F hF => ?_)
  subst hF
  have nm2 : (-2 : Int32).toInt = -2 := by decide
  have n1 : (1 : Int32).toInt = 1 := by decide
  have n99 : (99 : Int32).toInt = 99 := by decide
  have w0 : WM σ σ := WM_rfl ix
  have u19 := ixi_19 ix
  have u20 := ixi_20 ix
  have u21 := ixi_21 ix
  have u22 := ixi_22 ix
  refine go_aload_n (i := 0) (pc' := 1) dX12_means_0 rfl rfl rfl ?_
  refine go_iload_n (i := 1) (pc' := 2) dX12_means_1 rfl rfl rfl ?_
  refine go_cvi (pc' := 5) lk_X12_152 (c_X12_isLetter _ _ _ _) rfl rfl (Nat.le_of_ble_eq_true rfl) (by decide) rfl rfl rfl ⟨Nat.le_of_ble_eq_true rfl, Nat.le_of_ble_eq_true rfl⟩ ⟨rfl, rfl⟩ dX12_means_2 rfl (fun r1 σ1 h1 => ?_)
  obtain ⟨e1, h1⟩ := h1
  have e1 := e1.symm
  subst e1
  refine go_eqB (tgt := 28) (pc' := 8) h1 dX12_means_5 rfl (by decide) (fun c2 => ?_) (fun c2 => ?_)
  · refine go_bipush (v := (-2)) (pc' := 30) dX12_means_28 rfl (by decide) ?_
    exact go_iret dX12_means_30 rfl (w0)
  refine go_iload_n (i := 2) (pc' := 9) dX12_means_8 rfl rfl rfl ?_
  refine go_iconst (v := 1) (pc' := 10) dX12_means_9 rfl (by decide) ?_
  refine go_isub (pc' := 11) dX12_means_10 rfl ?_
  refine go_bipush (v := 99) (pc' := 13) dX12_means_11 rfl (by decide) ?_
  refine go_csi (pc' := 16) ls_X12_135 (c_X12_isIn _ _ _ _ _) rfl rfl (Nat.le_of_ble_eq_true rfl) ⟨Nat.le_of_ble_eq_true rfl, Nat.le_of_ble_eq_true rfl⟩ ⟨rfl, rfl⟩ dX12_means_13 rfl (fun r3 σ3 h3 => ?_)
  obtain ⟨e3, h3⟩ := h3
  have e3 := e3.symm
  subst e3
  refine go_eqB (tgt := 28) (pc' := 19) h3 dX12_means_16 rfl (by decide) (fun c4 => ?_) (fun c4 => ?_)
  · refine go_bipush (v := (-2)) (pc' := 30) dX12_means_28 rfl (by decide) ?_
    exact go_iret dX12_means_30 rfl (w0)
  refine go_aload_n (i := 0) (pc' := 20) dX12_means_19 rfl rfl rfl ?_
  refine go_iload_n (i := 1) (pc' := 21) dX12_means_20 rfl rfl rfl ?_
  refine go_iload_n (i := 2) (pc' := 22) dX12_means_21 rfl rfl rfl ?_
  refine go_cvi (pc' := 25) lk_X12_212 (c_X12_meansOf _ _ _ _ _ (by omega) w0.1 (IM_q w0 im)) rfl rfl (Nat.le_of_ble_eq_true rfl) (by decide) rfl rfl rfl ⟨Nat.le_of_ble_eq_true rfl, Nat.le_of_ble_eq_true rfl⟩ ⟨rfl, rfl⟩ dX12_means_22 rfl (fun r5 σ5 h5 => ?_)
  have w5 := WM_trans w0 h5
  refine go_goto (tgt := 30) dX12_means_25 (by decide) ?_
  exact go_iret dX12_means_30 rfl (w5)
set_option maxHeartbeats 4000000 in
set_option maxRecDepth 100000 in
theorem c_X12_who (l : Launch) (L : WL) (σ : ST) (a b : Int32) (ix : IV σ) (im : IM σ) : CtI l L yX12_who cX12_who 3 (some .int) rm_X12_who [.ref (L.2.1 13), .int a, .int b] σ (fun _ σ2 => WM σ σ2) := by
  refine ctI_go (own := RX12) (by decide) rfl (Nat.le_of_ble_eq_true rfl) (fun F hF => ?_)
  subst hF
  have nm2 : (-2 : Int32).toInt = -2 := by decide
  have nm1 : (-1 : Int32).toInt = -1 := by decide
  have n1 : (1 : Int32).toInt = 1 := by decide
  have n99 : (99 : Int32).toInt = 99 := by decide
  have w0 : WM σ σ := WM_rfl ix
  have u19 := ixi_19 ix
  have u20 := ixi_20 ix
  have u21 := ixi_21 ix
  have u22 := ixi_22 ix
  refine go_aload_n (i := 0) (pc' := 1) dX12_who_0 rfl rfl rfl ?_
  refine go_iload_n (i := 1) (pc' := 2) dX12_who_1 rfl rfl rfl ?_
  refine go_cvi (pc' := 5) lk_X12_152 (c_X12_isLetter _ _ _ _) rfl rfl (Nat.le_of_ble_eq_true rfl) (by decide) rfl rfl rfl ⟨Nat.le_of_ble_eq_true rfl, Nat.le_of_ble_eq_true rfl⟩ ⟨rfl, rfl⟩ dX12_who_2 rfl (fun r1 σ1 h1 => ?_)
  obtain ⟨e1, h1⟩ := h1
  have e1 := e1.symm
  subst e1
  refine go_eqB (tgt := 19) (pc' := 8) h1 dX12_who_5 rfl (by decide) (fun c2 => ?_) (fun c2 => ?_)
  · refine go_bipush (v := (-2)) (pc' := 21) dX12_who_19 rfl (by decide) ?_
    exact go_iret dX12_who_21 rfl (w0)
  refine go_iload_n (i := 2) (pc' := 9) dX12_who_8 rfl rfl rfl ?_
  refine go_iconst (v := 1) (pc' := 10) dX12_who_9 rfl (by decide) ?_
  refine go_isub (pc' := 11) dX12_who_10 rfl ?_
  refine go_bipush (v := 99) (pc' := 13) dX12_who_11 rfl (by decide) ?_
  refine go_csi (pc' := 16) ls_X12_135 (c_X12_isIn _ _ _ _ _) rfl rfl (Nat.le_of_ble_eq_true rfl) ⟨Nat.le_of_ble_eq_true rfl, Nat.le_of_ble_eq_true rfl⟩ ⟨rfl, rfl⟩ dX12_who_13 rfl (fun r3 σ3 h3 => ?_)
  obtain ⟨e3, h3⟩ := h3
  have e3 := e3.symm
  subst e3
  refine go_neB (tgt := 22) (pc' := 19) h3 dX12_who_16 rfl (by decide) (fun c4 => ?_) (fun c4 => ?_)
  · refine go_aload_n (i := 0) (pc' := 23) dX12_who_22 rfl rfl rfl ?_
    refine go_iload_n (i := 1) (pc' := 24) dX12_who_23 rfl rfl rfl ?_
    refine go_iload_n (i := 2) (pc' := 25) dX12_who_24 rfl rfl rfl ?_
    refine go_cvi (pc' := 28) lk_X12_212 (c_X12_meansOf _ _ _ _ _ (by omega) w0.1 (IM_q w0 im)) rfl rfl (Nat.le_of_ble_eq_true rfl) (by decide) rfl rfl rfl ⟨Nat.le_of_ble_eq_true rfl, Nat.le_of_ble_eq_true rfl⟩ ⟨rfl, rfl⟩ dX12_who_25 rfl (fun r5 σ5 h5 => ?_)
    have w5 := WM_trans w0 h5
    refine go_iconst (v := 1) (pc' := 29) dX12_who_28 rfl (by decide) ?_
    refine gz_icmp_ne (tgt := 39) (pc' := 32) dX12_who_29 rfl (by decide) (fun c6 => ?_) (fun c6 => ?_)
    · refine go_iconst (v := (-1)) (pc' := 40) dX12_who_39 rfl (by decide) ?_
      exact go_iret dX12_who_40 rfl (w5)
    refine go_aload_n (i := 0) (pc' := 33) dX12_who_32 rfl rfl rfl ?_
    refine gf_13_meant (pc' := 36) dX12_who_33 rfl fl_X12_209 ?_
    refine go_goto (tgt := 40) dX12_who_36 (by decide) ?_
    exact go_iret dX12_who_40 rfl (w5)
  refine go_bipush (v := (-2)) (pc' := 21) dX12_who_19 rfl (by decide) ?_
  exact go_iret dX12_who_21 rfl (w0)
set_option maxHeartbeats 4000000 in
set_option maxRecDepth 100000 in
theorem c_X12_told (l : Launch) (L : WL) (σ : ST) (a b : Int32) (ix : IV σ) : CtI l L yX12_told cX12_told 3 (some .int) rm_X12_told [.ref (L.2.1 13), .int a, .int b] σ (fun _ σ2 => σ2 = σ) := by
  refine ctI_go (own := RX12) (by decide) rfl (Nat.le_of_ble_eq_true rfl) (fun F hF => ?_)
  subst hF
  have nm2 : (-2 : Int32).toInt = -2 := by decide
  have w0 : WM σ σ := WM_rfl ix
  have u19 := ixi_19 ix
  have u20 := ixi_20 ix
  have u21 := ixi_21 ix
  have u22 := ixi_22 ix
  refine go_aload_n (i := 0) (pc' := 1) dX12_told_0 rfl rfl rfl ?_
  refine go_iload_n (i := 1) (pc' := 2) dX12_told_1 rfl rfl rfl ?_
  refine go_cvi (pc' := 5) lk_X12_152 (c_X12_isLetter _ _ _ _) rfl rfl (Nat.le_of_ble_eq_true rfl) (by decide) rfl rfl rfl ⟨Nat.le_of_ble_eq_true rfl, Nat.le_of_ble_eq_true rfl⟩ ⟨rfl, rfl⟩ dX12_told_2 rfl (fun r1 σ1 h1 => ?_)
  obtain ⟨e1, h1⟩ := h1
  have e1 := e1.symm
  subst e1
  refine go_neB (tgt := 11) (pc' := 8) h1 dX12_told_5 rfl (by decide) (fun c2 => ?_) (fun c2 => ?_)
  · refine go_iload_n (i := 2) (pc' := 12) dX12_told_11 rfl rfl rfl ?_
    have hx3 : b = 0 ∨ b = 1 ∨ b = 2 ∨ b = 3 ∨ b = 4 ∨ b = 5 ∨ b = 6 ∨ b = 7 ∨ b = 8 ∨ ¬ (0 ≤ b.toInt ∧ b.toInt ≤ 8) := by
      simp only [← Int32.toInt_inj, Int32.reduceToInt]
      omega
    rcases hx3 with z3 | z3 | z3 | z3 | z3 | z3 | z3 | z3 | z3 | z3
    · refine go_swIn (tgt := 64) dX12_told_12 (by rw [z3]; decide) (by rw [z3]; decide) (by rw [z3]; rfl) (by decide) ?_
      refine go_aload_n (i := 0) (pc' := 65) dX12_told_64 rfl rfl rfl ?_
      refine gf_13_kind (pc' := 68) dX12_told_65 rfl fl_X12_26 ?_
      refine go_iload_n (i := 1) (pc' := 69) dX12_told_68 rfl rfl rfl ?_
      refine go_iald (pc' := 70) dX12_told_69 rfl (by decide) (by decide) rfl (vin_of (n := 12) (by omega) (by omega)) ?_
      have g4 := ixa_101 ix (a).toNatClampNeg (vinlt (vin_of (n := 12) (by omega) (by omega)))
      exact go_iret dX12_told_70 rfl (rfl)
    · refine go_swIn (tgt := 71) dX12_told_12 (by rw [z3]; decide) (by rw [z3]; decide) (by rw [z3]; rfl) (by decide) ?_
      refine go_aload_n (i := 0) (pc' := 72) dX12_told_71 rfl rfl rfl ?_
      refine gf_13_writer (pc' := 75) dX12_told_72 rfl fl_X12_29 ?_
      refine go_iload_n (i := 1) (pc' := 76) dX12_told_75 rfl rfl rfl ?_
      refine go_iald (pc' := 77) dX12_told_76 rfl (by decide) (by decide) rfl (vin_of (n := 12) (by omega) (by omega)) ?_
      have g5 := ixa_102 ix (a).toNatClampNeg (vinlt (vin_of (n := 12) (by omega) (by omega)))
      exact go_iret dX12_told_77 rfl (rfl)
    · refine go_swIn (tgt := 78) dX12_told_12 (by rw [z3]; decide) (by rw [z3]; decide) (by rw [z3]; rfl) (by decide) ?_
      refine go_aload_n (i := 0) (pc' := 79) dX12_told_78 rfl rfl rfl ?_
      refine gf_13_reader (pc' := 82) dX12_told_79 rfl fl_X12_32 ?_
      refine go_iload_n (i := 1) (pc' := 83) dX12_told_82 rfl rfl rfl ?_
      refine go_iald (pc' := 84) dX12_told_83 rfl (by decide) (by decide) rfl (vin_of (n := 12) (by omega) (by omega)) ?_
      have g6 := ixa_103 ix (a).toNatClampNeg (vinlt (vin_of (n := 12) (by omega) (by omega)))
      exact go_iret dX12_told_84 rfl (rfl)
    · refine go_swIn (tgt := 85) dX12_told_12 (by rw [z3]; decide) (by rw [z3]; decide) (by rw [z3]; rfl) (by decide) ?_
      refine go_aload_n (i := 0) (pc' := 86) dX12_told_85 rfl rfl rfl ?_
      refine gf_13_place (pc' := 89) dX12_told_86 rfl fl_X12_35 ?_
      refine go_iload_n (i := 1) (pc' := 90) dX12_told_89 rfl rfl rfl ?_
      refine go_iald (pc' := 91) dX12_told_90 rfl (by decide) (by decide) rfl (vin_of (n := 12) (by omega) (by omega)) ?_
      have g7 := ixa_104 ix (a).toNatClampNeg (vinlt (vin_of (n := 12) (by omega) (by omega)))
      exact go_iret dX12_told_91 rfl (rfl)
    · refine go_swIn (tgt := 92) dX12_told_12 (by rw [z3]; decide) (by rw [z3]; decide) (by rw [z3]; rfl) (by decide) ?_
      refine go_aload_n (i := 0) (pc' := 93) dX12_told_92 rfl rfl rfl ?_
      refine gf_13_least (pc' := 96) dX12_told_93 rfl fl_X12_38 ?_
      refine go_iload_n (i := 1) (pc' := 97) dX12_told_96 rfl rfl rfl ?_
      refine go_iald (pc' := 98) dX12_told_97 rfl (by decide) (by decide) rfl (vin_of (n := 12) (by omega) (by omega)) ?_
      have g8 := ixa_105 ix (a).toNatClampNeg (vinlt (vin_of (n := 12) (by omega) (by omega)))
      exact go_iret dX12_told_98 rfl (rfl)
    · refine go_swIn (tgt := 99) dX12_told_12 (by rw [z3]; decide) (by rw [z3]; decide) (by rw [z3]; rfl) (by decide) ?_
      refine go_aload_n (i := 0) (pc' := 100) dX12_told_99 rfl rfl rfl ?_
      refine gf_13_most (pc' := 103) dX12_told_100 rfl fl_X12_41 ?_
      refine go_iload_n (i := 1) (pc' := 104) dX12_told_103 rfl rfl rfl ?_
      refine go_iald (pc' := 105) dX12_told_104 rfl (by decide) (by decide) rfl (vin_of (n := 12) (by omega) (by omega)) ?_
      have g9 := ixa_106 ix (a).toNatClampNeg (vinlt (vin_of (n := 12) (by omega) (by omega)))
      exact go_iret dX12_told_105 rfl (rfl)
    · refine go_swIn (tgt := 106) dX12_told_12 (by rw [z3]; decide) (by rw [z3]; decide) (by rw [z3]; rfl) (by decide) ?_
      refine go_aload_n (i := 0) (pc' := 107) dX12_told_106 rfl rfl rfl ?_
      refine gf_13_week (pc' := 110) dX12_told_107 rfl fl_X12_44 ?_
      refine go_iload_n (i := 1) (pc' := 111) dX12_told_110 rfl rfl rfl ?_
      refine go_iald (pc' := 112) dX12_told_111 rfl (by decide) (by decide) rfl (vin_of (n := 12) (by omega) (by omega)) ?_
      have g10 := ixa_107 ix (a).toNatClampNeg (vinlt (vin_of (n := 12) (by omega) (by omega)))
      exact go_iret dX12_told_112 rfl (rfl)
    · refine go_swIn (tgt := 113) dX12_told_12 (by rw [z3]; decide) (by rw [z3]; decide) (by rw [z3]; rfl) (by decide) ?_
      refine go_aload_n (i := 0) (pc' := 114) dX12_told_113 rfl rfl rfl ?_
      refine gf_13_is (pc' := 117) dX12_told_114 rfl fl_X12_47 ?_
      refine go_iload_n (i := 1) (pc' := 118) dX12_told_117 rfl rfl rfl ?_
      refine go_iald (pc' := 119) dX12_told_118 rfl (by decide) (by decide) rfl (vin_of (n := 12) (by omega) (by omega)) ?_
      have g11 := ixa_108 ix (a).toNatClampNeg (vinlt (vin_of (n := 12) (by omega) (by omega)))
      exact go_iret dX12_told_119 rfl (rfl)
    · refine go_swIn (tgt := 120) dX12_told_12 (by rw [z3]; decide) (by rw [z3]; decide) (by rw [z3]; rfl) (by decide) ?_
      refine go_aload_n (i := 0) (pc' := 121) dX12_told_120 rfl rfl rfl ?_
      refine gf_13_length (pc' := 124) dX12_told_121 rfl fl_X12_50 ?_
      refine go_iload_n (i := 1) (pc' := 125) dX12_told_124 rfl rfl rfl ?_
      refine go_iald (pc' := 126) dX12_told_125 rfl (by decide) (by decide) rfl (vin_of (n := 12) (by omega) (by omega)) ?_
      have g12 := ixa_109 ix (a).toNatClampNeg (vinlt (vin_of (n := 12) (by omega) (by omega)))
      exact go_iret dX12_told_126 rfl (rfl)
    · refine go_swOut (tgt := 127) dX12_told_12 (by omega) (by decide) ?_
      refine go_bipush (v := (-2)) (pc' := 129) dX12_told_127 rfl (by decide) ?_
      exact go_iret dX12_told_129 rfl (rfl)
  refine go_bipush (v := (-2)) (pc' := 10) dX12_told_8 rfl (by decide) ?_
  exact go_iret dX12_told_10 rfl (rfl)
set_option maxHeartbeats 4000000 in
set_option maxRecDepth 100000 in
theorem c_X12_fault (l : Launch) (L : WL) (σ : ST) (a : Int32) (ix : IV σ) : CtI l L yX12_fault cX12_fault 2 (some .int) rm_X12_fault [.ref (L.2.1 13), .int a] σ (fun _ σ2 => σ2 = σ) := by
  refine ctI_go (own := RX12) (by decide) rfl (Nat.le_of_ble_eq_true rfl) (fun F hF => ?_)
  subst hF
  have nm2 : (-2 : Int32).toInt = -2 := by decide
  have n1 : (1 : Int32).toInt = 1 := by decide
  have w0 : WM σ σ := WM_rfl ix
  refine go_iload_n (i := 1) (pc' := 1) dX12_fault_0 rfl rfl rfl ?_
  refine gz_if_ne (tgt := 11) (pc' := 4) dX12_fault_1 rfl (by decide) (fun c1 => ?_) (fun c1 => ?_)
  · refine go_iload_n (i := 1) (pc' := 12) dX12_fault_11 rfl rfl rfl ?_
    refine go_iconst (v := 1) (pc' := 13) dX12_fault_12 rfl (by decide) ?_
    refine gz_icmp_ne (tgt := 23) (pc' := 16) dX12_fault_13 rfl (by decide) (fun c2 => ?_) (fun c2 => ?_)
    · refine go_bipush (v := (-2)) (pc' := 25) dX12_fault_23 rfl (by decide) ?_
      exact go_iret dX12_fault_25 rfl (rfl)
    refine go_aload_n (i := 0) (pc' := 17) dX12_fault_16 rfl rfl rfl ?_
    refine gf_13_faultAt (pc' := 20) dX12_fault_17 rfl fl_X12_92 ?_
    refine go_goto (tgt := 25) dX12_fault_20 (by decide) ?_
    exact go_iret dX12_fault_25 rfl (rfl)
  refine go_aload_n (i := 0) (pc' := 5) dX12_fault_4 rfl rfl rfl ?_
  refine gf_13_faultKind (pc' := 8) dX12_fault_5 rfl fl_X12_236 ?_
  refine go_goto (tgt := 25) dX12_fault_8 (by decide) ?_
  exact go_iret dX12_fault_25 rfl (rfl)
