/-- who knows whom: bits of the class, rows of the reference; nobody yet for PERSONS that are not there -/
def KB (σ : ST) : Prop := (∀ a : Nat, a < 10 → 0 ≤ (σ.2 23 a).toInt ∧ (σ.2 23 a).toInt < 1024) ∧ (∀ a b : Nat, a < 10 → b < 10 → (σ.2 100 (10 * a + b)).toInt = if ((σ.2 23 a).toNatClampNeg).testBit b = true then 1 else 0) ∧ ∀ a : Nat, (σ.1 2).toInt ≤ (a : Int) → a < 10 → σ.2 23 a = 0
theorem KB_e {σ σ2 : ST} (h1 : σ2.1 2 = σ.1 2) (h2 : σ2.2 23 = σ.2 23) (h3 : σ2.2 100 = σ.2 100) (kb : KB σ) : KB σ2 := by
  unfold KB
  rw [h1, h2, h3]
  exact kb
theorem KB_WX {σ σ2 : ST} (h : WX σ σ2) (kb : KB σ) : KB σ2 := KB_e (h.2.1 2 (by decide)) (h.2.2 23 (by decide)) (h.2.2 100 (by decide)) kb
theorem KB_WM {σ σ2 : ST} (h : WM σ σ2) (kb : KB σ) : KB σ2 := KB_e (h.2.1 2 (by decide)) (h.2.2 23 (by decide)) (h.2.2 100 (by decide)) kb
theorem ks_all : ∀ p : Fin 1024, ∀ b : Fin 10, (Int32.ofNat p.val ||| ((1 : Int32) <<< (Int32.ofNat b.val &&& 31))) = Int32.ofNat (p.val ||| 2 ^ b.val) ∧ (p.val ||| 2 ^ b.val) < 1024 ∧ ((p.val ||| 2 ^ b.val) == p.val) = p.val.testBit b.val := by decide +kernel
theorem kc_all : ∀ p : Fin 1024, ∀ b : Fin 10, (Int32.ofNat p.val &&& (((1 : Int32) <<< (Int32.ofNat b.val &&& 31)) ^^^ (-1))) = Int32.ofNat (p.val &&& (1023 - 2 ^ b.val)) ∧ (p.val &&& (1023 - 2 ^ b.val)) < 1024 ∧ ((p.val &&& (1023 - 2 ^ b.val)) == p.val) = !p.val.testBit b.val := by decide +kernel
theorem kt_all : ∀ b : Fin 10, ∀ j : Fin 10, (1023 - 2 ^ b.val).testBit j.val = !decide (j.val = b.val) := by decide +kernel
/-- what the class has told, as a number -/
theorem told_n {k b d : Int32} (hk : 0 ≤ k.toInt ∧ k.toInt < 1024) (hb : 0 ≤ b.toInt ∧ b.toInt < 10) (hd : d = 0 ∨ d = 1) : ∃ q : Nat, toldX k b d = Int32.ofNat q ∧ q < 1024 ∧ (∀ j : Nat, j < 10 → q.testBit j = if j = b.toNatClampNeg then decide (d = 1) else k.toNatClampNeg.testBit j) ∧ (q = k.toNatClampNeg ↔ k.toNatClampNeg.testBit b.toNatClampNeg = decide (d = 1)) := by
  have ck := cnat hk.1
  have cb := cnat hb.1
  have s := ks_all ⟨k.toNatClampNeg, by omega⟩ ⟨b.toNatClampNeg, by omega⟩
  have c := kc_all ⟨k.toNatClampNeg, by omega⟩ ⟨b.toNatClampNeg, by omega⟩
  rw [of_nat hk.1, of_nat hb.1] at s c
  rcases hd with rfl | rfl
  · refine ⟨k.toNatClampNeg &&& (1023 - 2 ^ b.toNatClampNeg), ?_, c.2.1, fun j hj => ?_, ?_⟩
    · unfold toldX
      rw [if_pos (by decide)]
      exact c.1
    · have t := kt_all ⟨b.toNatClampNeg, by omega⟩ ⟨j, hj⟩
      have t2 : (1023 - 2 ^ b.toNatClampNeg).testBit j = !decide (j = b.toNatClampNeg) := t
      rw [Nat.testBit_and, t2]
      by_cases e : j = b.toNatClampNeg
      · simp [e]
      · simp [e]
    · have c3 : ((k.toNatClampNeg &&& (1023 - 2 ^ b.toNatClampNeg)) == k.toNatClampNeg) = !k.toNatClampNeg.testBit b.toNatClampNeg := c.2.2
      rw [show decide ((0 : Int32) = 1) = false from by decide]
      cases ht : k.toNatClampNeg.testBit b.toNatClampNeg
      · rw [ht] at c3
        simp at c3
        simp [c3]
      · rw [ht] at c3
        simp at c3
        simp [c3]
  · refine ⟨k.toNatClampNeg ||| 2 ^ b.toNatClampNeg, ?_, s.2.1, fun j hj => ?_, ?_⟩
    · unfold toldX
      rw [if_neg (by decide)]
      exact s.1
    · rw [Nat.testBit_or, Nat.testBit_two_pow]
      by_cases e : j = b.toNatClampNeg
      · simp [e]
      · simp [e, Ne.symm e]
    · have s3 : ((k.toNatClampNeg ||| 2 ^ b.toNatClampNeg) == k.toNatClampNeg) = k.toNatClampNeg.testBit b.toNatClampNeg := s.2.2
      rw [show decide ((1 : Int32) = 1) = true from by decide]
      cases ht : k.toNatClampNeg.testBit b.toNatClampNeg
      · rw [ht] at s3
        simp at s3
        simp [s3]
      · rw [ht] at s3
        simp at s3
        simp [s3]
theorem k_person {σ σ1 σ2 : ST} {n q r1 r2 : Int32} (h : INV σ) (kb : KB σ) (s : sX_person σ n q r1 σ1) (m : sM_person σ1 n q r2 σ2) : KB σ2 := by
  obtain ⟨iv, im, tv, rr⟩ := h
  have g2 := ixi_2 iv
  have kx : KB σ1 := by
    rcases s with ⟨c1, ⟨c2, y1, z1⟩ | ⟨c2, y1, z1⟩⟩ | ⟨c1, y1, z1⟩
    · rw [z1]
      exact kb
    · have p2 := inc1 (x := σ.1 2) (by omega)
      have cn := cnat (x := σ.1 2) (by omega)
      have e : upd (σ.2 23) (σ.1 2).toNatClampNeg 0 = σ.2 23 := upd_id (kb.2.2 _ (by omega) (by omega))
      have e1 : σ1.1 2 = σ.1 2 + 1 := by rw [z1]; rfl
      have e2 : σ1.2 23 = σ.2 23 := by rw [z1]; exact e
      have e3 : σ1.2 100 = σ.2 100 := by rw [z1]; rfl
      unfold KB
      rw [e1, e2, e3]
      exact ⟨kb.1, kb.2.1, fun a ha => kb.2.2 a (by omega)⟩
    · rw [z1]
      exact kb
  rcases m with ⟨d1, y2, z2⟩ | ⟨⟨d1, d2⟩, y2, z2⟩ | ⟨⟨d1, d2⟩, y2, z2⟩
  · rw [z2]
    exact kx
  · rw [z2]
    exact kx
  · rw [z2]
    exact KB_e rfl rfl rfl kx
theorem k_knows {σ σ1 σ2 : ST} {a b d r1 r2 : Int32} (hd : d = 0 ∨ d = 1) (h : INV σ) (kb : KB σ) (s : sX_knows σ a b d r1 σ1) (m : sM_knows σ1 a b d r2 σ2) : KB σ2 ∧ r1 = r2 := by
  obtain ⟨iv, im, tv, rr⟩ := h
  have g2 := ixi_2 iv
  have i2 := congrArg Int32.toInt rr.1
  rcases s with ⟨c1, y1, z1⟩ | ⟨c1, y1, z1⟩
  · have k19 : σ1.1 19 = σ.1 19 := by rw [z1]; rfl
    have k19i := congrArg Int32.toInt k19
    have k100 : σ1.2 100 = σ.2 100 := by rw [z1]; rfl
    have k23 : σ1.2 23 = upd (σ.2 23) (a).toNatClampNeg (toldX (σ.2 23 (a).toNatClampNeg) b d) := by rw [z1]; rfl
    have k2 : σ1.1 2 = σ.1 2 := by rw [z1]; rfl
    have ca := cnat (x := a) (by omega)
    have cb := cnat (x := b) (by omega)
    rcases m with ⟨d1, y2, z2⟩ | ⟨d1, y2, z2⟩
    · exfalso
      omega
    · have hk := kb.1 (a).toNatClampNeg (by omega)
      obtain ⟨q, q1, q2, q3, q4⟩ := told_n hk (show 0 ≤ b.toInt ∧ b.toInt < 10 by omega) hd
      have bit := kb.2.1 (a).toNatClampNeg (b).toNatClampNeg (by omega) (by omega)
      have e23 : σ2.2 23 = upd (σ.2 23) (a).toNatClampNeg (Int32.ofNat q) := by rw [z2, ← q1]; exact k23
      have e100 : σ2.2 100 = upd (σ.2 100) (10 * (a).toNatClampNeg + (b).toNatClampNeg) d := by
        rw [z2, ← k100]
        exact setA_same _ _ _ _
      have e2 : σ2.1 2 = σ.1 2 := by rw [z2]; exact k2
      have vq : (Int32.ofNat q).toInt = q := ofN_toInt (by omega)
      have vn : (Int32.ofNat q).toNatClampNeg = q := by
        have z : (Int32.ofNat q).toNatClampNeg = (Int32.ofNat q).toInt.toNat := rfl
        rw [z, vq]
        rfl
      have dv : d.toInt = if decide (d = 1) = true then 1 else 0 := by rcases hd with rfl | rfl <;> decide
      refine ⟨?_, ?_⟩
      · unfold KB
        rw [e23, e100, e2]
        refine ⟨fun i hi => ?_, fun i j hi hj => ?_, fun i h1 h2 => ?_⟩
        · rcases upd_v (σ.2 23) (a).toNatClampNeg (Int32.ofNat q) i with ⟨e, -⟩ | ⟨e, -⟩
          · rw [e, vq]
            omega
          · rw [e]
            exact kb.1 i hi
        · rcases upd_v (σ.2 23) (a).toNatClampNeg (Int32.ofNat q) i with ⟨e, e1⟩ | ⟨e, e1⟩
          · rw [e, vn, q3 j hj, e1]
            rcases upd_v (σ.2 100) (10 * (a).toNatClampNeg + (b).toNatClampNeg) d (10 * (a).toNatClampNeg + j) with ⟨f, f1⟩ | ⟨f, f1⟩
            · rw [f, if_pos (show j = (b).toNatClampNeg by omega)]
              exact dv
            · rw [f, if_neg (show ¬ j = (b).toNatClampNeg by omega)]
              exact kb.2.1 _ j (by omega) hj
          · rw [e]
            rcases upd_v (σ.2 100) (10 * (a).toNatClampNeg + (b).toNatClampNeg) d (10 * i + j) with ⟨f, f1⟩ | ⟨f, f1⟩
            · exfalso
              omega
            · rw [f]
              exact kb.2.1 i j hi hj
        · rcases upd_v (σ.2 23) (a).toNatClampNeg (Int32.ofNat q) i with ⟨e, e1⟩ | ⟨e, e1⟩
          · exfalso
            omega
          · rw [e]
            exact kb.2.2 i h1 h2
      · rw [k100, bit] at y2
        have same : toldX (σ.2 23 (a).toNatClampNeg) b d = σ.2 23 (a).toNatClampNeg ↔ (σ.2 23 (a).toNatClampNeg).toNatClampNeg.testBit (b).toNatClampNeg = decide (d = 1) := by
          rw [← q4, q1]
          constructor
          · intro z
            rw [← z, vn]
          · intro z
            rw [z]
            exact of_nat hk.1
        rw [dv] at y2
        rcases y1 with ⟨f1, f2⟩ | ⟨f1, f2⟩ <;> rcases y2 with ⟨g1, g2⟩ | ⟨g1, g2⟩
        · exfalso
          refine f2 (same.mpr ?_)
          cases ht : (σ.2 23 (a).toNatClampNeg).toNatClampNeg.testBit (b).toNatClampNeg <;> cases hd2 : decide (d = 1) <;> simp [ht, hd2] at g1 ⊢
        · rw [f1, g2]
        · rw [f1, g2]
        · exfalso
          refine f2 (fun z => g1 ?_)
          rw [same.mp z]
  · rcases m with ⟨d1, y2, z2⟩ | ⟨d1, y2, z2⟩
    · subst z1
      subst z2
      exact ⟨kb, y1.trans y2.symm⟩
    · exfalso
      have k19 : σ1.1 19 = σ.1 19 := by rw [z1]
      have k19i := congrArg Int32.toInt k19
      omega
theorem k_lived {σ σ1 σ2 : ST} {p a b r1 r2 : Int32} (kb : KB σ) (s : sX_lived σ p a b r1 σ1) (m : sM_lived σ1 p a b r2 σ2) : KB σ2 := by
  have kx : KB σ1 := by
    rcases s with ⟨c1, y1, z1⟩ | ⟨c1, y1, z1⟩ <;> rw [z1] <;> first | exact kb | exact KB_e rfl rfl rfl kb
  rcases m with ⟨c1, y1, z1⟩ | ⟨c1, y1, z1⟩ <;> rw [z1] <;> first | exact kx | exact KB_e rfl rfl rfl kx
theorem k_letter {σ σ1 σ2 : ST} {k a b q r1 r2 : Int32} (kb : KB σ) (s : sX_letter σ k a b q r1 σ1) (m : sM_letter σ1 k a b q r2 σ2) : KB σ2 := by
  have kx : KB σ1 := by
    rcases s with ⟨c1, ⟨c2, y1, z1⟩ | ⟨c2, y1, z1⟩⟩ | ⟨c1, y1, z1⟩ <;> rw [z1] <;> first | exact kb | exact KB_e rfl rfl rfl kb
  rcases m with ⟨c1, y1, z1⟩ | ⟨⟨c1, c2⟩, y1, z1⟩ | ⟨⟨c1, c2⟩, y1, z1⟩ <;> rw [z1] <;> first | exact kx | exact KB_e rfl rfl rfl kx
theorem k_days {σ σ1 σ2 : ST} {x a b r1 r2 : Int32} (kb : KB σ) (s : sX_days σ x a b r1 σ1) (m : sM_days σ1 x a b r2 σ2) : KB σ2 := by
  have kx : KB σ1 := by
    rcases s with ⟨c1, y1, z1⟩ | ⟨c1, y1, z1⟩ <;> rw [z1] <;> first | exact kb | exact KB_e rfl rfl rfl kb
  rcases m with ⟨c1, y1, z1⟩ | ⟨c1, y1, z1⟩ <;> rw [z1] <;> first | exact kx | exact KB_e rfl rfl rfl kx
theorem k_week {σ σ1 σ2 : ST} {x a r1 r2 : Int32} (kb : KB σ) (s : sX_week σ x a r1 σ1) (m : sM_week σ1 x a r2 σ2) : KB σ2 := by
  have kx : KB σ1 := by
    rcases s with ⟨c1, y1, z1⟩ | ⟨c1, y1, z1⟩ <;> rw [z1] <;> first | exact kb | exact KB_e rfl rfl rfl kb
  rcases m with ⟨c1, y1, z1⟩ | ⟨c1, y1, z1⟩ <;> rw [z1] <;> first | exact kx | exact KB_e rfl rfl rfl kx
theorem k_bound {σ σ1 σ2 : ST} {a b d r1 r2 : Int32} (kb : KB σ) (s : sX_bound σ a b d r1 σ1) (m : sM_bound σ1 a b d r2 σ2) : KB σ2 := by
  have kx : KB σ1 := by
    rcases s with ⟨c1, ⟨c2, y1, z1⟩ | ⟨c2, y1, z1⟩⟩ | ⟨c1, y1, z1⟩ <;> rw [z1] <;> first | exact kb | exact KB_e rfl rfl rfl kb
  rcases m with ⟨c1, y1, z1⟩ | ⟨⟨c1, c2⟩, y1, z1⟩ | ⟨⟨c1, c2⟩, y1, z1⟩ <;> rw [z1] <;> first | exact kx | exact KB_e rfl rfl rfl kx
theorem k_loose {σ σ1 σ2 : ST} { r1 r2 : Int32} (kb : KB σ) (s : sX_loose σ  r1 σ1) (m : sM_loose σ1  r2 σ2) : KB σ2 := by
  have kx : KB σ1 := by
    rcases s with ⟨c1, y1, z1⟩ | ⟨c1, y1, z1⟩ <;> rw [z1] <;> first | exact kb | exact KB_e rfl rfl rfl kb
  rcases m with ⟨c1, y1, z1⟩ | ⟨c1, y1, z1⟩ <;> rw [z1] <;> first | exact kx | exact KB_e rfl rfl rfl kx
theorem k_found {σ σ1 σ2 : ST} {a b r1 r2 : Int32} (kb : KB σ) (s : sX_found σ a b r1 σ1) (m : sM_found σ1 a b r2 σ2) : KB σ2 := by
  have kx : KB σ1 := by
    rcases s with ⟨c1, y1, z1⟩ | ⟨⟨c1, c2⟩, y1, z1⟩ | ⟨⟨c1, c2⟩, y1, z1⟩ <;> rw [z1] <;> first | exact kb | exact KB_e rfl rfl rfl kb
  rcases m with ⟨c1, y1, z1⟩ | ⟨⟨c1, c2⟩, y1, z1⟩ | ⟨⟨c1, c2⟩, y1, z1⟩ <;> rw [z1] <;> first | exact kx | exact KB_e rfl rfl rfl kx
theorem k_lose {σ σ1 σ2 : ST} {a r1 r2 : Int32} (kb : KB σ) (s : sX_lose σ a r1 σ1) (m : sM_lose σ1 a r2 σ2) : KB σ2 := by
  have kx : KB σ1 := by
    rcases s with ⟨c1, y1, z1⟩ | ⟨⟨c1, c2⟩, y1, z1⟩ | ⟨⟨c1, c2⟩, y1, z1⟩ <;> rw [z1] <;> first | exact kb | exact KB_e rfl rfl rfl kb
  rcases m with ⟨c1, y1, z1⟩ | ⟨⟨c1, c2⟩, y1, z1⟩ | ⟨⟨c1, c2⟩, y1, z1⟩ <;> rw [z1] <;> first | exact kx | exact KB_e rfl rfl rfl kx
theorem k_hand {σ σ1 σ2 : ST} {a b p r1 r2 : Int32} (kb : KB σ) (s : sX_hand σ a b p r1 σ1) (m : sM_hand σ1 a b p r2 σ2) : KB σ2 := by
  have kx : KB σ1 := by
    rcases s with ⟨c1, f, hf, ⟨c2, y1, z1⟩ | ⟨c2, y1, z1⟩ | ⟨c2, y1, z1⟩⟩ | ⟨c1, y1, z1⟩ <;> rw [z1] <;> first | exact kb | exact KB_e rfl rfl rfl kb
  rcases m with ⟨c1, y1, z1⟩ | ⟨c1, f, hf, ⟨c2, y1, z1⟩ | ⟨c2, y1, z1⟩ | ⟨c2, y1, z1⟩⟩ <;> rw [z1] <;> first | exact kx | exact KB_e rfl rfl rfl kx
theorem k_post {σ σ1 σ2 : ST} {a b u v r1 r2 : Int32} (iv : IV σ) (kb : KB σ) (s : sX_post σ a b u v r1 σ1) (m : sM_post σ1 a b u v r2 σ2) : KB σ2 := by
  have q := (a_post iv s).2
  have kx : KB σ1 := KB_e (q.1 2 (by decide)) (q.2 23 (by decide)) (q.2 100 (by decide)) kb
  rcases m with ⟨c1, y1, z1⟩ | ⟨c1, y1, z1⟩ <;> rw [z1] <;> first | exact kx | exact KB_e rfl rfl rfl kx
theorem k_cell {σ σ1 σ2 : ST} {t i v r1 r2 : Int32} (iv : IV σ) (kb : KB σ) (s : sX_cell σ t i v r1 σ1) (m : sM_cell σ1 t i v r2 σ2) : KB σ2 := by
  have q := (a_cell iv s).2
  have kx : KB σ1 := KB_e (q.1 2 (by decide)) (q.2 23 (by decide)) (q.2 100 (by decide)) kb
  rcases m with ⟨c1, y1, z1⟩ | ⟨c1, y1, z1⟩ | ⟨c1, y1, z1⟩ | ⟨c1, y1, z1⟩ <;> rw [z1] <;> first | exact kx | exact KB_e rfl rfl rfl kx
theorem KB_Ag {sI sA : Nat → Prop} {σ σ2 : ST} (a : Ag sI sA σ σ2) (h1 : ¬ sI 2) (h2 : ¬ sA 23) (h3 : ¬ sA 100) (kb : KB σ) : KB σ2 := KB_e (a.1 2 h1) (a.2 23 h2) (a.2 100 h3) kb
theorem k_feed {σ σ1 σ2 : ST} {n r1 r2 : Int32} (kb : KB σ) (s : sX_feed σ n r1 σ1) (m : sM_feed σ1 n r2 σ2) : KB σ2 := by
  have kx : KB σ1 := by
    rcases s with ⟨c1, y1, z1⟩ | ⟨c1, c2, y1, z1⟩ | ⟨c1, c2, w1, q1, y1⟩
    · rw [z1]; exact kb
    · rw [z1]; exact kb
    · exact KB_Ag w1.2 (by decide) (by decide) (by decide) kb
  rcases m with ⟨c1, y1, z1⟩ | ⟨c1, c2, y1, z1⟩ | ⟨c1, c2, w1, q1, y1⟩
  · rw [z1]; exact kx
  · rw [z1]; exact kx
  · exact KB_Ag w1.2 (by decide) (by decide) (by decide) kx
theorem k_lay {σ σ1 σ2 : ST} {t f n r1 r2 : Int32} (kb : KB σ) (s : sX_lay σ t f n r1 σ1) (m : sM_lay σ1 t f n r2 σ2) : KB σ2 := by
  have kx : KB σ1 := by
    rcases s with ⟨c1, y1, z1⟩ | ⟨c1, c2, y1, z1⟩ | ⟨c1, c2, w1, q1⟩
    · rw [z1]; exact kb
    · rw [z1]; exact kb
    · exact KB_Ag w1.2 (by decide) (by decide) (by decide) kb
  rcases m with ⟨c1, y1, z1⟩ | ⟨c1, c2, y1, z1⟩ | ⟨c1, c2, w1, q1⟩
  · rw [z1]; exact kx
  · rw [z1]; exact kx
  · exact KB_Ag w1.2 (by decide) (by decide) (by decide) kx
theorem k_tray {σ σ1 σ2 : ST} {t n r1 r2 : Int32} (kb : KB σ) (s : sX_tray σ t n r1 σ1) (m : sM_tray σ1 t n r2 σ2) : KB σ2 := by
  have kx : KB σ1 := by
    rcases s with ⟨c1, y1, z1⟩ | ⟨c1, c2, y1, z1⟩ | ⟨c1, c2, y1, w1, q1⟩
    · rw [z1]; exact kb
    · rw [z1]; exact kb
    · exact KB_Ag w1.2 (by decide) (by decide) (by decide) kb
  rcases m with ⟨c1, y1, z1⟩ | ⟨c1, c2, y1, z1⟩ | ⟨c1, c2, y1, w1, q1⟩
  · rw [z1]; exact kx
  · rw [z1]; exact kx
  · exact KB_Ag w1.2 (by decide) (by decide) (by decide) kx
theorem k_text {σ σ1 σ2 : ST} {a : Int32} (kb : KB σ) (s : sX_text σ a σ1) (m : sM_text σ1 a σ2) : KB σ2 := by
  have kx : KB σ1 := by
    rcases s with ⟨c1, z1⟩ | ⟨c1, w1, q1⟩
    · rw [z1]; exact kb
    · exact KB_Ag w1.2 (by decide) (by decide) (by decide) kb
  rcases m with ⟨c1, z1⟩ | ⟨c1, w1, tv1, q1⟩
  · rw [z1]; exact kx
  · exact KB_Ag w1.2 (by decide) (by decide) (by decide) kx
def INVK (σ : ST) : Prop := INV σ ∧ KB σ
