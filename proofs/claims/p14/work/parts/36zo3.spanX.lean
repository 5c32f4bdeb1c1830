/-- lows, highs, weekdays as told -/
def ISv (s : ST) : Prop := ∀ j : Nat, (j : Int) < (s.1 3).toInt → s.2 33 j = s.2 28 j ∧ s.2 34 j = s.2 29 j ∧ s.2 39 j = s.2 30 j
/-- the roots hold what the first i LETTERS want -/
def JI (σ : ST) (kp : Nat → Prop) (s : ST) (i : Nat) : Prop := ∀ j : Nat, (j : Int) < (σ.1 3).toInt → (0 ≤ (s.2 33 j).toInt ∧ (s.2 33 j).toInt ≤ 9999 ∧ 0 ≤ (s.2 34 j).toInt ∧ (s.2 34 j).toInt ≤ 9999 ∧ -1 ≤ (s.2 39 j).toInt ∧ (s.2 39 j).toInt ≤ 6) ∧ (¬ (σ.2 31 j).toInt < 0 → s.2 33 j = σ.2 28 j ∧ s.2 34 j = σ.2 29 j ∧ s.2 39 j = σ.2 30 j) ∧ ((σ.2 31 j).toInt < 0 → ((σ.2 28 j).toInt ≤ (s.2 33 j).toInt ∧ (s.2 34 j).toInt ≤ (σ.2 29 j).toInt ∧ (0 ≤ (σ.2 30 j).toInt → (s.2 39 j).toInt = (σ.2 30 j).toInt)) ∧ ∀ x : Nat → Int, FSX σ kp x → (s.2 33 j).toInt ≤ x j ∧ x j ≤ (s.2 34 j).toInt ∧ (0 ≤ (s.2 39 j).toInt → x j % 7 = (s.2 39 j).toInt)) ∧ (j < i → (σ.2 28 j).toInt ≤ (s.2 33 (rtX σ j)).toInt ∧ (s.2 34 (rtX σ j)).toInt ≤ (σ.2 29 j).toInt ∧ (0 ≤ (σ.2 30 j).toInt → (s.2 39 (rtX σ j)).toInt = (σ.2 30 j).toInt))
theorem JI_0 {σ : ST} {kp : Nat → Prop} (iv : IV σ) (h : ISv σ) : JI σ kp σ 0 := fun j hj => by
  have u3 := ixi_3 iv
  have g8 := ixa_28 iv j (by omega)
  have g9 := ixa_29 iv j (by omega)
  have g0 := ixa_30 iv j (by omega)
  obtain ⟨a, b, c⟩ := h j hj
  rw [a, b, c]
  exact ⟨by omega, fun _ => ⟨rfl, rfl, rfl⟩, fun _ => ⟨⟨Int.le_refl _, Int.le_refl _, fun _ => rfl⟩, fun x hx => ⟨(hx.1 j hj).1, (hx.1 j hj).2.1, (hx.1 j hj).2.2.1⟩⟩, fun z => absurd z (Nat.not_lt_zero _)⟩
theorem JI_own {σ s : ST} {kp : Nat → Prop} {i j : Nat} {x : Nat → Int} (h : JI σ kp s i) (hj : (j : Int) < (σ.1 3).toInt) (hx : FSX σ kp x) : (s.2 33 j).toInt ≤ x (rtX σ j) ∧ x (rtX σ j) ≤ (s.2 34 j).toInt ∧ (0 ≤ (s.2 39 j).toInt → x (rtX σ j) % 7 = (s.2 39 j).toInt) := by
  have q := h j hj
  by_cases c : (σ.2 31 j).toInt < 0
  · rw [rtX_root ⟨hj, c⟩]
    exact (q.2.2.1 c).2 x hx
  · rw [← FSX_rt hx hj, (q.2.1 c).1, (q.2.1 c).2.1, (q.2.1 c).2.2]
    exact ⟨(hx.1 j hj).1, (hx.1 j hj).2.1, (hx.1 j hj).2.2.1⟩
theorem mx_b {a b m : Int} (ha : 0 ≤ a ∧ a ≤ 9999) (hb : 0 ≤ b ∧ b ≤ 9999) (h : m = a ∨ m = b) : 0 ≤ m ∧ m ≤ 9999 := by omega
theorem mx_l {a b m x : Int} (h : m = a ∨ m = b) (ha : a ≤ x) (hb : b ≤ x) : m ≤ x := by omega
theorem mn_g {a b m x : Int} (h : m = a ∨ m = b) (ha : x ≤ a) (hb : x ≤ b) : x ≤ m := by omega
theorem JI_step {σ s s2 : ST} {kp : Nat → Prop} {i i2 r : Nat} {m q : Int32} (fd : FDX σ) (h : JI σ kp s i) (hi : (i : Int) < (σ.1 3).toInt) (e2 : i2 = i + 1) (er : r = rtX σ i) (e33 : s2.2 33 = upd (s.2 33) r m) (e34 : s2.2 34 = upd (s.2 34) r q) (hm : (s.2 33 r).toInt ≤ m.toInt ∧ (s.2 33 i).toInt ≤ m.toInt ∧ (m.toInt = (s.2 33 r).toInt ∨ m.toInt = (s.2 33 i).toInt)) (hq : q.toInt ≤ (s.2 34 r).toInt ∧ q.toInt ≤ (s.2 34 i).toInt ∧ (q.toInt = (s.2 34 r).toInt ∨ q.toInt = (s.2 34 i).toInt)) (hw : ((s.2 39 r).toInt = -1 ∧ s2.2 39 = upd (s.2 39) r (s.2 39 i)) ∨ ((s.2 39 r).toInt ≠ -1 ∧ s2.2 39 = s.2 39 ∧ ((s.2 39 i).toInt = -1 ∨ (s.2 39 i).toInt = (s.2 39 r).toInt))) : JI σ kp s2 i2 := by
  subst e2
  have rr := fd.1 i hi
  rw [← er] at rr
  have hr := h r rr.1
  have hii := h i hi
  obtain ⟨W, eW, eo, w1, w2, w3, w4⟩ : ∃ W : Int, (s2.2 39 r).toInt = W ∧ (∀ j : Nat, j ≠ r → s2.2 39 j = s.2 39 j) ∧ (0 ≤ (s.2 39 r).toInt → W = (s.2 39 r).toInt) ∧ (0 ≤ (s.2 39 i).toInt → W = (s.2 39 i).toInt) ∧ (0 ≤ W → W = (s.2 39 r).toInt ∨ W = (s.2 39 i).toInt) ∧ (-1 ≤ W ∧ W ≤ 6) := by
    rcases hw with ⟨a, b⟩ | ⟨a, b, c⟩
    · exact ⟨(s.2 39 i).toInt, by rw [b, upd_eq], fun j hj => by rw [b, upd_ne hj], fun z => by omega, fun _ => rfl, fun _ => Or.inr rfl, by omega⟩
    · exact ⟨(s.2 39 r).toInt, by rw [b], fun j _ => by rw [b], fun _ => rfl, fun z => by omega, fun _ => Or.inl rfl, by omega⟩
  have a3 : (s2.2 33 r).toInt = m.toInt := by rw [e33, upd_eq]
  have a4 : (s2.2 34 r).toInt = q.toInt := by rw [e34, upd_eq]
  have b3 : ∀ j : Nat, j ≠ r → s2.2 33 j = s.2 33 j := fun j hj => by rw [e33, upd_ne hj]
  have b4 : ∀ j : Nat, j ≠ r → s2.2 34 j = s.2 34 j := fun j hj => by rw [e34, upd_ne hj]
  have own := hr.2.2.1 rr.2
  intro j hj
  have hjj := h j hj
  refine ⟨?_, fun c => ?_, fun c => ?_, fun c => ?_⟩
  · by_cases z : j = r
    · rw [z, a3, a4, eW]
      have mB := mx_b ⟨hr.1.1, hr.1.2.1⟩ ⟨hii.1.1, hii.1.2.1⟩ hm.2.2
      have qB := mx_b ⟨hr.1.2.2.1, hr.1.2.2.2.1⟩ ⟨hii.1.2.2.1, hii.1.2.2.2.1⟩ hq.2.2
      exact ⟨mB.1, mB.2, qB.1, qB.2, w4.1, w4.2⟩
    · rw [b3 j z, b4 j z, eo j z]
      exact hjj.1
  · have z : j ≠ r := fun z => by
      rw [z] at c
      exact c rr.2
    rw [b3 j z, b4 j z, eo j z]
    exact hjj.2.1 c
  · by_cases z : j = r
    · rw [z, a3, a4, eW]
      refine ⟨⟨Int.le_trans own.1.1 hm.1, Int.le_trans hq.1 own.1.2.1, fun y => (w1 (by rw [own.1.2.2 y]; exact y)).trans (own.1.2.2 y)⟩, fun x hx => ?_⟩
      have o := own.2 x hx
      have oi := JI_own h hi hx
      rw [← er] at oi
      refine ⟨mx_l hm.2.2 o.1 oi.1, mn_g hq.2.2 o.2.1 oi.2.1, fun y => ?_⟩
      rcases w3 y with e | e
      · rw [e] at y ⊢
        exact o.2.2 y
      · rw [e] at y ⊢
        exact oi.2.2 y
    · rw [b3 j z, b4 j z, eo j z]
      exact hjj.2.2.1 c
  · by_cases z : rtX σ j = r
    · rw [z, a3, a4, eW]
      by_cases y : j < i
      · have o := hjj.2.2.2 y
        rw [z] at o
        exact ⟨Int.le_trans o.1 hm.1, Int.le_trans hq.1 o.2.1, fun v => (w1 (by rw [o.2.2 v]; exact v)).trans (o.2.2 v)⟩
      · have ej : j = i := Nat.le_antisymm (Nat.lt_succ_iff.mp c) (Nat.le_of_not_lt y)
        rw [ej]
        by_cases v : (σ.2 31 i).toInt < 0
        · have o := (hii.2.2.1 v).1
          exact ⟨Int.le_trans o.1 hm.2.1, Int.le_trans hq.2.1 o.2.1, fun u => (w2 (by rw [o.2.2 u]; exact u)).trans (o.2.2 u)⟩
        · have o := hii.2.1 v
          rw [← o.1, ← o.2.1, ← o.2.2]
          exact ⟨hm.2.1, hq.2.1, w2⟩
    · have y : j < i := by
        rcases Nat.lt_or_ge j i with y | y
        · exact y
        · exact absurd (by rw [Nat.le_antisymm (Nat.lt_succ_iff.mp c) y]; exact er.symm) z
      rw [b3 _ z, b4 _ z, eo _ z]
      exact hjj.2.2.2 y
theorem JI_no {σ s : ST} {kp : Nat → Prop} {i r : Nat} {x : Nat → Int} (fd : FDX σ) (h : JI σ kp s i) (hi : (i : Int) < (σ.1 3).toInt) (er : r = rtX σ i) (h1 : (s.2 39 r).toInt ≠ -1) (h2 : (s.2 39 i).toInt ≠ -1) (h3 : (s.2 39 i).toInt ≠ (s.2 39 r).toInt) (hx : FSX σ kp x) : False := by
  have rr := fd.1 i hi
  rw [← er] at rr
  have hr := h r rr.1
  have hii := h i hi
  have o := (hr.2.2.1 rr.2).2 x hx
  have oi := JI_own h hi hx
  rw [← er] at oi
  have z1 := o.2.2 (by omega)
  have z2 := oi.2.2 (by omega)
  omega
/-- lows and highs of the first i LETTERS brought to their weekdays -/
def J2 (m s : ST) (i : Nat) : Prop := s.2 39 = m.2 39 ∧ ∀ j : Nat, (j < i → (s.2 33 j).toInt = dwn (m.2 39 j).toInt (m.2 33 j).toInt ∧ (s.2 34 j).toInt = uwn (m.2 39 j).toInt (m.2 34 j).toInt) ∧ (i ≤ j → s.2 33 j = m.2 33 j ∧ s.2 34 j = m.2 34 j)
theorem J2_0 (m : ST) : J2 m m 0 := ⟨rfl, fun j => ⟨fun z => absurd z (Nat.not_lt_zero _), fun _ => ⟨rfl, rfl⟩⟩⟩
theorem J2_s {m s s2 : ST} {i i2 k : Nat} {v u : Int32} (h : J2 m s i) (e2 : i2 = i + 1) (ek : k = i) (e33 : s2.2 33 = upd (s.2 33) k v) (e34 : s2.2 34 = upd (s.2 34) k u) (e39 : s2.2 39 = s.2 39) (hv : v.toInt = dwn (s.2 39 i).toInt (s.2 33 i).toInt) (hu : u.toInt = uwn (s.2 39 i).toInt (s.2 34 i).toInt) : J2 m s2 i2 := by
  subst e2
  subst ek
  refine ⟨e39.trans h.1, fun j => ?_⟩
  rw [e33, e34]
  by_cases z : j = k
  · have q := (h.2 k).2 (Nat.le_refl _)
    rw [z, upd_eq, upd_eq, hv, hu, h.1, q.1, q.2]
    exact ⟨fun _ => ⟨rfl, rfl⟩, fun y => absurd y (by omega)⟩
  · rw [upd_ne z, upd_ne z]
    exact ⟨fun y => (h.2 j).1 (by omega), fun y => (h.2 j).2 (by omega)⟩
theorem JF_of {σ m s : ST} {kp : Nat → Prop} {i : Nat} (sd : SD σ s) (h : JI σ kp m i) (hi : (i : Int) = (σ.1 3).toInt) (q : J2 m s i) : JF kp s := fun j hj => by
  have hj' : ROOT σ j := by
    obtain ⟨a, b, c, d, e, f, g, k, l⟩ := sd
    unfold ROOT at hj
    rw [a, f] at hj
    exact hj
  have a := h j hj'.1
  have b := (q.2 j).1 (by have := hj'.1; omega)
  have d1 := dwn_ge (m.2 39 j).toInt (m.2 33 j).toInt
  have d2 := uwn_le (m.2 39 j).toInt (m.2 34 j).toInt
  rw [q.1, b.1, b.2]
  have a1 := a.1
  refine ⟨⟨by omega, by omega, by omega, by omega, a1.2.2.2.2.1, a1.2.2.2.2.2⟩, fun w => ⟨dwn_w w (by omega), uwn_w w (by omega)⟩, fun x hx => ?_, fun k hk e => ?_⟩
  · have o := (a.2.2.1 hj'.2).2 x ((FSX_e sd).mp hx)
    exact ⟨dwn_le (by omega) o.1 o.2.2, uwn_ge (by omega) o.2.1 o.2.2, o.2.2⟩
  · obtain ⟨s1, s2, s3, s4, s5, s6, s7, s8, s9⟩ := sd
    rw [s1] at hk
    unfold rtX at e
    rw [s6] at e
    have o := (h k hk).2.2.2 (by omega)
    have e' : rtX σ k = j := e
    rw [e'] at o
    rw [s3, s4, s5]
    exact ⟨by omega, by omega, o.2.2⟩
theorem JF_up {σ s : ST} {kp : Nat → Prop} (jf : JF kp σ) (w : WXr σ s) (h : JL σ kp (s.2 33)) : JF kp s := fun j hj => by
  have sd := WXr_SD w
  have hj' : ROOT σ j := by
    obtain ⟨a, b, c, d, e, f, g, k, l⟩ := sd
    unfold ROOT at hj
    rw [a, f] at hj
    exact hj
  have a := jf j hj'
  have b := h.1 j hj'
  have e34 : s.2 34 = σ.2 34 := w.2.2 34 (by decide)
  have e39 : s.2 39 = σ.2 39 := w.2.2 39 (by decide)
  rw [e34, e39]
  have a1 := a.1
  have b1 := b.1
  have b2 := b.2.1
  refine ⟨⟨by omega, by omega, a1.2.2.1, a1.2.2.2.1, a1.2.2.2.2.1, a1.2.2.2.2.2⟩, fun q => ⟨b.2.2.1 q, (a.2.1 q).2⟩, fun x hx => ?_, fun k hk e => ?_⟩
  · have hx' := (FSX_e sd).mp hx
    exact ⟨b.2.2.2 x hx', (a.2.2.1 x hx').2⟩
  · obtain ⟨s1, s2, s3, s4, s5, s6, s7, s8, s9⟩ := sd
    rw [s1] at hk
    unfold rtX at e
    rw [s6] at e
    have o := a.2.2.2 k hk e
    rw [s3, s4, s5]
    exact ⟨Int.le_trans o.1 b1, o.2⟩
/-- what a choice of all BOUNDS of kp has: the class's roots, lows that are one, such as every other one is above -/
def PO (kp : Nat → Prop) (s : ST) : Prop := RTS s ∧ JF kp s ∧ FSX s kp (fun i => (s.2 33 (rtX s i)).toInt)
theorem PO_of {σ s : ST} {kp : Nat → Prop} (fd : FDX σ) (rt : RTS σ) (jf : JF kp σ) (w : WXr σ s) (h : JL σ kp (s.2 33)) : PO kp s := by
  have sd := WXr_SD w
  refine ⟨RTS_e sd (w.2.2 38 (by decide)) rt, JF_up jf w h, (FSX_e sd).mpr ?_⟩
  have z := JL_FS fd jf h
  have e : (fun i => (s.2 33 (rtX s i)).toInt) = fun i => (s.2 33 (rtX σ i)).toInt := by
    funext i
    obtain ⟨s1, s2, s3, s4, s5, s6, s7, s8, s9⟩ := sd
    unfold rtX
    rw [s6]
  rw [e]
  exact z
def lowX (s : ST) : Nat → Int := fun j => (s.2 33 j).toInt
def higX (s : ST) : Nat → Int := fun j => (s.2 34 j).toInt
/-- the least and the greatest of a set of choices -/
def LG (F : (Nat → Int) → Prop) (n : Int) (L H : Nat → Int) : Prop := F L ∧ F H ∧ ∀ x : Nat → Int, F x → ∀ j : Nat, (j : Int) < n → L j ≤ x j ∧ x j ≤ H j
theorem LG_one {F : (Nat → Int) → Prop} {n : Int} {L H L2 H2 : Nat → Int} (h : LG F n L H) (g : LG F n L2 H2) {j : Nat} (hj : (j : Int) < n) : L j = L2 j ∧ H j = H2 j := by
  have a := h.2.2 L2 g.1 j hj
  have b := g.2.2 L h.1 j hj
  have c := h.2.2 H2 g.2.1 j hj
  have d := g.2.2 H h.2.1 j hj
  omega
/-- lows and highs have come from the roots to all -/
def CPY (m s : ST) (i : Nat) : Prop := ∀ j : Nat, (s.2 33 j = if j < i then m.2 33 (m.2 38 j).toNatClampNeg else m.2 33 j) ∧ (s.2 34 j = if j < i then m.2 34 (m.2 38 j).toNatClampNeg else m.2 34 j)
theorem CPY_0 (m : ST) : CPY m m 0 := fun j => by
  rw [if_neg (Nat.not_lt_zero _), if_neg (Nat.not_lt_zero _)]
  exact ⟨rfl, rfl⟩
theorem CPY_r {m s : ST} {i j : Nat} (h : CPY m s i) (hr : (m.2 38 (m.2 38 j).toNatClampNeg).toNatClampNeg = (m.2 38 j).toNatClampNeg) : s.2 33 (m.2 38 j).toNatClampNeg = m.2 33 (m.2 38 j).toNatClampNeg ∧ s.2 34 (m.2 38 j).toNatClampNeg = m.2 34 (m.2 38 j).toNatClampNeg := by
  have q := h (m.2 38 j).toNatClampNeg
  rw [hr] at q
  refine ⟨q.1.trans ?_, q.2.trans ?_⟩ <;> split <;> rfl
theorem CPY_s {m s s2 : ST} {i i2 k : Nat} {v u : Int32} (h : CPY m s i) (e2 : i2 = i + 1) (ek : k = i) (e33 : s2.2 33 = upd (s.2 33) k v) (e34 : s2.2 34 = upd (s.2 34) k u) (hv : v = m.2 33 (m.2 38 i).toNatClampNeg) (hu : u = m.2 34 (m.2 38 i).toNatClampNeg) : CPY m s2 i2 := fun j => by
  subst e2
  subst ek
  rw [e33, e34]
  by_cases z : j = k
  · rw [z, upd_eq, upd_eq, if_pos (by omega), if_pos (by omega)]
    exact ⟨hv, hu⟩
  · rw [upd_ne z, upd_ne z]
    have q := h j
    by_cases y : j < k
    · rw [if_pos y, if_pos y] at q
      rw [if_pos (by omega), if_pos (by omega)]
      exact q
    · rw [if_neg y, if_neg y] at q
      rw [if_neg (by omega), if_neg (by omega)]
      exact q
theorem rts_n {σ : ST} (rt : RTS σ) {j : Nat} (hj : (j : Int) < (σ.1 3).toInt) : (σ.2 38 j).toNatClampNeg = rtX σ j := by
  have z := rt j hj
  have := cnat (x := σ.2 38 j) (by omega)
  omega
/-- without BOUND k those that are kept CLASH still: it is left out -/
def CFR (P : Int32 → Prop) : Nat → Int32 → Int32 → Prop
  | 0, s, r => r = s
  | k + 1, s, r => (P (s &&& (((1 : Int32) <<< (Int32.ofNat k &&& 31)) ^^^ (-1))) ∧ CFR P k (s &&& (((1 : Int32) <<< (Int32.ofNat k &&& 31)) ^^^ (-1))) r) ∨ (¬ P (s &&& (((1 : Int32) <<< (Int32.ofNat k &&& 31)) ^^^ (-1))) ∧ CFR P k s r)
theorem CFR_one {P : Int32 → Prop} : ∀ (k : Nat) (s r r2 : Int32), CFR P k s r → CFR P k s r2 → r = r2
  | 0, _, _, _, h, g => h.trans g.symm
  | k + 1, s, r, r2, h, g => by
    rcases h with ⟨a, h⟩ | ⟨a, h⟩ <;> rcases g with ⟨b, g⟩ | ⟨b, g⟩
    · exact CFR_one k _ _ _ h g
    · exact absurd a b
    · exact absurd b a
    · exact CFR_one k _ _ _ h g
theorem CFR_cg {P Q : Int32 → Prop} (e : ∀ s : Int32, P s ↔ Q s) : ∀ (k : Nat) (s r : Int32), CFR P k s r → CFR Q k s r
  | 0, _, _, h => h
  | k + 1, s, r, h => by
    rcases h with ⟨a, h⟩ | ⟨a, h⟩
    · exact Or.inl ⟨(e _).mp a, CFR_cg e k _ _ h⟩
    · exact Or.inr ⟨fun q => a ((e _).mpr q), CFR_cg e k _ _ h⟩
theorem kp_all : ∀ b : Fin 21, ∀ k : Fin 20, k.val < b.val → (((((1 : Int32) <<< (Int32.ofNat b.val &&& 31)) - 1) >>> (Int32.ofNat k.val &&& 31)) &&& 1).toInt ≠ 0 := by decide +kernel
theorem kp_allN {b : Int32} (h : 0 ≤ b.toInt ∧ b.toInt ≤ 20) {k : Nat} (hk : (k : Int) < b.toInt) : kpF (((1 : Int32) <<< (b &&& 31)) - 1) k := by
  have z := kp_all ⟨b.toNatClampNeg, by have := cnat h.1; omega⟩ ⟨k, by omega⟩ (by have := cnat h.1; show k < b.toNatClampNeg; omega)
  rw [of_nat h.1] at z
  exact z
abbrev allS (b : Int32) : Int32 := ((1 : Int32) <<< (b &&& 31)) - 1
set_option maxHeartbeats 4000000 in
set_option maxRecDepth 100000 in
theorem f_X0_joinFound (l : Launch) (L : WL) (σ : ST) (n : Int32) (hn : n = σ.1 3) {kp : Nat → Prop} (ix : IV σ) (fd : FDX σ) (rt : RTS σ) (is : ISv σ) : CtI l L yX0_joinFound cX0_joinFound 4 (some .boolean) rm_X0_joinFound [.ref (L.2.1 3), .int n] σ (fun r σ2 => WXj σ σ2 ∧ ((r.toInt = 0 ∧ ∀ x : Nat → Int, ¬ FSX σ kp x) ∨ (r.toInt = 1 ∧ JF kp σ2))) := by
  refine ctI_go (own := RX0) (by decide) rfl (Nat.le_of_ble_eq_true rfl) (fun F hF => ?_)
  subst hF
  have nm1 : (-1 : Int32).toInt = -1 := by decide
  have n0 : (0 : Int32).toInt = 0 := by decide
  have n1 : (1 : Int32).toInt = 1 := by decide
  have w0 : WXj σ σ := WXj_rfl ix
  have u3 := ixi_3 ix
  have hn3 := congrArg Int32.toInt hn
  have z0 : (0 : Int32).toNatClampNeg = 0 := rfl
  refine go_iconst (v := 0) (pc' := 1) dX0_joinFound_0 rfl (by decide) ?_
  refine go_istore_n (i := 2) (pc' := 2) dX0_joinFound_1 rfl rfl (by decide) ?_
  have loop2_1 : ∀ (dd1 : Nat) (σ1 : ST) (x2_1 : Int32), WXj σ σ1 → (0 ≤ (x2_1).toInt ∧ (x2_1).toInt ≤ (σ.1 3).toInt) → (JI σ kp σ1 (x2_1).toNatClampNeg) → (12 - (x2_1).toInt).toNat = dd1 → Go F L RX0 cX0_joinFound 4 rm_X0_joinFound (some .boolean) (RI F L (fun r σ2 => WXj σ σ2 ∧ ((r.toInt = 0 ∧ ∀ x : Nat → Int, ¬ FSX σ kp x) ∨ (r.toInt = 1 ∧ JF kp σ2)))) σ1 2 [(0, .ref (L.2.1 3)), (1, .int n), (2, .int x2_1)] [] := by
    intro dd1
    induction dd1 using Nat.strongRecOn with
    | _ dd1 ih1 =>
      intro σ1 x2_1 w1 h_1 hJ_1 hm_1
      refine go_iload_n (i := 2) (pc' := 3) dX0_joinFound_2 rfl rfl rfl ?_
      refine go_iload_n (i := 1) (pc' := 4) dX0_joinFound_3 rfl rfl rfl ?_
      refine gz_icmp_ge (tgt := 114) (pc' := 7) dX0_joinFound_4 rfl (by decide) (fun c2 => ?_) (fun c2 => ?_)
      · have c2e := cnat (x := x2_1) (by omega)
        have hJM := hJ_1
        rw [show (x2_1).toNatClampNeg = (σ.1 3).toInt.toNat from by omega] at hJM
        refine go_iconst (v := 0) (pc' := 115) dX0_joinFound_114 rfl (by decide) ?_
        refine go_istore_n (i := 2) (pc' := 116) dX0_joinFound_115 rfl rfl (by decide) ?_
        have loop116_3 : ∀ (dd3 : Nat) (σ3 : ST) (x2_3 : Int32), WXj σ σ3 → (0 ≤ (x2_3).toInt ∧ (x2_3).toInt ≤ (σ.1 3).toInt) → (J2 σ1 σ3 (x2_3).toNatClampNeg) → (12 - (x2_3).toInt).toNat = dd3 → Go F L RX0 cX0_joinFound 4 rm_X0_joinFound (some .boolean) (RI F L (fun r σ2 => WXj σ σ2 ∧ ((r.toInt = 0 ∧ ∀ x : Nat → Int, ¬ FSX σ kp x) ∨ (r.toInt = 1 ∧ JF kp σ2)))) σ3 116 [(0, .ref (L.2.1 3)), (1, .int n), (2, .int x2_3)] [] := by
          intro dd3
          induction dd3 using Nat.strongRecOn with
          | _ dd3 ih3 =>
            intro σ3 x2_3 w3 h_3 h2_3 hm_3
            refine go_iload_n (i := 2) (pc' := 117) dX0_joinFound_116 rfl rfl rfl ?_
            refine go_iload_n (i := 1) (pc' := 118) dX0_joinFound_117 rfl rfl rfl ?_
            refine gz_icmp_ge (tgt := 169) (pc' := 121) dX0_joinFound_118 rfl (by decide) (fun c4 => ?_) (fun c4 => ?_)
            · refine go_iconst (v := 1) (pc' := 170) dX0_joinFound_169 rfl (by decide) ?_
              exact go_zret dX0_joinFound_170 rfl rfl (⟨w3, Or.inr ⟨n1, JF_of (WXj_SD w3) hJM (by omega) (by have c2 := cnat (x := x2_3) (by omega); rw [show (σ.1 3).toInt.toNat = (x2_3).toNatClampNeg from by omega]; exact h2_3)⟩⟩)
            have c2 := cnat (x := x2_3) (by omega)
            have hj := (hJM (x2_3).toNatClampNeg (by omega)).1
            have hk := (h2_3.2 (x2_3).toNatClampNeg).2 (Nat.le_refl _)
            have i33 := congrArg Int32.toInt hk.1
            have i39 := congrArg Int32.toInt (congrFun h2_3.1 (x2_3).toNatClampNeg)
            refine go_aload_n (i := 0) (pc' := 122) dX0_joinFound_121 rfl rfl rfl ?_
            refine gf_3_lows (pc' := 125) dX0_joinFound_122 rfl fl_X0_11 ?_
            refine go_iload_n (i := 2) (pc' := 126) dX0_joinFound_125 rfl rfl rfl ?_
            refine go_aload_n (i := 0) (pc' := 127) dX0_joinFound_126 rfl rfl rfl ?_
            refine gf_3_lows (pc' := 130) dX0_joinFound_127 rfl fl_X0_11 ?_
            refine go_iload_n (i := 2) (pc' := 131) dX0_joinFound_130 rfl rfl rfl ?_
            refine go_iald (pc' := 132) dX0_joinFound_131 rfl (by decide) (by decide) rfl (vin_of (n := 12) (by omega) (by omega)) ?_
            refine go_aload_n (i := 0) (pc' := 133) dX0_joinFound_132 rfl rfl rfl ?_
            refine gf_3_weekdays (pc' := 136) dX0_joinFound_133 rfl fl_X0_36 ?_
            refine go_iload_n (i := 2) (pc' := 137) dX0_joinFound_136 rfl rfl rfl ?_
            refine go_iald (pc' := 138) dX0_joinFound_137 rfl (by decide) (by decide) rfl (vin_of (n := 12) (by omega) (by omega)) ?_
            refine go_csi (pc' := 141) ls_X0_88 (f_X0_dayFrom _ _ _ _ _ (by omega) (by omega)) rfl rfl (Nat.le_of_ble_eq_true rfl) ⟨Nat.le_of_ble_eq_true rfl, Nat.le_of_ble_eq_true rfl⟩ ⟨rfl, rfl⟩ dX0_joinFound_138 rfl (fun r5 σ5 h5 => ?_)
            obtain ⟨e5, h5⟩ := h5
            have e5 := e5.symm
            subst e5
            have dv := h5
            refine go_iast (pc' := 142) dX0_joinFound_141 rfl (by decide) (by decide) rfl (vin_of (n := 12) (by omega) (by omega)) ?_
            refine go_gen (P := fun s => WXj σ s ∧ (∀ q : Nat, q ≠ 33 → s.2 q = σ3.2 q) ∧ s.2 33 = upd (σ3.2 33) (x2_3).toNatClampNeg r5 ∧ s.1 = σ3.1) ⟨⟨ixt_n w3.1 (by decide), Ag_setA w3.2 (by decide)⟩, ⟨fun q hq => setA_ne (a := q) _ _ _ _ hq, setA_same _ _ _ _, rfl⟩⟩ (fun σ6 z6 => ?_)
            obtain ⟨w6, g6⟩ := z6
            have gd := g6
            have i34d := congrArg Int32.toInt ((congrFun (gd.1 34 (by decide)) (x2_3).toNatClampNeg).trans hk.2)
            have i39d := congrArg Int32.toInt ((congrFun (gd.1 39 (by decide)) (x2_3).toNatClampNeg).trans (congrFun h2_3.1 (x2_3).toNatClampNeg))
            refine go_aload_n (i := 0) (pc' := 143) dX0_joinFound_142 rfl rfl rfl ?_
            refine gf_3_highs (pc' := 146) dX0_joinFound_143 rfl fl_X0_17 ?_
            refine go_iload_n (i := 2) (pc' := 147) dX0_joinFound_146 rfl rfl rfl ?_
            refine go_aload_n (i := 0) (pc' := 148) dX0_joinFound_147 rfl rfl rfl ?_
            refine gf_3_highs (pc' := 151) dX0_joinFound_148 rfl fl_X0_17 ?_
            refine go_iload_n (i := 2) (pc' := 152) dX0_joinFound_151 rfl rfl rfl ?_
            refine go_iald (pc' := 153) dX0_joinFound_152 rfl (by decide) (by decide) rfl (vin_of (n := 12) (by omega) (by omega)) ?_
            refine go_aload_n (i := 0) (pc' := 154) dX0_joinFound_153 rfl rfl rfl ?_
            refine gf_3_weekdays (pc' := 157) dX0_joinFound_154 rfl fl_X0_36 ?_
            refine go_iload_n (i := 2) (pc' := 158) dX0_joinFound_157 rfl rfl rfl ?_
            refine go_iald (pc' := 159) dX0_joinFound_158 rfl (by decide) (by decide) rfl (vin_of (n := 12) (by omega) (by omega)) ?_
            refine go_csi (pc' := 162) ls_X0_91 (f_X0_dayUpTo _ _ _ _ _ (by omega) (by omega)) rfl rfl (Nat.le_of_ble_eq_true rfl) ⟨Nat.le_of_ble_eq_true rfl, Nat.le_of_ble_eq_true rfl⟩ ⟨rfl, rfl⟩ dX0_joinFound_159 rfl (fun r7 σ7 h7 => ?_)
            obtain ⟨e7, h7⟩ := h7
            have e7 := e7.symm
            subst e7
            have uv := h7
            rw [gd.1 39 (by decide), gd.1 34 (by decide)] at uv
            refine go_iast (pc' := 163) dX0_joinFound_162 rfl (by decide) (by decide) rfl (vin_of (n := 12) (by omega) (by omega)) ?_
            refine go_gen (P := fun s => WXj σ s ∧ (∀ q : Nat, q ≠ 34 → s.2 q = σ6.2 q) ∧ s.2 34 = upd (σ6.2 34) (x2_3).toNatClampNeg r7 ∧ s.1 = σ6.1) ⟨⟨ixt_n w6.1 (by decide), Ag_setA w6.2 (by decide)⟩, ⟨fun q hq => setA_ne (a := q) _ _ _ _ hq, setA_same _ _ _ _, rfl⟩⟩ (fun σ8 z8 => ?_)
            obtain ⟨w8, g8⟩ := z8
            have ge := g8
            refine gz_iinc (c := 1) (pc' := 166) dX0_joinFound_163 rfl rfl (by decide) (by decide) (by decide) (by omega) (fun v9 h9 e9 => ?_)
            refine go_goto (tgt := 116) dX0_joinFound_166 (by decide) ?_
            exact go_lv (lv' := [(0, .ref (L.2.1 3)), (1, .int n), (2, .int v9)]) rfl (ih3 _ (by omega) σ8 v9 w8 (by omega) (J2_s h2_3 (by have cv := cnat (x := v9) (by omega); omega) rfl ((ge.1 33 (by decide)).trans gd.2.1) (by rw [ge.2.1, gd.1 34 (by decide)]) ((ge.1 39 (by decide)).trans (gd.1 39 (by decide))) dv uv) rfl)
        exact go_lv (lv' := [(0, .ref (L.2.1 3)), (1, .int n), (2, .int (0 : Int32))]) rfl (loop116_3 _ σ1 (0 : Int32) w1 (by omega) (by rw [z0]; exact J2_0 _) rfl)
      have c2 := cnat (x := x2_1) (by omega)
      have hj := (hJ_1 (x2_1).toNatClampNeg (by omega)).1
      have rr := fd.1 (x2_1).toNatClampNeg (by omega)
      have e38 : σ1.2 38 = σ.2 38 := w1.2.2 38 (by decide)
      have er : (σ1.2 38 (x2_1).toNatClampNeg).toNatClampNeg = rtX σ (x2_1).toNatClampNeg := by rw [e38]; exact rts_n rt (by omega)
      have hjr := (hJ_1 _ rr.1).1
      refine go_aload_n (i := 0) (pc' := 8) dX0_joinFound_7 rfl rfl rfl ?_
      refine gf_3_roots (pc' := 11) dX0_joinFound_8 rfl fl_X0_33 ?_
      refine go_iload_n (i := 2) (pc' := 12) dX0_joinFound_11 rfl rfl rfl ?_
      refine go_iald (pc' := 13) dX0_joinFound_12 rfl (by decide) (by decide) rfl (vin_of (n := 12) (by omega) (by omega)) ?_
      refine go_rngA (ixa_38 w1.1) (vinlt (vin_of (n := 12) (by omega) (by omega))) (fun g10 => ?_)
      refine go_topz (fun y11 h11 e11 => ?_)
      refine go_istore_n (i := 3) (pc' := 14) dX0_joinFound_13 rfl rfl (by decide) ?_
      have e3 : (y11).toNatClampNeg = rtX σ (x2_1).toNatClampNeg := by
        rw [← er]
        have q := cnat (x := σ1.2 38 (x2_1).toNatClampNeg) (by omega)
        have c3 := cnat (x := y11) (by omega)
        omega
      refine go_aload_n (i := 0) (pc' := 15) dX0_joinFound_14 rfl rfl rfl ?_
      refine gf_3_lows (pc' := 18) dX0_joinFound_15 rfl fl_X0_11 ?_
      refine go_iload_n (i := 3) (pc' := 19) dX0_joinFound_18 rfl rfl rfl ?_
      refine go_aload_n (i := 0) (pc' := 20) dX0_joinFound_19 rfl rfl rfl ?_
      refine gf_3_lows (pc' := 23) dX0_joinFound_20 rfl fl_X0_11 ?_
      refine go_iload_n (i := 3) (pc' := 24) dX0_joinFound_23 rfl rfl rfl ?_
      refine go_iald (pc' := 25) dX0_joinFound_24 rfl (by decide) (by decide) rfl (vin_of (n := 12) (by omega) (by omega)) ?_
      refine go_aload_n (i := 0) (pc' := 26) dX0_joinFound_25 rfl rfl rfl ?_
      refine gf_3_lows (pc' := 29) dX0_joinFound_26 rfl fl_X0_11 ?_
      refine go_iload_n (i := 2) (pc' := 30) dX0_joinFound_29 rfl rfl rfl ?_
      refine go_iald (pc' := 31) dX0_joinFound_30 rfl (by decide) (by decide) rfl (vin_of (n := 12) (by omega) (by omega)) ?_
      refine gz_max (pc' := 34) dX0_joinFound_31 rfl ml_X0_57 (Nat.le_of_ble_eq_true rfl) (Nat.le_of_ble_eq_true rfl) (fun v12 h12 e12 => ?_)
      have mx : (σ1.2 33 (y11).toNatClampNeg).toInt ≤ (v12).toInt ∧ (σ1.2 33 (x2_1).toNatClampNeg).toInt ≤ (v12).toInt ∧ ((v12).toInt = (σ1.2 33 (y11).toNatClampNeg).toInt ∨ (v12).toInt = (σ1.2 33 (x2_1).toNatClampNeg).toInt) := by first | assumption | omega
      refine go_iast (pc' := 35) dX0_joinFound_34 rfl (by decide) (by decide) rfl (vin_of (n := 12) (by omega) (by omega)) ?_
      refine go_gen (P := fun s => WXj σ s ∧ (∀ q : Nat, q ≠ 33 → s.2 q = σ1.2 q) ∧ s.2 33 = upd (σ1.2 33) (y11).toNatClampNeg v12 ∧ s.1 = σ1.1) ⟨⟨ixt_n w1.1 (by decide), Ag_setA w1.2 (by decide)⟩, ⟨fun q hq => setA_ne (a := q) _ _ _ _ hq, setA_same _ _ _ _, rfl⟩⟩ (fun σ13 z13 => ?_)
      obtain ⟨w13, g13⟩ := z13
      have ga := g13
      refine go_aload_n (i := 0) (pc' := 36) dX0_joinFound_35 rfl rfl rfl ?_
      refine gf_3_highs (pc' := 39) dX0_joinFound_36 rfl fl_X0_17 ?_
      refine go_iload_n (i := 3) (pc' := 40) dX0_joinFound_39 rfl rfl rfl ?_
      refine go_aload_n (i := 0) (pc' := 41) dX0_joinFound_40 rfl rfl rfl ?_
      refine gf_3_highs (pc' := 44) dX0_joinFound_41 rfl fl_X0_17 ?_
      refine go_iload_n (i := 3) (pc' := 45) dX0_joinFound_44 rfl rfl rfl ?_
      refine go_iald (pc' := 46) dX0_joinFound_45 rfl (by decide) (by decide) rfl (vin_of (n := 12) (by omega) (by omega)) ?_
      refine go_aload_n (i := 0) (pc' := 47) dX0_joinFound_46 rfl rfl rfl ?_
      refine gf_3_highs (pc' := 50) dX0_joinFound_47 rfl fl_X0_17 ?_
      refine go_iload_n (i := 2) (pc' := 51) dX0_joinFound_50 rfl rfl rfl ?_
      refine go_iald (pc' := 52) dX0_joinFound_51 rfl (by decide) (by decide) rfl (vin_of (n := 12) (by omega) (by omega)) ?_
      refine gz_min (pc' := 55) dX0_joinFound_52 rfl ml_X0_85 (Nat.le_of_ble_eq_true rfl) (Nat.le_of_ble_eq_true rfl) (fun v14 h14 e14 => ?_)
      have mn : (v14).toInt ≤ (σ1.2 34 (y11).toNatClampNeg).toInt ∧ (v14).toInt ≤ (σ1.2 34 (x2_1).toNatClampNeg).toInt ∧ ((v14).toInt = (σ1.2 34 (y11).toNatClampNeg).toInt ∨ (v14).toInt = (σ1.2 34 (x2_1).toNatClampNeg).toInt) := by
        have q34 := ga.1 34 (by decide)
        rw [← q34]
        first | assumption | omega
      refine go_iast (pc' := 56) dX0_joinFound_55 rfl (by decide) (by decide) rfl (vin_of (n := 12) (by omega) (by omega)) ?_
      refine go_gen (P := fun s => WXj σ s ∧ (∀ q : Nat, q ≠ 34 → s.2 q = σ13.2 q) ∧ s.2 34 = upd (σ13.2 34) (y11).toNatClampNeg v14 ∧ s.1 = σ13.1) ⟨⟨ixt_n w13.1 (by decide), Ag_setA w13.2 (by decide)⟩, ⟨fun q hq => setA_ne (a := q) _ _ _ _ hq, setA_same _ _ _ _, rfl⟩⟩ (fun σ15 z15 => ?_)
      obtain ⟨w15, g15⟩ := z15
      have gb := g15
      have k39 : σ15.2 39 = σ1.2 39 := (gb.1 39 (by decide)).trans (ga.1 39 (by decide))
      have e33a := ga.2.1
      have e34a := gb.2.1
      rw [ga.1 34 (by decide)] at e34a
      refine go_aload_n (i := 0) (pc' := 57) dX0_joinFound_56 rfl rfl rfl ?_
      refine gf_3_weekdays (pc' := 60) dX0_joinFound_57 rfl fl_X0_36 ?_
      refine go_iload_n (i := 3) (pc' := 61) dX0_joinFound_60 rfl rfl rfl ?_
      refine go_iald (pc' := 62) dX0_joinFound_61 rfl (by decide) (by decide) rfl (vin_of (n := 12) (by omega) (by omega)) ?_
      refine go_iconst (v := (-1)) (pc' := 63) dX0_joinFound_62 rfl (by decide) ?_
      refine gz_icmp_ne (tgt := 81) (pc' := 66) dX0_joinFound_63 rfl (by decide) (fun c16 => ?_) (fun c16 => ?_)
      · refine go_aload_n (i := 0) (pc' := 82) dX0_joinFound_81 rfl rfl rfl ?_
        refine gf_3_weekdays (pc' := 85) dX0_joinFound_82 rfl fl_X0_36 ?_
        refine go_iload_n (i := 2) (pc' := 86) dX0_joinFound_85 rfl rfl rfl ?_
        refine go_iald (pc' := 87) dX0_joinFound_86 rfl (by decide) (by decide) rfl (vin_of (n := 12) (by omega) (by omega)) ?_
        refine go_iconst (v := (-1)) (pc' := 88) dX0_joinFound_87 rfl (by decide) ?_
        refine gz_icmp_eq (tgt := 108) (pc' := 91) dX0_joinFound_88 rfl (by decide) (fun c17 => ?_) (fun c17 => ?_)
        · have st108 : ∀ i2 : Nat, i2 = (x2_1).toNatClampNeg + 1 → JI σ kp σ15 i2 := fun i2 ei => by
            first
            | exact JI_step fd hJ_1 (by omega) ei e3 (((gc.1 33 (by decide)).trans (gb.1 33 (by decide))).trans e33a) ((gc.1 34 (by decide)).trans e34a) mx mn (Or.inl ⟨by rw [← k39]; omega, by rw [gc.2.1, k39]⟩)
            | exact JI_step fd hJ_1 (by omega) ei e3 ((gb.1 33 (by decide)).trans e33a) e34a mx mn (Or.inr ⟨by rw [← k39]; omega, k39, by rw [← k39]; omega⟩)
          refine gz_iinc (c := 1) (pc' := 111) dX0_joinFound_108 rfl rfl (by decide) (by decide) (by decide) (by omega) (fun v18 h18 e18 => ?_)
          refine go_goto (tgt := 2) dX0_joinFound_111 (by decide) ?_
          exact go_lv (lv' := [(0, .ref (L.2.1 3)), (1, .int n), (2, .int v18)]) rfl (ih1 _ (by omega) σ15 v18 w15 (by omega) (st108 _ (by have cv := cnat (x := v18) (by omega); omega)) rfl)
        refine go_aload_n (i := 0) (pc' := 92) dX0_joinFound_91 rfl rfl rfl ?_
        refine gf_3_weekdays (pc' := 95) dX0_joinFound_92 rfl fl_X0_36 ?_
        refine go_iload_n (i := 2) (pc' := 96) dX0_joinFound_95 rfl rfl rfl ?_
        refine go_iald (pc' := 97) dX0_joinFound_96 rfl (by decide) (by decide) rfl (vin_of (n := 12) (by omega) (by omega)) ?_
        refine go_aload_n (i := 0) (pc' := 98) dX0_joinFound_97 rfl rfl rfl ?_
        refine gf_3_weekdays (pc' := 101) dX0_joinFound_98 rfl fl_X0_36 ?_
        refine go_iload_n (i := 3) (pc' := 102) dX0_joinFound_101 rfl rfl rfl ?_
        refine go_iald (pc' := 103) dX0_joinFound_102 rfl (by decide) (by decide) rfl (vin_of (n := 12) (by omega) (by omega)) ?_
        refine gz_icmp_eq (tgt := 108) (pc' := 106) dX0_joinFound_103 rfl (by decide) (fun c19 => ?_) (fun c19 => ?_)
        · have st108 : ∀ i2 : Nat, i2 = (x2_1).toNatClampNeg + 1 → JI σ kp σ15 i2 := fun i2 ei => by
            first
            | exact JI_step fd hJ_1 (by omega) ei e3 (((gc.1 33 (by decide)).trans (gb.1 33 (by decide))).trans e33a) ((gc.1 34 (by decide)).trans e34a) mx mn (Or.inl ⟨by rw [← k39]; omega, by rw [gc.2.1, k39]⟩)
            | exact JI_step fd hJ_1 (by omega) ei e3 ((gb.1 33 (by decide)).trans e33a) e34a mx mn (Or.inr ⟨by rw [← k39]; omega, k39, by rw [← k39]; omega⟩)
          refine gz_iinc (c := 1) (pc' := 111) dX0_joinFound_108 rfl rfl (by decide) (by decide) (by decide) (by omega) (fun v20 h20 e20 => ?_)
          refine go_goto (tgt := 2) dX0_joinFound_111 (by decide) ?_
          exact go_lv (lv' := [(0, .ref (L.2.1 3)), (1, .int n), (2, .int v20)]) rfl (ih1 _ (by omega) σ15 v20 w15 (by omega) (st108 _ (by have cv := cnat (x := v20) (by omega); omega)) rfl)
        refine go_iconst (v := 0) (pc' := 107) dX0_joinFound_106 rfl (by decide) ?_
        exact go_zret dX0_joinFound_107 rfl rfl (⟨w15, Or.inl ⟨n0, fun x hx => JI_no fd hJ_1 (by omega) e3 (by rw [← k39]; omega) (by rw [← k39]; omega) (by rw [← k39]; omega) hx⟩⟩)
      refine go_aload_n (i := 0) (pc' := 67) dX0_joinFound_66 rfl rfl rfl ?_
      refine gf_3_weekdays (pc' := 70) dX0_joinFound_67 rfl fl_X0_36 ?_
      refine go_iload_n (i := 3) (pc' := 71) dX0_joinFound_70 rfl rfl rfl ?_
      refine go_aload_n (i := 0) (pc' := 72) dX0_joinFound_71 rfl rfl rfl ?_
      refine gf_3_weekdays (pc' := 75) dX0_joinFound_72 rfl fl_X0_36 ?_
      refine go_iload_n (i := 2) (pc' := 76) dX0_joinFound_75 rfl rfl rfl ?_
      refine go_iald (pc' := 77) dX0_joinFound_76 rfl (by decide) (by decide) rfl (vin_of (n := 12) (by omega) (by omega)) ?_
      refine go_iast (pc' := 78) dX0_joinFound_77 rfl (by decide) (by decide) rfl (vin_of (n := 12) (by omega) (by omega)) ?_
      refine go_gen (P := fun s => WXj σ s ∧ (∀ q : Nat, q ≠ 39 → s.2 q = σ15.2 q) ∧ s.2 39 = upd (σ15.2 39) (y11).toNatClampNeg (σ15.2 39 (x2_1).toNatClampNeg) ∧ s.1 = σ15.1) ⟨⟨ixt_n w15.1 (by decide), Ag_setA w15.2 (by decide)⟩, ⟨fun q hq => setA_ne (a := q) _ _ _ _ hq, setA_same _ _ _ _, rfl⟩⟩ (fun σ21 z21 => ?_)
      obtain ⟨w21, g21⟩ := z21
      have gc := g21
      refine go_goto (tgt := 108) dX0_joinFound_78 (by decide) ?_
      have st108 : ∀ i2 : Nat, i2 = (x2_1).toNatClampNeg + 1 → JI σ kp σ21 i2 := fun i2 ei => by
        first
        | exact JI_step fd hJ_1 (by omega) ei e3 (((gc.1 33 (by decide)).trans (gb.1 33 (by decide))).trans e33a) ((gc.1 34 (by decide)).trans e34a) mx mn (Or.inl ⟨by rw [← k39]; omega, by rw [gc.2.1, k39]⟩)
        | exact JI_step fd hJ_1 (by omega) ei e3 ((gb.1 33 (by decide)).trans e33a) e34a mx mn (Or.inr ⟨by rw [← k39]; omega, k39, by rw [← k39]; omega⟩)
      refine gz_iinc (c := 1) (pc' := 111) dX0_joinFound_108 rfl rfl (by decide) (by decide) (by decide) (by omega) (fun v22 h22 e22 => ?_)
      refine go_goto (tgt := 2) dX0_joinFound_111 (by decide) ?_
      exact go_lv (lv' := [(0, .ref (L.2.1 3)), (1, .int n), (2, .int v22)]) rfl (ih1 _ (by omega) σ21 v22 w21 (by omega) (st108 _ (by have cv := cnat (x := v22) (by omega); omega)) rfl)
  exact go_lv (lv' := [(0, .ref (L.2.1 3)), (1, .int n), (2, .int (0 : Int32))]) rfl (loop2_1 _ σ (0 : Int32) w0 (by omega) (by rw [z0]; exact JI_0 ix is) rfl)
