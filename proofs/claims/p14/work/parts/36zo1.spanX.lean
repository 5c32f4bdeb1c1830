/-- the LETTER that j is by FOUND, or itself -/
def rtF (fo : Nat → Int32) (j : Nat) : Nat := if (fo j).toInt < 0 then j else (fo j).toNatClampNeg
abbrev rtX (σ : ST) (j : Nat) : Nat := rtF (σ.2 31) j
/-- a LETTER that is not FOUND -/
abbrev ROOT (σ : ST) (j : Nat) : Prop := (j : Int) < (σ.1 3).toInt ∧ (σ.2 31 j).toInt < 0
/-- FOUND ones are LETTERS that are not FOUND themselves; BOUNDS tell of LETTERS -/
def FDX (σ : ST) : Prop := (∀ j : Nat, (j : Int) < (σ.1 3).toInt → ROOT σ (rtX σ j)) ∧ ∀ k : Nat, (k : Int) < (σ.1 4).toInt → (σ.2 35 k).toInt < (σ.1 3).toInt ∧ (σ.2 36 k).toInt < (σ.1 3).toInt
def FSX (σ : ST) (kp : Nat → Prop) (x : Nat → Int) : Prop := FS (σ.2 28) (σ.2 29) (σ.2 30) (σ.2 31) (σ.2 35) (σ.2 36) (σ.2 37) (σ.1 3).toInt (σ.1 4).toInt kp x
abbrev srX (σ : ST) (k : Nat) : Nat := rtX σ (σ.2 35 k).toNatClampNeg
abbrev dsX (σ : ST) (k : Nat) : Nat := rtX σ (σ.2 36 k).toNatClampNeg
abbrev shX (σ : ST) (k : Nat) : Int := (σ.2 37 k).toInt
/-- the class's roots -/
def RTS (σ : ST) : Prop := ∀ j : Nat, (j : Int) < (σ.1 3).toInt → (σ.2 38 j).toInt = (rtX σ j : Int)
/-- nothing that was told has changed, nor the roots -/
def SD (σ s : ST) : Prop := s.1 3 = σ.1 3 ∧ s.1 4 = σ.1 4 ∧ s.2 28 = σ.2 28 ∧ s.2 29 = σ.2 29 ∧ s.2 30 = σ.2 30 ∧ s.2 31 = σ.2 31 ∧ s.2 35 = σ.2 35 ∧ s.2 36 = σ.2 36 ∧ s.2 37 = σ.2 37
theorem SD_Ag {sI sA : Nat → Prop} {σ s : ST} (h : Ag sI sA σ s) (hI : ¬ sI 3 ∧ ¬ sI 4) (hA : ∀ k : Nat, k ∈ [28, 29, 30, 31, 35, 36, 37] → ¬ sA k) : SD σ s := ⟨h.1 3 hI.1, h.1 4 hI.2, h.2 28 (hA 28 (by decide)), h.2 29 (hA 29 (by decide)), h.2 30 (hA 30 (by decide)), h.2 31 (hA 31 (by decide)), h.2 35 (hA 35 (by decide)), h.2 36 (hA 36 (by decide)), h.2 37 (hA 37 (by decide))⟩
theorem SD_WX {σ s : ST} (h : WX σ s) : SD σ s := SD_Ag h.2 (by decide) (by decide)
theorem FSX_e {σ s : ST} (h : SD σ s) {kp : Nat → Prop} {x : Nat → Int} : FSX s kp x ↔ FSX σ kp x := by
  obtain ⟨a, b, c, d, e, f, g, i, j⟩ := h
  unfold FSX
  rw [a, b, c, d, e, f, g, i, j]
theorem FD_e {σ s : ST} (h : SD σ s) (fd : FDX σ) : FDX s := by
  obtain ⟨a, b, c, d, e, f, g, i, j⟩ := h
  unfold FDX ROOT rtX
  rw [a, b, f, g, i]
  exact fd
theorem RTS_e {σ s : ST} (h : SD σ s) (e : s.2 38 = σ.2 38) (rt : RTS σ) : RTS s := by
  obtain ⟨a, b, c, d, e1, f, g, i, j⟩ := h
  unfold RTS rtX
  rw [a, e, f]
  exact rt
theorem rt_no {σ s : ST} {j : Nat} (e : s.2 31 = σ.2 31) (h : (s.2 31 j).toInt = -1) : rtX σ j = j := by
  rw [e] at h
  exact if_pos (by omega)
theorem rt_yes {σ s : ST} {j : Nat} (e : s.2 31 = σ.2 31) (g : -1 ≤ (s.2 31 j).toInt) (h : (s.2 31 j).toInt ≠ -1) : (s.2 31 j).toInt = (rtX σ j : Int) := by
  rw [e] at g h ⊢
  have z : rtX σ j = (σ.2 31 j).toNatClampNeg := if_neg (by omega)
  rw [z]
  exact (cnat (by omega)).symm
theorem rtX_root {σ : ST} {j : Nat} (h : ROOT σ j) : rtX σ j = j := if_pos h.2
theorem rtX_ne {σ : ST} {j : Nat} (h : ¬ (σ.2 31 j).toInt < 0) : rtX σ j = (σ.2 31 j).toNatClampNeg := if_neg h
theorem FSX_rt {σ : ST} {kp : Nat → Prop} {x : Nat → Int} (h : FSX σ kp x) {j : Nat} (hj : (j : Int) < (σ.1 3).toInt) : x j = x (rtX σ j) := by
  by_cases c : (σ.2 31 j).toInt < 0
  · rw [show rtX σ j = j from if_pos c]
  · rw [rtX_ne c]
    exact (h.1 j hj).2.2.2 (by omega)
theorem FSX_bd {σ : ST} {kp : Nat → Prop} {x : Nat → Int} (fd : FDX σ) (iv : IV σ) (h : FSX σ kp x) {k : Nat} (hk : (k : Int) < (σ.1 4).toInt) (hp : kp k) : x (srX σ k) + shX σ k ≤ x (dsX σ k) := by
  have u4 := ixi_4 iv
  have g5 := ixa_35 iv k (by omega)
  have g6 := ixa_36 iv k (by omega)
  have f := fd.2 k hk
  have q := h.2 k hk hp
  rw [FSX_rt h (j := (σ.2 35 k).toNatClampNeg) (by rw [cnat g5.1]; exact f.1), FSX_rt h (j := (σ.2 36 k).toNatClampNeg) (by rw [cnat g6.1]; exact f.2)] at q
  exact q
theorem FSX_of {σ : ST} {kp : Nat → Prop} {y : Nat → Int} (fd : FDX σ) (hr : ∀ i : Nat, (i : Int) < (σ.1 3).toInt → (σ.2 28 i).toInt ≤ y (rtX σ i) ∧ y (rtX σ i) ≤ (σ.2 29 i).toInt ∧ (0 ≤ (σ.2 30 i).toInt → y (rtX σ i) % 7 = (σ.2 30 i).toInt)) (hb : ∀ k : Nat, (k : Int) < (σ.1 4).toInt → kp k → y (srX σ k) + shX σ k ≤ y (dsX σ k)) : FSX σ kp (fun i => y (rtX σ i)) := ⟨fun i hi => ⟨(hr i hi).1, (hr i hi).2.1, (hr i hi).2.2, fun f => by
  show y (rtX σ i) = y (rtX σ (σ.2 31 i).toNatClampNeg)
  have e := rtX_ne (σ := σ) (j := i) (by omega)
  have r := fd.1 i hi
  rw [← e, rtX_root r]⟩, fun k hk q => hb k hk q⟩
theorem sr_root {σ : ST} (fd : FDX σ) (iv : IV σ) {k : Nat} (hk : (k : Int) < (σ.1 4).toInt) : ROOT σ (srX σ k) ∧ ROOT σ (dsX σ k) ∧ ((σ.2 35 k).toNatClampNeg : Int) < (σ.1 3).toInt ∧ ((σ.2 36 k).toNatClampNeg : Int) < (σ.1 3).toInt := by
  have u4 := ixi_4 iv
  have g5 := cnat (ixa_35 iv k (by omega)).1
  have g6 := cnat (ixa_36 iv k (by omega)).1
  have f := fd.2 k hk
  exact ⟨fd.1 _ (by omega), fd.1 _ (by omega), by omega, by omega⟩
theorem root12 {σ : ST} (iv : IV σ) {j : Nat} (h : ROOT σ j) : j < 12 := by
  have u3 := ixi_3 iv
  have := h.1
  omega
theorem and1_v (x : Int32) : (x &&& 1).toInt = 0 ∨ (x &&& 1).toInt = 1 := by
  have e : (x &&& 1).toBitVec = x.toBitVec &&& 1#32 := rfl
  have h : (x &&& 1).toBitVec.toNat = x.toBitVec.toNat % 2 := by
    rw [e, BitVec.toNat_and]
    exact Nat.and_two_pow_sub_one_eq_mod x.toBitVec.toNat 1
  have h2 : (x &&& 1).toInt = (x &&& 1).toBitVec.toInt := rfl
  rw [h2, BitVec.toInt_eq_toNat_of_lt (by omega), h]
  omega
/-- lows and highs of the LETTERS as told, those of FOUND ones in their roots too; of the weekdays -/
def JF (kp : Nat → Prop) (s : ST) : Prop := ∀ j : Nat, ROOT s j → (0 ≤ (s.2 33 j).toInt ∧ (s.2 33 j).toInt ≤ 10005 ∧ -6 ≤ (s.2 34 j).toInt ∧ (s.2 34 j).toInt ≤ 9999 ∧ -1 ≤ (s.2 39 j).toInt ∧ (s.2 39 j).toInt ≤ 6) ∧ (0 ≤ (s.2 39 j).toInt → (s.2 33 j).toInt % 7 = (s.2 39 j).toInt ∧ (s.2 34 j).toInt % 7 = (s.2 39 j).toInt) ∧ (∀ x : Nat → Int, FSX s kp x → (s.2 33 j).toInt ≤ x j ∧ x j ≤ (s.2 34 j).toInt ∧ (0 ≤ (s.2 39 j).toInt → x j % 7 = (s.2 39 j).toInt)) ∧ ∀ i : Nat, (i : Int) < (s.1 3).toInt → rtX s i = j → (s.2 28 i).toInt ≤ (s.2 33 j).toInt ∧ (s.2 34 j).toInt ≤ (s.2 29 i).toInt ∧ (0 ≤ (s.2 30 i).toInt → (s.2 39 j).toInt = (s.2 30 i).toInt)
/-! ===== lows that are raised ===== -/
def wkE (σ : ST) (u : Nat) : Int := if ROOT σ u then (σ.2 39 u).toInt else -1
def lwE (σ : ST) (g : Nat → Int32) (u : Nat) : Int := if ROOT σ u then (g u).toInt else 0
def EdX (σ : ST) (kp : Nat → Prop) (a c : Nat) (s : Int) : Prop := ∃ k : Nat, (k : Int) < (σ.1 4).toInt ∧ kp k ∧ a = srX σ k ∧ c = dsX σ k ∧ s = shX σ k
theorem wkE_r {σ : ST} {u : Nat} (h : ROOT σ u) : wkE σ u = (σ.2 39 u).toInt := if_pos h
theorem lwE_r {σ : ST} {g : Nat → Int32} {u : Nat} (h : ROOT σ u) : lwE σ g u = (g u).toInt := if_pos h
def RN (σ : ST) (kp : Nat → Prop) (r k : Nat) (g : Nat → Int32) : Prop := RND (wkE σ) (EdX σ kp) (σ.1 4).toInt.toNat kp (srX σ) (dsX σ) (shX σ) r k (lwE σ g)
def CG (σ : ST) (kp : Nat → Prop) (r : Nat) (g : Nat → Int32) : Prop := ∃ u : Nat, CGE (wkE σ) (EdX σ kp) (lwE σ g) r u
def HLD (σ : ST) (kp : Nat → Prop) (g : Nat → Int32) (k : Nat) : Prop := ∀ e : Nat, e < k → (e : Int) < (σ.1 4).toInt → kp e → (g (srX σ e)).toInt + shX σ e ≤ (g (dsX σ e)).toInt
def LWI (σ : ST) (kp : Nat → Prop) (g : Nat → Int32) (r k : Nat) : Prop := ∀ j : Nat, ROOT σ j → (σ.2 33 j).toInt ≤ (g j).toInt ∧ (g j).toInt ≤ 10005 + 506 * (20 * r + k) ∧ (0 ≤ (σ.2 39 j).toInt → (g j).toInt % 7 = (σ.2 39 j).toInt) ∧ ∀ x : Nat → Int, FSX σ kp x → (g j).toInt ≤ x j
def RWI (σ : ST) (kp : Nat → Prop) (g : Nat → Int32) (r k : Nat) : Prop := LWI σ kp g r k ∧ RN σ kp r k g
theorem wkE_lt {σ : ST} {kp : Nat → Prop} (jf : JF kp σ) (u : Nat) : wkE σ u < 7 := by
  unfold wkE
  split
  · rename_i h
    have := (jf u h).1
    omega
  · decide
theorem RWI_0 {σ : ST} {kp : Nat → Prop} (iv : IV σ) (fd : FDX σ) (jf : JF kp σ) : RWI σ kp (σ.2 33) 0 0 := by
  refine ⟨fun j hj => ?_, RND_0 (fun e he _ => root12 iv (sr_root fd iv (show (e : Int) < (σ.1 4).toInt by omega)).1) (fun u hu hw => ?_)⟩
  · have := jf j hj
    exact ⟨Int.le_refl _, by omega, fun w => (this.2.1 w).1, fun x hx => (this.2.2.1 x hx).1⟩
  · by_cases h : ROOT σ u
    · rw [wkE_r h] at hw ⊢
      rw [lwE_r h]
      exact ((jf u h).2.1 hw).1
    · exfalso
      unfold wkE at hw
      rw [if_neg h] at hw
      omega
theorem RWI_skip {σ : ST} {kp : Nat → Prop} {g : Nat → Int32} {r k k2 : Nat} (iv : IV σ) (fd : FDX σ) (h : RWI σ kp g r k) (e : k2 = k + 1) (hk : (k : Int) < (σ.1 4).toInt) (hs : kp k → (g (srX σ k)).toInt + shX σ k ≤ (g (dsX σ k)).toInt) : RWI σ kp g r k2 := by
  subst e
  refine ⟨fun j hj => ?_, RND_skip h.2 (fun q => ?_)⟩
  · have := h.1 j hj
    exact ⟨this.1, by omega, this.2.2⟩
  · have sr := sr_root fd iv hk
    rw [lwE_r sr.1, lwE_r sr.2.1]
    exact hs q
theorem RWI_up {σ : ST} {kp : Nat → Prop} {g g2 : Nat → Int32} {r k k2 : Nat} {v : Int32} (iv : IV σ) (fd : FDX σ) (jf : JF kp σ) (h : RWI σ kp g r k) (e : k2 = k + 1) (hk : (k : Int) < (σ.1 4).toInt) (hp : kp k) (hz : (g (dsX σ k)).toInt < dwn (σ.2 39 (dsX σ k)).toInt ((g (srX σ k)).toInt + shX σ k)) (ev : v.toInt = dwn (σ.2 39 (dsX σ k)).toInt ((g (srX σ k)).toInt + shX σ k)) (eg : g2 = upd g (dsX σ k) v) : RWI σ kp g2 r k2 ∧ CG σ kp (r + 1) g2 := by
  subst e
  have sr := sr_root fd iv hk
  have u4 := ixi_4 iv
  have g7 := ixa_37 iv k (by omega)
  have d := dwn_ge (σ.2 39 (dsX σ k)).toInt ((g (srX σ k)).toInt + shX σ k)
  have up := RND_up (low2 := lwE σ g2) h.2 (show k < (σ.1 4).toInt.toNat by omega) hp ⟨k, hk, hp, rfl, rfl, rfl⟩ (root12 iv sr.2.1) (wkE_lt jf _) (by rw [lwE_r sr.1, lwE_r sr.2.1, wkE_r sr.2.1]; exact hz) (by rw [lwE_r sr.1, lwE_r sr.2.1, wkE_r sr.2.1, eg, upd_eq, ev]) (fun q hq => by
    unfold lwE
    rw [eg, upd_ne hq])
  refine ⟨⟨fun j hj => ?_, up.1⟩, ⟨_, up.2⟩⟩
  rw [eg]
  by_cases c : j = dsX σ k
  · rw [c, upd_eq, ev]
    rw [c] at hj
    have b := h.1 _ hj
    have a := h.1 _ sr.1
    have w := (jf _ hj).1
    refine ⟨by omega, ?_, fun q => dwn_w q (by omega), fun x hx => dwn_le (by omega) ?_ ((jf _ hj).2.2.1 x hx).2.2⟩
    · have := a.2.1
      show dwn _ _ ≤ _
      have : shX σ k ≤ 500 := g7.2
      omega
    · have q := FSX_bd fd iv hx hk hp
      have := a.2.2.2 x hx
      omega
  · rw [upd_ne c]
    have := h.1 j hj
    exact ⟨this.1, by omega, this.2.2⟩
theorem RWI_next {σ : ST} {kp : Nat → Prop} {g : Nat → Int32} {r k r2 : Nat} (iv : IV σ) (h : RWI σ kp g r k) (ek : (k : Int) = (σ.1 4).toInt) (e : r2 = r + 1) : RWI σ kp g r2 0 := by
  subst e
  have u4 := ixi_4 iv
  have e2 : (σ.1 4).toInt.toNat = k := by omega
  have h2 := h.2
  unfold RN at h2
  rw [e2] at h2
  refine ⟨fun j hj => ?_, ?_⟩
  · have := h.1 j hj
    exact ⟨this.1, by omega, this.2.2⟩
  · unfold RN
    rw [e2]
    exact RND_next h2
theorem CG_no {σ : ST} {kp : Nat → Prop} {g : Nat → Int32} {r r2 k : Nat} {x : Nat → Int} (iv : IV σ) (fd : FDX σ) (jf : JF kp σ) (h : RWI σ kp g r2 k) (c : CG σ kp r g) (hr : 48 ≤ r) (hx : FSX σ kp x) : False := by
  obtain ⟨u, n, hn, ch⟩ := c
  refine CHN_no (x := fun u => if ROOT σ u then x u else 0) ch (by omega) (fun u _ => wkE_lt jf u) (fun a c s he => ?_) (fun u _ hw => ?_) (fun u _ => ?_)
  · obtain ⟨k, hk, hp, rfl, rfl, rfl⟩ := he
    have sr := sr_root fd iv hk
    show (if ROOT σ (srX σ k) then x (srX σ k) else 0) + shX σ k ≤ (if ROOT σ (dsX σ k) then x (dsX σ k) else 0)
    rw [if_pos sr.1, if_pos sr.2.1]
    exact FSX_bd fd iv hx hk hp
  · show (if ROOT σ u then x u else 0) % 7 = _
    by_cases z : ROOT σ u
    · rw [wkE_r z] at hw ⊢
      rw [if_pos z]
      exact ((jf u z).2.2.1 x hx).2.2 hw
    · exfalso
      unfold wkE at hw
      rw [if_neg z] at hw
      omega
  · show lwE σ g u ≤ (if ROOT σ u then x u else 0)
    by_cases z : ROOT σ u
    · rw [lwE_r z, if_pos z]
      exact (h.1 u z).2.2.2 x hx
    · unfold lwE
      rw [if_neg z, if_neg z]
      exact Int.le_refl _
theorem HLD_s {σ : ST} {kp : Nat → Prop} {g : Nat → Int32} {k k2 : Nat} (h : HLD σ kp g k) (e : k2 = k + 1) (hs : kp k → (g (srX σ k)).toInt + shX σ k ≤ (g (dsX σ k)).toInt) : HLD σ kp g k2 := fun e1 h1 h2 h3 => by
  subst e
  by_cases c : e1 = k
  · rw [c] at h3 ⊢
    exact hs h3
  · exact h e1 (by omega) h2 h3
/-- what raiseBy, sinkBy do with the root a, b of a BOUND by d (a name of its own: omega must not look into it) -/
def RBP (σ : ST) (a b : Nat) (d : Int) (r : Int32) (σ2 : ST) : Prop := (r.toInt = 0 ∧ σ2 = σ ∧ dwn (σ.2 39 b).toInt ((σ.2 33 a).toInt + d) ≤ (σ.2 33 b).toInt) ∨ (r.toInt = 1 ∧ (σ.2 33 b).toInt < dwn (σ.2 39 b).toInt ((σ.2 33 a).toInt + d) ∧ ∃ v : Int32, v.toInt = dwn (σ.2 39 b).toInt ((σ.2 33 a).toInt + d) ∧ σ2 = setA σ 33 b v)
def SBP (σ : ST) (a b : Nat) (d : Int) (r : Int32) (σ2 : ST) : Prop := (r.toInt = 0 ∧ σ2 = σ ∧ (σ.2 34 a).toInt ≤ uwn (σ.2 39 a).toInt ((σ.2 34 b).toInt - d)) ∨ (r.toInt = 1 ∧ uwn (σ.2 39 a).toInt ((σ.2 34 b).toInt - d) < (σ.2 34 a).toInt ∧ ∃ v : Int32, v.toInt = uwn (σ.2 39 a).toInt ((σ.2 34 b).toInt - d) ∧ σ2 = setA σ 34 a v)
/-- lows are the least there may be -/
def JL (σ : ST) (kp : Nat → Prop) (g : Nat → Int32) : Prop := (∀ j : Nat, ROOT σ j → (σ.2 33 j).toInt ≤ (g j).toInt ∧ (g j).toInt ≤ (σ.2 34 j).toInt ∧ (0 ≤ (σ.2 39 j).toInt → (g j).toInt % 7 = (σ.2 39 j).toInt) ∧ ∀ x : Nat → Int, FSX σ kp x → (g j).toInt ≤ x j) ∧ ∀ k : Nat, (k : Int) < (σ.1 4).toInt → kp k → (g (srX σ k)).toInt + shX σ k ≤ (g (dsX σ k)).toInt
theorem JL_FS {σ : ST} {kp : Nat → Prop} {g : Nat → Int32} (fd : FDX σ) (jf : JF kp σ) (h : JL σ kp g) : FSX σ kp (fun i => (g (rtX σ i)).toInt) := FSX_of (y := fun i => (g i).toInt) fd (fun i hi => by
  have r := fd.1 i hi
  have a := h.1 _ r
  have b := (jf _ r).2.2.2 i hi rfl
  refine ⟨by omega, by omega, fun w => ?_⟩
  have c := b.2.2 w
  rw [← c]
  exact a.2.2.1 (by omega)) h.2
abbrev WXrA (k : Nat) : Prop := k = 33
def WXr (σ σ2 : ST) : Prop := IV σ2 ∧ Ag noI WXrA σ σ2
theorem WXr_rfl {σ : ST} (h : IV σ) : WXr σ σ := ⟨h, Ag_rfl σ⟩
theorem WXr_trans {σ σ2 σ3 : ST} (h : WXr σ σ2) (h2 : WXr σ2 σ3) : WXr σ σ3 := ⟨h2.1, Ag_trans h.2 h2.2⟩
theorem WXr_WX {σ σ2 : ST} (h : WXr σ σ2) : WX σ σ2 := ⟨h.1, ⟨fun i _ => h.2.1 i (fun q => q), fun k hk => h.2.2 k (fun q => hk (by unfold sxA; unfold WXrA at q; omega))⟩⟩
theorem WXr_SD {σ σ2 : ST} (h : WXr σ σ2) : SD σ σ2 := SD_Ag h.2 (by decide) (by decide)
abbrev WXsA (k : Nat) : Prop := k = 34
def WXs (σ σ2 : ST) : Prop := IV σ2 ∧ Ag noI WXsA σ σ2
theorem WXs_rfl {σ : ST} (h : IV σ) : WXs σ σ := ⟨h, Ag_rfl σ⟩
theorem WXs_trans {σ σ2 σ3 : ST} (h : WXs σ σ2) (h2 : WXs σ2 σ3) : WXs σ σ3 := ⟨h2.1, Ag_trans h.2 h2.2⟩
theorem WXs_WX {σ σ2 : ST} (h : WXs σ σ2) : WX σ σ2 := ⟨h.1, ⟨fun i _ => h.2.1 i (fun q => q), fun k hk => h.2.2 k (fun q => hk (by unfold sxA; unfold WXsA at q; omega))⟩⟩
theorem WXs_SD {σ σ2 : ST} (h : WXs σ σ2) : SD σ σ2 := SD_Ag h.2 (by decide) (by decide)
abbrev WXjA (k : Nat) : Prop := k = 33 ∨ k = 34 ∨ k = 39
def WXj (σ σ2 : ST) : Prop := IV σ2 ∧ Ag noI WXjA σ σ2
theorem WXj_rfl {σ : ST} (h : IV σ) : WXj σ σ := ⟨h, Ag_rfl σ⟩
theorem WXj_trans {σ σ2 σ3 : ST} (h : WXj σ σ2) (h2 : WXj σ2 σ3) : WXj σ σ3 := ⟨h2.1, Ag_trans h.2 h2.2⟩
theorem WXj_WX {σ σ2 : ST} (h : WXj σ σ2) : WX σ σ2 := ⟨h.1, ⟨fun i _ => h.2.1 i (fun q => q), fun k hk => h.2.2 k (fun q => hk (by unfold sxA; unfold WXjA at q; omega))⟩⟩
theorem WXj_SD {σ σ2 : ST} (h : WXj σ σ2) : SD σ σ2 := SD_Ag h.2 (by decide) (by decide)
set_option maxHeartbeats 4000000 in
set_option maxRecDepth 100000 in
theorem f_X0_dayFrom (l : Launch) (L : WL) (σ : ST) (x y : Int32) (hx : -2000000 ≤ x.toInt ∧ x.toInt ≤ 2000000) (hy : -1 ≤ y.toInt ∧ y.toInt ≤ 6) : CtI l L yX0_dayFrom cX0_dayFrom 2 (some .int) rm_X0_dayFrom [.int x, .int y] σ (fun r σ2 => σ2 = σ ∧ r.toInt = dwn y.toInt x.toInt) := by
  refine ctI_go (own := RX0) (by decide) rfl (Nat.le_of_ble_eq_true rfl) (fun F hF => ?_)
  subst hF
  have nm1 : (-1 : Int32).toInt = -1 := by decide
  have n7 : (7 : Int32).toInt = 7 := by decide
  refine go_iload_n (i := 1) (pc' := 1) dX0_dayFrom_0 rfl rfl rfl ?_
  refine go_iconst (v := (-1)) (pc' := 2) dX0_dayFrom_1 rfl (by decide) ?_
  refine gz_icmp_ne (tgt := 9) (pc' := 5) dX0_dayFrom_2 rfl (by decide) (fun c1 => ?_) (fun c1 => ?_)
  · refine go_iload_n (i := 0) (pc' := 10) dX0_dayFrom_9 rfl rfl rfl ?_
    refine go_iload_n (i := 1) (pc' := 11) dX0_dayFrom_10 rfl rfl rfl ?_
    refine go_iload_n (i := 0) (pc' := 12) dX0_dayFrom_11 rfl rfl rfl ?_
    refine gz_isub (pc' := 13) dX0_dayFrom_12 rfl (by omega) (fun v2 h2 e2 => ?_)
    refine go_bipush (v := 7) (pc' := 15) dX0_dayFrom_13 rfl (by decide) ?_
    refine go_csi (pc' := 18) ls_X0_103 (f_floorMod7 _ _ _ _) rfl rfl (Nat.le_of_ble_eq_true rfl) ⟨Nat.le_of_ble_eq_true rfl, Nat.le_of_ble_eq_true rfl⟩ ⟨rfl, rfl⟩ dX0_dayFrom_15 rfl (fun r3 σ3 h3 => ?_)
    obtain ⟨e3, h3⟩ := h3
    have e3 := e3.symm
    subst e3
    refine gz_iadd (pc' := 19) dX0_dayFrom_18 rfl (by omega) (fun v4 h4 e4 => ?_)
    exact go_iret dX0_dayFrom_19 rfl (⟨rfl, by unfold dwn; first | (rw [if_neg (by omega)]; done) | (rw [if_pos (by omega)]; omega)⟩)
  refine go_iload_n (i := 0) (pc' := 6) dX0_dayFrom_5 rfl rfl rfl ?_
  refine go_goto (tgt := 19) dX0_dayFrom_6 (by decide) ?_
  exact go_iret dX0_dayFrom_19 rfl (⟨rfl, by unfold dwn; first | (rw [if_neg (by omega)]; done) | (rw [if_pos (by omega)]; omega)⟩)
set_option maxHeartbeats 4000000 in
set_option maxRecDepth 100000 in
theorem f_X0_dayUpTo (l : Launch) (L : WL) (σ : ST) (x y : Int32) (hx : -2000000 ≤ x.toInt ∧ x.toInt ≤ 2000000) (hy : -1 ≤ y.toInt ∧ y.toInt ≤ 6) : CtI l L yX0_dayUpTo cX0_dayUpTo 2 (some .int) rm_X0_dayUpTo [.int x, .int y] σ (fun r σ2 => σ2 = σ ∧ r.toInt = uwn y.toInt x.toInt) := by
  refine ctI_go (own := RX0) (by decide) rfl (Nat.le_of_ble_eq_true rfl) (fun F hF => ?_)
  subst hF
  have nm1 : (-1 : Int32).toInt = -1 := by decide
  have n7 : (7 : Int32).toInt = 7 := by decide
  refine go_iload_n (i := 1) (pc' := 1) dX0_dayUpTo_0 rfl rfl rfl ?_
  refine go_iconst (v := (-1)) (pc' := 2) dX0_dayUpTo_1 rfl (by decide) ?_
  refine gz_icmp_ne (tgt := 9) (pc' := 5) dX0_dayUpTo_2 rfl (by decide) (fun c1 => ?_) (fun c1 => ?_)
  · refine go_iload_n (i := 0) (pc' := 10) dX0_dayUpTo_9 rfl rfl rfl ?_
    refine go_iload_n (i := 0) (pc' := 11) dX0_dayUpTo_10 rfl rfl rfl ?_
    refine go_iload_n (i := 1) (pc' := 12) dX0_dayUpTo_11 rfl rfl rfl ?_
    refine gz_isub (pc' := 13) dX0_dayUpTo_12 rfl (by omega) (fun v2 h2 e2 => ?_)
    refine go_bipush (v := 7) (pc' := 15) dX0_dayUpTo_13 rfl (by decide) ?_
    refine go_csi (pc' := 18) ls_X0_103 (f_floorMod7 _ _ _ _) rfl rfl (Nat.le_of_ble_eq_true rfl) ⟨Nat.le_of_ble_eq_true rfl, Nat.le_of_ble_eq_true rfl⟩ ⟨rfl, rfl⟩ dX0_dayUpTo_15 rfl (fun r3 σ3 h3 => ?_)
    obtain ⟨e3, h3⟩ := h3
    have e3 := e3.symm
    subst e3
    refine gz_isub (pc' := 19) dX0_dayUpTo_18 rfl (by omega) (fun v4 h4 e4 => ?_)
    exact go_iret dX0_dayUpTo_19 rfl (⟨rfl, by unfold uwn; first | (rw [if_neg (by omega)]; done) | (rw [if_pos (by omega)]; omega)⟩)
  refine go_iload_n (i := 0) (pc' := 6) dX0_dayUpTo_5 rfl rfl rfl ?_
  refine go_goto (tgt := 19) dX0_dayUpTo_6 (by decide) ?_
  exact go_iret dX0_dayUpTo_19 rfl (⟨rfl, by unfold uwn; first | (rw [if_neg (by omega)]; done) | (rw [if_pos (by omega)]; omega)⟩)
set_option maxHeartbeats 4000000 in
set_option maxRecDepth 100000 in
theorem f_X0_raiseBy (l : Launch) (L : WL) (σ : ST) (k : Int32) (hk : 0 ≤ k.toInt ∧ k.toInt < 20) (hl : -1000000 ≤ (σ.2 33 (σ.2 38 (σ.2 35 (k).toNatClampNeg).toNatClampNeg).toNatClampNeg).toInt ∧ (σ.2 33 (σ.2 38 (σ.2 35 (k).toNatClampNeg).toNatClampNeg).toNatClampNeg).toInt ≤ 1000000) (hw : -1 ≤ (σ.2 39 (σ.2 38 (σ.2 36 (k).toNatClampNeg).toNatClampNeg).toNatClampNeg).toInt ∧ (σ.2 39 (σ.2 38 (σ.2 36 (k).toNatClampNeg).toNatClampNeg).toNatClampNeg).toInt ≤ 6) (ix : IV σ) : CtI l L yX0_raiseBy cX0_raiseBy 4 (some .boolean) rm_X0_raiseBy [.ref (L.2.1 3), .int k] σ (fun r σ2 => RBP σ (σ.2 38 (σ.2 35 (k).toNatClampNeg).toNatClampNeg).toNatClampNeg (σ.2 38 (σ.2 36 (k).toNatClampNeg).toNatClampNeg).toNatClampNeg (σ.2 37 (k).toNatClampNeg).toInt r σ2) := by
  refine ctI_go (own := RX0) (by decide) rfl (Nat.le_of_ble_eq_true rfl) (fun F hF => ?_)
  subst hF
  have n0 : (0 : Int32).toInt = 0 := by decide
  have n1 : (1 : Int32).toInt = 1 := by decide
  have w0 : WX σ σ := WX_rfl ix
  refine go_aload_n (i := 0) (pc' := 1) dX0_raiseBy_0 rfl rfl rfl ?_
  refine gf_3_roots (pc' := 4) dX0_raiseBy_1 rfl fl_X0_33 ?_
  refine go_aload_n (i := 0) (pc' := 5) dX0_raiseBy_4 rfl rfl rfl ?_
  refine gf_3_tos (pc' := 8) dX0_raiseBy_5 rfl fl_X0_27 ?_
  refine go_iload_n (i := 1) (pc' := 9) dX0_raiseBy_8 rfl rfl rfl ?_
  refine go_iald (pc' := 10) dX0_raiseBy_9 rfl (by decide) (by decide) rfl (vin_of (n := 20) (by omega) (by omega)) ?_
  have g1 := ixa_36 ix (k).toNatClampNeg (vinlt (show vp_in k 20 from (vin_of (n := 20) (by omega) (by omega))))
  refine go_iald (pc' := 11) dX0_raiseBy_10 rfl (by decide) (by decide) rfl (vin_of (n := 12) (by omega) (by omega)) ?_
  have g2 := ixa_38 ix ((σ.2 36 (k).toNatClampNeg)).toNatClampNeg (vinlt (show vp_in (σ.2 36 (k).toNatClampNeg) 12 from (vin_of (n := 12) (by omega) (by omega))))
  refine go_istore_n (i := 2) (pc' := 12) dX0_raiseBy_11 rfl rfl (by decide) ?_
  refine go_aload_n (i := 0) (pc' := 13) dX0_raiseBy_12 rfl rfl rfl ?_
  refine gf_3_lows (pc' := 16) dX0_raiseBy_13 rfl fl_X0_11 ?_
  refine go_aload_n (i := 0) (pc' := 17) dX0_raiseBy_16 rfl rfl rfl ?_
  refine gf_3_roots (pc' := 20) dX0_raiseBy_17 rfl fl_X0_33 ?_
  refine go_aload_n (i := 0) (pc' := 21) dX0_raiseBy_20 rfl rfl rfl ?_
  refine gf_3_froms (pc' := 24) dX0_raiseBy_21 rfl fl_X0_24 ?_
  refine go_iload_n (i := 1) (pc' := 25) dX0_raiseBy_24 rfl rfl rfl ?_
  refine go_iald (pc' := 26) dX0_raiseBy_25 rfl (by decide) (by decide) rfl (vin_of (n := 20) (by omega) (by omega)) ?_
  have g3 := ixa_35 ix (k).toNatClampNeg (vinlt (show vp_in k 20 from (vin_of (n := 20) (by omega) (by omega))))
  refine go_iald (pc' := 27) dX0_raiseBy_26 rfl (by decide) (by decide) rfl (vin_of (n := 12) (by omega) (by omega)) ?_
  have g4 := ixa_38 ix ((σ.2 35 (k).toNatClampNeg)).toNatClampNeg (vinlt (show vp_in (σ.2 35 (k).toNatClampNeg) 12 from (vin_of (n := 12) (by omega) (by omega))))
  refine go_iald (pc' := 28) dX0_raiseBy_27 rfl (by decide) (by decide) rfl (vin_of (n := 12) (by omega) (by omega)) ?_
  refine go_aload_n (i := 0) (pc' := 29) dX0_raiseBy_28 rfl rfl rfl ?_
  refine gf_3_shifts (pc' := 32) dX0_raiseBy_29 rfl fl_X0_30 ?_
  refine go_iload_n (i := 1) (pc' := 33) dX0_raiseBy_32 rfl rfl rfl ?_
  refine go_iald (pc' := 34) dX0_raiseBy_33 rfl (by decide) (by decide) rfl (vin_of (n := 20) (by omega) (by omega)) ?_
  have g5 := ixa_37 ix (k).toNatClampNeg (vinlt (show vp_in k 20 from (vin_of (n := 20) (by omega) (by omega))))
  refine gz_iadd (pc' := 35) dX0_raiseBy_34 rfl (by omega) (fun v6 h6 e6 => ?_)
  refine go_aload_n (i := 0) (pc' := 36) dX0_raiseBy_35 rfl rfl rfl ?_
  refine gf_3_weekdays (pc' := 39) dX0_raiseBy_36 rfl fl_X0_36 ?_
  refine go_iload_n (i := 2) (pc' := 40) dX0_raiseBy_39 rfl rfl rfl ?_
  refine go_iald (pc' := 41) dX0_raiseBy_40 rfl (by decide) (by decide) rfl (vin_of (n := 12) (by omega) (by omega)) ?_
  refine go_csi (pc' := 44) ls_X0_88 (f_X0_dayFrom _ _ _ _ _ (by omega) (by omega)) rfl rfl (Nat.le_of_ble_eq_true rfl) ⟨Nat.le_of_ble_eq_true rfl, Nat.le_of_ble_eq_true rfl⟩ ⟨rfl, rfl⟩ dX0_raiseBy_41 rfl (fun r7 σ7 h7 => ?_)
  obtain ⟨e7, h7⟩ := h7
  have e7 := e7.symm
  subst e7
  have ez : (r7).toInt = dwn (σ.2 39 (σ.2 38 (σ.2 36 (k).toNatClampNeg).toNatClampNeg).toNatClampNeg).toInt ((σ.2 33 (σ.2 38 (σ.2 35 (k).toNatClampNeg).toNatClampNeg).toNatClampNeg).toInt + (σ.2 37 (k).toNatClampNeg).toInt) := by rw [h7]; exact congrArg (dwn _) (by assumption)
  refine go_istore_n (i := 3) (pc' := 45) dX0_raiseBy_44 rfl rfl (by decide) ?_
  refine go_iload_n (i := 3) (pc' := 46) dX0_raiseBy_45 rfl rfl rfl ?_
  refine go_aload_n (i := 0) (pc' := 47) dX0_raiseBy_46 rfl rfl rfl ?_
  refine gf_3_lows (pc' := 50) dX0_raiseBy_47 rfl fl_X0_11 ?_
  refine go_iload_n (i := 2) (pc' := 51) dX0_raiseBy_50 rfl rfl rfl ?_
  refine go_iald (pc' := 52) dX0_raiseBy_51 rfl (by decide) (by decide) rfl (vin_of (n := 12) (by omega) (by omega)) ?_
  refine gz_icmp_gt (tgt := 57) (pc' := 55) dX0_raiseBy_52 rfl (by decide) (fun c8 => ?_) (fun c8 => ?_)
  · refine go_aload_n (i := 0) (pc' := 58) dX0_raiseBy_57 rfl rfl rfl ?_
    refine gf_3_lows (pc' := 61) dX0_raiseBy_58 rfl fl_X0_11 ?_
    refine go_iload_n (i := 2) (pc' := 62) dX0_raiseBy_61 rfl rfl rfl ?_
    refine go_iload_n (i := 3) (pc' := 63) dX0_raiseBy_62 rfl rfl rfl ?_
    refine go_iast (pc' := 64) dX0_raiseBy_63 rfl (by decide) (by decide) rfl (vin_of (n := 12) (by omega) (by omega)) ?_
    refine go_iconst (v := 1) (pc' := 65) dX0_raiseBy_64 rfl (by decide) ?_
    exact go_zret dX0_raiseBy_65 rfl rfl (Or.inr ⟨n1, by omega, _, by omega, rfl⟩)
  refine go_iconst (v := 0) (pc' := 56) dX0_raiseBy_55 rfl (by decide) ?_
  exact go_zret dX0_raiseBy_56 rfl rfl (Or.inl ⟨n0, rfl, by omega⟩)
set_option maxHeartbeats 4000000 in
set_option maxRecDepth 100000 in
theorem f_X0_sinkBy (l : Launch) (L : WL) (σ : ST) (k : Int32) (hk : 0 ≤ k.toInt ∧ k.toInt < 20) (hl : -1000000 ≤ (σ.2 34 (σ.2 38 (σ.2 36 (k).toNatClampNeg).toNatClampNeg).toNatClampNeg).toInt ∧ (σ.2 34 (σ.2 38 (σ.2 36 (k).toNatClampNeg).toNatClampNeg).toNatClampNeg).toInt ≤ 1000000) (hw : -1 ≤ (σ.2 39 (σ.2 38 (σ.2 35 (k).toNatClampNeg).toNatClampNeg).toNatClampNeg).toInt ∧ (σ.2 39 (σ.2 38 (σ.2 35 (k).toNatClampNeg).toNatClampNeg).toNatClampNeg).toInt ≤ 6) (ix : IV σ) : CtI l L yX0_sinkBy cX0_sinkBy 4 (some .boolean) rm_X0_sinkBy [.ref (L.2.1 3), .int k] σ (fun r σ2 => SBP σ (σ.2 38 (σ.2 35 (k).toNatClampNeg).toNatClampNeg).toNatClampNeg (σ.2 38 (σ.2 36 (k).toNatClampNeg).toNatClampNeg).toNatClampNeg (σ.2 37 (k).toNatClampNeg).toInt r σ2) := by
  refine ctI_go (own := RX0) (by decide) rfl (Nat.le_of_ble_eq_true rfl) (fun F hF => ?_)
  subst hF
  have n0 : (0 : Int32).toInt = 0 := by decide
  have n1 : (1 : Int32).toInt = 1 := by decide
  have w0 : WX σ σ := WX_rfl ix
  refine go_aload_n (i := 0) (pc' := 1) dX0_sinkBy_0 rfl rfl rfl ?_
  refine gf_3_roots (pc' := 4) dX0_sinkBy_1 rfl fl_X0_33 ?_
  refine go_aload_n (i := 0) (pc' := 5) dX0_sinkBy_4 rfl rfl rfl ?_
  refine gf_3_froms (pc' := 8) dX0_sinkBy_5 rfl fl_X0_24 ?_
  refine go_iload_n (i := 1) (pc' := 9) dX0_sinkBy_8 rfl rfl rfl ?_
  refine go_iald (pc' := 10) dX0_sinkBy_9 rfl (by decide) (by decide) rfl (vin_of (n := 20) (by omega) (by omega)) ?_
  have g1 := ixa_35 ix (k).toNatClampNeg (vinlt (show vp_in k 20 from (vin_of (n := 20) (by omega) (by omega))))
  refine go_iald (pc' := 11) dX0_sinkBy_10 rfl (by decide) (by decide) rfl (vin_of (n := 12) (by omega) (by omega)) ?_
  have g2 := ixa_38 ix ((σ.2 35 (k).toNatClampNeg)).toNatClampNeg (vinlt (show vp_in (σ.2 35 (k).toNatClampNeg) 12 from (vin_of (n := 12) (by omega) (by omega))))
  refine go_istore_n (i := 2) (pc' := 12) dX0_sinkBy_11 rfl rfl (by decide) ?_
  refine go_aload_n (i := 0) (pc' := 13) dX0_sinkBy_12 rfl rfl rfl ?_
  refine gf_3_highs (pc' := 16) dX0_sinkBy_13 rfl fl_X0_17 ?_
  refine go_aload_n (i := 0) (pc' := 17) dX0_sinkBy_16 rfl rfl rfl ?_
  refine gf_3_roots (pc' := 20) dX0_sinkBy_17 rfl fl_X0_33 ?_
  refine go_aload_n (i := 0) (pc' := 21) dX0_sinkBy_20 rfl rfl rfl ?_
  refine gf_3_tos (pc' := 24) dX0_sinkBy_21 rfl fl_X0_27 ?_
  refine go_iload_n (i := 1) (pc' := 25) dX0_sinkBy_24 rfl rfl rfl ?_
  refine go_iald (pc' := 26) dX0_sinkBy_25 rfl (by decide) (by decide) rfl (vin_of (n := 20) (by omega) (by omega)) ?_
  have g3 := ixa_36 ix (k).toNatClampNeg (vinlt (show vp_in k 20 from (vin_of (n := 20) (by omega) (by omega))))
  refine go_iald (pc' := 27) dX0_sinkBy_26 rfl (by decide) (by decide) rfl (vin_of (n := 12) (by omega) (by omega)) ?_
  have g4 := ixa_38 ix ((σ.2 36 (k).toNatClampNeg)).toNatClampNeg (vinlt (show vp_in (σ.2 36 (k).toNatClampNeg) 12 from (vin_of (n := 12) (by omega) (by omega))))
  refine go_iald (pc' := 28) dX0_sinkBy_27 rfl (by decide) (by decide) rfl (vin_of (n := 12) (by omega) (by omega)) ?_
  refine go_aload_n (i := 0) (pc' := 29) dX0_sinkBy_28 rfl rfl rfl ?_
  refine gf_3_shifts (pc' := 32) dX0_sinkBy_29 rfl fl_X0_30 ?_
  refine go_iload_n (i := 1) (pc' := 33) dX0_sinkBy_32 rfl rfl rfl ?_
  refine go_iald (pc' := 34) dX0_sinkBy_33 rfl (by decide) (by decide) rfl (vin_of (n := 20) (by omega) (by omega)) ?_
  have g5 := ixa_37 ix (k).toNatClampNeg (vinlt (show vp_in k 20 from (vin_of (n := 20) (by omega) (by omega))))
  refine gz_isub (pc' := 35) dX0_sinkBy_34 rfl (by omega) (fun v6 h6 e6 => ?_)
  refine go_aload_n (i := 0) (pc' := 36) dX0_sinkBy_35 rfl rfl rfl ?_
  refine gf_3_weekdays (pc' := 39) dX0_sinkBy_36 rfl fl_X0_36 ?_
  refine go_iload_n (i := 2) (pc' := 40) dX0_sinkBy_39 rfl rfl rfl ?_
  refine go_iald (pc' := 41) dX0_sinkBy_40 rfl (by decide) (by decide) rfl (vin_of (n := 12) (by omega) (by omega)) ?_
  refine go_csi (pc' := 44) ls_X0_91 (f_X0_dayUpTo _ _ _ _ _ (by omega) (by omega)) rfl rfl (Nat.le_of_ble_eq_true rfl) ⟨Nat.le_of_ble_eq_true rfl, Nat.le_of_ble_eq_true rfl⟩ ⟨rfl, rfl⟩ dX0_sinkBy_41 rfl (fun r7 σ7 h7 => ?_)
  obtain ⟨e7, h7⟩ := h7
  have e7 := e7.symm
  subst e7
  have ez : (r7).toInt = uwn (σ.2 39 (σ.2 38 (σ.2 35 (k).toNatClampNeg).toNatClampNeg).toNatClampNeg).toInt ((σ.2 34 (σ.2 38 (σ.2 36 (k).toNatClampNeg).toNatClampNeg).toNatClampNeg).toInt - (σ.2 37 (k).toNatClampNeg).toInt) := by rw [h7]; exact congrArg (uwn _) (by assumption)
  refine go_istore_n (i := 3) (pc' := 45) dX0_sinkBy_44 rfl rfl (by decide) ?_
  refine go_iload_n (i := 3) (pc' := 46) dX0_sinkBy_45 rfl rfl rfl ?_
  refine go_aload_n (i := 0) (pc' := 47) dX0_sinkBy_46 rfl rfl rfl ?_
  refine gf_3_highs (pc' := 50) dX0_sinkBy_47 rfl fl_X0_17 ?_
  refine go_iload_n (i := 2) (pc' := 51) dX0_sinkBy_50 rfl rfl rfl ?_
  refine go_iald (pc' := 52) dX0_sinkBy_51 rfl (by decide) (by decide) rfl (vin_of (n := 12) (by omega) (by omega)) ?_
  refine gz_icmp_lt (tgt := 57) (pc' := 55) dX0_sinkBy_52 rfl (by decide) (fun c8 => ?_) (fun c8 => ?_)
  · refine go_aload_n (i := 0) (pc' := 58) dX0_sinkBy_57 rfl rfl rfl ?_
    refine gf_3_highs (pc' := 61) dX0_sinkBy_58 rfl fl_X0_17 ?_
    refine go_iload_n (i := 2) (pc' := 62) dX0_sinkBy_61 rfl rfl rfl ?_
    refine go_iload_n (i := 3) (pc' := 63) dX0_sinkBy_62 rfl rfl rfl ?_
    refine go_iast (pc' := 64) dX0_sinkBy_63 rfl (by decide) (by decide) rfl (vin_of (n := 12) (by omega) (by omega)) ?_
    refine go_iconst (v := 1) (pc' := 65) dX0_sinkBy_64 rfl (by decide) ?_
    exact go_zret dX0_sinkBy_65 rfl rfl (Or.inr ⟨n1, by omega, _, by omega, rfl⟩)
  refine go_iconst (v := 0) (pc' := 56) dX0_sinkBy_55 rfl (by decide) ?_
  exact go_zret dX0_sinkBy_56 rfl rfl (Or.inl ⟨n0, rfl, by omega⟩)
set_option maxHeartbeats 4000000 in
set_option maxRecDepth 100000 in
theorem f_X0_isOrdered (l : Launch) (L : WL) (σ : ST) (n : Int32) (hn : n.toInt ≤ 12) (ix : IV σ) : CtI l L yX0_isOrdered cX0_isOrdered 3 (some .boolean) rm_X0_isOrdered [.ref (L.2.1 3), .int n] σ (fun r σ2 => σ2 = σ ∧ bq (∀ j : Nat, (j : Int) < n.toInt → (σ.2 38 j).toInt = (j : Int) → (σ.2 33 j).toInt ≤ (σ.2 34 j).toInt) r) := by
  refine ctI_go (own := RX0) (by decide) rfl (Nat.le_of_ble_eq_true rfl) (fun F hF => ?_)
  subst hF
  have n0 : (0 : Int32).toInt = 0 := by decide
  have n1 : (1 : Int32).toInt = 1 := by decide
  have w0 : WX σ σ := WX_rfl ix
  refine go_iconst (v := 0) (pc' := 1) dX0_isOrdered_0 rfl (by decide) ?_
  refine go_istore_n (i := 2) (pc' := 2) dX0_isOrdered_1 rfl rfl (by decide) ?_
  have loop2_1 : ∀ (dd1 : Nat) (x2_1 : Int32), (0 ≤ (x2_1).toInt ∧ ((x2_1).toInt ≤ n.toInt ∨ (x2_1).toInt = 0)) → (∀ j : Nat, (j : Int) < (x2_1).toInt → (σ.2 38 j).toInt = (j : Int) → (σ.2 33 j).toInt ≤ (σ.2 34 j).toInt) → (12 - (x2_1).toInt).toNat = dd1 → Go F L RX0 cX0_isOrdered 3 rm_X0_isOrdered (some .boolean) (RI F L (fun r σ2 => σ2 = σ ∧ bq (∀ j : Nat, (j : Int) < n.toInt → (σ.2 38 j).toInt = (j : Int) → (σ.2 33 j).toInt ≤ (σ.2 34 j).toInt) r)) σ 2 [(0, .ref (L.2.1 3)), (1, .int n), (2, .int x2_1)] [] := by
    intro dd1
    induction dd1 using Nat.strongRecOn with
    | _ dd1 ih1 =>
      intro x2_1 h_1 ho_1 hm_1
      refine go_iload_n (i := 2) (pc' := 3) dX0_isOrdered_2 rfl rfl rfl ?_
      refine go_iload_n (i := 1) (pc' := 4) dX0_isOrdered_3 rfl rfl rfl ?_
      refine gz_icmp_ge (tgt := 40) (pc' := 7) dX0_isOrdered_4 rfl (by decide) (fun c2 => ?_) (fun c2 => ?_)
      · refine go_iconst (v := 1) (pc' := 41) dX0_isOrdered_40 rfl (by decide) ?_
        exact go_zret dX0_isOrdered_41 rfl rfl (⟨rfl, bq_t (fun j hj => ho_1 j (by omega))⟩)
      refine go_aload_n (i := 0) (pc' := 8) dX0_isOrdered_7 rfl rfl rfl ?_
      refine gf_3_roots (pc' := 11) dX0_isOrdered_8 rfl fl_X0_33 ?_
      refine go_iload_n (i := 2) (pc' := 12) dX0_isOrdered_11 rfl rfl rfl ?_
      refine go_iald (pc' := 13) dX0_isOrdered_12 rfl (by decide) (by decide) rfl (vin_of (n := 12) (by omega) (by omega)) ?_
      refine go_rngA (ixa_38 w0.1) (vinlt (vin_of (n := 12) (by omega) (by omega))) (fun g3 => ?_)
      refine go_iload_n (i := 2) (pc' := 14) dX0_isOrdered_13 rfl rfl rfl ?_
      refine gz_icmp_ne (tgt := 34) (pc' := 17) dX0_isOrdered_14 rfl (by decide) (fun c4 => ?_) (fun c4 => ?_)
      · refine gz_iinc (c := 1) (pc' := 37) dX0_isOrdered_34 rfl rfl (by decide) (by decide) (by decide) (by omega) (fun v5 h5 e5 => ?_)
        refine go_goto (tgt := 2) dX0_isOrdered_37 (by decide) ?_
        exact go_lv (lv' := [(0, .ref (L.2.1 3)), (1, .int n), (2, .int v5)]) rfl (ih1 _ (by omega)  v5 (by omega) (all_step (P := fun j => (σ.2 38 j).toInt = (j : Int) → (σ.2 33 j).toInt ≤ (σ.2 34 j).toInt) ho_1 (by omega) (by omega) (fun q => by have c2 := cnat (x := x2_1) (by omega); omega)) rfl)
      refine go_aload_n (i := 0) (pc' := 18) dX0_isOrdered_17 rfl rfl rfl ?_
      refine gf_3_lows (pc' := 21) dX0_isOrdered_18 rfl fl_X0_11 ?_
      refine go_iload_n (i := 2) (pc' := 22) dX0_isOrdered_21 rfl rfl rfl ?_
      refine go_iald (pc' := 23) dX0_isOrdered_22 rfl (by decide) (by decide) rfl (vin_of (n := 12) (by omega) (by omega)) ?_
      refine go_aload_n (i := 0) (pc' := 24) dX0_isOrdered_23 rfl rfl rfl ?_
      refine gf_3_highs (pc' := 27) dX0_isOrdered_24 rfl fl_X0_17 ?_
      refine go_iload_n (i := 2) (pc' := 28) dX0_isOrdered_27 rfl rfl rfl ?_
      refine go_iald (pc' := 29) dX0_isOrdered_28 rfl (by decide) (by decide) rfl (vin_of (n := 12) (by omega) (by omega)) ?_
      refine gz_icmp_le (tgt := 34) (pc' := 32) dX0_isOrdered_29 rfl (by decide) (fun c6 => ?_) (fun c6 => ?_)
      · refine gz_iinc (c := 1) (pc' := 37) dX0_isOrdered_34 rfl rfl (by decide) (by decide) (by decide) (by omega) (fun v7 h7 e7 => ?_)
        refine go_goto (tgt := 2) dX0_isOrdered_37 (by decide) ?_
        exact go_lv (lv' := [(0, .ref (L.2.1 3)), (1, .int n), (2, .int v7)]) rfl (ih1 _ (by omega)  v7 (by omega) (all_step (P := fun j => (σ.2 38 j).toInt = (j : Int) → (σ.2 33 j).toInt ≤ (σ.2 34 j).toInt) ho_1 (by omega) (by omega) (fun q => by have c2 := cnat (x := x2_1) (by omega); omega)) rfl)
      refine go_iconst (v := 0) (pc' := 33) dX0_isOrdered_32 rfl (by decide) ?_
      exact go_zret dX0_isOrdered_33 rfl rfl (⟨rfl, bq_f (fun q => by have c2 := cnat (x := x2_1) (by omega); have z := q (x2_1).toNatClampNeg (by omega) (by omega); omega)⟩)
  exact go_lv (lv' := [(0, .ref (L.2.1 3)), (1, .int n), (2, .int (0 : Int32))]) rfl (loop2_1 _  (0 : Int32) (by omega) (fun j hj => by exfalso; omega) rfl)
theorem RB_WX {σ σ2 : ST} {a b : Nat} {d : Int} {r : Int32} (iv : IV σ) (h : RBP σ a b d r σ2) : WXr σ σ2 := by
  rcases h with ⟨-, e, -⟩ | ⟨-, -, v, -, e⟩
  · rw [e]
    exact WXr_rfl iv
  · rw [e]
    exact ⟨ixt_n iv (by decide), Ag_setA (Ag_rfl σ) (by decide)⟩
theorem SB_WX {σ σ2 : ST} {a b : Nat} {d : Int} {r : Int32} (iv : IV σ) (h : SBP σ a b d r σ2) : WXs σ σ2 := by
  rcases h with ⟨-, e, -⟩ | ⟨-, -, v, -, e⟩
  · rw [e]
    exact WXs_rfl iv
  · rw [e]
    exact ⟨ixt_n iv (by decide), Ag_setA (Ag_rfl σ) (by decide)⟩
theorem RB_of {σ s : ST} {k : Int32} (sd : SD σ s) (iv : IV σ) (fd : FDX σ) (rt : RTS σ) (e38 : s.2 38 = σ.2 38) (e39 : s.2 39 = σ.2 39) (hk : 0 ≤ k.toInt ∧ k.toInt < (σ.1 4).toInt) : (s.2 38 (s.2 35 (k).toNatClampNeg).toNatClampNeg).toNatClampNeg = srX σ k.toNatClampNeg ∧ (s.2 38 (s.2 36 (k).toNatClampNeg).toNatClampNeg).toNatClampNeg = dsX σ k.toNatClampNeg ∧ (s.2 37 (k).toNatClampNeg).toInt = shX σ k.toNatClampNeg := by
  have ck := cnat hk.1
  have sr := sr_root fd iv (k := k.toNatClampNeg) (by omega)
  obtain ⟨a, b, c, d, e, f, g, i, j⟩ := sd
  rw [e38, g, i, j]
  have z1 : (σ.2 38 (σ.2 35 k.toNatClampNeg).toNatClampNeg).toInt = (srX σ k.toNatClampNeg : Int) := rt _ sr.2.2.1
  have z2 : (σ.2 38 (σ.2 36 k.toNatClampNeg).toNatClampNeg).toInt = (dsX σ k.toNatClampNeg : Int) := rt _ sr.2.2.2
  have y1 := cnat (x := σ.2 38 (σ.2 35 k.toNatClampNeg).toNatClampNeg) (by omega)
  have y2 := cnat (x := σ.2 38 (σ.2 36 k.toNatClampNeg).toNatClampNeg) (by omega)
  exact ⟨by omega, by omega, rfl⟩
set_option maxHeartbeats 4000000 in
set_option maxRecDepth 100000 in
theorem f_X0_raiseLows (l : Launch) (L : WL) (σ : ST) (n kk : Int32) (hn : n = σ.1 3) (ix : IV σ) (fd : FDX σ) (rt : RTS σ) (jf : JF (kpF kk) σ) : CtI l L yX0_raiseLows cX0_raiseLows 6 (some .boolean) rm_X0_raiseLows [.ref (L.2.1 3), .int n, .int kk] σ (fun r σ2 => WXr σ σ2 ∧ ((r.toInt = 0 ∧ ∀ x : Nat → Int, ¬ FSX σ (kpF kk) x) ∨ (r.toInt = 1 ∧ JL σ (kpF kk) (σ2.2 33)))) := by
  refine ctI_go (own := RX0) (by decide) rfl (Nat.le_of_ble_eq_true rfl) (fun F hF => ?_)
  subst hF
  have n0 : (0 : Int32).toInt = 0 := by decide
  have n1 : (1 : Int32).toInt = 1 := by decide
  have n50 : (50 : Int32).toInt = 50 := by decide
  have w0 : WXr σ σ := WXr_rfl ix
  have u3 := ixi_3 ix
  have u4 := ixi_4 ix
  have hn3 := congrArg Int32.toInt hn
  refine go_iconst (v := 1) (pc' := 1) dX0_raiseLows_0 rfl (by decide) ?_
  refine go_istore_n (i := 3) (pc' := 2) dX0_raiseLows_1 rfl rfl (by decide) ?_
  refine go_iconst (v := 0) (pc' := 3) dX0_raiseLows_2 rfl (by decide) ?_
  refine go_istore (pc' := 5) dX0_raiseLows_3 rfl (by decide) ?_
  have loop5_1 : ∀ (dd1 : Nat) (σ1 : ST) (x3_1 : Int32) (x4_1 : Int32), WXr σ σ1 → (0 ≤ (x4_1).toInt ∧ (x4_1).toInt ≤ 50) → ((x3_1).toInt = 0 ∨ (x3_1).toInt = 1) → (RWI σ (kpF kk) (σ1.2 33) (x4_1).toInt.toNat 0) → ((x3_1).toInt = 0 → HLD σ (kpF kk) (σ1.2 33) 20 ∧ (∀ j : Nat, ROOT σ j → (σ1.2 33 j).toInt ≤ (σ.2 34 j).toInt)) → ((x3_1).toInt = 1 → 1 ≤ (x4_1).toInt → CG σ (kpF kk) (x4_1).toInt.toNat (σ1.2 33)) → (50 - (x4_1).toInt).toNat = dd1 → Go F L RX0 cX0_raiseLows 6 rm_X0_raiseLows (some .boolean) (RI F L (fun r σ2 => WXr σ σ2 ∧ ((r.toInt = 0 ∧ ∀ x : Nat → Int, ¬ FSX σ (kpF kk) x) ∨ (r.toInt = 1 ∧ JL σ (kpF kk) (σ2.2 33))))) σ1 5 [(0, .ref (L.2.1 3)), (1, .int n), (2, .int kk), (3, .int x3_1), (4, .int x4_1)] [] := by
    intro dd1
    induction dd1 using Nat.strongRecOn with
    | _ dd1 ih1 =>
      intro σ1 x3_1 x4_1 w1 h_1 hb_1 hR_1 hz_1 ho_1 hm_1
      refine go_iload (pc' := 7) dX0_raiseLows_5 rfl rfl ?_
      refine go_bipush (v := 50) (pc' := 9) dX0_raiseLows_7 rfl (by decide) ?_
      refine gz_icmp_ge (tgt := 73) (pc' := 12) dX0_raiseLows_9 rfl (by decide) (fun c2 => ?_) (fun c2 => ?_)
      · refine go_iload_n (i := 3) (pc' := 74) dX0_raiseLows_73 rfl rfl rfl ?_
        refine gz_if_ne (tgt := 81) (pc' := 77) dX0_raiseLows_74 rfl (by decide) (fun c3 => ?_) (fun c3 => ?_)
        · refine go_iconst (v := 0) (pc' := 82) dX0_raiseLows_81 rfl (by decide) ?_
          exact go_zret dX0_raiseLows_82 rfl rfl (by
              first
              | (exfalso; omega)
              | exact ⟨w1, Or.inr ⟨n1, ⟨fun j hj => ⟨(hR_1.1 j hj).1, (hz_1 (by omega)).2 j hj, (hR_1.1 j hj).2.2⟩, fun k hk hp => (hz_1 (by omega)).1 k (by omega) hk hp⟩⟩⟩
              | exact ⟨w1, Or.inl ⟨n0, fun x hx => CG_no ix fd jf hR_1 (ho_1 (by omega) (by omega)) (by omega) hx⟩⟩)
        refine go_iconst (v := 1) (pc' := 78) dX0_raiseLows_77 rfl (by decide) ?_
        refine go_goto (tgt := 82) dX0_raiseLows_78 (by decide) ?_
        exact go_zret dX0_raiseLows_82 rfl rfl (by
            first
            | (exfalso; omega)
            | exact ⟨w1, Or.inr ⟨n1, ⟨fun j hj => ⟨(hR_1.1 j hj).1, (hz_1 (by omega)).2 j hj, (hR_1.1 j hj).2.2⟩, fun k hk hp => (hz_1 (by omega)).1 k (by omega) hk hp⟩⟩⟩
            | exact ⟨w1, Or.inl ⟨n0, fun x hx => CG_no ix fd jf hR_1 (ho_1 (by omega) (by omega)) (by omega) hx⟩⟩)
      refine go_iload_n (i := 3) (pc' := 13) dX0_raiseLows_12 rfl rfl rfl ?_
      refine gz_if_eq (tgt := 73) (pc' := 16) dX0_raiseLows_13 rfl (by decide) (fun c4 => ?_) (fun c4 => ?_)
      · refine go_iload_n (i := 3) (pc' := 74) dX0_raiseLows_73 rfl rfl rfl ?_
        refine gz_if_ne (tgt := 81) (pc' := 77) dX0_raiseLows_74 rfl (by decide) (fun c5 => ?_) (fun c5 => ?_)
        · refine go_iconst (v := 0) (pc' := 82) dX0_raiseLows_81 rfl (by decide) ?_
          exact go_zret dX0_raiseLows_82 rfl rfl (by
              first
              | (exfalso; omega)
              | exact ⟨w1, Or.inr ⟨n1, ⟨fun j hj => ⟨(hR_1.1 j hj).1, (hz_1 (by omega)).2 j hj, (hR_1.1 j hj).2.2⟩, fun k hk hp => (hz_1 (by omega)).1 k (by omega) hk hp⟩⟩⟩
              | exact ⟨w1, Or.inl ⟨n0, fun x hx => CG_no ix fd jf hR_1 (ho_1 (by omega) (by omega)) (by omega) hx⟩⟩)
        refine go_iconst (v := 1) (pc' := 78) dX0_raiseLows_77 rfl (by decide) ?_
        refine go_goto (tgt := 82) dX0_raiseLows_78 (by decide) ?_
        exact go_zret dX0_raiseLows_82 rfl rfl (by
            first
            | (exfalso; omega)
            | exact ⟨w1, Or.inr ⟨n1, ⟨fun j hj => ⟨(hR_1.1 j hj).1, (hz_1 (by omega)).2 j hj, (hR_1.1 j hj).2.2⟩, fun k hk hp => (hz_1 (by omega)).1 k (by omega) hk hp⟩⟩⟩
            | exact ⟨w1, Or.inl ⟨n0, fun x hx => CG_no ix fd jf hR_1 (ho_1 (by omega) (by omega)) (by omega) hx⟩⟩)
      refine go_iconst (v := 0) (pc' := 17) dX0_raiseLows_16 rfl (by decide) ?_
      refine go_istore_n (i := 3) (pc' := 18) dX0_raiseLows_17 rfl rfl (by decide) ?_
      refine go_iconst (v := 0) (pc' := 19) dX0_raiseLows_18 rfl (by decide) ?_
      refine go_istore (pc' := 21) dX0_raiseLows_19 rfl (by decide) ?_
      have loop21_6 : ∀ (dd6 : Nat) (σ6 : ST) (x3_6 : Int32) (x5_6 : Int32), WXr σ σ6 → (0 ≤ (x5_6).toInt ∧ (x5_6).toInt ≤ (σ.1 4).toInt) → ((x3_6).toInt = 0 ∨ (x3_6).toInt = 1) → (RWI σ (kpF kk) (σ6.2 33) (x4_1).toInt.toNat (x5_6).toNatClampNeg) → ((x3_6).toInt = 0 → HLD σ (kpF kk) (σ6.2 33) (x5_6).toNatClampNeg) → ((x3_6).toInt = 1 → CG σ (kpF kk) ((x4_1).toInt.toNat + 1) (σ6.2 33)) → (20 - (x5_6).toInt).toNat = dd6 → Go F L RX0 cX0_raiseLows 6 rm_X0_raiseLows (some .boolean) (RI F L (fun r σ2 => WXr σ σ2 ∧ ((r.toInt = 0 ∧ ∀ x : Nat → Int, ¬ FSX σ (kpF kk) x) ∨ (r.toInt = 1 ∧ JL σ (kpF kk) (σ2.2 33))))) σ6 21 [(0, .ref (L.2.1 3)), (1, .int n), (2, .int kk), (3, .int x3_6), (4, .int x4_1), (5, .int x5_6)] [] := by
        intro dd6
        induction dd6 using Nat.strongRecOn with
        | _ dd6 ih6 =>
          intro σ6 x3_6 x5_6 w6 h_6 hb_6 hR_6 hz_6 ho_6 hm_6
          refine go_iload (pc' := 23) dX0_raiseLows_21 rfl rfl ?_
          refine go_aload_n (i := 0) (pc' := 24) dX0_raiseLows_23 rfl rfl rfl ?_
          refine gf_3_size (pc' := 27) dX0_raiseLows_24 rfl fl_X0_20 ?_
          have g7 := ixi_4 w6.1
          refine gz_icmp_ge (tgt := 57) (pc' := 30) dX0_raiseLows_27 rfl (by decide) (fun c8 => ?_) (fun c8 => ?_)
          · have c5 := cnat (x := x5_6) (by omega)
            have sdo := WXr_SD w6
            have k4o := congrArg Int32.toInt sdo.2.1
            have e38o : σ6.2 38 = σ.2 38 := w6.2.2 38 (by decide)
            have e34o : σ6.2 34 = σ.2 34 := w6.2.2 34 (by decide)
            refine go_aload_n (i := 0) (pc' := 58) dX0_raiseLows_57 rfl rfl rfl ?_
            refine go_iload_n (i := 1) (pc' := 59) dX0_raiseLows_58 rfl rfl rfl ?_
            refine go_cvi (pc' := 62) lk_X0_97 (f_X0_isOrdered _ _ _ _ (by omega) w6.1) rfl rfl (Nat.le_of_ble_eq_true rfl) (by decide) rfl rfl rfl ⟨Nat.le_of_ble_eq_true rfl, Nat.le_of_ble_eq_true rfl⟩ ⟨rfl, rfl⟩ dX0_raiseLows_59 rfl (fun r9 σ9 h9 => ?_)
            obtain ⟨e9, h9⟩ := h9
            have e9 := e9.symm
            subst e9
            refine go_neB (tgt := 67) (pc' := 65) h9 dX0_raiseLows_62 rfl (by decide) (fun c10 => ?_) (fun c10 => ?_)
            · have ord : ∀ j : Nat, ROOT σ j → (σ6.2 33 j).toInt ≤ (σ.2 34 j).toInt := fun j hj => by
                have z := c10 j (by have := hj.1; omega) (by rw [e38o, rt j hj.1, rtX_root hj])
                rw [e34o] at z
                exact z
              refine gz_iinc (c := 1) (pc' := 70) dX0_raiseLows_67 rfl rfl (by decide) (by decide) (by decide) (by omega) (fun v11 h11 e11 => ?_)
              refine go_goto (tgt := 5) dX0_raiseLows_70 (by decide) ?_
              exact go_lv (lv' := [(0, .ref (L.2.1 3)), (1, .int n), (2, .int kk), (3, .int x3_6), (4, .int v11)]) rfl (ih1 _ (by omega) σ6 x3_6 v11 w6 (by omega) (by omega) (RWI_next ix hR_6 (by omega) (by omega)) (fun z => ⟨fun e h1 h2 => hz_6 z e (by omega) h2, ord⟩) (fun z _ => by rw [show (v11).toInt.toNat = (x4_1).toInt.toNat + 1 from by omega]; exact ho_6 z) rfl)
            refine go_iconst (v := 0) (pc' := 66) dX0_raiseLows_65 rfl (by decide) ?_
            exact go_zret dX0_raiseLows_66 rfl rfl (by
                refine ⟨w6, Or.inl ⟨n0, fun x hx => c10 (fun j hj hr => ?_)⟩⟩
                have q := rt j (by omega)
                rw [← e38o, hr] at q
                have rr := fd.1 j (by omega)
                rw [show rtX σ j = j from by omega] at rr
                have a := (hR_6.1 j rr).2.2.2 x hx
                have b := ((jf j rr).2.2.1 x hx).2.1
                rw [e34o]
                omega)
          have sd := WXr_SD w6
          have c5 := cnat (x := x5_6) (by omega)
          have e38 : σ6.2 38 = σ.2 38 := w6.2.2 38 (by decide)
          have e39 : σ6.2 39 = σ.2 39 := w6.2.2 39 (by decide)
          have k4 := congrArg Int32.toInt sd.2.1
          have rb := RB_of (k := x5_6) sd ix fd rt e38 e39 (by omega)
          have sr := sr_root fd ix (k := (x5_6).toNatClampNeg) (by omega)
          refine go_iload_n (i := 2) (pc' := 31) dX0_raiseLows_30 rfl rfl rfl ?_
          refine go_iload (pc' := 33) dX0_raiseLows_31 rfl rfl ?_
          refine go_ishr (pc' := 34) dX0_raiseLows_33 rfl ?_
          refine go_iconst (v := 1) (pc' := 35) dX0_raiseLows_34 rfl (by decide) ?_
          refine go_iand (pc' := 36) dX0_raiseLows_35 rfl ?_
          refine go_iconst (v := 1) (pc' := 37) dX0_raiseLows_36 rfl (by decide) ?_
          refine gz_icmp_ne (tgt := 51) (pc' := 40) dX0_raiseLows_37 rfl (by decide) (fun c12 => ?_) (fun c12 => ?_)
          · have st51 : (∀ k2 : Nat, k2 = (x5_6).toNatClampNeg + 1 → RWI σ (kpF kk) (σ6.2 33) (x4_1).toInt.toNat k2) ∧ ((x3_6).toInt = 0 → ∀ k2 : Nat, k2 = (x5_6).toNatClampNeg + 1 → HLD σ (kpF kk) (σ6.2 33) k2) ∧ ((x3_6).toInt = 1 → CG σ (kpF kk) ((x4_1).toInt.toNat + 1) (σ6.2 33)) := by
              first
              | exact ⟨fun k2 e => (up k2 e).1, fun z => by exfalso; omega, fun _ => (up _ rfl).2⟩
              | (have q := Or.resolve_right rbh (fun q => by have q1 := q.1; clear q; omega)
                 rw [e39] at q
                 have d := dwn_ge (σ.2 39 (dsX σ (x5_6).toNatClampNeg)).toInt ((prev.2 33 (srX σ (x5_6).toNatClampNeg)).toInt + shX σ (x5_6).toNatClampNeg)
                 rw [q.2.1]
                 exact ⟨fun k2 e => RWI_skip ix fd hR_6 e (by omega) (fun _ => by have := q.2.2; omega), fun z k2 e => HLD_s (hz_6 z) e (fun _ => by have := q.2.2; omega), ho_6⟩)
              | (have hkn : ¬ kpF kk (x5_6).toNatClampNeg := by
                   unfold kpF
                   rw [of_nat (by omega)]
                   have z := and1_v (kk >>> (x5_6 &&& 31))
                   omega
                 exact ⟨fun k2 e => RWI_skip ix fd hR_6 e (by omega) (fun q => absurd q hkn), fun z k2 e => HLD_s (hz_6 z) e (fun q => absurd q hkn), ho_6⟩)
            refine gz_iinc (c := 1) (pc' := 54) dX0_raiseLows_51 rfl rfl (by decide) (by decide) (by decide) (by omega) (fun v13 h13 e13 => ?_)
            refine go_goto (tgt := 21) dX0_raiseLows_54 (by decide) ?_
            exact go_lv (lv' := [(0, .ref (L.2.1 3)), (1, .int n), (2, .int kk), (3, .int x3_6), (4, .int x4_1), (5, .int v13)]) rfl (ih6 _ (by omega) σ6 x3_6 v13 w6 (by omega) (by omega) (st51.1 _ (by have cv := cnat (x := v13) (by omega); omega)) (fun z => st51.2.1 z _ (by have cv := cnat (x := v13) (by omega); omega)) st51.2.2 rfl)
          have hkp : kpF kk (x5_6).toNatClampNeg := by unfold kpF; rw [of_nat (by omega)]; omega
          have b1 := hR_6.1 _ sr.1
          have b2 := (jf _ sr.1).1
          have b3 := (jf _ sr.2.1).1
          refine go_aload_n (i := 0) (pc' := 41) dX0_raiseLows_40 rfl rfl rfl ?_
          refine go_iload (pc' := 43) dX0_raiseLows_41 rfl rfl ?_
          refine go_cvi (pc' := 46) lk_X0_94 (f_X0_raiseBy _ _ _ _ (by omega) (by rw [rb.1]; omega) (by rw [rb.2.1, e39]; omega) w6.1) rfl rfl (Nat.le_of_ble_eq_true rfl) (by decide) rfl rfl rfl ⟨Nat.le_of_ble_eq_true rfl, Nat.le_of_ble_eq_true rfl⟩ ⟨rfl, rfl⟩ dX0_raiseLows_43 rfl (fun r14 σ14 h14 => ?_)
          have w14 := WXr_trans w6 ((fun z => RB_WX w6.1 z) h14)
          have rbh := h14
          rw [rb.1, rb.2.1, rb.2.2] at rbh
          refine gz_if_eq (tgt := 51) (pc' := 49) dX0_raiseLows_46 rfl (by decide) (fun c15 => ?_) (fun c15 => ?_)
          · have st51 : (∀ k2 : Nat, k2 = (x5_6).toNatClampNeg + 1 → RWI σ (kpF kk) (σ14.2 33) (x4_1).toInt.toNat k2) ∧ ((x3_6).toInt = 0 → ∀ k2 : Nat, k2 = (x5_6).toNatClampNeg + 1 → HLD σ (kpF kk) (σ14.2 33) k2) ∧ ((x3_6).toInt = 1 → CG σ (kpF kk) ((x4_1).toInt.toNat + 1) (σ14.2 33)) := by
              first
              | exact ⟨fun k2 e => (up k2 e).1, fun z => by exfalso; omega, fun _ => (up _ rfl).2⟩
              | (have q := Or.resolve_right rbh (fun q => by have q1 := q.1; clear q; omega)
                 rw [e39] at q
                 have d := dwn_ge (σ.2 39 (dsX σ (x5_6).toNatClampNeg)).toInt ((σ6.2 33 (srX σ (x5_6).toNatClampNeg)).toInt + shX σ (x5_6).toNatClampNeg)
                 rw [q.2.1]
                 exact ⟨fun k2 e => RWI_skip ix fd hR_6 e (by omega) (fun _ => by have := q.2.2; omega), fun z k2 e => HLD_s (hz_6 z) e (fun _ => by have := q.2.2; omega), ho_6⟩)
              | (have hkn : ¬ kpF kk (x5_6).toNatClampNeg := by
                   unfold kpF
                   rw [of_nat (by omega)]
                   have z := and1_v (kk >>> (x5_6 &&& 31))
                   omega
                 exact ⟨fun k2 e => RWI_skip ix fd hR_6 e (by omega) (fun q => absurd q hkn), fun z k2 e => HLD_s (hz_6 z) e (fun q => absurd q hkn), ho_6⟩)
            refine gz_iinc (c := 1) (pc' := 54) dX0_raiseLows_51 rfl rfl (by decide) (by decide) (by decide) (by omega) (fun v16 h16 e16 => ?_)
            refine go_goto (tgt := 21) dX0_raiseLows_54 (by decide) ?_
            exact go_lv (lv' := [(0, .ref (L.2.1 3)), (1, .int n), (2, .int kk), (3, .int x3_6), (4, .int x4_1), (5, .int v16)]) rfl (ih6 _ (by omega) σ14 x3_6 v16 w14 (by omega) (by omega) (st51.1 _ (by have cv := cnat (x := v16) (by omega); omega)) (fun z => st51.2.1 z _ (by have cv := cnat (x := v16) (by omega); omega)) st51.2.2 rfl)
          obtain ⟨-, mz, v, ev, es⟩ := Or.resolve_left rbh (fun q => c15 q.1)
          rw [e39] at mz ev
          have up : ∀ k2 : Nat, k2 = (x5_6).toNatClampNeg + 1 → RWI σ (kpF kk) (σ14.2 33) (x4_1).toInt.toNat k2 ∧ CG σ (kpF kk) ((x4_1).toInt.toNat + 1) (σ14.2 33) := fun k2 e => RWI_up (v := v) ix fd jf hR_6 e (by omega) hkp mz ev (by rw [es]; exact setA_same _ _ _ _)
          refine go_iconst (v := 1) (pc' := 50) dX0_raiseLows_49 rfl (by decide) ?_
          refine go_istore_n (i := 3) (pc' := 51) dX0_raiseLows_50 rfl rfl (by decide) ?_
          have st51 : (∀ k2 : Nat, k2 = (x5_6).toNatClampNeg + 1 → RWI σ (kpF kk) (σ14.2 33) (x4_1).toInt.toNat k2) ∧ (((1 : Int32)).toInt = 0 → ∀ k2 : Nat, k2 = (x5_6).toNatClampNeg + 1 → HLD σ (kpF kk) (σ14.2 33) k2) ∧ (((1 : Int32)).toInt = 1 → CG σ (kpF kk) ((x4_1).toInt.toNat + 1) (σ14.2 33)) := by
            first
            | exact ⟨fun k2 e => (up k2 e).1, fun z => by exfalso; omega, fun _ => (up _ rfl).2⟩
            | (have q := Or.resolve_right rbh (fun q => by have q1 := q.1; clear q; omega)
               rw [e39] at q
               have d := dwn_ge (σ.2 39 (dsX σ (x5_6).toNatClampNeg)).toInt ((σ6.2 33 (srX σ (x5_6).toNatClampNeg)).toInt + shX σ (x5_6).toNatClampNeg)
               rw [q.2.1]
               exact ⟨fun k2 e => RWI_skip ix fd hR_6 e (by omega) (fun _ => by have := q.2.2; omega), fun z k2 e => HLD_s (hz_6 z) e (fun _ => by have := q.2.2; omega), ho_6⟩)
            | (have hkn : ¬ kpF kk (x5_6).toNatClampNeg := by
                 unfold kpF
                 rw [of_nat (by omega)]
                 have z := and1_v (kk >>> (x5_6 &&& 31))
                 omega
               exact ⟨fun k2 e => RWI_skip ix fd hR_6 e (by omega) (fun q => absurd q hkn), fun z k2 e => HLD_s (hz_6 z) e (fun q => absurd q hkn), ho_6⟩)
          refine gz_iinc (c := 1) (pc' := 54) dX0_raiseLows_51 rfl rfl (by decide) (by decide) (by decide) (by omega) (fun v17 h17 e17 => ?_)
          refine go_goto (tgt := 21) dX0_raiseLows_54 (by decide) ?_
          exact go_lv (lv' := [(0, .ref (L.2.1 3)), (1, .int n), (2, .int kk), (3, .int (1 : Int32)), (4, .int x4_1), (5, .int v17)]) rfl (ih6 _ (by omega) σ14 (1 : Int32) v17 w14 (by omega) (by omega) (st51.1 _ (by have cv := cnat (x := v17) (by omega); omega)) (fun z => st51.2.1 z _ (by have cv := cnat (x := v17) (by omega); omega)) st51.2.2 rfl)
      exact go_lv (lv' := [(0, .ref (L.2.1 3)), (1, .int n), (2, .int kk), (3, .int (0 : Int32)), (4, .int x4_1), (5, .int (0 : Int32))]) rfl (loop21_6 _ σ1 (0 : Int32) (0 : Int32) w1 (by omega) (by omega) (by rw [show (0 : Int32).toNatClampNeg = 0 from rfl]; exact hR_1) (fun _ e he => by exfalso; rw [show (0 : Int32).toNatClampNeg = 0 from rfl] at he; omega) (fun z => by exfalso; omega) rfl)
  exact go_lv (lv' := [(0, .ref (L.2.1 3)), (1, .int n), (2, .int kk), (3, .int (1 : Int32)), (4, .int (0 : Int32))]) rfl (loop5_1 _ σ (1 : Int32) (0 : Int32) w0 (by omega) (by omega) (by rw [n0]; exact RWI_0 ix fd jf) (fun z => by exfalso; omega) (fun _ z => by exfalso; omega) rfl)
