theorem lg_c (x y : Int64) : (lg_cmp x y).toInt < 0 ↔ x.toInt < y.toInt := by
  unfold lg_cmp
  by_cases h : x > y
  · rw [if_pos h]
    have h2 : y.toInt < x.toInt := Int64.lt_iff_toInt_lt.mp h
    have : (1 : Int32).toInt = 1 := by decide
    omega
  · rw [if_neg h]
    by_cases h3 : x = y
    · rw [if_pos h3, h3]
      have : (0 : Int32).toInt = 0 := by decide
      omega
    · rw [if_neg h3]
      have h4 : ¬ y.toInt < x.toInt := fun q => h (Int64.lt_iff_toInt_lt.mpr q)
      have h5 : ¬ x.toInt = y.toInt := fun q => h3 (Int64.toInt_inj.mp q)
      have : (-1 : Int32).toInt = -1 := by decide
      omega
theorem lg_add (x y : Int32) : (x.toInt64 + y.toInt64).toInt = x.toInt + y.toInt := by
  have a1 := Int32.le_toInt x
  have a2 := Int32.toInt_lt x
  have b1 := Int32.le_toInt y
  have b2 := Int32.toInt_lt y
  rw [Int64.toInt_add, Int32.toInt_toInt64, Int32.toInt_toInt64]
  exact Int.bmod_eq_of_le (by omega) (by omega)
theorem lg_32 {x : Int64} (h1 : -2147483648 ≤ x.toInt) (h2 : x.toInt < 2147483648) : x.toInt32.toInt = x.toInt := by
  rw [Int64.toInt_toInt32]
  exact Int.bmod_eq_of_le (by omega) (by omega)
theorem and255 (x : Int32) : 0 ≤ (x &&& 255).toInt ∧ (x &&& 255).toInt ≤ 255 := by
  have e : (x &&& 255).toBitVec = x.toBitVec &&& 255#32 := rfl
  have h : (x &&& 255).toBitVec.toNat ≤ 255 := by
    rw [e, BitVec.toNat_and]
    exact Nat.and_le_right
  have h2 : (x &&& 255).toInt = (x &&& 255).toBitVec.toInt := rfl
  rw [h2, BitVec.toInt_eq_toNat_of_lt (by omega)]
  omega
def sM_person (σ : ST) (n q : Int32) (r : Int32) (σ2 : ST) : Prop := ((¬ ((1 ≤ n.toInt ∧ n.toInt ≤ 99) ∧ (0 ≤ q.toInt ∧ q.toInt < 6))) ∧ r = -2 ∧ σ2 = σ) ∨ ((((1 ≤ n.toInt ∧ n.toInt ≤ 99) ∧ (0 ≤ q.toInt ∧ q.toInt < 6)) ∧ 10 ≤ (σ.1 19).toInt) ∧ r = -4 ∧ σ2 = σ) ∨ ((((1 ≤ n.toInt ∧ n.toInt ≤ 99) ∧ (0 ≤ q.toInt ∧ q.toInt < 6)) ∧ (σ.1 19).toInt < 10) ∧ r = σ.1 19 ∧ σ2 = setI (setA (setA (setA (setA σ 96 (σ.1 19).toNatClampNeg n) 97 (σ.1 19).toNatClampNeg q) 98 (σ.1 19).toNatClampNeg 0) 99 (σ.1 19).toNatClampNeg 9999) 19 (σ.1 19 + 1))
def sM_lived (σ : ST) (p a b : Int32) (r : Int32) (σ2 : ST) : Prop := ((((0 ≤ p.toInt ∧ p.toInt < (σ.1 19).toInt) ∧ (0 ≤ a.toInt ∧ a.toInt ≤ 9999) ∧ (0 ≤ b.toInt ∧ b.toInt ≤ 9999) ∧ a.toInt ≤ b.toInt)) ∧ r = 1 ∧ σ2 = setA (setA σ 98 (p).toNatClampNeg a) 99 (p).toNatClampNeg b) ∨ ((¬ ((0 ≤ p.toInt ∧ p.toInt < (σ.1 19).toInt) ∧ (0 ≤ a.toInt ∧ a.toInt ≤ 9999) ∧ (0 ≤ b.toInt ∧ b.toInt ≤ 9999) ∧ a.toInt ≤ b.toInt)) ∧ r = -2 ∧ σ2 = σ)
def sM_knows (σ : ST) (a b d : Int32) (r : Int32) (σ2 : ST) : Prop := (¬ ((0 ≤ a.toInt ∧ a.toInt < (σ.1 19).toInt) ∧ (0 ≤ b.toInt ∧ b.toInt < (σ.1 19).toInt)) ∧ r = -2 ∧ σ2 = σ) ∨ (((0 ≤ a.toInt ∧ a.toInt < (σ.1 19).toInt) ∧ (0 ≤ b.toInt ∧ b.toInt < (σ.1 19).toInt)) ∧ (((σ.2 100 (10 * (a).toNatClampNeg + (b).toNatClampNeg)).toInt = d.toInt ∧ r = 0) ∨ ((σ.2 100 (10 * (a).toNatClampNeg + (b).toNatClampNeg)).toInt ≠ d.toInt ∧ r = 1)) ∧ σ2 = setA σ 100 (10 * (a).toNatClampNeg + (b).toNatClampNeg) d)
def sM_letter (σ : ST) (k a b q : Int32) (r : Int32) (σ2 : ST) : Prop := ((¬ ((0 ≤ k.toInt ∧ k.toInt < 6) ∧ (0 ≤ a.toInt ∧ a.toInt < (σ.1 19).toInt) ∧ (0 ≤ b.toInt ∧ b.toInt < (σ.1 19).toInt) ∧ (0 ≤ q.toInt ∧ q.toInt < 6))) ∧ r = -2 ∧ σ2 = σ) ∨ ((((0 ≤ k.toInt ∧ k.toInt < 6) ∧ (0 ≤ a.toInt ∧ a.toInt < (σ.1 19).toInt) ∧ (0 ≤ b.toInt ∧ b.toInt < (σ.1 19).toInt) ∧ (0 ≤ q.toInt ∧ q.toInt < 6)) ∧ 12 ≤ (σ.1 20).toInt) ∧ r = -4 ∧ σ2 = σ) ∨ ((((0 ≤ k.toInt ∧ k.toInt < 6) ∧ (0 ≤ a.toInt ∧ a.toInt < (σ.1 19).toInt) ∧ (0 ≤ b.toInt ∧ b.toInt < (σ.1 19).toInt) ∧ (0 ≤ q.toInt ∧ q.toInt < 6)) ∧ (σ.1 20).toInt < 12) ∧ r = σ.1 20 ∧ σ2 = setI (setA (setA (setA (setA (setA (setA (setA (setA σ 101 (σ.1 20).toNatClampNeg k) 102 (σ.1 20).toNatClampNeg a) 103 (σ.1 20).toNatClampNeg b) 104 (σ.1 20).toNatClampNeg q) 105 (σ.1 20).toNatClampNeg 0) 106 (σ.1 20).toNatClampNeg 9999) 107 (σ.1 20).toNatClampNeg (-1)) 108 (σ.1 20).toNatClampNeg (-1)) 20 (σ.1 20 + 1))
def sM_days (σ : ST) (m a b : Int32) (r : Int32) (σ2 : ST) : Prop := ((((0 ≤ m.toInt ∧ m.toInt < (σ.1 20).toInt) ∧ (0 ≤ a.toInt ∧ a.toInt ≤ 9999) ∧ (0 ≤ b.toInt ∧ b.toInt ≤ 9999) ∧ a.toInt ≤ b.toInt)) ∧ r = 1 ∧ σ2 = setA (setA σ 105 (m).toNatClampNeg a) 106 (m).toNatClampNeg b) ∨ ((¬ ((0 ≤ m.toInt ∧ m.toInt < (σ.1 20).toInt) ∧ (0 ≤ a.toInt ∧ a.toInt ≤ 9999) ∧ (0 ≤ b.toInt ∧ b.toInt ≤ 9999) ∧ a.toInt ≤ b.toInt)) ∧ r = -2 ∧ σ2 = σ)
def sM_week (σ : ST) (m a : Int32) (r : Int32) (σ2 : ST) : Prop := ((((0 ≤ m.toInt ∧ m.toInt < (σ.1 20).toInt) ∧ -1 ≤ a.toInt ∧ a.toInt < 7)) ∧ r = 1 ∧ σ2 = setA σ 107 (m).toNatClampNeg a) ∨ ((¬ ((0 ≤ m.toInt ∧ m.toInt < (σ.1 20).toInt) ∧ -1 ≤ a.toInt ∧ a.toInt < 7)) ∧ r = -2 ∧ σ2 = σ)
def sM_bound (σ : ST) (a b d : Int32) (r : Int32) (σ2 : ST) : Prop := ((¬ ((0 ≤ a.toInt ∧ a.toInt < (σ.1 20).toInt) ∧ (0 ≤ b.toInt ∧ b.toInt < (σ.1 20).toInt) ∧ a.toInt ≠ b.toInt ∧ -500 ≤ d.toInt ∧ d.toInt ≤ 500)) ∧ r = -2 ∧ σ2 = σ) ∨ ((((0 ≤ a.toInt ∧ a.toInt < (σ.1 20).toInt) ∧ (0 ≤ b.toInt ∧ b.toInt < (σ.1 20).toInt) ∧ a.toInt ≠ b.toInt ∧ -500 ≤ d.toInt ∧ d.toInt ≤ 500) ∧ 20 ≤ (σ.1 21).toInt) ∧ r = -4 ∧ σ2 = σ) ∨ ((((0 ≤ a.toInt ∧ a.toInt < (σ.1 20).toInt) ∧ (0 ≤ b.toInt ∧ b.toInt < (σ.1 20).toInt) ∧ a.toInt ≠ b.toInt ∧ -500 ≤ d.toInt ∧ d.toInt ≤ 500) ∧ (σ.1 21).toInt < 20) ∧ r = σ.1 21 + 1 ∧ σ2 = setI (setA (setA (setA σ 111 (σ.1 21).toNatClampNeg a) 112 (σ.1 21).toNatClampNeg b) 113 (σ.1 21).toNatClampNeg d) 21 (σ.1 21 + 1))
def sM_loose (σ : ST)  (r : Int32) (σ2 : ST) : Prop := (((σ.1 21).toInt = 0) ∧ r = -3 ∧ σ2 = σ) ∨ (((σ.1 21).toInt ≠ 0) ∧ r = σ.1 21 - 1 ∧ σ2 = setI σ 21 (σ.1 21 - 1))
def sM_found (σ : ST) (a b : Int32) (r : Int32) (σ2 : ST) : Prop := ((¬ ((0 ≤ a.toInt ∧ a.toInt < (σ.1 20).toInt) ∧ (0 ≤ b.toInt ∧ b.toInt < (σ.1 20).toInt) ∧ (σ.2 101 (a).toNatClampNeg).toInt = 4 ∧ (σ.2 101 (b).toNatClampNeg).toInt ≠ 4)) ∧ r = -2 ∧ σ2 = σ) ∨ ((((0 ≤ a.toInt ∧ a.toInt < (σ.1 20).toInt) ∧ (0 ≤ b.toInt ∧ b.toInt < (σ.1 20).toInt) ∧ (σ.2 101 (a).toNatClampNeg).toInt = 4 ∧ (σ.2 101 (b).toNatClampNeg).toInt ≠ 4) ∧ 0 ≤ (σ.2 108 (a).toNatClampNeg).toInt) ∧ r = -3 ∧ σ2 = σ) ∨ ((((0 ≤ a.toInt ∧ a.toInt < (σ.1 20).toInt) ∧ (0 ≤ b.toInt ∧ b.toInt < (σ.1 20).toInt) ∧ (σ.2 101 (a).toNatClampNeg).toInt = 4 ∧ (σ.2 101 (b).toNatClampNeg).toInt ≠ 4) ∧ (σ.2 108 (a).toNatClampNeg).toInt < 0) ∧ r = 1 ∧ σ2 = setA σ 108 (a).toNatClampNeg b)
def sM_lose (σ : ST) (a : Int32) (r : Int32) (σ2 : ST) : Prop := ((¬ (0 ≤ a.toInt ∧ a.toInt < (σ.1 20).toInt)) ∧ r = -2 ∧ σ2 = σ) ∨ (((0 ≤ a.toInt ∧ a.toInt < (σ.1 20).toInt) ∧ (σ.2 108 (a).toNatClampNeg).toInt < 0) ∧ r = -3 ∧ σ2 = σ) ∨ (((0 ≤ a.toInt ∧ a.toInt < (σ.1 20).toInt) ∧ 0 ≤ (σ.2 108 (a).toNatClampNeg).toInt) ∧ r = 1 ∧ σ2 = setA σ 108 (a).toNatClampNeg (-1))
def sM_post (σ : ST) (a b u v : Int32) (r : Int32) (σ2 : ST) : Prop := ((((0 ≤ a.toInt ∧ a.toInt < 6) ∧ (0 ≤ b.toInt ∧ b.toInt < 6) ∧ (0 ≤ u.toInt ∧ u.toInt ≤ 400) ∧ (0 ≤ v.toInt ∧ v.toInt ≤ 400) ∧ u.toInt ≤ v.toInt)) ∧ r = 1 ∧ σ2 = setA (setA σ 114 (6 * (a).toNatClampNeg + (b).toNatClampNeg) u) 115 (6 * (a).toNatClampNeg + (b).toNatClampNeg) v) ∨ ((¬ ((0 ≤ a.toInt ∧ a.toInt < 6) ∧ (0 ≤ b.toInt ∧ b.toInt < 6) ∧ (0 ≤ u.toInt ∧ u.toInt ≤ 400) ∧ (0 ≤ v.toInt ∧ v.toInt ≤ 400) ∧ u.toInt ≤ v.toInt)) ∧ r = -2 ∧ σ2 = σ)
def sM_put0 (σ : ST) (f a b p : Int32) (r : Int32) (σ2 : ST) : Prop := ((f.toInt ≠ -1) ∧ r = σ.1 22 ∧ σ2 = setA (setA (setA σ 116 (f).toNatClampNeg a) 117 (f).toNatClampNeg b) 118 (f).toNatClampNeg p) ∨ ((f.toInt = -1 ∧ 10 ≤ (σ.1 22).toInt) ∧ r = -4 ∧ σ2 = σ) ∨ ((f.toInt = -1 ∧ (σ.1 22).toInt < 10) ∧ r = σ.1 22 + 1 ∧ σ2 = setA (setA (setA (setI σ 22 (σ.1 22 + 1)) 116 (σ.1 22).toNatClampNeg a) 117 (σ.1 22).toNatClampNeg b) 118 (σ.1 22).toNatClampNeg p)
def sM_hand (σ : ST) (a b p : Int32) (r : Int32) (σ2 : ST) : Prop := (¬ ((0 ≤ a.toInt ∧ a.toInt < (σ.1 20).toInt) ∧ (1 ≤ b.toInt ∧ b.toInt ≤ 99) ∧ (0 ≤ p.toInt ∧ p.toInt < (σ.1 19).toInt)) ∧ r = -2 ∧ σ2 = σ) ∨ (((0 ≤ a.toInt ∧ a.toInt < (σ.1 20).toInt) ∧ (1 ≤ b.toInt ∧ b.toInt ≤ 99) ∧ (0 ≤ p.toInt ∧ p.toInt < (σ.1 19).toInt)) ∧ ∃ f : Int32, fndP (σ.2 116) (σ.2 117) (σ.1 22).toInt a b f ∧ sM_put0 σ f a b p r σ2)
abbrev mfI (i : Nat) : Prop := i = 23
abbrev mfA (k : Nat) : Prop := k = 119
def WMf (σ σ2 : ST) : Prop := IV σ2 ∧ Ag mfI mfA σ σ2
theorem WMf_rfl {σ : ST} (h : IV σ) : WMf σ σ := ⟨h, Ag_rfl σ⟩
theorem WMf_trans {σ σ2 σ3 : ST} (h : WMf σ σ2) (h2 : WMf σ2 σ3) : WMf σ σ3 := ⟨h2.1, Ag_trans h.2 h2.2⟩
abbrev myI (_ : Nat) : Prop := False
abbrev myA (k : Nat) : Prop := k = 134 ∨ k = 135
def WMy (σ σ2 : ST) : Prop := IV σ2 ∧ Ag myI myA σ σ2
theorem WMy_rfl {σ : ST} (h : IV σ) : WMy σ σ := ⟨h, Ag_rfl σ⟩
theorem WMy_trans {σ σ2 σ3 : ST} (h : WMy σ σ2) (h2 : WMy σ2 σ3) : WMy σ σ3 := ⟨h2.1, Ag_trans h.2 h2.2⟩
def sM_feed (σ : ST) (n r : Int32) (σ2 : ST) : Prop := (¬ (1 ≤ n.toInt ∧ n.toInt ≤ 8) ∧ r = -2 ∧ σ2 = σ) ∨ ((1 ≤ n.toInt ∧ n.toInt ≤ 8) ∧ 160 < (σ.1 23).toInt + n.toInt ∧ r = -4 ∧ σ2 = σ) ∨ ((1 ≤ n.toInt ∧ n.toInt ≤ 8) ∧ (σ.1 23).toInt + n.toInt ≤ 160 ∧ WMf σ σ2 ∧ (σ2.1 23).toInt = (σ.1 23).toInt + n.toInt ∧ r = σ2.1 23)
def sM_tray (σ : ST) (t n r : Int32) (σ2 : ST) : Prop := (¬ ((0 ≤ t.toInt ∧ t.toInt < 4) ∧ n.toInt ≤ 60) ∧ r = -2 ∧ σ2 = σ) ∨ (((0 ≤ t.toInt ∧ t.toInt < 4) ∧ n.toInt ≤ 60) ∧ n.toInt < -1 ∧ r = -14 ∧ σ2 = σ) ∨ (((0 ≤ t.toInt ∧ t.toInt < 4) ∧ n.toInt ≤ 60) ∧ -1 ≤ n.toInt ∧ r = 1 ∧ WMy σ σ2 ∧ σ2.2 134 = upd (σ.2 134) (t).toNatClampNeg n)
def sM_cell (σ : ST) (t i v : Int32) (r : Int32) (σ2 : ST) : Prop := ((¬ (0 ≤ t.toInt ∧ t.toInt < 4)) ∧ r = -2 ∧ σ2 = σ) ∨ (((0 ≤ t.toInt ∧ t.toInt < 4) ∧ (σ.2 134 (t).toNatClampNeg).toInt < 0) ∧ r = -11 ∧ σ2 = σ) ∨ (((0 ≤ t.toInt ∧ t.toInt < 4) ∧ 0 ≤ (σ.2 134 (t).toNatClampNeg).toInt ∧ ¬ (0 ≤ i.toInt ∧ i.toInt < (σ.2 134 (t).toNatClampNeg).toInt)) ∧ r = -12 ∧ σ2 = σ) ∨ (((0 ≤ t.toInt ∧ t.toInt < 4) ∧ 0 ≤ (σ.2 134 (t).toNatClampNeg).toInt ∧ 0 ≤ i.toInt ∧ i.toInt < (σ.2 134 (t).toNatClampNeg).toInt) ∧ r = 1 ∧ σ2 = setA σ 135 (60 * (t).toNatClampNeg + (i).toNatClampNeg) (v &&& 255))
def sM_lay (σ : ST) (t f n r : Int32) (σ2 : ST) : Prop := (¬ ((0 ≤ t.toInt ∧ t.toInt < 4) ∧ 0 ≤ n.toInt) ∧ r = -2 ∧ σ2 = σ) ∨ (((0 ≤ t.toInt ∧ t.toInt < 4) ∧ 0 ≤ n.toInt) ∧ (σ.2 134 (t).toNatClampNeg).toInt < 0 ∧ r = -11 ∧ σ2 = σ) ∨ (((0 ≤ t.toInt ∧ t.toInt < 4) ∧ 0 ≤ n.toInt) ∧ 0 ≤ (σ.2 134 (t).toNatClampNeg).toInt ∧ WMf σ σ2 ∧ (r.toInt, (σ2.1 23).toInt) = layR (σ.2 134 (t).toNatClampNeg).toInt f.toInt n.toInt 100 0 (σ.1 23).toInt)
set_option maxHeartbeats 4000000 in
set_option maxRecDepth 100000 in
theorem e_X12_person (l : Launch) (L : WL) (σ : ST) (n q : Int32) (ix : IV σ) : CtI l L yX12_person cX12_person 3 (some .int) rm_X12_person [.ref (L.2.1 13), .int n, .int q] σ (fun r σ2 => sM_person σ n q r σ2) := by
  refine ctI_go (own := RX12) (by decide) rfl (Nat.le_of_ble_eq_true rfl) (fun F hF => ?_)
  subst hF
  have nm4 : (-4 : Int32).toInt = -4 := by decide
  have nm2 : (-2 : Int32).toInt = -2 := by decide
  have n0 : (0 : Int32).toInt = 0 := by decide
  have n1 : (1 : Int32).toInt = 1 := by decide
  have n6 : (6 : Int32).toInt = 6 := by decide
  have n10 : (10 : Int32).toInt = 10 := by decide
  have n99 : (99 : Int32).toInt = 99 := by decide
  have n9999 : (9999 : Int32).toInt = 9999 := by decide
  have w0 : WM σ σ := WM_rfl ix
  have u19 := ixi_19 ix
  have u20 := ixi_20 ix
  have u21 := ixi_21 ix
  have u22 := ixi_22 ix
  have u23 := ixi_23 ix
  refine go_iload_n (i := 1) (pc' := 1) dX12_person_0 rfl rfl rfl ?_
  refine go_iconst (v := 1) (pc' := 2) dX12_person_1 rfl (by decide) ?_
  refine go_isub (pc' := 3) dX12_person_2 rfl ?_
  refine go_bipush (v := 99) (pc' := 5) dX12_person_3 rfl (by decide) ?_
  refine go_csi (pc' := 8) ls_X12_135 (c_X12_isIn _ _ _ _ _) rfl rfl (Nat.le_of_ble_eq_true rfl) ⟨Nat.le_of_ble_eq_true rfl, Nat.le_of_ble_eq_true rfl⟩ ⟨rfl, rfl⟩ dX12_person_5 rfl (fun r1 σ1 h1 => ?_)
  obtain ⟨e1, h1⟩ := h1
  have e1 := e1.symm
  subst e1
  have h1 := bq_c (sub1c _ _) h1
  refine go_eqB (tgt := 20) (pc' := 11) h1 dX12_person_8 rfl (by decide) (fun c2 => ?_) (fun c2 => ?_)
  · refine go_bipush (v := (-2)) (pc' := 22) dX12_person_20 rfl (by decide) ?_
    exact go_iret dX12_person_22 rfl (Or.inl ⟨by omega, by first | rfl | omega | (exact Int32.add_sub_cancel _ _), rfl⟩)
  refine go_iload_n (i := 2) (pc' := 12) dX12_person_11 rfl rfl rfl ?_
  refine go_bipush (v := 6) (pc' := 14) dX12_person_12 rfl (by decide) ?_
  refine go_csi (pc' := 17) ls_X12_135 (c_X12_isIn _ _ _ _ _) rfl rfl (Nat.le_of_ble_eq_true rfl) ⟨Nat.le_of_ble_eq_true rfl, Nat.le_of_ble_eq_true rfl⟩ ⟨rfl, rfl⟩ dX12_person_14 rfl (fun r3 σ3 h3 => ?_)
  obtain ⟨e3, h3⟩ := h3
  have e3 := e3.symm
  subst e3
  refine go_neB (tgt := 23) (pc' := 20) h3 dX12_person_17 rfl (by decide) (fun c4 => ?_) (fun c4 => ?_)
  · refine go_aload_n (i := 0) (pc' := 24) dX12_person_23 rfl rfl rfl ?_
    refine gf_13_persons (pc' := 27) dX12_person_24 rfl fl_X12_139 ?_
    have g5 := ixi_19 ix
    refine go_bipush (v := 10) (pc' := 29) dX12_person_27 rfl (by decide) ?_
    refine gz_icmp_ne (tgt := 35) (pc' := 32) dX12_person_29 rfl (by decide) (fun c6 => ?_) (fun c6 => ?_)
    · refine go_aload_n (i := 0) (pc' := 36) dX12_person_35 rfl rfl rfl ?_
      refine gf_13_name (pc' := 39) dX12_person_36 rfl fl_X12_9 ?_
      refine go_aload_n (i := 0) (pc' := 40) dX12_person_39 rfl rfl rfl ?_
      refine gf_13_persons (pc' := 43) dX12_person_40 rfl fl_X12_139 ?_
      have g7 := ixi_19 ix
      refine go_iload_n (i := 1) (pc' := 44) dX12_person_43 rfl rfl rfl ?_
      refine go_iast (pc' := 45) dX12_person_44 rfl (by decide) (by decide) rfl (vin_of (n := 10) (by omega) (by omega)) ?_
      refine go_aload_n (i := 0) (pc' := 46) dX12_person_45 rfl rfl rfl ?_
      refine gf_13_home (pc' := 49) dX12_person_46 rfl fl_X12_13 ?_
      refine go_aload_n (i := 0) (pc' := 50) dX12_person_49 rfl rfl rfl ?_
      refine gf_13_persons (pc' := 53) dX12_person_50 rfl fl_X12_139 ?_
      refine go_topq (y := (σ.1 19)) rfl ?_
      have g8 := ixi_19 ix
      refine go_iload_n (i := 2) (pc' := 54) dX12_person_53 rfl rfl rfl ?_
      refine go_iast (pc' := 55) dX12_person_54 rfl (by decide) (by decide) rfl (vin_of (n := 10) (by omega) (by omega)) ?_
      refine go_aload_n (i := 0) (pc' := 56) dX12_person_55 rfl rfl rfl ?_
      refine gf_13_first (pc' := 59) dX12_person_56 rfl fl_X12_16 ?_
      refine go_aload_n (i := 0) (pc' := 60) dX12_person_59 rfl rfl rfl ?_
      refine gf_13_persons (pc' := 63) dX12_person_60 rfl fl_X12_139 ?_
      refine go_topq (y := (σ.1 19)) rfl ?_
      have g9 := ixi_19 ix
      refine go_iconst (v := 0) (pc' := 64) dX12_person_63 rfl (by decide) ?_
      refine go_iast (pc' := 65) dX12_person_64 rfl (by decide) (by decide) rfl (vin_of (n := 10) (by omega) (by omega)) ?_
      refine go_aload_n (i := 0) (pc' := 66) dX12_person_65 rfl rfl rfl ?_
      refine gf_13_last (pc' := 69) dX12_person_66 rfl fl_X12_19 ?_
      refine go_aload_n (i := 0) (pc' := 70) dX12_person_69 rfl rfl rfl ?_
      refine gf_13_persons (pc' := 73) dX12_person_70 rfl fl_X12_139 ?_
      refine go_topq (y := (σ.1 19)) rfl ?_
      have g10 := ixi_19 ix
      refine go_sipush (v := 9999) (pc' := 76) dX12_person_73 rfl (by decide) ?_
      refine go_iast (pc' := 77) dX12_person_76 rfl (by decide) (by decide) rfl (vin_of (n := 10) (by omega) (by omega)) ?_
      refine go_aload_n (i := 0) (pc' := 78) dX12_person_77 rfl rfl rfl ?_
      refine go_dup (pc' := 79) dX12_person_78 rfl rfl ?_
      refine gf_13_persons (pc' := 82) dX12_person_79 rfl fl_X12_139 ?_
      refine go_topq (y := (σ.1 19)) rfl ?_
      have g11 := ixi_19 ix
      refine go_iconst (v := 1) (pc' := 83) dX12_person_82 rfl (by decide) ?_
      refine go_iadd (pc' := 84) dX12_person_83 rfl ?_
      refine pf_13_persons (pc' := 87) dX12_person_84 rfl fl_X12_139 ?_
      refine go_aload_n (i := 0) (pc' := 88) dX12_person_87 rfl rfl rfl ?_
      refine gf_13_persons (pc' := 91) dX12_person_88 rfl fl_X12_139 ?_
      refine go_topq (y := ((σ.1 19) + (1 : Int32))) rfl ?_
      refine go_iconst (v := 1) (pc' := 92) dX12_person_91 rfl (by decide) ?_
      refine go_isub (pc' := 93) dX12_person_92 rfl ?_
      exact go_iret dX12_person_93 rfl (Or.inr (Or.inr (⟨by omega, by first | rfl | omega | (exact Int32.add_sub_cancel _ _), rfl⟩)))
    refine go_bipush (v := (-4)) (pc' := 34) dX12_person_32 rfl (by decide) ?_
    exact go_iret dX12_person_34 rfl (Or.inr (Or.inl ⟨by omega, by first | rfl | omega | (exact Int32.add_sub_cancel _ _), rfl⟩))
  refine go_bipush (v := (-2)) (pc' := 22) dX12_person_20 rfl (by decide) ?_
  exact go_iret dX12_person_22 rfl (Or.inl ⟨by omega, by first | rfl | omega | (exact Int32.add_sub_cancel _ _), rfl⟩)
set_option maxHeartbeats 4000000 in
set_option maxRecDepth 100000 in
theorem e_X12_lived (l : Launch) (L : WL) (σ : ST) (p a b : Int32) (ix : IV σ) : CtI l L yX12_lived cX12_lived 4 (some .int) rm_X12_lived [.ref (L.2.1 13), .int p, .int a, .int b] σ (fun r σ2 => sM_lived σ p a b r σ2) := by
  refine ctI_go (own := RX12) (by decide) rfl (Nat.le_of_ble_eq_true rfl) (fun F hF => ?_)
  subst hF
  have nm2 : (-2 : Int32).toInt = -2 := by decide
  have n1 : (1 : Int32).toInt = 1 := by decide
  have w0 : WM σ σ := WM_rfl ix
  have u19 := ixi_19 ix
  have u20 := ixi_20 ix
  have u21 := ixi_21 ix
  have u22 := ixi_22 ix
  have u23 := ixi_23 ix
  refine go_aload_n (i := 0) (pc' := 1) dX12_lived_0 rfl rfl rfl ?_
  refine go_iload_n (i := 1) (pc' := 2) dX12_lived_1 rfl rfl rfl ?_
  refine go_cvi (pc' := 5) lk_X12_145 (c_X12_isPerson _ _ _ _) rfl rfl (Nat.le_of_ble_eq_true rfl) (by decide) rfl rfl rfl ⟨Nat.le_of_ble_eq_true rfl, Nat.le_of_ble_eq_true rfl⟩ ⟨rfl, rfl⟩ dX12_lived_2 rfl (fun r1 σ1 h1 => ?_)
  obtain ⟨e1, h1⟩ := h1
  have e1 := e1.symm
  subst e1
  refine go_eqB (tgt := 27) (pc' := 8) h1 dX12_lived_5 rfl (by decide) (fun c2 => ?_) (fun c2 => ?_)
  · refine go_bipush (v := (-2)) (pc' := 29) dX12_lived_27 rfl (by decide) ?_
    exact go_iret dX12_lived_29 rfl (Or.inr (⟨by omega, by first | rfl | omega | (exact Int32.add_sub_cancel _ _), rfl⟩))
  refine go_iload_n (i := 2) (pc' := 9) dX12_lived_8 rfl rfl rfl ?_
  refine go_csi (pc' := 12) ls_X12_149 (c_X12_isDay _ _ _ _) rfl rfl (Nat.le_of_ble_eq_true rfl) ⟨Nat.le_of_ble_eq_true rfl, Nat.le_of_ble_eq_true rfl⟩ ⟨rfl, rfl⟩ dX12_lived_9 rfl (fun r3 σ3 h3 => ?_)
  obtain ⟨e3, h3⟩ := h3
  have e3 := e3.symm
  subst e3
  refine go_eqB (tgt := 27) (pc' := 15) h3 dX12_lived_12 rfl (by decide) (fun c4 => ?_) (fun c4 => ?_)
  · refine go_bipush (v := (-2)) (pc' := 29) dX12_lived_27 rfl (by decide) ?_
    exact go_iret dX12_lived_29 rfl (Or.inr (⟨by omega, by first | rfl | omega | (exact Int32.add_sub_cancel _ _), rfl⟩))
  refine go_iload_n (i := 3) (pc' := 16) dX12_lived_15 rfl rfl rfl ?_
  refine go_csi (pc' := 19) ls_X12_149 (c_X12_isDay _ _ _ _) rfl rfl (Nat.le_of_ble_eq_true rfl) ⟨Nat.le_of_ble_eq_true rfl, Nat.le_of_ble_eq_true rfl⟩ ⟨rfl, rfl⟩ dX12_lived_16 rfl (fun r5 σ5 h5 => ?_)
  obtain ⟨e5, h5⟩ := h5
  have e5 := e5.symm
  subst e5
  refine go_eqB (tgt := 27) (pc' := 22) h5 dX12_lived_19 rfl (by decide) (fun c6 => ?_) (fun c6 => ?_)
  · refine go_bipush (v := (-2)) (pc' := 29) dX12_lived_27 rfl (by decide) ?_
    exact go_iret dX12_lived_29 rfl (Or.inr (⟨by omega, by first | rfl | omega | (exact Int32.add_sub_cancel _ _), rfl⟩))
  refine go_iload_n (i := 2) (pc' := 23) dX12_lived_22 rfl rfl rfl ?_
  refine go_iload_n (i := 3) (pc' := 24) dX12_lived_23 rfl rfl rfl ?_
  refine gz_icmp_le (tgt := 30) (pc' := 27) dX12_lived_24 rfl (by decide) (fun c7 => ?_) (fun c7 => ?_)
  · refine go_aload_n (i := 0) (pc' := 31) dX12_lived_30 rfl rfl rfl ?_
    refine gf_13_first (pc' := 34) dX12_lived_31 rfl fl_X12_16 ?_
    refine go_iload_n (i := 1) (pc' := 35) dX12_lived_34 rfl rfl rfl ?_
    refine go_iload_n (i := 2) (pc' := 36) dX12_lived_35 rfl rfl rfl ?_
    refine go_iast (pc' := 37) dX12_lived_36 rfl (by decide) (by decide) rfl (vin_of (n := 10) (by omega) (by omega)) ?_
    refine go_aload_n (i := 0) (pc' := 38) dX12_lived_37 rfl rfl rfl ?_
    refine gf_13_last (pc' := 41) dX12_lived_38 rfl fl_X12_19 ?_
    refine go_iload_n (i := 1) (pc' := 42) dX12_lived_41 rfl rfl rfl ?_
    refine go_iload_n (i := 3) (pc' := 43) dX12_lived_42 rfl rfl rfl ?_
    refine go_iast (pc' := 44) dX12_lived_43 rfl (by decide) (by decide) rfl (vin_of (n := 10) (by omega) (by omega)) ?_
    refine go_iconst (v := 1) (pc' := 45) dX12_lived_44 rfl (by decide) ?_
    exact go_iret dX12_lived_45 rfl (Or.inl ⟨by omega, by first | rfl | omega | (exact Int32.add_sub_cancel _ _), rfl⟩)
  refine go_bipush (v := (-2)) (pc' := 29) dX12_lived_27 rfl (by decide) ?_
  exact go_iret dX12_lived_29 rfl (Or.inr (⟨by omega, by first | rfl | omega | (exact Int32.add_sub_cancel _ _), rfl⟩))
set_option maxHeartbeats 4000000 in
set_option maxRecDepth 100000 in
theorem e_X12_knows (l : Launch) (L : WL) (σ : ST) (a b d : Int32) (hd : d = 0 ∨ d = 1) (ix : IV σ) : CtI l L yX12_knows cX12_knows 5 (some .int) rm_X12_knows [.ref (L.2.1 13), .int a, .int b, .int d] σ (fun r σ2 => sM_knows σ a b d r σ2) := by
  refine ctI_go (own := RX12) (by decide) rfl (Nat.le_of_ble_eq_true rfl) (fun F hF => ?_)
  subst hF
  have nm2 : (-2 : Int32).toInt = -2 := by decide
  have n0 : (0 : Int32).toInt = 0 := by decide
  have n1 : (1 : Int32).toInt = 1 := by decide
  have n10 : (10 : Int32).toInt = 10 := by decide
  have w0 : WM σ σ := WM_rfl ix
  have u19 := ixi_19 ix
  have u20 := ixi_20 ix
  have u21 := ixi_21 ix
  have u22 := ixi_22 ix
  have u23 := ixi_23 ix
  refine go_aload_n (i := 0) (pc' := 1) dX12_knows_0 rfl rfl rfl ?_
  refine go_iload_n (i := 1) (pc' := 2) dX12_knows_1 rfl rfl rfl ?_
  refine go_cvi (pc' := 5) lk_X12_145 (c_X12_isPerson _ _ _ _) rfl rfl (Nat.le_of_ble_eq_true rfl) (by decide) rfl rfl rfl ⟨Nat.le_of_ble_eq_true rfl, Nat.le_of_ble_eq_true rfl⟩ ⟨rfl, rfl⟩ dX12_knows_2 rfl (fun r1 σ1 h1 => ?_)
  obtain ⟨e1, h1⟩ := h1
  have e1 := e1.symm
  subst e1
  refine go_eqB (tgt := 16) (pc' := 8) h1 dX12_knows_5 rfl (by decide) (fun c2 => ?_) (fun c2 => ?_)
  · refine go_bipush (v := (-2)) (pc' := 18) dX12_knows_16 rfl (by decide) ?_
    exact go_iret dX12_knows_18 rfl (Or.inl ⟨by omega, rfl, rfl⟩)
  refine go_aload_n (i := 0) (pc' := 9) dX12_knows_8 rfl rfl rfl ?_
  refine go_iload_n (i := 2) (pc' := 10) dX12_knows_9 rfl rfl rfl ?_
  refine go_cvi (pc' := 13) lk_X12_145 (c_X12_isPerson _ _ _ _) rfl rfl (Nat.le_of_ble_eq_true rfl) (by decide) rfl rfl rfl ⟨Nat.le_of_ble_eq_true rfl, Nat.le_of_ble_eq_true rfl⟩ ⟨rfl, rfl⟩ dX12_knows_10 rfl (fun r3 σ3 h3 => ?_)
  obtain ⟨e3, h3⟩ := h3
  have e3 := e3.symm
  subst e3
  refine go_neB (tgt := 19) (pc' := 16) h3 dX12_knows_13 rfl (by decide) (fun c4 => ?_) (fun c4 => ?_)
  · refine go_aload_n (i := 0) (pc' := 20) dX12_knows_19 rfl rfl rfl ?_
    refine gf_13_known (pc' := 23) dX12_knows_20 rfl fl_X12_22 ?_
    refine go_bipush (v := 10) (pc' := 25) dX12_knows_23 rfl (by decide) ?_
    refine go_iload_n (i := 1) (pc' := 26) dX12_knows_25 rfl rfl rfl ?_
    refine gz_imulc (n := 10) (pc' := 27) dX12_knows_26 rfl (by decide) (by omega) (fun v5 h5 e5 => ?_)
    refine go_iload_n (i := 2) (pc' := 28) dX12_knows_27 rfl rfl rfl ?_
    refine gz_iadd (pc' := 29) dX12_knows_28 rfl (by omega) (fun v6 h6 e6 => ?_)
    have ca := cnat (x := a) (by omega)
    have cb := cnat (x := b) (by omega)
    have ez : (v6).toNatClampNeg = (10 * (a).toNatClampNeg + (b).toNatClampNeg) := by have cz := cnat (x := v6) (by omega); omega
    refine go_zald (pc' := 30) dX12_knows_29 rfl (by decide) (by decide) rfl (vin_of (n := 100) (by omega) (by omega)) ?_
    have g7 := ixa_100 ix (v6).toNatClampNeg (vinlt (show vp_in v6 100 from (vin_of (n := 100) (by omega) (by omega))))
    refine go_topz (fun y8 h8 e8 => ?_)
    refine go_istore (pc' := 32) dX12_knows_30 rfl (by decide) ?_
    refine go_aload_n (i := 0) (pc' := 33) dX12_knows_32 rfl rfl rfl ?_
    refine gf_13_known (pc' := 36) dX12_knows_33 rfl fl_X12_22 ?_
    refine go_bipush (v := 10) (pc' := 38) dX12_knows_36 rfl (by decide) ?_
    refine go_iload_n (i := 1) (pc' := 39) dX12_knows_38 rfl rfl rfl ?_
    refine gz_imulc (n := 10) (pc' := 40) dX12_knows_39 rfl (by decide) (by omega) (fun v9 h9 e9 => ?_)
    refine go_iload_n (i := 2) (pc' := 41) dX12_knows_40 rfl rfl rfl ?_
    refine gz_iadd (pc' := 42) dX12_knows_41 rfl (by omega) (fun v10 h10 e10 => ?_)
    have ez2 : (v10).toNatClampNeg = (10 * (a).toNatClampNeg + (b).toNatClampNeg) := by have cz := cnat (x := v10) (by omega); omega
    refine go_iload_n (i := 3) (pc' := 43) dX12_knows_42 rfl rfl rfl ?_
    refine go_zast (pc' := 44) dX12_knows_43 rfl (by decide) (by decide) rfl (vin_of (n := 100) (by omega) (by omega)) (by rcases hd with rfl | rfl <;> rfl) ?_
    refine go_iload (pc' := 46) dX12_knows_44 rfl rfl ?_
    refine go_iload_n (i := 3) (pc' := 47) dX12_knows_46 rfl rfl rfl ?_
    refine gz_icmp_ne (tgt := 54) (pc' := 50) dX12_knows_47 rfl (by decide) (fun c11 => ?_) (fun c11 => ?_)
    · refine go_iconst (v := 1) (pc' := 55) dX12_knows_54 rfl (by decide) ?_
      exact go_iret dX12_knows_55 rfl (Or.inr ⟨by omega, by rw [← ez]; first | exact Or.inl ⟨by omega, rfl⟩ | exact Or.inr ⟨by omega, rfl⟩, by rw [ez2]⟩)
    refine go_iconst (v := 0) (pc' := 51) dX12_knows_50 rfl (by decide) ?_
    refine go_goto (tgt := 55) dX12_knows_51 (by decide) ?_
    exact go_iret dX12_knows_55 rfl (Or.inr ⟨by omega, by rw [← ez]; first | exact Or.inl ⟨by omega, rfl⟩ | exact Or.inr ⟨by omega, rfl⟩, by rw [ez2]⟩)
  refine go_bipush (v := (-2)) (pc' := 18) dX12_knows_16 rfl (by decide) ?_
  exact go_iret dX12_knows_18 rfl (Or.inl ⟨by omega, rfl, rfl⟩)
set_option maxHeartbeats 4000000 in
set_option maxRecDepth 100000 in
theorem e_X12_letter (l : Launch) (L : WL) (σ : ST) (k a b q : Int32) (ix : IV σ) : CtI l L yX12_letter cX12_letter 5 (some .int) rm_X12_letter [.ref (L.2.1 13), .int k, .int a, .int b, .int q] σ (fun r σ2 => sM_letter σ k a b q r σ2) := by
  refine ctI_go (own := RX12) (by decide) rfl (Nat.le_of_ble_eq_true rfl) (fun F hF => ?_)
  subst hF
  have nm4 : (-4 : Int32).toInt = -4 := by decide
  have nm2 : (-2 : Int32).toInt = -2 := by decide
  have nm1 : (-1 : Int32).toInt = -1 := by decide
  have n0 : (0 : Int32).toInt = 0 := by decide
  have n1 : (1 : Int32).toInt = 1 := by decide
  have n6 : (6 : Int32).toInt = 6 := by decide
  have n12 : (12 : Int32).toInt = 12 := by decide
  have n9999 : (9999 : Int32).toInt = 9999 := by decide
  have w0 : WM σ σ := WM_rfl ix
  have u19 := ixi_19 ix
  have u20 := ixi_20 ix
  have u21 := ixi_21 ix
  have u22 := ixi_22 ix
  have u23 := ixi_23 ix
  refine go_iload_n (i := 1) (pc' := 1) dX12_letter_0 rfl rfl rfl ?_
  refine go_bipush (v := 6) (pc' := 3) dX12_letter_1 rfl (by decide) ?_
  refine go_csi (pc' := 6) ls_X12_135 (c_X12_isIn _ _ _ _ _) rfl rfl (Nat.le_of_ble_eq_true rfl) ⟨Nat.le_of_ble_eq_true rfl, Nat.le_of_ble_eq_true rfl⟩ ⟨rfl, rfl⟩ dX12_letter_3 rfl (fun r1 σ1 h1 => ?_)
  obtain ⟨e1, h1⟩ := h1
  have e1 := e1.symm
  subst e1
  refine go_eqB (tgt := 35) (pc' := 9) h1 dX12_letter_6 rfl (by decide) (fun c2 => ?_) (fun c2 => ?_)
  · refine go_bipush (v := (-2)) (pc' := 37) dX12_letter_35 rfl (by decide) ?_
    exact go_iret dX12_letter_37 rfl (Or.inl ⟨by omega, by first | rfl | omega | (exact Int32.add_sub_cancel _ _), rfl⟩)
  refine go_aload_n (i := 0) (pc' := 10) dX12_letter_9 rfl rfl rfl ?_
  refine go_iload_n (i := 2) (pc' := 11) dX12_letter_10 rfl rfl rfl ?_
  refine go_cvi (pc' := 14) lk_X12_145 (c_X12_isPerson _ _ _ _) rfl rfl (Nat.le_of_ble_eq_true rfl) (by decide) rfl rfl rfl ⟨Nat.le_of_ble_eq_true rfl, Nat.le_of_ble_eq_true rfl⟩ ⟨rfl, rfl⟩ dX12_letter_11 rfl (fun r3 σ3 h3 => ?_)
  obtain ⟨e3, h3⟩ := h3
  have e3 := e3.symm
  subst e3
  refine go_eqB (tgt := 35) (pc' := 17) h3 dX12_letter_14 rfl (by decide) (fun c4 => ?_) (fun c4 => ?_)
  · refine go_bipush (v := (-2)) (pc' := 37) dX12_letter_35 rfl (by decide) ?_
    exact go_iret dX12_letter_37 rfl (Or.inl ⟨by omega, by first | rfl | omega | (exact Int32.add_sub_cancel _ _), rfl⟩)
  refine go_aload_n (i := 0) (pc' := 18) dX12_letter_17 rfl rfl rfl ?_
  refine go_iload_n (i := 3) (pc' := 19) dX12_letter_18 rfl rfl rfl ?_
  refine go_cvi (pc' := 22) lk_X12_145 (c_X12_isPerson _ _ _ _) rfl rfl (Nat.le_of_ble_eq_true rfl) (by decide) rfl rfl rfl ⟨Nat.le_of_ble_eq_true rfl, Nat.le_of_ble_eq_true rfl⟩ ⟨rfl, rfl⟩ dX12_letter_19 rfl (fun r5 σ5 h5 => ?_)
  obtain ⟨e5, h5⟩ := h5
  have e5 := e5.symm
  subst e5
  refine go_eqB (tgt := 35) (pc' := 25) h5 dX12_letter_22 rfl (by decide) (fun c6 => ?_) (fun c6 => ?_)
  · refine go_bipush (v := (-2)) (pc' := 37) dX12_letter_35 rfl (by decide) ?_
    exact go_iret dX12_letter_37 rfl (Or.inl ⟨by omega, by first | rfl | omega | (exact Int32.add_sub_cancel _ _), rfl⟩)
  refine go_iload (pc' := 27) dX12_letter_25 rfl rfl ?_
  refine go_bipush (v := 6) (pc' := 29) dX12_letter_27 rfl (by decide) ?_
  refine go_csi (pc' := 32) ls_X12_135 (c_X12_isIn _ _ _ _ _) rfl rfl (Nat.le_of_ble_eq_true rfl) ⟨Nat.le_of_ble_eq_true rfl, Nat.le_of_ble_eq_true rfl⟩ ⟨rfl, rfl⟩ dX12_letter_29 rfl (fun r7 σ7 h7 => ?_)
  obtain ⟨e7, h7⟩ := h7
  have e7 := e7.symm
  subst e7
  refine go_neB (tgt := 38) (pc' := 35) h7 dX12_letter_32 rfl (by decide) (fun c8 => ?_) (fun c8 => ?_)
  · refine go_aload_n (i := 0) (pc' := 39) dX12_letter_38 rfl rfl rfl ?_
    refine gf_13_letters (pc' := 42) dX12_letter_39 rfl fl_X12_142 ?_
    have g9 := ixi_20 ix
    refine go_bipush (v := 12) (pc' := 44) dX12_letter_42 rfl (by decide) ?_
    refine gz_icmp_ne (tgt := 50) (pc' := 47) dX12_letter_44 rfl (by decide) (fun c10 => ?_) (fun c10 => ?_)
    · refine go_aload_n (i := 0) (pc' := 51) dX12_letter_50 rfl rfl rfl ?_
      refine gf_13_kind (pc' := 54) dX12_letter_51 rfl fl_X12_26 ?_
      refine go_aload_n (i := 0) (pc' := 55) dX12_letter_54 rfl rfl rfl ?_
      refine gf_13_letters (pc' := 58) dX12_letter_55 rfl fl_X12_142 ?_
      have g11 := ixi_20 ix
      refine go_iload_n (i := 1) (pc' := 59) dX12_letter_58 rfl rfl rfl ?_
      refine go_iast (pc' := 60) dX12_letter_59 rfl (by decide) (by decide) rfl (vin_of (n := 12) (by omega) (by omega)) ?_
      refine go_aload_n (i := 0) (pc' := 61) dX12_letter_60 rfl rfl rfl ?_
      refine gf_13_writer (pc' := 64) dX12_letter_61 rfl fl_X12_29 ?_
      refine go_aload_n (i := 0) (pc' := 65) dX12_letter_64 rfl rfl rfl ?_
      refine gf_13_letters (pc' := 68) dX12_letter_65 rfl fl_X12_142 ?_
      refine go_topq (y := (σ.1 20)) rfl ?_
      have g12 := ixi_20 ix
      refine go_iload_n (i := 2) (pc' := 69) dX12_letter_68 rfl rfl rfl ?_
      refine go_iast (pc' := 70) dX12_letter_69 rfl (by decide) (by decide) rfl (vin_of (n := 12) (by omega) (by omega)) ?_
      refine go_aload_n (i := 0) (pc' := 71) dX12_letter_70 rfl rfl rfl ?_
      refine gf_13_reader (pc' := 74) dX12_letter_71 rfl fl_X12_32 ?_
      refine go_aload_n (i := 0) (pc' := 75) dX12_letter_74 rfl rfl rfl ?_
      refine gf_13_letters (pc' := 78) dX12_letter_75 rfl fl_X12_142 ?_
      refine go_topq (y := (σ.1 20)) rfl ?_
      have g13 := ixi_20 ix
      refine go_iload_n (i := 3) (pc' := 79) dX12_letter_78 rfl rfl rfl ?_
      refine go_iast (pc' := 80) dX12_letter_79 rfl (by decide) (by decide) rfl (vin_of (n := 12) (by omega) (by omega)) ?_
      refine go_aload_n (i := 0) (pc' := 81) dX12_letter_80 rfl rfl rfl ?_
      refine gf_13_place (pc' := 84) dX12_letter_81 rfl fl_X12_35 ?_
      refine go_aload_n (i := 0) (pc' := 85) dX12_letter_84 rfl rfl rfl ?_
      refine gf_13_letters (pc' := 88) dX12_letter_85 rfl fl_X12_142 ?_
      refine go_topq (y := (σ.1 20)) rfl ?_
      have g14 := ixi_20 ix
      refine go_iload (pc' := 90) dX12_letter_88 rfl rfl ?_
      refine go_iast (pc' := 91) dX12_letter_90 rfl (by decide) (by decide) rfl (vin_of (n := 12) (by omega) (by omega)) ?_
      refine go_aload_n (i := 0) (pc' := 92) dX12_letter_91 rfl rfl rfl ?_
      refine gf_13_least (pc' := 95) dX12_letter_92 rfl fl_X12_38 ?_
      refine go_aload_n (i := 0) (pc' := 96) dX12_letter_95 rfl rfl rfl ?_
      refine gf_13_letters (pc' := 99) dX12_letter_96 rfl fl_X12_142 ?_
      refine go_topq (y := (σ.1 20)) rfl ?_
      have g15 := ixi_20 ix
      refine go_iconst (v := 0) (pc' := 100) dX12_letter_99 rfl (by decide) ?_
      refine go_iast (pc' := 101) dX12_letter_100 rfl (by decide) (by decide) rfl (vin_of (n := 12) (by omega) (by omega)) ?_
      refine go_aload_n (i := 0) (pc' := 102) dX12_letter_101 rfl rfl rfl ?_
      refine gf_13_most (pc' := 105) dX12_letter_102 rfl fl_X12_41 ?_
      refine go_aload_n (i := 0) (pc' := 106) dX12_letter_105 rfl rfl rfl ?_
      refine gf_13_letters (pc' := 109) dX12_letter_106 rfl fl_X12_142 ?_
      refine go_topq (y := (σ.1 20)) rfl ?_
      have g16 := ixi_20 ix
      refine go_sipush (v := 9999) (pc' := 112) dX12_letter_109 rfl (by decide) ?_
      refine go_iast (pc' := 113) dX12_letter_112 rfl (by decide) (by decide) rfl (vin_of (n := 12) (by omega) (by omega)) ?_
      refine go_aload_n (i := 0) (pc' := 114) dX12_letter_113 rfl rfl rfl ?_
      refine gf_13_week (pc' := 117) dX12_letter_114 rfl fl_X12_44 ?_
      refine go_aload_n (i := 0) (pc' := 118) dX12_letter_117 rfl rfl rfl ?_
      refine gf_13_letters (pc' := 121) dX12_letter_118 rfl fl_X12_142 ?_
      refine go_topq (y := (σ.1 20)) rfl ?_
      have g17 := ixi_20 ix
      refine go_iconst (v := (-1)) (pc' := 122) dX12_letter_121 rfl (by decide) ?_
      refine go_iast (pc' := 123) dX12_letter_122 rfl (by decide) (by decide) rfl (vin_of (n := 12) (by omega) (by omega)) ?_
      refine go_aload_n (i := 0) (pc' := 124) dX12_letter_123 rfl rfl rfl ?_
      refine gf_13_is (pc' := 127) dX12_letter_124 rfl fl_X12_47 ?_
      refine go_aload_n (i := 0) (pc' := 128) dX12_letter_127 rfl rfl rfl ?_
      refine gf_13_letters (pc' := 131) dX12_letter_128 rfl fl_X12_142 ?_
      refine go_topq (y := (σ.1 20)) rfl ?_
      have g18 := ixi_20 ix
      refine go_iconst (v := (-1)) (pc' := 132) dX12_letter_131 rfl (by decide) ?_
      refine go_iast (pc' := 133) dX12_letter_132 rfl (by decide) (by decide) rfl (vin_of (n := 12) (by omega) (by omega)) ?_
      refine go_aload_n (i := 0) (pc' := 134) dX12_letter_133 rfl rfl rfl ?_
      refine go_dup (pc' := 135) dX12_letter_134 rfl rfl ?_
      refine gf_13_letters (pc' := 138) dX12_letter_135 rfl fl_X12_142 ?_
      refine go_topq (y := (σ.1 20)) rfl ?_
      have g19 := ixi_20 ix
      refine go_iconst (v := 1) (pc' := 139) dX12_letter_138 rfl (by decide) ?_
      refine go_iadd (pc' := 140) dX12_letter_139 rfl ?_
      refine pf_13_letters (pc' := 143) dX12_letter_140 rfl fl_X12_142 ?_
      refine go_aload_n (i := 0) (pc' := 144) dX12_letter_143 rfl rfl rfl ?_
      refine gf_13_letters (pc' := 147) dX12_letter_144 rfl fl_X12_142 ?_
      refine go_topq (y := ((σ.1 20) + (1 : Int32))) rfl ?_
      refine go_iconst (v := 1) (pc' := 148) dX12_letter_147 rfl (by decide) ?_
      refine go_isub (pc' := 149) dX12_letter_148 rfl ?_
      exact go_iret dX12_letter_149 rfl (Or.inr (Or.inr (⟨by omega, by first | rfl | omega | (exact Int32.add_sub_cancel _ _), rfl⟩)))
    refine go_bipush (v := (-4)) (pc' := 49) dX12_letter_47 rfl (by decide) ?_
    exact go_iret dX12_letter_49 rfl (Or.inr (Or.inl ⟨by omega, by first | rfl | omega | (exact Int32.add_sub_cancel _ _), rfl⟩))
  refine go_bipush (v := (-2)) (pc' := 37) dX12_letter_35 rfl (by decide) ?_
  exact go_iret dX12_letter_37 rfl (Or.inl ⟨by omega, by first | rfl | omega | (exact Int32.add_sub_cancel _ _), rfl⟩)
set_option maxHeartbeats 4000000 in
set_option maxRecDepth 100000 in
theorem e_X12_days (l : Launch) (L : WL) (σ : ST) (m a b : Int32) (ix : IV σ) : CtI l L yX12_days cX12_days 4 (some .int) rm_X12_days [.ref (L.2.1 13), .int m, .int a, .int b] σ (fun r σ2 => sM_days σ m a b r σ2) := by
  refine ctI_go (own := RX12) (by decide) rfl (Nat.le_of_ble_eq_true rfl) (fun F hF => ?_)
  subst hF
  have nm2 : (-2 : Int32).toInt = -2 := by decide
  have n1 : (1 : Int32).toInt = 1 := by decide
  have w0 : WM σ σ := WM_rfl ix
  have u19 := ixi_19 ix
  have u20 := ixi_20 ix
  have u21 := ixi_21 ix
  have u22 := ixi_22 ix
  have u23 := ixi_23 ix
  refine go_aload_n (i := 0) (pc' := 1) dX12_days_0 rfl rfl rfl ?_
  refine go_iload_n (i := 1) (pc' := 2) dX12_days_1 rfl rfl rfl ?_
  refine go_cvi (pc' := 5) lk_X12_152 (c_X12_isLetter _ _ _ _) rfl rfl (Nat.le_of_ble_eq_true rfl) (by decide) rfl rfl rfl ⟨Nat.le_of_ble_eq_true rfl, Nat.le_of_ble_eq_true rfl⟩ ⟨rfl, rfl⟩ dX12_days_2 rfl (fun r1 σ1 h1 => ?_)
  obtain ⟨e1, h1⟩ := h1
  have e1 := e1.symm
  subst e1
  refine go_eqB (tgt := 27) (pc' := 8) h1 dX12_days_5 rfl (by decide) (fun c2 => ?_) (fun c2 => ?_)
  · refine go_bipush (v := (-2)) (pc' := 29) dX12_days_27 rfl (by decide) ?_
    exact go_iret dX12_days_29 rfl (Or.inr (⟨by omega, by first | rfl | omega | (exact Int32.add_sub_cancel _ _), rfl⟩))
  refine go_iload_n (i := 2) (pc' := 9) dX12_days_8 rfl rfl rfl ?_
  refine go_csi (pc' := 12) ls_X12_149 (c_X12_isDay _ _ _ _) rfl rfl (Nat.le_of_ble_eq_true rfl) ⟨Nat.le_of_ble_eq_true rfl, Nat.le_of_ble_eq_true rfl⟩ ⟨rfl, rfl⟩ dX12_days_9 rfl (fun r3 σ3 h3 => ?_)
  obtain ⟨e3, h3⟩ := h3
  have e3 := e3.symm
  subst e3
  refine go_eqB (tgt := 27) (pc' := 15) h3 dX12_days_12 rfl (by decide) (fun c4 => ?_) (fun c4 => ?_)
  · refine go_bipush (v := (-2)) (pc' := 29) dX12_days_27 rfl (by decide) ?_
    exact go_iret dX12_days_29 rfl (Or.inr (⟨by omega, by first | rfl | omega | (exact Int32.add_sub_cancel _ _), rfl⟩))
  refine go_iload_n (i := 3) (pc' := 16) dX12_days_15 rfl rfl rfl ?_
  refine go_csi (pc' := 19) ls_X12_149 (c_X12_isDay _ _ _ _) rfl rfl (Nat.le_of_ble_eq_true rfl) ⟨Nat.le_of_ble_eq_true rfl, Nat.le_of_ble_eq_true rfl⟩ ⟨rfl, rfl⟩ dX12_days_16 rfl (fun r5 σ5 h5 => ?_)
  obtain ⟨e5, h5⟩ := h5
  have e5 := e5.symm
  subst e5
  refine go_eqB (tgt := 27) (pc' := 22) h5 dX12_days_19 rfl (by decide) (fun c6 => ?_) (fun c6 => ?_)
  · refine go_bipush (v := (-2)) (pc' := 29) dX12_days_27 rfl (by decide) ?_
    exact go_iret dX12_days_29 rfl (Or.inr (⟨by omega, by first | rfl | omega | (exact Int32.add_sub_cancel _ _), rfl⟩))
  refine go_iload_n (i := 2) (pc' := 23) dX12_days_22 rfl rfl rfl ?_
  refine go_iload_n (i := 3) (pc' := 24) dX12_days_23 rfl rfl rfl ?_
  refine gz_icmp_le (tgt := 30) (pc' := 27) dX12_days_24 rfl (by decide) (fun c7 => ?_) (fun c7 => ?_)
  · refine go_aload_n (i := 0) (pc' := 31) dX12_days_30 rfl rfl rfl ?_
    refine gf_13_least (pc' := 34) dX12_days_31 rfl fl_X12_38 ?_
    refine go_iload_n (i := 1) (pc' := 35) dX12_days_34 rfl rfl rfl ?_
    refine go_iload_n (i := 2) (pc' := 36) dX12_days_35 rfl rfl rfl ?_
    refine go_iast (pc' := 37) dX12_days_36 rfl (by decide) (by decide) rfl (vin_of (n := 12) (by omega) (by omega)) ?_
    refine go_aload_n (i := 0) (pc' := 38) dX12_days_37 rfl rfl rfl ?_
    refine gf_13_most (pc' := 41) dX12_days_38 rfl fl_X12_41 ?_
    refine go_iload_n (i := 1) (pc' := 42) dX12_days_41 rfl rfl rfl ?_
    refine go_iload_n (i := 3) (pc' := 43) dX12_days_42 rfl rfl rfl ?_
    refine go_iast (pc' := 44) dX12_days_43 rfl (by decide) (by decide) rfl (vin_of (n := 12) (by omega) (by omega)) ?_
    refine go_iconst (v := 1) (pc' := 45) dX12_days_44 rfl (by decide) ?_
    exact go_iret dX12_days_45 rfl (Or.inl ⟨by omega, by first | rfl | omega | (exact Int32.add_sub_cancel _ _), rfl⟩)
  refine go_bipush (v := (-2)) (pc' := 29) dX12_days_27 rfl (by decide) ?_
  exact go_iret dX12_days_29 rfl (Or.inr (⟨by omega, by first | rfl | omega | (exact Int32.add_sub_cancel _ _), rfl⟩))
set_option maxHeartbeats 4000000 in
set_option maxRecDepth 100000 in
theorem e_X12_week (l : Launch) (L : WL) (σ : ST) (m a : Int32) (ix : IV σ) : CtI l L yX12_week cX12_week 3 (some .int) rm_X12_week [.ref (L.2.1 13), .int m, .int a] σ (fun r σ2 => sM_week σ m a r σ2) := by
  refine ctI_go (own := RX12) (by decide) rfl (Nat.le_of_ble_eq_true rfl) (fun F hF => ?_)
  subst hF
  have nm2 : (-2 : Int32).toInt = -2 := by decide
  have nm1 : (-1 : Int32).toInt = -1 := by decide
  have n1 : (1 : Int32).toInt = 1 := by decide
  have n7 : (7 : Int32).toInt = 7 := by decide
  have w0 : WM σ σ := WM_rfl ix
  have u19 := ixi_19 ix
  have u20 := ixi_20 ix
  have u21 := ixi_21 ix
  have u22 := ixi_22 ix
  have u23 := ixi_23 ix
  refine go_aload_n (i := 0) (pc' := 1) dX12_week_0 rfl rfl rfl ?_
  refine go_iload_n (i := 1) (pc' := 2) dX12_week_1 rfl rfl rfl ?_
  refine go_cvi (pc' := 5) lk_X12_152 (c_X12_isLetter _ _ _ _) rfl rfl (Nat.le_of_ble_eq_true rfl) (by decide) rfl rfl rfl ⟨Nat.le_of_ble_eq_true rfl, Nat.le_of_ble_eq_true rfl⟩ ⟨rfl, rfl⟩ dX12_week_2 rfl (fun r1 σ1 h1 => ?_)
  obtain ⟨e1, h1⟩ := h1
  have e1 := e1.symm
  subst e1
  refine go_eqB (tgt := 22) (pc' := 8) h1 dX12_week_5 rfl (by decide) (fun c2 => ?_) (fun c2 => ?_)
  · refine go_bipush (v := (-2)) (pc' := 24) dX12_week_22 rfl (by decide) ?_
    exact go_iret dX12_week_24 rfl (Or.inr (⟨by omega, by first | rfl | omega | (exact Int32.add_sub_cancel _ _), rfl⟩))
  refine go_iload_n (i := 2) (pc' := 9) dX12_week_8 rfl rfl rfl ?_
  refine go_iconst (v := (-1)) (pc' := 10) dX12_week_9 rfl (by decide) ?_
  refine gz_icmp_eq (tgt := 25) (pc' := 13) dX12_week_10 rfl (by decide) (fun c3 => ?_) (fun c3 => ?_)
  · refine go_aload_n (i := 0) (pc' := 26) dX12_week_25 rfl rfl rfl ?_
    refine gf_13_week (pc' := 29) dX12_week_26 rfl fl_X12_44 ?_
    refine go_iload_n (i := 1) (pc' := 30) dX12_week_29 rfl rfl rfl ?_
    refine go_iload_n (i := 2) (pc' := 31) dX12_week_30 rfl rfl rfl ?_
    refine go_iast (pc' := 32) dX12_week_31 rfl (by decide) (by decide) rfl (vin_of (n := 12) (by omega) (by omega)) ?_
    refine go_iconst (v := 1) (pc' := 33) dX12_week_32 rfl (by decide) ?_
    exact go_iret dX12_week_33 rfl (Or.inl ⟨by omega, by first | rfl | omega | (exact Int32.add_sub_cancel _ _), rfl⟩)
  refine go_iload_n (i := 2) (pc' := 14) dX12_week_13 rfl rfl rfl ?_
  refine go_bipush (v := 7) (pc' := 16) dX12_week_14 rfl (by decide) ?_
  refine go_csi (pc' := 19) ls_X12_135 (c_X12_isIn _ _ _ _ _) rfl rfl (Nat.le_of_ble_eq_true rfl) ⟨Nat.le_of_ble_eq_true rfl, Nat.le_of_ble_eq_true rfl⟩ ⟨rfl, rfl⟩ dX12_week_16 rfl (fun r4 σ4 h4 => ?_)
  obtain ⟨e4, h4⟩ := h4
  have e4 := e4.symm
  subst e4
  refine go_neB (tgt := 25) (pc' := 22) h4 dX12_week_19 rfl (by decide) (fun c5 => ?_) (fun c5 => ?_)
  · refine go_aload_n (i := 0) (pc' := 26) dX12_week_25 rfl rfl rfl ?_
    refine gf_13_week (pc' := 29) dX12_week_26 rfl fl_X12_44 ?_
    refine go_iload_n (i := 1) (pc' := 30) dX12_week_29 rfl rfl rfl ?_
    refine go_iload_n (i := 2) (pc' := 31) dX12_week_30 rfl rfl rfl ?_
    refine go_iast (pc' := 32) dX12_week_31 rfl (by decide) (by decide) rfl (vin_of (n := 12) (by omega) (by omega)) ?_
    refine go_iconst (v := 1) (pc' := 33) dX12_week_32 rfl (by decide) ?_
    exact go_iret dX12_week_33 rfl (Or.inl ⟨by omega, by first | rfl | omega | (exact Int32.add_sub_cancel _ _), rfl⟩)
  refine go_bipush (v := (-2)) (pc' := 24) dX12_week_22 rfl (by decide) ?_
  exact go_iret dX12_week_24 rfl (Or.inr (⟨by omega, by first | rfl | omega | (exact Int32.add_sub_cancel _ _), rfl⟩))
set_option maxHeartbeats 4000000 in
set_option maxRecDepth 100000 in
theorem e_X12_bound (l : Launch) (L : WL) (σ : ST) (a b d : Int32) (ix : IV σ) : CtI l L yX12_bound cX12_bound 4 (some .int) rm_X12_bound [.ref (L.2.1 13), .int a, .int b, .int d] σ (fun r σ2 => sM_bound σ a b d r σ2) := by
  refine ctI_go (own := RX12) (by decide) rfl (Nat.le_of_ble_eq_true rfl) (fun F hF => ?_)
  subst hF
  have nm500 : (-500 : Int32).toInt = -500 := by decide
  have nm4 : (-4 : Int32).toInt = -4 := by decide
  have nm2 : (-2 : Int32).toInt = -2 := by decide
  have n1 : (1 : Int32).toInt = 1 := by decide
  have n20 : (20 : Int32).toInt = 20 := by decide
  have n500 : (500 : Int32).toInt = 500 := by decide
  have w0 : WM σ σ := WM_rfl ix
  have u19 := ixi_19 ix
  have u20 := ixi_20 ix
  have u21 := ixi_21 ix
  have u22 := ixi_22 ix
  have u23 := ixi_23 ix
  refine go_aload_n (i := 0) (pc' := 1) dX12_bound_0 rfl rfl rfl ?_
  refine go_iload_n (i := 1) (pc' := 2) dX12_bound_1 rfl rfl rfl ?_
  refine go_cvi (pc' := 5) lk_X12_152 (c_X12_isLetter _ _ _ _) rfl rfl (Nat.le_of_ble_eq_true rfl) (by decide) rfl rfl rfl ⟨Nat.le_of_ble_eq_true rfl, Nat.le_of_ble_eq_true rfl⟩ ⟨rfl, rfl⟩ dX12_bound_2 rfl (fun r1 σ1 h1 => ?_)
  obtain ⟨e1, h1⟩ := h1
  have e1 := e1.symm
  subst e1
  refine go_eqB (tgt := 35) (pc' := 8) h1 dX12_bound_5 rfl (by decide) (fun c2 => ?_) (fun c2 => ?_)
  · refine go_bipush (v := (-2)) (pc' := 37) dX12_bound_35 rfl (by decide) ?_
    exact go_iret dX12_bound_37 rfl (Or.inl ⟨by omega, by first | rfl | omega | (exact Int32.add_sub_cancel _ _), rfl⟩)
  refine go_aload_n (i := 0) (pc' := 9) dX12_bound_8 rfl rfl rfl ?_
  refine go_iload_n (i := 2) (pc' := 10) dX12_bound_9 rfl rfl rfl ?_
  refine go_cvi (pc' := 13) lk_X12_152 (c_X12_isLetter _ _ _ _) rfl rfl (Nat.le_of_ble_eq_true rfl) (by decide) rfl rfl rfl ⟨Nat.le_of_ble_eq_true rfl, Nat.le_of_ble_eq_true rfl⟩ ⟨rfl, rfl⟩ dX12_bound_10 rfl (fun r3 σ3 h3 => ?_)
  obtain ⟨e3, h3⟩ := h3
  have e3 := e3.symm
  subst e3
  refine go_eqB (tgt := 35) (pc' := 16) h3 dX12_bound_13 rfl (by decide) (fun c4 => ?_) (fun c4 => ?_)
  · refine go_bipush (v := (-2)) (pc' := 37) dX12_bound_35 rfl (by decide) ?_
    exact go_iret dX12_bound_37 rfl (Or.inl ⟨by omega, by first | rfl | omega | (exact Int32.add_sub_cancel _ _), rfl⟩)
  refine go_iload_n (i := 1) (pc' := 17) dX12_bound_16 rfl rfl rfl ?_
  refine go_iload_n (i := 2) (pc' := 18) dX12_bound_17 rfl rfl rfl ?_
  refine gz_icmp_eq (tgt := 35) (pc' := 21) dX12_bound_18 rfl (by decide) (fun c5 => ?_) (fun c5 => ?_)
  · refine go_bipush (v := (-2)) (pc' := 37) dX12_bound_35 rfl (by decide) ?_
    exact go_iret dX12_bound_37 rfl (Or.inl ⟨by omega, by first | rfl | omega | (exact Int32.add_sub_cancel _ _), rfl⟩)
  refine go_iload_n (i := 3) (pc' := 22) dX12_bound_21 rfl rfl rfl ?_
  refine go_sipush (v := (-500)) (pc' := 25) dX12_bound_22 rfl (by decide) ?_
  refine gz_icmp_lt (tgt := 35) (pc' := 28) dX12_bound_25 rfl (by decide) (fun c6 => ?_) (fun c6 => ?_)
  · refine go_bipush (v := (-2)) (pc' := 37) dX12_bound_35 rfl (by decide) ?_
    exact go_iret dX12_bound_37 rfl (Or.inl ⟨by omega, by first | rfl | omega | (exact Int32.add_sub_cancel _ _), rfl⟩)
  refine go_iload_n (i := 3) (pc' := 29) dX12_bound_28 rfl rfl rfl ?_
  refine go_sipush (v := 500) (pc' := 32) dX12_bound_29 rfl (by decide) ?_
  refine gz_icmp_le (tgt := 38) (pc' := 35) dX12_bound_32 rfl (by decide) (fun c7 => ?_) (fun c7 => ?_)
  · refine go_aload_n (i := 0) (pc' := 39) dX12_bound_38 rfl rfl rfl ?_
    refine gf_13_bounds (pc' := 42) dX12_bound_39 rfl fl_X12_155 ?_
    have g8 := ixi_21 ix
    refine go_bipush (v := 20) (pc' := 44) dX12_bound_42 rfl (by decide) ?_
    refine gz_icmp_ne (tgt := 50) (pc' := 47) dX12_bound_44 rfl (by decide) (fun c9 => ?_) (fun c9 => ?_)
    · refine go_aload_n (i := 0) (pc' := 51) dX12_bound_50 rfl rfl rfl ?_
      refine gf_13_boundA (pc' := 54) dX12_bound_51 rfl fl_X12_56 ?_
      refine go_aload_n (i := 0) (pc' := 55) dX12_bound_54 rfl rfl rfl ?_
      refine gf_13_bounds (pc' := 58) dX12_bound_55 rfl fl_X12_155 ?_
      have g10 := ixi_21 ix
      refine go_iload_n (i := 1) (pc' := 59) dX12_bound_58 rfl rfl rfl ?_
      refine go_iast (pc' := 60) dX12_bound_59 rfl (by decide) (by decide) rfl (vin_of (n := 20) (by omega) (by omega)) ?_
      refine go_aload_n (i := 0) (pc' := 61) dX12_bound_60 rfl rfl rfl ?_
      refine gf_13_boundB (pc' := 64) dX12_bound_61 rfl fl_X12_59 ?_
      refine go_aload_n (i := 0) (pc' := 65) dX12_bound_64 rfl rfl rfl ?_
      refine gf_13_bounds (pc' := 68) dX12_bound_65 rfl fl_X12_155 ?_
      refine go_topq (y := (σ.1 21)) rfl ?_
      have g11 := ixi_21 ix
      refine go_iload_n (i := 2) (pc' := 69) dX12_bound_68 rfl rfl rfl ?_
      refine go_iast (pc' := 70) dX12_bound_69 rfl (by decide) (by decide) rfl (vin_of (n := 20) (by omega) (by omega)) ?_
      refine go_aload_n (i := 0) (pc' := 71) dX12_bound_70 rfl rfl rfl ?_
      refine gf_13_boundBy (pc' := 74) dX12_bound_71 rfl fl_X12_62 ?_
      refine go_aload_n (i := 0) (pc' := 75) dX12_bound_74 rfl rfl rfl ?_
      refine gf_13_bounds (pc' := 78) dX12_bound_75 rfl fl_X12_155 ?_
      refine go_topq (y := (σ.1 21)) rfl ?_
      have g12 := ixi_21 ix
      refine go_iload_n (i := 3) (pc' := 79) dX12_bound_78 rfl rfl rfl ?_
      refine go_iast (pc' := 80) dX12_bound_79 rfl (by decide) (by decide) rfl (vin_of (n := 20) (by omega) (by omega)) ?_
      refine go_aload_n (i := 0) (pc' := 81) dX12_bound_80 rfl rfl rfl ?_
      refine go_dup (pc' := 82) dX12_bound_81 rfl rfl ?_
      refine gf_13_bounds (pc' := 85) dX12_bound_82 rfl fl_X12_155 ?_
      refine go_topq (y := (σ.1 21)) rfl ?_
      have g13 := ixi_21 ix
      refine go_iconst (v := 1) (pc' := 86) dX12_bound_85 rfl (by decide) ?_
      refine go_iadd (pc' := 87) dX12_bound_86 rfl ?_
      refine pf_13_bounds (pc' := 90) dX12_bound_87 rfl fl_X12_155 ?_
      refine go_aload_n (i := 0) (pc' := 91) dX12_bound_90 rfl rfl rfl ?_
      refine gf_13_bounds (pc' := 94) dX12_bound_91 rfl fl_X12_155 ?_
      refine go_topq (y := ((σ.1 21) + (1 : Int32))) rfl ?_
      exact go_iret dX12_bound_94 rfl (Or.inr (Or.inr (⟨by omega, by first | rfl | omega | (exact Int32.add_sub_cancel _ _), rfl⟩)))
    refine go_bipush (v := (-4)) (pc' := 49) dX12_bound_47 rfl (by decide) ?_
    exact go_iret dX12_bound_49 rfl (Or.inr (Or.inl ⟨by omega, by first | rfl | omega | (exact Int32.add_sub_cancel _ _), rfl⟩))
  refine go_bipush (v := (-2)) (pc' := 37) dX12_bound_35 rfl (by decide) ?_
  exact go_iret dX12_bound_37 rfl (Or.inl ⟨by omega, by first | rfl | omega | (exact Int32.add_sub_cancel _ _), rfl⟩)
set_option maxHeartbeats 4000000 in
set_option maxRecDepth 100000 in
theorem e_X12_loose (l : Launch) (L : WL) (σ : ST)  (ix : IV σ) : CtI l L yX12_loose cX12_loose 1 (some .int) rm_X12_loose [.ref (L.2.1 13)] σ (fun r σ2 => sM_loose σ r σ2) := by
  refine ctI_go (own := RX12) (by decide) rfl (Nat.le_of_ble_eq_true rfl) (fun F hF => ?_)
  subst hF
  have nm3 : (-3 : Int32).toInt = -3 := by decide
  have n1 : (1 : Int32).toInt = 1 := by decide
  have w0 : WM σ σ := WM_rfl ix
  have u19 := ixi_19 ix
  have u20 := ixi_20 ix
  have u21 := ixi_21 ix
  have u22 := ixi_22 ix
  have u23 := ixi_23 ix
  refine go_aload_n (i := 0) (pc' := 1) dX12_loose_0 rfl rfl rfl ?_
  refine gf_13_bounds (pc' := 4) dX12_loose_1 rfl fl_X12_155 ?_
  have g1 := ixi_21 ix
  refine gz_if_ne (tgt := 10) (pc' := 7) dX12_loose_4 rfl (by decide) (fun c2 => ?_) (fun c2 => ?_)
  · refine go_aload_n (i := 0) (pc' := 11) dX12_loose_10 rfl rfl rfl ?_
    refine go_dup (pc' := 12) dX12_loose_11 rfl rfl ?_
    refine gf_13_bounds (pc' := 15) dX12_loose_12 rfl fl_X12_155 ?_
    have g3 := ixi_21 ix
    refine go_iconst (v := 1) (pc' := 16) dX12_loose_15 rfl (by decide) ?_
    refine go_isub (pc' := 17) dX12_loose_16 rfl ?_
    refine pf_13_bounds (pc' := 20) dX12_loose_17 rfl fl_X12_155 ?_
    refine go_aload_n (i := 0) (pc' := 21) dX12_loose_20 rfl rfl rfl ?_
    refine gf_13_bounds (pc' := 24) dX12_loose_21 rfl fl_X12_155 ?_
    refine go_topq (y := ((σ.1 21) - (1 : Int32))) rfl ?_
    exact go_iret dX12_loose_24 rfl (Or.inr (⟨by omega, by first | rfl | omega | (exact Int32.add_sub_cancel _ _), rfl⟩))
  refine go_bipush (v := (-3)) (pc' := 9) dX12_loose_7 rfl (by decide) ?_
  exact go_iret dX12_loose_9 rfl (Or.inl ⟨by omega, by first | rfl | omega | (exact Int32.add_sub_cancel _ _), rfl⟩)
set_option maxHeartbeats 4000000 in
set_option maxRecDepth 100000 in
theorem e_X12_found (l : Launch) (L : WL) (σ : ST) (a b : Int32) (ix : IV σ) : CtI l L yX12_found cX12_found 3 (some .int) rm_X12_found [.ref (L.2.1 13), .int a, .int b] σ (fun r σ2 => sM_found σ a b r σ2) := by
  refine ctI_go (own := RX12) (by decide) rfl (Nat.le_of_ble_eq_true rfl) (fun F hF => ?_)
  subst hF
  have nm3 : (-3 : Int32).toInt = -3 := by decide
  have nm2 : (-2 : Int32).toInt = -2 := by decide
  have n1 : (1 : Int32).toInt = 1 := by decide
  have n4 : (4 : Int32).toInt = 4 := by decide
  have w0 : WM σ σ := WM_rfl ix
  have u19 := ixi_19 ix
  have u20 := ixi_20 ix
  have u21 := ixi_21 ix
  have u22 := ixi_22 ix
  have u23 := ixi_23 ix
  refine go_aload_n (i := 0) (pc' := 1) dX12_found_0 rfl rfl rfl ?_
  refine go_iload_n (i := 1) (pc' := 2) dX12_found_1 rfl rfl rfl ?_
  refine go_cvi (pc' := 5) lk_X12_152 (c_X12_isLetter _ _ _ _) rfl rfl (Nat.le_of_ble_eq_true rfl) (by decide) rfl rfl rfl ⟨Nat.le_of_ble_eq_true rfl, Nat.le_of_ble_eq_true rfl⟩ ⟨rfl, rfl⟩ dX12_found_2 rfl (fun r1 σ1 h1 => ?_)
  obtain ⟨e1, h1⟩ := h1
  have e1 := e1.symm
  subst e1
  refine go_eqB (tgt := 36) (pc' := 8) h1 dX12_found_5 rfl (by decide) (fun c2 => ?_) (fun c2 => ?_)
  · refine go_bipush (v := (-2)) (pc' := 38) dX12_found_36 rfl (by decide) ?_
    exact go_iret dX12_found_38 rfl (Or.inl ⟨by omega, by first | rfl | omega | (exact Int32.add_sub_cancel _ _), rfl⟩)
  refine go_aload_n (i := 0) (pc' := 9) dX12_found_8 rfl rfl rfl ?_
  refine go_iload_n (i := 2) (pc' := 10) dX12_found_9 rfl rfl rfl ?_
  refine go_cvi (pc' := 13) lk_X12_152 (c_X12_isLetter _ _ _ _) rfl rfl (Nat.le_of_ble_eq_true rfl) (by decide) rfl rfl rfl ⟨Nat.le_of_ble_eq_true rfl, Nat.le_of_ble_eq_true rfl⟩ ⟨rfl, rfl⟩ dX12_found_10 rfl (fun r3 σ3 h3 => ?_)
  obtain ⟨e3, h3⟩ := h3
  have e3 := e3.symm
  subst e3
  refine go_eqB (tgt := 36) (pc' := 16) h3 dX12_found_13 rfl (by decide) (fun c4 => ?_) (fun c4 => ?_)
  · refine go_bipush (v := (-2)) (pc' := 38) dX12_found_36 rfl (by decide) ?_
    exact go_iret dX12_found_38 rfl (Or.inl ⟨by omega, by first | rfl | omega | (exact Int32.add_sub_cancel _ _), rfl⟩)
  refine go_aload_n (i := 0) (pc' := 17) dX12_found_16 rfl rfl rfl ?_
  refine gf_13_kind (pc' := 20) dX12_found_17 rfl fl_X12_26 ?_
  refine go_iload_n (i := 1) (pc' := 21) dX12_found_20 rfl rfl rfl ?_
  refine go_iald (pc' := 22) dX12_found_21 rfl (by decide) (by decide) rfl (vin_of (n := 12) (by omega) (by omega)) ?_
  have g5 := ixa_101 ix (a).toNatClampNeg (vinlt (show vp_in a 12 from (vin_of (n := 12) (by omega) (by omega))))
  refine go_iconst (v := 4) (pc' := 23) dX12_found_22 rfl (by decide) ?_
  refine gz_icmp_ne (tgt := 36) (pc' := 26) dX12_found_23 rfl (by decide) (fun c6 => ?_) (fun c6 => ?_)
  · refine go_bipush (v := (-2)) (pc' := 38) dX12_found_36 rfl (by decide) ?_
    exact go_iret dX12_found_38 rfl (Or.inl ⟨by omega, by first | rfl | omega | (exact Int32.add_sub_cancel _ _), rfl⟩)
  refine go_aload_n (i := 0) (pc' := 27) dX12_found_26 rfl rfl rfl ?_
  refine gf_13_kind (pc' := 30) dX12_found_27 rfl fl_X12_26 ?_
  refine go_iload_n (i := 2) (pc' := 31) dX12_found_30 rfl rfl rfl ?_
  refine go_iald (pc' := 32) dX12_found_31 rfl (by decide) (by decide) rfl (vin_of (n := 12) (by omega) (by omega)) ?_
  have g7 := ixa_101 ix (b).toNatClampNeg (vinlt (show vp_in b 12 from (vin_of (n := 12) (by omega) (by omega))))
  refine go_iconst (v := 4) (pc' := 33) dX12_found_32 rfl (by decide) ?_
  refine gz_icmp_ne (tgt := 39) (pc' := 36) dX12_found_33 rfl (by decide) (fun c8 => ?_) (fun c8 => ?_)
  · refine go_aload_n (i := 0) (pc' := 40) dX12_found_39 rfl rfl rfl ?_
    refine gf_13_is (pc' := 43) dX12_found_40 rfl fl_X12_47 ?_
    refine go_iload_n (i := 1) (pc' := 44) dX12_found_43 rfl rfl rfl ?_
    refine go_iald (pc' := 45) dX12_found_44 rfl (by decide) (by decide) rfl (vin_of (n := 12) (by omega) (by omega)) ?_
    have g9 := ixa_108 ix (a).toNatClampNeg (vinlt (show vp_in a 12 from (vin_of (n := 12) (by omega) (by omega))))
    refine gz_if_lt (tgt := 51) (pc' := 48) dX12_found_45 rfl (by decide) (fun c10 => ?_) (fun c10 => ?_)
    · refine go_aload_n (i := 0) (pc' := 52) dX12_found_51 rfl rfl rfl ?_
      refine gf_13_is (pc' := 55) dX12_found_52 rfl fl_X12_47 ?_
      refine go_iload_n (i := 1) (pc' := 56) dX12_found_55 rfl rfl rfl ?_
      refine go_iload_n (i := 2) (pc' := 57) dX12_found_56 rfl rfl rfl ?_
      refine go_iast (pc' := 58) dX12_found_57 rfl (by decide) (by decide) rfl (vin_of (n := 12) (by omega) (by omega)) ?_
      refine go_iconst (v := 1) (pc' := 59) dX12_found_58 rfl (by decide) ?_
      exact go_iret dX12_found_59 rfl (Or.inr (Or.inr (⟨by omega, by first | rfl | omega | (exact Int32.add_sub_cancel _ _), rfl⟩)))
    refine go_bipush (v := (-3)) (pc' := 50) dX12_found_48 rfl (by decide) ?_
    exact go_iret dX12_found_50 rfl (Or.inr (Or.inl ⟨by omega, by first | rfl | omega | (exact Int32.add_sub_cancel _ _), rfl⟩))
  refine go_bipush (v := (-2)) (pc' := 38) dX12_found_36 rfl (by decide) ?_
  exact go_iret dX12_found_38 rfl (Or.inl ⟨by omega, by first | rfl | omega | (exact Int32.add_sub_cancel _ _), rfl⟩)
set_option maxHeartbeats 4000000 in
set_option maxRecDepth 100000 in
theorem e_X12_lose (l : Launch) (L : WL) (σ : ST) (a : Int32) (ix : IV σ) : CtI l L yX12_lose cX12_lose 2 (some .int) rm_X12_lose [.ref (L.2.1 13), .int a] σ (fun r σ2 => sM_lose σ a r σ2) := by
  refine ctI_go (own := RX12) (by decide) rfl (Nat.le_of_ble_eq_true rfl) (fun F hF => ?_)
  subst hF
  have nm3 : (-3 : Int32).toInt = -3 := by decide
  have nm2 : (-2 : Int32).toInt = -2 := by decide
  have nm1 : (-1 : Int32).toInt = -1 := by decide
  have n1 : (1 : Int32).toInt = 1 := by decide
  have w0 : WM σ σ := WM_rfl ix
  have u19 := ixi_19 ix
  have u20 := ixi_20 ix
  have u21 := ixi_21 ix
  have u22 := ixi_22 ix
  have u23 := ixi_23 ix
  refine go_aload_n (i := 0) (pc' := 1) dX12_lose_0 rfl rfl rfl ?_
  refine go_iload_n (i := 1) (pc' := 2) dX12_lose_1 rfl rfl rfl ?_
  refine go_cvi (pc' := 5) lk_X12_152 (c_X12_isLetter _ _ _ _) rfl rfl (Nat.le_of_ble_eq_true rfl) (by decide) rfl rfl rfl ⟨Nat.le_of_ble_eq_true rfl, Nat.le_of_ble_eq_true rfl⟩ ⟨rfl, rfl⟩ dX12_lose_2 rfl (fun r1 σ1 h1 => ?_)
  obtain ⟨e1, h1⟩ := h1
  have e1 := e1.symm
  subst e1
  refine go_neB (tgt := 11) (pc' := 8) h1 dX12_lose_5 rfl (by decide) (fun c2 => ?_) (fun c2 => ?_)
  · refine go_aload_n (i := 0) (pc' := 12) dX12_lose_11 rfl rfl rfl ?_
    refine gf_13_is (pc' := 15) dX12_lose_12 rfl fl_X12_47 ?_
    refine go_iload_n (i := 1) (pc' := 16) dX12_lose_15 rfl rfl rfl ?_
    refine go_iald (pc' := 17) dX12_lose_16 rfl (by decide) (by decide) rfl (vin_of (n := 12) (by omega) (by omega)) ?_
    have g3 := ixa_108 ix (a).toNatClampNeg (vinlt (show vp_in a 12 from (vin_of (n := 12) (by omega) (by omega))))
    refine gz_if_ge (tgt := 23) (pc' := 20) dX12_lose_17 rfl (by decide) (fun c4 => ?_) (fun c4 => ?_)
    · refine go_aload_n (i := 0) (pc' := 24) dX12_lose_23 rfl rfl rfl ?_
      refine gf_13_is (pc' := 27) dX12_lose_24 rfl fl_X12_47 ?_
      refine go_iload_n (i := 1) (pc' := 28) dX12_lose_27 rfl rfl rfl ?_
      refine go_iconst (v := (-1)) (pc' := 29) dX12_lose_28 rfl (by decide) ?_
      refine go_iast (pc' := 30) dX12_lose_29 rfl (by decide) (by decide) rfl (vin_of (n := 12) (by omega) (by omega)) ?_
      refine go_iconst (v := 1) (pc' := 31) dX12_lose_30 rfl (by decide) ?_
      exact go_iret dX12_lose_31 rfl (Or.inr (Or.inr (⟨by omega, by first | rfl | omega | (exact Int32.add_sub_cancel _ _), rfl⟩)))
    refine go_bipush (v := (-3)) (pc' := 22) dX12_lose_20 rfl (by decide) ?_
    exact go_iret dX12_lose_22 rfl (Or.inr (Or.inl ⟨by omega, by first | rfl | omega | (exact Int32.add_sub_cancel _ _), rfl⟩))
  refine go_bipush (v := (-2)) (pc' := 10) dX12_lose_8 rfl (by decide) ?_
  exact go_iret dX12_lose_10 rfl (Or.inl ⟨by omega, by first | rfl | omega | (exact Int32.add_sub_cancel _ _), rfl⟩)
set_option maxHeartbeats 4000000 in
set_option maxRecDepth 100000 in
theorem e_X12_post (l : Launch) (L : WL) (σ : ST) (a b u v : Int32) (ix : IV σ) : CtI l L yX12_post cX12_post 5 (some .int) rm_X12_post [.ref (L.2.1 13), .int a, .int b, .int u, .int v] σ (fun r σ2 => sM_post σ a b u v r σ2) := by
  refine ctI_go (own := RX12) (by decide) rfl (Nat.le_of_ble_eq_true rfl) (fun F hF => ?_)
  subst hF
  have nm2 : (-2 : Int32).toInt = -2 := by decide
  have n1 : (1 : Int32).toInt = 1 := by decide
  have n6 : (6 : Int32).toInt = 6 := by decide
  have n401 : (401 : Int32).toInt = 401 := by decide
  have w0 : WM σ σ := WM_rfl ix
  refine go_iload_n (i := 1) (pc' := 1) dX12_post_0 rfl rfl rfl ?_
  refine go_bipush (v := 6) (pc' := 3) dX12_post_1 rfl (by decide) ?_
  refine go_csi (pc' := 6) ls_X12_135 (c_X12_isIn _ _ _ _ _) rfl rfl (Nat.le_of_ble_eq_true rfl) ⟨Nat.le_of_ble_eq_true rfl, Nat.le_of_ble_eq_true rfl⟩ ⟨rfl, rfl⟩ dX12_post_3 rfl (fun r1 σ1 h1 => ?_)
  obtain ⟨e1, h1⟩ := h1
  have e1 := e1.symm
  subst e1
  refine go_eqB (tgt := 45) (pc' := 9) h1 dX12_post_6 rfl (by decide) (fun c2 => ?_) (fun c2 => ?_)
  · refine go_bipush (v := (-2)) (pc' := 47) dX12_post_45 rfl (by decide) ?_
    exact go_iret dX12_post_47 rfl (Or.inr (⟨by omega, by first | rfl | omega | (exact Int32.add_sub_cancel _ _), rfl⟩))
  refine go_iload_n (i := 2) (pc' := 10) dX12_post_9 rfl rfl rfl ?_
  refine go_bipush (v := 6) (pc' := 12) dX12_post_10 rfl (by decide) ?_
  refine go_csi (pc' := 15) ls_X12_135 (c_X12_isIn _ _ _ _ _) rfl rfl (Nat.le_of_ble_eq_true rfl) ⟨Nat.le_of_ble_eq_true rfl, Nat.le_of_ble_eq_true rfl⟩ ⟨rfl, rfl⟩ dX12_post_12 rfl (fun r3 σ3 h3 => ?_)
  obtain ⟨e3, h3⟩ := h3
  have e3 := e3.symm
  subst e3
  refine go_eqB (tgt := 45) (pc' := 18) h3 dX12_post_15 rfl (by decide) (fun c4 => ?_) (fun c4 => ?_)
  · refine go_bipush (v := (-2)) (pc' := 47) dX12_post_45 rfl (by decide) ?_
    exact go_iret dX12_post_47 rfl (Or.inr (⟨by omega, by first | rfl | omega | (exact Int32.add_sub_cancel _ _), rfl⟩))
  refine go_iload_n (i := 3) (pc' := 19) dX12_post_18 rfl rfl rfl ?_
  refine go_sipush (v := 401) (pc' := 22) dX12_post_19 rfl (by decide) ?_
  refine go_csi (pc' := 25) ls_X12_135 (c_X12_isIn _ _ _ _ _) rfl rfl (Nat.le_of_ble_eq_true rfl) ⟨Nat.le_of_ble_eq_true rfl, Nat.le_of_ble_eq_true rfl⟩ ⟨rfl, rfl⟩ dX12_post_22 rfl (fun r5 σ5 h5 => ?_)
  obtain ⟨e5, h5⟩ := h5
  have e5 := e5.symm
  subst e5
  refine go_eqB (tgt := 45) (pc' := 28) h5 dX12_post_25 rfl (by decide) (fun c6 => ?_) (fun c6 => ?_)
  · refine go_bipush (v := (-2)) (pc' := 47) dX12_post_45 rfl (by decide) ?_
    exact go_iret dX12_post_47 rfl (Or.inr (⟨by omega, by first | rfl | omega | (exact Int32.add_sub_cancel _ _), rfl⟩))
  refine go_iload (pc' := 30) dX12_post_28 rfl rfl ?_
  refine go_sipush (v := 401) (pc' := 33) dX12_post_30 rfl (by decide) ?_
  refine go_csi (pc' := 36) ls_X12_135 (c_X12_isIn _ _ _ _ _) rfl rfl (Nat.le_of_ble_eq_true rfl) ⟨Nat.le_of_ble_eq_true rfl, Nat.le_of_ble_eq_true rfl⟩ ⟨rfl, rfl⟩ dX12_post_33 rfl (fun r7 σ7 h7 => ?_)
  obtain ⟨e7, h7⟩ := h7
  have e7 := e7.symm
  subst e7
  refine go_eqB (tgt := 45) (pc' := 39) h7 dX12_post_36 rfl (by decide) (fun c8 => ?_) (fun c8 => ?_)
  · refine go_bipush (v := (-2)) (pc' := 47) dX12_post_45 rfl (by decide) ?_
    exact go_iret dX12_post_47 rfl (Or.inr (⟨by omega, by first | rfl | omega | (exact Int32.add_sub_cancel _ _), rfl⟩))
  refine go_iload_n (i := 3) (pc' := 40) dX12_post_39 rfl rfl rfl ?_
  refine go_iload (pc' := 42) dX12_post_40 rfl rfl ?_
  refine gz_icmp_le (tgt := 48) (pc' := 45) dX12_post_42 rfl (by decide) (fun c9 => ?_) (fun c9 => ?_)
  · refine go_aload_n (i := 0) (pc' := 49) dX12_post_48 rfl rfl rfl ?_
    refine gf_13_postLeast (pc' := 52) dX12_post_49 rfl fl_X12_65 ?_
    refine go_bipush (v := 6) (pc' := 54) dX12_post_52 rfl (by decide) ?_
    refine go_iload_n (i := 1) (pc' := 55) dX12_post_54 rfl rfl rfl ?_
    refine gz_imulc (n := 6) (pc' := 56) dX12_post_55 rfl (by decide) (by omega) (fun v10 h10 e10 => ?_)
    refine go_iload_n (i := 2) (pc' := 57) dX12_post_56 rfl rfl rfl ?_
    refine gz_iadd (pc' := 58) dX12_post_57 rfl (by omega) (fun v11 h11 e11 => ?_)
    have ca := cnat (x := a) (by omega)
    have cb := cnat (x := b) (by omega)
    have ez : (v11).toNatClampNeg = (6 * (a).toNatClampNeg + (b).toNatClampNeg) := by have cz := cnat (x := v11) (by omega); omega
    refine go_iload_n (i := 3) (pc' := 59) dX12_post_58 rfl rfl rfl ?_
    refine go_iast (pc' := 60) dX12_post_59 rfl (by decide) (by decide) rfl (vin_of (n := 36) (by omega) (by omega)) ?_
    refine go_aload_n (i := 0) (pc' := 61) dX12_post_60 rfl rfl rfl ?_
    refine gf_13_postMost (pc' := 64) dX12_post_61 rfl fl_X12_68 ?_
    refine go_bipush (v := 6) (pc' := 66) dX12_post_64 rfl (by decide) ?_
    refine go_iload_n (i := 1) (pc' := 67) dX12_post_66 rfl rfl rfl ?_
    refine gz_imulc (n := 6) (pc' := 68) dX12_post_67 rfl (by decide) (by omega) (fun v12 h12 e12 => ?_)
    refine go_iload_n (i := 2) (pc' := 69) dX12_post_68 rfl rfl rfl ?_
    refine gz_iadd (pc' := 70) dX12_post_69 rfl (by omega) (fun v13 h13 e13 => ?_)
    have ez2 : (v13).toNatClampNeg = (6 * (a).toNatClampNeg + (b).toNatClampNeg) := by have cz := cnat (x := v13) (by omega); omega
    refine go_iload (pc' := 72) dX12_post_70 rfl rfl ?_
    refine go_iast (pc' := 73) dX12_post_72 rfl (by decide) (by decide) rfl (vin_of (n := 36) (by omega) (by omega)) ?_
    refine go_iconst (v := 1) (pc' := 74) dX12_post_73 rfl (by decide) ?_
    exact go_iret dX12_post_74 rfl (Or.inl ⟨by omega, rfl, by rw [ez, ez2]⟩)
  refine go_bipush (v := (-2)) (pc' := 47) dX12_post_45 rfl (by decide) ?_
  exact go_iret dX12_post_47 rfl (Or.inr (⟨by omega, by first | rfl | omega | (exact Int32.add_sub_cancel _ _), rfl⟩))
set_option maxHeartbeats 4000000 in
set_option maxRecDepth 100000 in
theorem e_X12_hand (l : Launch) (L : WL) (σ : ST) (a b p : Int32) (ix : IV σ) : CtI l L yX12_hand cX12_hand 5 (some .int) rm_X12_hand [.ref (L.2.1 13), .int a, .int b, .int p] σ (fun r σ2 => sM_hand σ a b p r σ2) := by
  refine ctI_go (own := RX12) (by decide) rfl (Nat.le_of_ble_eq_true rfl) (fun F hF => ?_)
  subst hF
  have nm4 : (-4 : Int32).toInt = -4 := by decide
  have nm2 : (-2 : Int32).toInt = -2 := by decide
  have n1 : (1 : Int32).toInt = 1 := by decide
  have n10 : (10 : Int32).toInt = 10 := by decide
  have n99 : (99 : Int32).toInt = 99 := by decide
  have w0 : WM σ σ := WM_rfl ix
  have u19 := ixi_19 ix
  have u20 := ixi_20 ix
  have u21 := ixi_21 ix
  have u22 := ixi_22 ix
  have u23 := ixi_23 ix
  refine go_aload_n (i := 0) (pc' := 1) dX12_hand_0 rfl rfl rfl ?_
  refine go_iload_n (i := 1) (pc' := 2) dX12_hand_1 rfl rfl rfl ?_
  refine go_cvi (pc' := 5) lk_X12_152 (c_X12_isLetter _ _ _ _) rfl rfl (Nat.le_of_ble_eq_true rfl) (by decide) rfl rfl rfl ⟨Nat.le_of_ble_eq_true rfl, Nat.le_of_ble_eq_true rfl⟩ ⟨rfl, rfl⟩ dX12_hand_2 rfl (fun r1 σ1 h1 => ?_)
  obtain ⟨e1, h1⟩ := h1
  have e1 := e1.symm
  subst e1
  refine go_eqB (tgt := 27) (pc' := 8) h1 dX12_hand_5 rfl (by decide) (fun c2 => ?_) (fun c2 => ?_)
  · refine go_bipush (v := (-2)) (pc' := 29) dX12_hand_27 rfl (by decide) ?_
    exact go_iret dX12_hand_29 rfl (Or.inl ⟨by omega, rfl, rfl⟩)
  refine go_iload_n (i := 2) (pc' := 9) dX12_hand_8 rfl rfl rfl ?_
  refine go_iconst (v := 1) (pc' := 10) dX12_hand_9 rfl (by decide) ?_
  refine go_isub (pc' := 11) dX12_hand_10 rfl ?_
  refine go_bipush (v := 99) (pc' := 13) dX12_hand_11 rfl (by decide) ?_
  refine go_csi (pc' := 16) ls_X12_135 (c_X12_isIn _ _ _ _ _) rfl rfl (Nat.le_of_ble_eq_true rfl) ⟨Nat.le_of_ble_eq_true rfl, Nat.le_of_ble_eq_true rfl⟩ ⟨rfl, rfl⟩ dX12_hand_13 rfl (fun r3 σ3 h3 => ?_)
  obtain ⟨e3, h3⟩ := h3
  have e3 := e3.symm
  subst e3
  have h3 := bq_c (sub1c _ _) h3
  refine go_eqB (tgt := 27) (pc' := 19) h3 dX12_hand_16 rfl (by decide) (fun c4 => ?_) (fun c4 => ?_)
  · refine go_bipush (v := (-2)) (pc' := 29) dX12_hand_27 rfl (by decide) ?_
    exact go_iret dX12_hand_29 rfl (Or.inl ⟨by omega, rfl, rfl⟩)
  refine go_aload_n (i := 0) (pc' := 20) dX12_hand_19 rfl rfl rfl ?_
  refine go_iload_n (i := 3) (pc' := 21) dX12_hand_20 rfl rfl rfl ?_
  refine go_cvi (pc' := 24) lk_X12_145 (c_X12_isPerson _ _ _ _) rfl rfl (Nat.le_of_ble_eq_true rfl) (by decide) rfl rfl rfl ⟨Nat.le_of_ble_eq_true rfl, Nat.le_of_ble_eq_true rfl⟩ ⟨rfl, rfl⟩ dX12_hand_21 rfl (fun r5 σ5 h5 => ?_)
  obtain ⟨e5, h5⟩ := h5
  have e5 := e5.symm
  subst e5
  refine go_neB (tgt := 30) (pc' := 27) h5 dX12_hand_24 rfl (by decide) (fun c6 => ?_) (fun c6 => ?_)
  · refine go_aload_n (i := 0) (pc' := 31) dX12_hand_30 rfl rfl rfl ?_
    refine go_iload_n (i := 1) (pc' := 32) dX12_hand_31 rfl rfl rfl ?_
    refine go_iload_n (i := 2) (pc' := 33) dX12_hand_32 rfl rfl rfl ?_
    refine go_cvi (pc' := 36) lk_X12_206 (c_X12_handOf _ _ _ _ _ ix) rfl rfl (Nat.le_of_ble_eq_true rfl) (by decide) rfl rfl rfl ⟨Nat.le_of_ble_eq_true rfl, Nat.le_of_ble_eq_true rfl⟩ ⟨rfl, rfl⟩ dX12_hand_33 rfl (fun r7 σ7 h7 => ?_)
    obtain ⟨e7, h7⟩ := h7
    have e7 := e7.symm
    subst e7
    have q7 := fndP_rng h7
    have hf := h7
    refine go_istore (pc' := 38) dX12_hand_36 rfl (by decide) ?_
    refine go_iload (pc' := 40) dX12_hand_38 rfl rfl ?_
    refine gz_if_ge (tgt := 55) (pc' := 43) dX12_hand_40 rfl (by decide) (fun c8 => ?_) (fun c8 => ?_)
    · refine go_iload (pc' := 57) dX12_hand_55 rfl rfl ?_
      refine gz_if_ge (tgt := 76) (pc' := 60) dX12_hand_57 rfl (by decide) (fun c9 => ?_) (fun c9 => ?_)
      · refine go_aload_n (i := 0) (pc' := 77) dX12_hand_76 rfl rfl rfl ?_
        refine gf_13_handLetter (pc' := 80) dX12_hand_77 rfl fl_X12_71 ?_
        refine go_iload (pc' := 82) dX12_hand_80 rfl rfl ?_
        refine go_iload_n (i := 1) (pc' := 83) dX12_hand_82 rfl rfl rfl ?_
        refine go_iast (pc' := 84) dX12_hand_83 rfl (by decide) (by decide) rfl (vin_of (n := 10) (by omega) (by omega)) ?_
        refine go_aload_n (i := 0) (pc' := 85) dX12_hand_84 rfl rfl rfl ?_
        refine gf_13_handName (pc' := 88) dX12_hand_85 rfl fl_X12_74 ?_
        refine go_iload (pc' := 90) dX12_hand_88 rfl rfl ?_
        refine go_iload_n (i := 2) (pc' := 91) dX12_hand_90 rfl rfl rfl ?_
        refine go_iast (pc' := 92) dX12_hand_91 rfl (by decide) (by decide) rfl (vin_of (n := 10) (by omega) (by omega)) ?_
        refine go_aload_n (i := 0) (pc' := 93) dX12_hand_92 rfl rfl rfl ?_
        refine gf_13_handPerson (pc' := 96) dX12_hand_93 rfl fl_X12_77 ?_
        refine go_iload (pc' := 98) dX12_hand_96 rfl rfl ?_
        refine go_iload_n (i := 3) (pc' := 99) dX12_hand_98 rfl rfl rfl ?_
        refine go_iast (pc' := 100) dX12_hand_99 rfl (by decide) (by decide) rfl (vin_of (n := 10) (by omega) (by omega)) ?_
        refine go_aload_n (i := 0) (pc' := 101) dX12_hand_100 rfl rfl rfl ?_
        refine gf_13_hands (pc' := 104) dX12_hand_101 rfl fl_X12_203 ?_
        refine go_topq (y := (σ.1 22)) rfl ?_
        have g10 := ixi_22 ix
        exact go_iret dX12_hand_104 rfl (Or.inr ⟨by omega, _, hf, by first | exact Or.inl ⟨by omega, by first | rfl | omega | (exact Int32.add_sub_cancel _ _), rfl⟩ | exact Or.inr (Or.inr (⟨by omega, rfl, by rw [(by assumption : r7 = σ.1 22)]⟩))⟩)
      refine go_aload_n (i := 0) (pc' := 61) dX12_hand_60 rfl rfl rfl ?_
      refine gf_13_hands (pc' := 64) dX12_hand_61 rfl fl_X12_203 ?_
      have g11 := ixi_22 ix
      refine go_topz (fun y12 h12 e12 => ?_)
      refine go_istore (pc' := 66) dX12_hand_64 rfl (by decide) ?_
      refine go_aload_n (i := 0) (pc' := 67) dX12_hand_66 rfl rfl rfl ?_
      refine go_dup (pc' := 68) dX12_hand_67 rfl rfl ?_
      refine gf_13_hands (pc' := 71) dX12_hand_68 rfl fl_X12_203 ?_
      have g13 := ixi_22 ix
      refine go_iconst (v := 1) (pc' := 72) dX12_hand_71 rfl (by decide) ?_
      refine go_iadd (pc' := 73) dX12_hand_72 rfl ?_
      refine pf_13_hands (pc' := 76) dX12_hand_73 rfl fl_X12_203 ?_
      refine go_aload_n (i := 0) (pc' := 77) dX12_hand_76 rfl rfl rfl ?_
      refine gf_13_handLetter (pc' := 80) dX12_hand_77 rfl fl_X12_71 ?_
      refine go_iload (pc' := 82) dX12_hand_80 rfl rfl ?_
      refine go_iload_n (i := 1) (pc' := 83) dX12_hand_82 rfl rfl rfl ?_
      refine go_iast (pc' := 84) dX12_hand_83 rfl (by decide) (by decide) rfl (vin_of (n := 10) (by omega) (by omega)) ?_
      refine go_aload_n (i := 0) (pc' := 85) dX12_hand_84 rfl rfl rfl ?_
      refine gf_13_handName (pc' := 88) dX12_hand_85 rfl fl_X12_74 ?_
      refine go_iload (pc' := 90) dX12_hand_88 rfl rfl ?_
      refine go_iload_n (i := 2) (pc' := 91) dX12_hand_90 rfl rfl rfl ?_
      refine go_iast (pc' := 92) dX12_hand_91 rfl (by decide) (by decide) rfl (vin_of (n := 10) (by omega) (by omega)) ?_
      refine go_aload_n (i := 0) (pc' := 93) dX12_hand_92 rfl rfl rfl ?_
      refine gf_13_handPerson (pc' := 96) dX12_hand_93 rfl fl_X12_77 ?_
      refine go_iload (pc' := 98) dX12_hand_96 rfl rfl ?_
      refine go_iload_n (i := 3) (pc' := 99) dX12_hand_98 rfl rfl rfl ?_
      refine go_iast (pc' := 100) dX12_hand_99 rfl (by decide) (by decide) rfl (vin_of (n := 10) (by omega) (by omega)) ?_
      refine go_aload_n (i := 0) (pc' := 101) dX12_hand_100 rfl rfl rfl ?_
      refine gf_13_hands (pc' := 104) dX12_hand_101 rfl fl_X12_203 ?_
      refine go_topq (y := ((σ.1 22) + (1 : Int32))) rfl ?_
      exact go_iret dX12_hand_104 rfl (Or.inr ⟨by omega, _, hf, by first | exact Or.inl ⟨by omega, by first | rfl | omega | (exact Int32.add_sub_cancel _ _), rfl⟩ | exact Or.inr (Or.inr (⟨by omega, rfl, by rw [(by assumption : y12 = σ.1 22)]⟩))⟩)
    refine go_aload_n (i := 0) (pc' := 44) dX12_hand_43 rfl rfl rfl ?_
    refine gf_13_hands (pc' := 47) dX12_hand_44 rfl fl_X12_203 ?_
    have g14 := ixi_22 ix
    refine go_bipush (v := 10) (pc' := 49) dX12_hand_47 rfl (by decide) ?_
    refine gz_icmp_ne (tgt := 55) (pc' := 52) dX12_hand_49 rfl (by decide) (fun c15 => ?_) (fun c15 => ?_)
    · refine go_iload (pc' := 57) dX12_hand_55 rfl rfl ?_
      refine gz_if_ge (tgt := 76) (pc' := 60) dX12_hand_57 rfl (by decide) (fun c16 => ?_) (fun c16 => ?_)
      · refine go_aload_n (i := 0) (pc' := 77) dX12_hand_76 rfl rfl rfl ?_
        refine gf_13_handLetter (pc' := 80) dX12_hand_77 rfl fl_X12_71 ?_
        refine go_iload (pc' := 82) dX12_hand_80 rfl rfl ?_
        refine go_iload_n (i := 1) (pc' := 83) dX12_hand_82 rfl rfl rfl ?_
        refine go_iast (pc' := 84) dX12_hand_83 rfl (by decide) (by decide) rfl (vin_of (n := 10) (by omega) (by omega)) ?_
        refine go_aload_n (i := 0) (pc' := 85) dX12_hand_84 rfl rfl rfl ?_
        refine gf_13_handName (pc' := 88) dX12_hand_85 rfl fl_X12_74 ?_
        refine go_iload (pc' := 90) dX12_hand_88 rfl rfl ?_
        refine go_iload_n (i := 2) (pc' := 91) dX12_hand_90 rfl rfl rfl ?_
        refine go_iast (pc' := 92) dX12_hand_91 rfl (by decide) (by decide) rfl (vin_of (n := 10) (by omega) (by omega)) ?_
        refine go_aload_n (i := 0) (pc' := 93) dX12_hand_92 rfl rfl rfl ?_
        refine gf_13_handPerson (pc' := 96) dX12_hand_93 rfl fl_X12_77 ?_
        refine go_iload (pc' := 98) dX12_hand_96 rfl rfl ?_
        refine go_iload_n (i := 3) (pc' := 99) dX12_hand_98 rfl rfl rfl ?_
        refine go_iast (pc' := 100) dX12_hand_99 rfl (by decide) (by decide) rfl (vin_of (n := 10) (by omega) (by omega)) ?_
        refine go_aload_n (i := 0) (pc' := 101) dX12_hand_100 rfl rfl rfl ?_
        refine gf_13_hands (pc' := 104) dX12_hand_101 rfl fl_X12_203 ?_
        refine go_topq (y := (σ.1 22)) rfl ?_
        have g17 := ixi_22 ix
        exact go_iret dX12_hand_104 rfl (Or.inr ⟨by omega, _, hf, by first | exact Or.inl ⟨by omega, by first | rfl | omega | (exact Int32.add_sub_cancel _ _), rfl⟩ | exact Or.inr (Or.inr (⟨by omega, rfl, by rw [(by assumption : r7 = σ.1 22)]⟩))⟩)
      refine go_aload_n (i := 0) (pc' := 61) dX12_hand_60 rfl rfl rfl ?_
      refine gf_13_hands (pc' := 64) dX12_hand_61 rfl fl_X12_203 ?_
      have g18 := ixi_22 ix
      refine go_topz (fun y19 h19 e19 => ?_)
      refine go_istore (pc' := 66) dX12_hand_64 rfl (by decide) ?_
      refine go_aload_n (i := 0) (pc' := 67) dX12_hand_66 rfl rfl rfl ?_
      refine go_dup (pc' := 68) dX12_hand_67 rfl rfl ?_
      refine gf_13_hands (pc' := 71) dX12_hand_68 rfl fl_X12_203 ?_
      have g20 := ixi_22 ix
      refine go_iconst (v := 1) (pc' := 72) dX12_hand_71 rfl (by decide) ?_
      refine go_iadd (pc' := 73) dX12_hand_72 rfl ?_
      refine pf_13_hands (pc' := 76) dX12_hand_73 rfl fl_X12_203 ?_
      refine go_aload_n (i := 0) (pc' := 77) dX12_hand_76 rfl rfl rfl ?_
      refine gf_13_handLetter (pc' := 80) dX12_hand_77 rfl fl_X12_71 ?_
      refine go_iload (pc' := 82) dX12_hand_80 rfl rfl ?_
      refine go_iload_n (i := 1) (pc' := 83) dX12_hand_82 rfl rfl rfl ?_
      refine go_iast (pc' := 84) dX12_hand_83 rfl (by decide) (by decide) rfl (vin_of (n := 10) (by omega) (by omega)) ?_
      refine go_aload_n (i := 0) (pc' := 85) dX12_hand_84 rfl rfl rfl ?_
      refine gf_13_handName (pc' := 88) dX12_hand_85 rfl fl_X12_74 ?_
      refine go_iload (pc' := 90) dX12_hand_88 rfl rfl ?_
      refine go_iload_n (i := 2) (pc' := 91) dX12_hand_90 rfl rfl rfl ?_
      refine go_iast (pc' := 92) dX12_hand_91 rfl (by decide) (by decide) rfl (vin_of (n := 10) (by omega) (by omega)) ?_
      refine go_aload_n (i := 0) (pc' := 93) dX12_hand_92 rfl rfl rfl ?_
      refine gf_13_handPerson (pc' := 96) dX12_hand_93 rfl fl_X12_77 ?_
      refine go_iload (pc' := 98) dX12_hand_96 rfl rfl ?_
      refine go_iload_n (i := 3) (pc' := 99) dX12_hand_98 rfl rfl rfl ?_
      refine go_iast (pc' := 100) dX12_hand_99 rfl (by decide) (by decide) rfl (vin_of (n := 10) (by omega) (by omega)) ?_
      refine go_aload_n (i := 0) (pc' := 101) dX12_hand_100 rfl rfl rfl ?_
      refine gf_13_hands (pc' := 104) dX12_hand_101 rfl fl_X12_203 ?_
      refine go_topq (y := ((σ.1 22) + (1 : Int32))) rfl ?_
      exact go_iret dX12_hand_104 rfl (Or.inr ⟨by omega, _, hf, by first | exact Or.inl ⟨by omega, by first | rfl | omega | (exact Int32.add_sub_cancel _ _), rfl⟩ | exact Or.inr (Or.inr (⟨by omega, rfl, by rw [(by assumption : y19 = σ.1 22)]⟩))⟩)
    refine go_bipush (v := (-4)) (pc' := 54) dX12_hand_52 rfl (by decide) ?_
    exact go_iret dX12_hand_54 rfl (Or.inr ⟨by omega, _, hf, Or.inr (Or.inl ⟨by omega, by first | rfl | omega | (exact Int32.add_sub_cancel _ _), rfl⟩)⟩)
  refine go_bipush (v := (-2)) (pc' := 29) dX12_hand_27 rfl (by decide) ?_
  exact go_iret dX12_hand_29 rfl (Or.inl ⟨by omega, rfl, rfl⟩)
set_option maxHeartbeats 4000000 in
set_option maxRecDepth 100000 in
theorem e_X12_feed (l : Launch) (L : WL) (σ : ST) (n : Int32) (b : Int64) (ix : IV σ) : CtI l L yX12_feed cX12_feed 5 (some .int) rm_X12_feed [.ref (L.2.1 13), .int n, .long b] σ (fun r σ2 => sM_feed σ n r σ2) := by
  refine ctI_go (own := RX12) (by decide) rfl (Nat.le_of_ble_eq_true rfl) (fun F hF => ?_)
  subst hF
  have nm4 : (-4 : Int32).toInt = -4 := by decide
  have nm2 : (-2 : Int32).toInt = -2 := by decide
  have n0 : (0 : Int32).toInt = 0 := by decide
  have n1 : (1 : Int32).toInt = 1 := by decide
  have n8 : (8 : Int32).toInt = 8 := by decide
  have n160 : (160 : Int32).toInt = 160 := by decide
  have n255 : (255 : Int32).toInt = 255 := by decide
  have w0 : WMf σ σ := WMf_rfl ix
  have u23 := ixi_23 ix
  refine go_iload_n (i := 1) (pc' := 1) dX12_feed_0 rfl rfl rfl ?_
  refine go_iconst (v := 1) (pc' := 2) dX12_feed_1 rfl (by decide) ?_
  refine go_isub (pc' := 3) dX12_feed_2 rfl ?_
  refine go_bipush (v := 8) (pc' := 5) dX12_feed_3 rfl (by decide) ?_
  refine go_csi (pc' := 8) ls_X12_135 (c_X12_isIn _ _ _ _ _) rfl rfl (Nat.le_of_ble_eq_true rfl) ⟨Nat.le_of_ble_eq_true rfl, Nat.le_of_ble_eq_true rfl⟩ ⟨rfl, rfl⟩ dX12_feed_5 rfl (fun r1 σ1 h1 => ?_)
  obtain ⟨e1, h1⟩ := h1
  have e1 := e1.symm
  subst e1
  have h1 := bq_c (sub1c _ _) h1
  refine go_neB (tgt := 14) (pc' := 11) h1 dX12_feed_8 rfl (by decide) (fun c2 => ?_) (fun c2 => ?_)
  · refine go_aload_n (i := 0) (pc' := 15) dX12_feed_14 rfl rfl rfl ?_
    refine gf_13_size (pc' := 18) dX12_feed_15 rfl fl_X12_215 ?_
    have g3 := ixi_23 w0.1
    refine go_iload_n (i := 1) (pc' := 19) dX12_feed_18 rfl rfl rfl ?_
    refine gz_iadd (pc' := 20) dX12_feed_19 rfl (by omega) (fun v4 h4 e4 => ?_)
    refine go_sipush (v := 160) (pc' := 23) dX12_feed_20 rfl (by decide) ?_
    refine gz_icmp_le (tgt := 29) (pc' := 26) dX12_feed_23 rfl (by decide) (fun c5 => ?_) (fun c5 => ?_)
    · refine go_iconst (v := 0) (pc' := 30) dX12_feed_29 rfl (by decide) ?_
      refine go_istore (pc' := 32) dX12_feed_30 rfl (by decide) ?_
      have loop32_6 : ∀ (dd6 : Nat) (σ6 : ST) (x4_6 : Int32), WMf σ σ6 → (0 ≤ (x4_6).toInt ∧ (x4_6).toInt ≤ n.toInt) → ((σ6.1 23).toInt = (σ.1 23).toInt + (x4_6).toInt) → (8 - (x4_6).toInt).toNat = dd6 → Go F L RX12 cX12_feed 5 rm_X12_feed (some .int) (RI F L (fun r σ2 => sM_feed σ n r σ2)) σ6 32 [(0, .ref (L.2.1 13)), (1, .int n), (2, .long b), (4, .int x4_6)] [] := by
        intro dd6
        induction dd6 using Nat.strongRecOn with
        | _ dd6 ih6 =>
          intro σ6 x4_6 w6 h_6 hs_6 hm_6
          refine go_iload (pc' := 34) dX12_feed_32 rfl rfl ?_
          refine go_iload_n (i := 1) (pc' := 35) dX12_feed_34 rfl rfl rfl ?_
          refine gz_icmp_ge (tgt := 75) (pc' := 38) dX12_feed_35 rfl (by decide) (fun c7 => ?_) (fun c7 => ?_)
          · refine go_aload_n (i := 0) (pc' := 76) dX12_feed_75 rfl rfl rfl ?_
            refine gf_13_size (pc' := 79) dX12_feed_76 rfl fl_X12_215 ?_
            have g8 := ixi_23 w6.1
            exact go_iret dX12_feed_79 rfl (Or.inr (Or.inr ⟨by omega, by omega, w6, by omega, rfl⟩))
          refine go_aload_n (i := 0) (pc' := 39) dX12_feed_38 rfl rfl rfl ?_
          refine gf_13_tape (pc' := 42) dX12_feed_39 rfl fl_X12_80 ?_
          refine go_aload_n (i := 0) (pc' := 43) dX12_feed_42 rfl rfl rfl ?_
          refine gf_13_size (pc' := 46) dX12_feed_43 rfl fl_X12_215 ?_
          have g9 := ixi_23 w6.1
          refine go_lload_n (i := 2) (pc' := 47) dX12_feed_46 rfl rfl rfl ?_
          refine go_bipush (v := 8) (pc' := 49) dX12_feed_47 rfl (by decide) ?_
          refine go_iload (pc' := 51) dX12_feed_49 rfl rfl ?_
          refine go_imul (pc' := 52) dX12_feed_51 rfl ?_
          refine go_lshr (pc' := 53) dX12_feed_52 rfl ?_
          refine go_l2i (pc' := 54) dX12_feed_53 rfl ?_
          refine go_sipush (v := 255) (pc' := 57) dX12_feed_54 rfl (by decide) ?_
          refine go_iand (pc' := 58) dX12_feed_57 rfl ?_
          refine go_iast (pc' := 59) dX12_feed_58 rfl (by decide) (by decide) rfl (vin_of (n := 160) (by omega) (by omega)) ?_
          refine go_gen (P := fun s => WMf σ s ∧ s.1 23 = σ6.1 23) ⟨⟨ixt_119 w6.1 (and255 _).1 (and255 _).2, Ag_setA w6.2 (by decide)⟩, rfl⟩ (fun σ10 z10 => ?_)
          obtain ⟨w10, g10⟩ := z10
          have q10 := congrArg Int32.toInt g10
          refine go_aload_n (i := 0) (pc' := 60) dX12_feed_59 rfl rfl rfl ?_
          refine go_dup (pc' := 61) dX12_feed_60 rfl rfl ?_
          refine gf_13_size (pc' := 64) dX12_feed_61 rfl fl_X12_215 ?_
          have g11 := ixi_23 w10.1
          refine go_iconst (v := 1) (pc' := 65) dX12_feed_64 rfl (by decide) ?_
          refine gz_iadd (pc' := 66) dX12_feed_65 rfl (by omega) (fun v12 h12 e12 => ?_)
          refine pf_13_size (pc' := 69) dX12_feed_66 rfl fl_X12_215 ?_
          refine go_gen (P := fun s => WMf σ s ∧ s.1 23 = v12) ⟨⟨ixs_23 w10.1 (by omega) (by omega), Ag_setI w10.2 (by decide)⟩, setI_same _ _ _⟩ (fun σ13 z13 => ?_)
          obtain ⟨w13, g13⟩ := z13
          have q13 := congrArg Int32.toInt g13
          refine gz_iinc (c := 1) (pc' := 72) dX12_feed_69 rfl rfl (by decide) (by decide) (by decide) (by omega) (fun v14 h14 e14 => ?_)
          refine go_goto (tgt := 32) dX12_feed_72 (by decide) ?_
          exact go_lv (lv' := [(0, .ref (L.2.1 13)), (1, .int n), (2, .long b), (4, .int v14)]) rfl (ih6 _ (by omega) σ13 v14 w13 (by omega) (by omega) rfl)
      exact go_lv (lv' := [(0, .ref (L.2.1 13)), (1, .int n), (2, .long b), (4, .int (0 : Int32))]) rfl (loop32_6 _ σ (0 : Int32) w0 (by omega) (by omega) rfl)
    refine go_bipush (v := (-4)) (pc' := 28) dX12_feed_26 rfl (by decide) ?_
    exact go_iret dX12_feed_28 rfl (Or.inr (Or.inl ⟨by omega, by omega, rfl, rfl⟩))
  refine go_bipush (v := (-2)) (pc' := 13) dX12_feed_11 rfl (by decide) ?_
  exact go_iret dX12_feed_13 rfl (Or.inl ⟨by omega, rfl, rfl⟩)
set_option maxHeartbeats 4000000 in
set_option maxRecDepth 100000 in
theorem e_X12_tray (l : Launch) (L : WL) (σ : ST) (t n : Int32) (ix : IV σ) : CtI l L yX12_tray cX12_tray 4 (some .int) rm_X12_tray [.ref (L.2.1 13), .int t, .int n] σ (fun r σ2 => sM_tray σ t n r σ2) := by
  refine ctI_go (own := RX12) (by decide) rfl (Nat.le_of_ble_eq_true rfl) (fun F hF => ?_)
  subst hF
  have nm14 : (-14 : Int32).toInt = -14 := by decide
  have nm2 : (-2 : Int32).toInt = -2 := by decide
  have nm1 : (-1 : Int32).toInt = -1 := by decide
  have n0 : (0 : Int32).toInt = 0 := by decide
  have n1 : (1 : Int32).toInt = 1 := by decide
  have n4 : (4 : Int32).toInt = 4 := by decide
  have n60 : (60 : Int32).toInt = 60 := by decide
  have w0 : WMy σ σ := WMy_rfl ix
  refine go_iload_n (i := 1) (pc' := 1) dX12_tray_0 rfl rfl rfl ?_
  refine go_iconst (v := 4) (pc' := 2) dX12_tray_1 rfl (by decide) ?_
  refine go_csi (pc' := 5) ls_X12_135 (c_X12_isIn _ _ _ _ _) rfl rfl (Nat.le_of_ble_eq_true rfl) ⟨Nat.le_of_ble_eq_true rfl, Nat.le_of_ble_eq_true rfl⟩ ⟨rfl, rfl⟩ dX12_tray_2 rfl (fun r1 σ1 h1 => ?_)
  obtain ⟨e1, h1⟩ := h1
  have e1 := e1.symm
  subst e1
  refine go_eqB (tgt := 14) (pc' := 8) h1 dX12_tray_5 rfl (by decide) (fun c2 => ?_) (fun c2 => ?_)
  · refine go_bipush (v := (-2)) (pc' := 16) dX12_tray_14 rfl (by decide) ?_
    exact go_iret dX12_tray_16 rfl (Or.inl ⟨by omega, rfl, rfl⟩)
  refine go_iload_n (i := 2) (pc' := 9) dX12_tray_8 rfl rfl rfl ?_
  refine go_bipush (v := 60) (pc' := 11) dX12_tray_9 rfl (by decide) ?_
  refine gz_icmp_le (tgt := 17) (pc' := 14) dX12_tray_11 rfl (by decide) (fun c3 => ?_) (fun c3 => ?_)
  · refine go_iload_n (i := 2) (pc' := 18) dX12_tray_17 rfl rfl rfl ?_
    refine go_iconst (v := (-1)) (pc' := 19) dX12_tray_18 rfl (by decide) ?_
    refine gz_icmp_ge (tgt := 25) (pc' := 22) dX12_tray_19 rfl (by decide) (fun c4 => ?_) (fun c4 => ?_)
    · refine go_aload_n (i := 0) (pc' := 26) dX12_tray_25 rfl rfl rfl ?_
      refine gf_13_traySize (pc' := 29) dX12_tray_26 rfl fl_X12_129 ?_
      refine go_iload_n (i := 1) (pc' := 30) dX12_tray_29 rfl rfl rfl ?_
      refine go_iload_n (i := 2) (pc' := 31) dX12_tray_30 rfl rfl rfl ?_
      refine go_iast (pc' := 32) dX12_tray_31 rfl (by decide) (by decide) rfl (vin_of (n := 4) (by omega) (by omega)) ?_
      refine go_gen (P := fun s => WMy σ s ∧ s.2 134 = upd (σ.2 134) (t).toNatClampNeg n) ⟨⟨ixt_134 w0.1 (by omega) (by omega), Ag_setA w0.2 (by decide)⟩, setA_same _ _ _ _⟩ (fun σ5 z5 => ?_)
      obtain ⟨w5, g5⟩ := z5
      have hz := g5
      refine go_iconst (v := 0) (pc' := 33) dX12_tray_32 rfl (by decide) ?_
      refine go_istore_n (i := 3) (pc' := 34) dX12_tray_33 rfl rfl (by decide) ?_
      have loop34_6 : ∀ (dd6 : Nat) (σ6 : ST) (x3_6 : Int32), WMy σ σ6 → (0 ≤ (x3_6).toInt ∧ (x3_6).toInt ≤ 60) → (σ6.2 134 = upd (σ.2 134) (t).toNatClampNeg n) → (60 - (x3_6).toInt).toNat = dd6 → Go F L RX12 cX12_tray 4 rm_X12_tray (some .int) (RI F L (fun r σ2 => sM_tray σ t n r σ2)) σ6 34 [(0, .ref (L.2.1 13)), (1, .int t), (2, .int n), (3, .int x3_6)] [] := by
        intro dd6
        induction dd6 using Nat.strongRecOn with
        | _ dd6 ih6 =>
          intro σ6 x3_6 w6 h_6 hz_6 hm_6
          refine go_iload_n (i := 3) (pc' := 35) dX12_tray_34 rfl rfl rfl ?_
          refine go_bipush (v := 60) (pc' := 37) dX12_tray_35 rfl (by decide) ?_
          refine gz_icmp_ge (tgt := 58) (pc' := 40) dX12_tray_37 rfl (by decide) (fun c7 => ?_) (fun c7 => ?_)
          · refine go_iconst (v := 1) (pc' := 59) dX12_tray_58 rfl (by decide) ?_
            exact go_iret dX12_tray_59 rfl (Or.inr (Or.inr ⟨by omega, by omega, rfl, w6, by assumption⟩))
          refine go_aload_n (i := 0) (pc' := 41) dX12_tray_40 rfl rfl rfl ?_
          refine gf_13_trays (pc' := 44) dX12_tray_41 rfl fl_X12_132 ?_
          refine go_bipush (v := 60) (pc' := 46) dX12_tray_44 rfl (by decide) ?_
          refine go_iload_n (i := 1) (pc' := 47) dX12_tray_46 rfl rfl rfl ?_
          refine gz_imulc (n := 60) (pc' := 48) dX12_tray_47 rfl (by decide) (by omega) (fun v8 h8 e8 => ?_)
          refine go_iload_n (i := 3) (pc' := 49) dX12_tray_48 rfl rfl rfl ?_
          refine gz_iadd (pc' := 50) dX12_tray_49 rfl (by omega) (fun v9 h9 e9 => ?_)
          refine go_iconst (v := 0) (pc' := 51) dX12_tray_50 rfl (by decide) ?_
          refine go_iast (pc' := 52) dX12_tray_51 rfl (by decide) (by decide) rfl (vin_of (n := 240) (by omega) (by omega)) ?_
          refine go_gen (P := fun s => WMy σ s ∧ s.2 134 = σ6.2 134) ⟨⟨ixt_135 w6.1 (by omega) (by omega), Ag_setA w6.2 (by decide)⟩, (setA_ne (a := 134) _ 135 _ _ (by decide))⟩ (fun σ10 z10 => ?_)
          obtain ⟨w10, g10⟩ := z10
          have q10 := g10.trans hz_6
          refine gz_iinc (c := 1) (pc' := 55) dX12_tray_52 rfl rfl (by decide) (by decide) (by decide) (by omega) (fun v11 h11 e11 => ?_)
          refine go_goto (tgt := 34) dX12_tray_55 (by decide) ?_
          exact go_lv (lv' := [(0, .ref (L.2.1 13)), (1, .int t), (2, .int n), (3, .int v11)]) rfl (ih6 _ (by omega) σ10 v11 w10 (by omega) (by assumption) rfl)
      exact go_lv (lv' := [(0, .ref (L.2.1 13)), (1, .int t), (2, .int n), (3, .int (0 : Int32))]) rfl (loop34_6 _ σ5 (0 : Int32) w5 (by omega) (by assumption) rfl)
    refine go_bipush (v := (-14)) (pc' := 24) dX12_tray_22 rfl (by decide) ?_
    exact go_iret dX12_tray_24 rfl (Or.inr (Or.inl ⟨by omega, by omega, rfl, rfl⟩))
  refine go_bipush (v := (-2)) (pc' := 16) dX12_tray_14 rfl (by decide) ?_
  exact go_iret dX12_tray_16 rfl (Or.inl ⟨by omega, rfl, rfl⟩)
set_option maxHeartbeats 4000000 in
set_option maxRecDepth 100000 in
theorem e_X12_cell (l : Launch) (L : WL) (σ : ST) (t i v : Int32) (ix : IV σ) : CtI l L yX12_cell cX12_cell 4 (some .int) rm_X12_cell [.ref (L.2.1 13), .int t, .int i, .int v] σ (fun r σ2 => sM_cell σ t i v r σ2) := by
  refine ctI_go (own := RX12) (by decide) rfl (Nat.le_of_ble_eq_true rfl) (fun F hF => ?_)
  subst hF
  have nm12 : (-12 : Int32).toInt = -12 := by decide
  have nm11 : (-11 : Int32).toInt = -11 := by decide
  have nm2 : (-2 : Int32).toInt = -2 := by decide
  have n1 : (1 : Int32).toInt = 1 := by decide
  have n4 : (4 : Int32).toInt = 4 := by decide
  have n60 : (60 : Int32).toInt = 60 := by decide
  have n255 : (255 : Int32).toInt = 255 := by decide
  have w0 : WM σ σ := WM_rfl ix
  refine go_iload_n (i := 1) (pc' := 1) dX12_cell_0 rfl rfl rfl ?_
  refine go_iconst (v := 4) (pc' := 2) dX12_cell_1 rfl (by decide) ?_
  refine go_csi (pc' := 5) ls_X12_135 (c_X12_isIn _ _ _ _ _) rfl rfl (Nat.le_of_ble_eq_true rfl) ⟨Nat.le_of_ble_eq_true rfl, Nat.le_of_ble_eq_true rfl⟩ ⟨rfl, rfl⟩ dX12_cell_2 rfl (fun r1 σ1 h1 => ?_)
  obtain ⟨e1, h1⟩ := h1
  have e1 := e1.symm
  subst e1
  refine go_neB (tgt := 11) (pc' := 8) h1 dX12_cell_5 rfl (by decide) (fun c2 => ?_) (fun c2 => ?_)
  · refine go_aload_n (i := 0) (pc' := 12) dX12_cell_11 rfl rfl rfl ?_
    refine gf_13_traySize (pc' := 15) dX12_cell_12 rfl fl_X12_129 ?_
    refine go_iload_n (i := 1) (pc' := 16) dX12_cell_15 rfl rfl rfl ?_
    refine go_iald (pc' := 17) dX12_cell_16 rfl (by decide) (by decide) rfl (vin_of (n := 4) (by omega) (by omega)) ?_
    have g3 := ixa_134 ix (t).toNatClampNeg (vinlt (show vp_in t 4 from (vin_of (n := 4) (by omega) (by omega))))
    refine gz_if_ge (tgt := 23) (pc' := 20) dX12_cell_17 rfl (by decide) (fun c4 => ?_) (fun c4 => ?_)
    · refine go_iload_n (i := 2) (pc' := 24) dX12_cell_23 rfl rfl rfl ?_
      refine go_aload_n (i := 0) (pc' := 25) dX12_cell_24 rfl rfl rfl ?_
      refine gf_13_traySize (pc' := 28) dX12_cell_25 rfl fl_X12_129 ?_
      refine go_iload_n (i := 1) (pc' := 29) dX12_cell_28 rfl rfl rfl ?_
      refine go_iald (pc' := 30) dX12_cell_29 rfl (by decide) (by decide) rfl (vin_of (n := 4) (by omega) (by omega)) ?_
      have g5 := ixa_134 ix (t).toNatClampNeg (vinlt (show vp_in t 4 from (vin_of (n := 4) (by omega) (by omega))))
      refine go_csi (pc' := 33) ls_X12_135 (c_X12_isIn _ _ _ _ _) rfl rfl (Nat.le_of_ble_eq_true rfl) ⟨Nat.le_of_ble_eq_true rfl, Nat.le_of_ble_eq_true rfl⟩ ⟨rfl, rfl⟩ dX12_cell_30 rfl (fun r6 σ6 h6 => ?_)
      obtain ⟨e6, h6⟩ := h6
      have e6 := e6.symm
      subst e6
      refine go_neB (tgt := 39) (pc' := 36) h6 dX12_cell_33 rfl (by decide) (fun c7 => ?_) (fun c7 => ?_)
      · refine go_aload_n (i := 0) (pc' := 40) dX12_cell_39 rfl rfl rfl ?_
        refine gf_13_trays (pc' := 43) dX12_cell_40 rfl fl_X12_132 ?_
        refine go_bipush (v := 60) (pc' := 45) dX12_cell_43 rfl (by decide) ?_
        refine go_iload_n (i := 1) (pc' := 46) dX12_cell_45 rfl rfl rfl ?_
        refine gz_imulc (n := 60) (pc' := 47) dX12_cell_46 rfl (by decide) (by omega) (fun v8 h8 e8 => ?_)
        refine go_iload_n (i := 2) (pc' := 48) dX12_cell_47 rfl rfl rfl ?_
        refine gz_iadd (pc' := 49) dX12_cell_48 rfl (by omega) (fun v9 h9 e9 => ?_)
        have ct := cnat (x := t) (by omega)
        have ci := cnat (x := i) (by omega)
        have ez : (v9).toNatClampNeg = (60 * (t).toNatClampNeg + (i).toNatClampNeg) := by have cz := cnat (x := v9) (by omega); omega
        refine go_iload_n (i := 3) (pc' := 50) dX12_cell_49 rfl rfl rfl ?_
        refine go_sipush (v := 255) (pc' := 53) dX12_cell_50 rfl (by decide) ?_
        refine go_iand (pc' := 54) dX12_cell_53 rfl ?_
        refine go_iast (pc' := 55) dX12_cell_54 rfl (by decide) (by decide) rfl (vin_of (n := 240) (by omega) (by omega)) ?_
        refine go_iconst (v := 1) (pc' := 56) dX12_cell_55 rfl (by decide) ?_
        exact go_iret dX12_cell_56 rfl (Or.inr (Or.inr (Or.inr (⟨by omega, rfl, by rw [ez]⟩))))
      refine go_bipush (v := (-12)) (pc' := 38) dX12_cell_36 rfl (by decide) ?_
      exact go_iret dX12_cell_38 rfl (Or.inr (Or.inr (Or.inl ⟨by omega, by first | rfl | omega | (exact Int32.add_sub_cancel _ _), rfl⟩)))
    refine go_bipush (v := (-11)) (pc' := 22) dX12_cell_20 rfl (by decide) ?_
    exact go_iret dX12_cell_22 rfl (Or.inr (Or.inl ⟨by omega, by first | rfl | omega | (exact Int32.add_sub_cancel _ _), rfl⟩))
  refine go_bipush (v := (-2)) (pc' := 10) dX12_cell_8 rfl (by decide) ?_
  exact go_iret dX12_cell_10 rfl (Or.inl ⟨by omega, by first | rfl | omega | (exact Int32.add_sub_cancel _ _), rfl⟩)
set_option maxHeartbeats 4000000 in
set_option maxRecDepth 100000 in
theorem e_X12_lay (l : Launch) (L : WL) (σ : ST) (t f n : Int32) (ix : IV σ) : CtI l L yX12_lay cX12_lay 7 (some .int) rm_X12_lay [.ref (L.2.1 13), .int t, .int f, .int n] σ (fun r σ2 => sM_lay σ t f n r σ2) := by
  refine ctI_go (own := RX12) (by decide) rfl (Nat.le_of_ble_eq_true rfl) (fun F hF => ?_)
  subst hF
  have nm12 : (-12 : Int32).toInt = -12 := by decide
  have nm11 : (-11 : Int32).toInt = -11 := by decide
  have nm4 : (-4 : Int32).toInt = -4 := by decide
  have nm2 : (-2 : Int32).toInt = -2 := by decide
  have n0 : (0 : Int32).toInt = 0 := by decide
  have n1 : (1 : Int32).toInt = 1 := by decide
  have n4 : (4 : Int32).toInt = 4 := by decide
  have n60 : (60 : Int32).toInt = 60 := by decide
  have n160 : (160 : Int32).toInt = 160 := by decide
  have w0 : WMf σ σ := WMf_rfl ix
  have lf := Int32.le_toInt f
  have rf := Int32.toInt_lt f
  have u23 := ixi_23 ix
  have z64 : (0 : Int64).toInt = 0 := by decide
  refine go_iload_n (i := 1) (pc' := 1) dX12_lay_0 rfl rfl rfl ?_
  refine go_iconst (v := 4) (pc' := 2) dX12_lay_1 rfl (by decide) ?_
  refine go_csi (pc' := 5) ls_X12_135 (c_X12_isIn _ _ _ _ _) rfl rfl (Nat.le_of_ble_eq_true rfl) ⟨Nat.le_of_ble_eq_true rfl, Nat.le_of_ble_eq_true rfl⟩ ⟨rfl, rfl⟩ dX12_lay_2 rfl (fun r1 σ1 h1 => ?_)
  obtain ⟨e1, h1⟩ := h1
  have e1 := e1.symm
  subst e1
  refine go_eqB (tgt := 12) (pc' := 8) h1 dX12_lay_5 rfl (by decide) (fun c2 => ?_) (fun c2 => ?_)
  · refine go_bipush (v := (-2)) (pc' := 14) dX12_lay_12 rfl (by decide) ?_
    exact go_iret dX12_lay_14 rfl (Or.inl ⟨by omega, rfl, rfl⟩)
  refine go_iload_n (i := 3) (pc' := 9) dX12_lay_8 rfl rfl rfl ?_
  refine gz_if_ge (tgt := 15) (pc' := 12) dX12_lay_9 rfl (by decide) (fun c3 => ?_) (fun c3 => ?_)
  · refine go_aload_n (i := 0) (pc' := 16) dX12_lay_15 rfl rfl rfl ?_
    refine gf_13_traySize (pc' := 19) dX12_lay_16 rfl fl_X12_129 ?_
    refine go_iload_n (i := 1) (pc' := 20) dX12_lay_19 rfl rfl rfl ?_
    refine go_iald (pc' := 21) dX12_lay_20 rfl (by decide) (by decide) rfl (vin_of (n := 4) (by omega) (by omega)) ?_
    refine go_rngA (ixa_134 w0.1) (vinlt (vin_of (n := 4) (by omega) (by omega))) (fun g4 => ?_)
    refine gz_if_ge (tgt := 27) (pc' := 24) dX12_lay_21 rfl (by decide) (fun c5 => ?_) (fun c5 => ?_)
    · refine go_iconst (v := 0) (pc' := 28) dX12_lay_27 rfl (by decide) ?_
      refine go_istore (pc' := 30) dX12_lay_28 rfl (by decide) ?_
      have loop30_6 : ∀ (dd6 : Nat) (σ6 : ST) (x4_6 : Int32), WMf σ σ6 → (0 ≤ (x4_6).toInt ∧ (x4_6).toInt ≤ 60) → ((x4_6).toInt = 0 ∨ (0 ≤ f.toInt ∧ f.toInt + (x4_6).toInt ≤ 60)) → (layR (σ.2 134 (t).toNatClampNeg).toInt f.toInt n.toInt 100 0 (σ.1 23).toInt = layR (σ.2 134 (t).toNatClampNeg).toInt f.toInt n.toInt (100 - (x4_6).toInt.toNat) (x4_6).toInt (σ6.1 23).toInt) → (61 - (x4_6).toInt).toNat = dd6 → Go F L RX12 cX12_lay 7 rm_X12_lay (some .int) (RI F L (fun r σ2 => sM_lay σ t f n r σ2)) σ6 30 [(0, .ref (L.2.1 13)), (1, .int t), (2, .int f), (3, .int n), (4, .int x4_6)] [] := by
        intro dd6
        induction dd6 using Nat.strongRecOn with
        | _ dd6 ih6 =>
          intro σ6 x4_6 w6 h_6 hf_6 hl_6 hm_6
          refine go_iload (pc' := 32) dX12_lay_30 rfl rfl ?_
          refine go_iload_n (i := 3) (pc' := 33) dX12_lay_32 rfl rfl rfl ?_
          refine gz_icmp_ge (tgt := 118) (pc' := 36) dX12_lay_33 rfl (by decide) (fun c7 => ?_) (fun c7 => ?_)
          · refine go_aload_n (i := 0) (pc' := 119) dX12_lay_118 rfl rfl rfl ?_
            refine gf_13_size (pc' := 122) dX12_lay_119 rfl fl_X12_215 ?_
            have g8 := ixi_23 w6.1
            exact go_iret dX12_lay_122 rfl (Or.inr (Or.inr ⟨by omega, by omega, w6, (hl_6.trans (layR_end (by omega) (by omega))).symm⟩))
          have tz : σ6.2 134 = σ.2 134 := w6.2.2 134 (by decide)
          have la := lg_add f x4_6
          have tzi : (σ6.2 134 (t).toNatClampNeg).toInt = (σ.2 134 (t).toNatClampNeg).toInt := by rw [tz]
          refine go_iload_n (i := 2) (pc' := 37) dX12_lay_36 rfl rfl rfl ?_
          refine go_i2l (pc' := 38) dX12_lay_37 rfl ?_
          refine go_iload (pc' := 40) dX12_lay_38 rfl rfl ?_
          refine go_i2l (pc' := 41) dX12_lay_40 rfl ?_
          refine go_ladd (pc' := 42) dX12_lay_41 rfl ?_
          refine go_lstore (pc' := 44) dX12_lay_42 rfl (by decide) ?_
          refine go_lload (pc' := 46) dX12_lay_44 rfl rfl ?_
          refine go_lconst (v := 0) (pc' := 47) dX12_lay_46 rfl (by decide) ?_
          refine go_lcmp (pc' := 48) dX12_lay_47 rfl ?_
          have q48 := lg_c ((f).toInt64 + (x4_6).toInt64) (0 : Int64)
          refine gz_if_lt (tgt := 64) (pc' := 51) dX12_lay_48 rfl (by decide) (fun c9 => ?_) (fun c9 => ?_)
          · refine go_bipush (v := (-12)) (pc' := 66) dX12_lay_64 rfl (by decide) ?_
            exact go_iret dX12_lay_66 rfl (Or.inr (Or.inr ⟨by omega, by omega, w6, by rw [nm12]; exact (hl_6.trans (layR_out (by omega) (by omega) (by omega))).symm⟩))
          refine go_lload (pc' := 53) dX12_lay_51 rfl rfl ?_
          refine go_aload_n (i := 0) (pc' := 54) dX12_lay_53 rfl rfl rfl ?_
          refine gf_13_traySize (pc' := 57) dX12_lay_54 rfl fl_X12_129 ?_
          refine go_iload_n (i := 1) (pc' := 58) dX12_lay_57 rfl rfl rfl ?_
          refine go_iald (pc' := 59) dX12_lay_58 rfl (by decide) (by decide) rfl (vin_of (n := 4) (by omega) (by omega)) ?_
          refine go_rngA (ixa_134 w6.1) (vinlt (vin_of (n := 4) (by omega) (by omega))) (fun g10 => ?_)
          refine go_i2l (pc' := 60) dX12_lay_59 rfl ?_
          refine go_lcmp (pc' := 61) dX12_lay_60 rfl ?_
          have t61 : (((σ6.2 134 (t).toNatClampNeg)).toInt64).toInt = (σ6.2 134 (t).toNatClampNeg).toInt := Int32.toInt_toInt64 _
          have q61 := lg_c ((f).toInt64 + (x4_6).toInt64) ((σ6.2 134 (t).toNatClampNeg)).toInt64
          refine gz_if_lt (tgt := 67) (pc' := 64) dX12_lay_61 rfl (by decide) (fun c11 => ?_) (fun c11 => ?_)
          · refine go_aload_n (i := 0) (pc' := 68) dX12_lay_67 rfl rfl rfl ?_
            refine gf_13_size (pc' := 71) dX12_lay_68 rfl fl_X12_215 ?_
            have g12 := ixi_23 w6.1
            refine go_sipush (v := 160) (pc' := 74) dX12_lay_71 rfl (by decide) ?_
            refine gz_icmp_ne (tgt := 80) (pc' := 77) dX12_lay_74 rfl (by decide) (fun c13 => ?_) (fun c13 => ?_)
            · refine go_aload_n (i := 0) (pc' := 81) dX12_lay_80 rfl rfl rfl ?_
              refine gf_13_tape (pc' := 84) dX12_lay_81 rfl fl_X12_80 ?_
              refine go_aload_n (i := 0) (pc' := 85) dX12_lay_84 rfl rfl rfl ?_
              refine gf_13_size (pc' := 88) dX12_lay_85 rfl fl_X12_215 ?_
              have g14 := ixi_23 w6.1
              refine go_aload_n (i := 0) (pc' := 89) dX12_lay_88 rfl rfl rfl ?_
              refine gf_13_trays (pc' := 92) dX12_lay_89 rfl fl_X12_132 ?_
              refine go_bipush (v := 60) (pc' := 94) dX12_lay_92 rfl (by decide) ?_
              refine go_iload_n (i := 1) (pc' := 95) dX12_lay_94 rfl rfl rfl ?_
              refine gz_imulc (n := 60) (pc' := 96) dX12_lay_95 rfl (by decide) (by omega) (fun v15 h15 e15 => ?_)
              refine go_lload (pc' := 98) dX12_lay_96 rfl rfl ?_
              refine go_l2i (pc' := 99) dX12_lay_98 rfl ?_
              have l32 := lg_32 (x := ((f).toInt64 + (x4_6).toInt64)) (by omega) (by omega)
              refine gz_iadd (pc' := 100) dX12_lay_99 rfl (by omega) (fun v16 h16 e16 => ?_)
              refine go_iald (pc' := 101) dX12_lay_100 rfl (by decide) (by decide) rfl (vin_of (n := 240) (by omega) (by omega)) ?_
              refine go_rngA (ixa_135 w6.1) (vinlt (vin_of (n := 240) (by omega) (by omega))) (fun g17 => ?_)
              refine go_iast (pc' := 102) dX12_lay_101 rfl (by decide) (by decide) rfl (vin_of (n := 160) (by omega) (by omega)) ?_
              refine go_gen (P := fun s => WMf σ s ∧ s.1 23 = σ6.1 23) ⟨⟨ixt_119 w6.1 (by omega) (by omega), Ag_setA w6.2 (by decide)⟩, rfl⟩ (fun σ18 z18 => ?_)
              obtain ⟨w18, g18⟩ := z18
              have q18 := congrArg Int32.toInt g18
              refine go_aload_n (i := 0) (pc' := 103) dX12_lay_102 rfl rfl rfl ?_
              refine go_dup (pc' := 104) dX12_lay_103 rfl rfl ?_
              refine gf_13_size (pc' := 107) dX12_lay_104 rfl fl_X12_215 ?_
              have g19 := ixi_23 w18.1
              refine go_iconst (v := 1) (pc' := 108) dX12_lay_107 rfl (by decide) ?_
              refine gz_iadd (pc' := 109) dX12_lay_108 rfl (by omega) (fun v20 h20 e20 => ?_)
              refine pf_13_size (pc' := 112) dX12_lay_109 rfl fl_X12_215 ?_
              refine go_gen (P := fun s => WMf σ s ∧ s.1 23 = v20) ⟨⟨ixs_23 w18.1 (by omega) (by omega), Ag_setI w18.2 (by decide)⟩, setI_same _ _ _⟩ (fun σ21 z21 => ?_)
              obtain ⟨w21, g21⟩ := z21
              have q21 := congrArg Int32.toInt g21
              refine gz_iinc (c := 1) (pc' := 115) dX12_lay_112 rfl rfl (by decide) (by decide) (by decide) (by omega) (fun v22 h22 e22 => ?_)
              refine go_goto (tgt := 30) dX12_lay_115 (by decide) ?_
              exact go_lv (lv' := [(0, .ref (L.2.1 13)), (1, .int t), (2, .int f), (3, .int n), (4, .int v22)]) rfl (ih6 _ (by omega) σ21 v22 w21 (by omega) (by omega) (hl_6.trans (layR_step (by omega) (by omega) (by omega) (by omega) (by omega) (by omega))) rfl)
            refine go_bipush (v := (-4)) (pc' := 79) dX12_lay_77 rfl (by decide) ?_
            exact go_iret dX12_lay_79 rfl (Or.inr (Or.inr ⟨by omega, by omega, w6, by rw [nm4]; exact (hl_6.trans (layR_full (by omega) (by omega) (by omega) (by omega))).symm⟩))
          refine go_bipush (v := (-12)) (pc' := 66) dX12_lay_64 rfl (by decide) ?_
          exact go_iret dX12_lay_66 rfl (Or.inr (Or.inr ⟨by omega, by omega, w6, by rw [nm12]; exact (hl_6.trans (layR_out (by omega) (by omega) (by omega))).symm⟩))
      exact go_lv (lv' := [(0, .ref (L.2.1 13)), (1, .int t), (2, .int f), (3, .int n), (4, .int (0 : Int32))]) rfl (loop30_6 _ σ (0 : Int32) w0 (by omega) (by omega) (by rw [n0]; rfl) rfl)
    refine go_bipush (v := (-11)) (pc' := 26) dX12_lay_24 rfl (by decide) ?_
    exact go_iret dX12_lay_26 rfl (Or.inr (Or.inl ⟨by omega, by omega, rfl, rfl⟩))
  refine go_bipush (v := (-2)) (pc' := 14) dX12_lay_12 rfl (by decide) ?_
  exact go_iret dX12_lay_14 rfl (Or.inl ⟨by omega, rfl, rfl⟩)
set_option maxHeartbeats 4000000 in
set_option maxRecDepth 100000 in
theorem e_X12_taken (l : Launch) (L : WL) (σ : ST) (a k : Int32) (ix : IV σ) : CtI l L yX12_taken cX12_taken 3 (some .int) rm_X12_taken [.ref (L.2.1 13), .int a, .int k] σ (fun r σ2 => σ2 = σ ∧ takP (σ.1 20).toInt (σ.2 101) (σ.2 102) a k r) := by
  refine ctI_go (own := RX12) (by decide) rfl (Nat.le_of_ble_eq_true rfl) (fun F hF => ?_)
  subst hF
  have nm13 : (-13 : Int32).toInt = -13 := by decide
  have nm11 : (-11 : Int32).toInt = -11 := by decide
  have nm2 : (-2 : Int32).toInt = -2 := by decide
  have n2 : (2 : Int32).toInt = 2 := by decide
  have n5 : (5 : Int32).toInt = 5 := by decide
  have n6 : (6 : Int32).toInt = 6 := by decide
  have w0 : WM σ σ := WM_rfl ix
  have u19 := ixi_19 ix
  have u20 := ixi_20 ix
  have u21 := ixi_21 ix
  have u22 := ixi_22 ix
  have u23 := ixi_23 ix
  refine go_iload_n (i := 2) (pc' := 1) dX12_taken_0 rfl rfl rfl ?_
  refine go_bipush (v := 6) (pc' := 3) dX12_taken_1 rfl (by decide) ?_
  refine go_csi (pc' := 6) ls_X12_135 (c_X12_isIn _ _ _ _ _) rfl rfl (Nat.le_of_ble_eq_true rfl) ⟨Nat.le_of_ble_eq_true rfl, Nat.le_of_ble_eq_true rfl⟩ ⟨rfl, rfl⟩ dX12_taken_3 rfl (fun r1 σ1 h1 => ?_)
  obtain ⟨e1, h1⟩ := h1
  have e1 := e1.symm
  subst e1
  refine go_neB (tgt := 12) (pc' := 9) h1 dX12_taken_6 rfl (by decide) (fun c2 => ?_) (fun c2 => ?_)
  · refine go_aload_n (i := 0) (pc' := 13) dX12_taken_12 rfl rfl rfl ?_
    refine go_iload_n (i := 1) (pc' := 14) dX12_taken_13 rfl rfl rfl ?_
    refine go_cvi (pc' := 17) lk_X12_152 (c_X12_isLetter _ _ _ _) rfl rfl (Nat.le_of_ble_eq_true rfl) (by decide) rfl rfl rfl ⟨Nat.le_of_ble_eq_true rfl, Nat.le_of_ble_eq_true rfl⟩ ⟨rfl, rfl⟩ dX12_taken_14 rfl (fun r3 σ3 h3 => ?_)
    obtain ⟨e3, h3⟩ := h3
    have e3 := e3.symm
    subst e3
    refine go_neB (tgt := 23) (pc' := 20) h3 dX12_taken_17 rfl (by decide) (fun c4 => ?_) (fun c4 => ?_)
    · have gk := ixa_101 ix (a).toNatClampNeg (vinlt (vin_of (n := 12) (by omega) (by omega)))
      refine go_iload_n (i := 2) (pc' := 24) dX12_taken_23 rfl rfl rfl ?_
      refine gz_if_eq (tgt := 52) (pc' := 27) dX12_taken_24 rfl (by decide) (fun c5 => ?_) (fun c5 => ?_)
      · refine go_aload_n (i := 0) (pc' := 53) dX12_taken_52 rfl rfl rfl ?_
        refine gf_13_writer (pc' := 56) dX12_taken_53 rfl fl_X12_29 ?_
        refine go_iload_n (i := 1) (pc' := 57) dX12_taken_56 rfl rfl rfl ?_
        refine go_iald (pc' := 58) dX12_taken_57 rfl (by decide) (by decide) rfl (vin_of (n := 12) (by omega) (by omega)) ?_
        have g6 := ixa_102 ix (a).toNatClampNeg (vinlt (vin_of (n := 12) (by omega) (by omega)))
        refine go_goto (tgt := 63) dX12_taken_58 (by decide) ?_
        exact go_iret dX12_taken_63 rfl (⟨rfl, by first | exact Or.inr (Or.inr (Or.inl ⟨by omega, by omega, by unfold UND; omega, rfl⟩)) | exact Or.inr (Or.inr (Or.inr (⟨by omega, by omega, fun q => by unfold UND at q; omega, rfl⟩)))⟩)
      refine go_iload_n (i := 2) (pc' := 28) dX12_taken_27 rfl rfl rfl ?_
      refine go_aload_n (i := 0) (pc' := 29) dX12_taken_28 rfl rfl rfl ?_
      refine gf_13_kind (pc' := 32) dX12_taken_29 rfl fl_X12_26 ?_
      refine go_iload_n (i := 1) (pc' := 33) dX12_taken_32 rfl rfl rfl ?_
      refine go_iald (pc' := 34) dX12_taken_33 rfl (by decide) (by decide) rfl (vin_of (n := 12) (by omega) (by omega)) ?_
      have g7 := ixa_101 ix (a).toNatClampNeg (vinlt (vin_of (n := 12) (by omega) (by omega)))
      refine gz_icmp_eq (tgt := 52) (pc' := 37) dX12_taken_34 rfl (by decide) (fun c8 => ?_) (fun c8 => ?_)
      · refine go_aload_n (i := 0) (pc' := 53) dX12_taken_52 rfl rfl rfl ?_
        refine gf_13_writer (pc' := 56) dX12_taken_53 rfl fl_X12_29 ?_
        refine go_iload_n (i := 1) (pc' := 57) dX12_taken_56 rfl rfl rfl ?_
        refine go_iald (pc' := 58) dX12_taken_57 rfl (by decide) (by decide) rfl (vin_of (n := 12) (by omega) (by omega)) ?_
        have g9 := ixa_102 ix (a).toNatClampNeg (vinlt (vin_of (n := 12) (by omega) (by omega)))
        refine go_goto (tgt := 63) dX12_taken_58 (by decide) ?_
        exact go_iret dX12_taken_63 rfl (⟨rfl, by first | exact Or.inr (Or.inr (Or.inl ⟨by omega, by omega, by unfold UND; omega, rfl⟩)) | exact Or.inr (Or.inr (Or.inr (⟨by omega, by omega, fun q => by unfold UND at q; omega, rfl⟩)))⟩)
      refine go_iload_n (i := 2) (pc' := 38) dX12_taken_37 rfl rfl rfl ?_
      refine go_iconst (v := 2) (pc' := 39) dX12_taken_38 rfl (by decide) ?_
      refine gz_icmp_ne (tgt := 61) (pc' := 42) dX12_taken_39 rfl (by decide) (fun c10 => ?_) (fun c10 => ?_)
      · refine go_bipush (v := (-13)) (pc' := 63) dX12_taken_61 rfl (by decide) ?_
        exact go_iret dX12_taken_63 rfl (⟨rfl, by first | exact Or.inr (Or.inr (Or.inl ⟨by omega, by omega, by unfold UND; omega, rfl⟩)) | exact Or.inr (Or.inr (Or.inr (⟨by omega, by omega, fun q => by unfold UND at q; omega, rfl⟩)))⟩)
      refine go_aload_n (i := 0) (pc' := 43) dX12_taken_42 rfl rfl rfl ?_
      refine gf_13_kind (pc' := 46) dX12_taken_43 rfl fl_X12_26 ?_
      refine go_iload_n (i := 1) (pc' := 47) dX12_taken_46 rfl rfl rfl ?_
      refine go_iald (pc' := 48) dX12_taken_47 rfl (by decide) (by decide) rfl (vin_of (n := 12) (by omega) (by omega)) ?_
      have g11 := ixa_101 ix (a).toNatClampNeg (vinlt (vin_of (n := 12) (by omega) (by omega)))
      refine go_iconst (v := 5) (pc' := 49) dX12_taken_48 rfl (by decide) ?_
      refine gz_icmp_ne (tgt := 61) (pc' := 52) dX12_taken_49 rfl (by decide) (fun c12 => ?_) (fun c12 => ?_)
      · refine go_bipush (v := (-13)) (pc' := 63) dX12_taken_61 rfl (by decide) ?_
        exact go_iret dX12_taken_63 rfl (⟨rfl, by first | exact Or.inr (Or.inr (Or.inl ⟨by omega, by omega, by unfold UND; omega, rfl⟩)) | exact Or.inr (Or.inr (Or.inr (⟨by omega, by omega, fun q => by unfold UND at q; omega, rfl⟩)))⟩)
      refine go_aload_n (i := 0) (pc' := 53) dX12_taken_52 rfl rfl rfl ?_
      refine gf_13_writer (pc' := 56) dX12_taken_53 rfl fl_X12_29 ?_
      refine go_iload_n (i := 1) (pc' := 57) dX12_taken_56 rfl rfl rfl ?_
      refine go_iald (pc' := 58) dX12_taken_57 rfl (by decide) (by decide) rfl (vin_of (n := 12) (by omega) (by omega)) ?_
      have g13 := ixa_102 ix (a).toNatClampNeg (vinlt (vin_of (n := 12) (by omega) (by omega)))
      refine go_goto (tgt := 63) dX12_taken_58 (by decide) ?_
      exact go_iret dX12_taken_63 rfl (⟨rfl, by first | exact Or.inr (Or.inr (Or.inl ⟨by omega, by omega, by unfold UND; omega, rfl⟩)) | exact Or.inr (Or.inr (Or.inr (⟨by omega, by omega, fun q => by unfold UND at q; omega, rfl⟩)))⟩)
    refine go_bipush (v := (-11)) (pc' := 22) dX12_taken_20 rfl (by decide) ?_
    exact go_iret dX12_taken_22 rfl (⟨rfl, Or.inr (Or.inl ⟨by omega, by omega, rfl⟩)⟩)
  refine go_bipush (v := (-2)) (pc' := 11) dX12_taken_9 rfl (by decide) ?_
  exact go_iret dX12_taken_11 rfl (⟨rfl, Or.inl ⟨by omega, rfl⟩⟩)
set_option maxHeartbeats 4000000 in
set_option maxRecDepth 100000 in
theorem e_X12_count (l : Launch) (L : WL) (σ : ST) (x : Int32) (ix : IV σ) : CtI l L yX12_count cX12_count 4 (some .int) rm_X12_count [.ref (L.2.1 13), .int x] σ (fun r σ2 => σ2 = σ ∧ cntP (σ.1 19) (σ.1 20) (σ.1 21) (σ.1 23) (σ.1 22) (lostN (σ.2 101) (σ.2 108) (σ.1 20).toNatClampNeg) x r) := by
  refine ctI_go (own := RX12) (by decide) rfl (Nat.le_of_ble_eq_true rfl) (fun F hF => ?_)
  subst hF
  have nm2 : (-2 : Int32).toInt = -2 := by decide
  have n0 : (0 : Int32).toInt = 0 := by decide
  have n1 : (1 : Int32).toInt = 1 := by decide
  have n4 : (4 : Int32).toInt = 4 := by decide
  have w0 : WM σ σ := WM_rfl ix
  have u19 := ixi_19 ix
  have u20 := ixi_20 ix
  have u21 := ixi_21 ix
  have u22 := ixi_22 ix
  have u23 := ixi_23 ix
  refine go_iconst (v := 0) (pc' := 1) dX12_count_0 rfl (by decide) ?_
  refine go_istore_n (i := 2) (pc' := 2) dX12_count_1 rfl rfl (by decide) ?_
  refine go_iload_n (i := 1) (pc' := 3) dX12_count_2 rfl rfl rfl ?_
  have hx1 : x = 0 ∨ x = 1 ∨ x = 2 ∨ x = 3 ∨ x = 4 ∨ x = 5 ∨ ¬ (0 ≤ x.toInt ∧ x.toInt ≤ 5) := by
    simp only [← Int32.toInt_inj, Int32.reduceToInt]
    omega
  rcases hx1 with z1 | z1 | z1 | z1 | z1 | z1 | z1
  · refine go_swIn (tgt := 40) dX12_count_3 (by rw [z1]; decide) (by rw [z1]; decide) (by rw [z1]; rfl) (by decide) ?_
    refine go_aload_n (i := 0) (pc' := 41) dX12_count_40 rfl rfl rfl ?_
    refine gf_13_persons (pc' := 44) dX12_count_41 rfl fl_X12_139 ?_
    have g2 := ixi_19 ix
    exact go_iret dX12_count_44 rfl (⟨rfl, Or.inl ⟨by assumption, rfl⟩⟩)
  · refine go_swIn (tgt := 45) dX12_count_3 (by rw [z1]; decide) (by rw [z1]; decide) (by rw [z1]; rfl) (by decide) ?_
    refine go_aload_n (i := 0) (pc' := 46) dX12_count_45 rfl rfl rfl ?_
    refine gf_13_letters (pc' := 49) dX12_count_46 rfl fl_X12_142 ?_
    have g3 := ixi_20 ix
    exact go_iret dX12_count_49 rfl (⟨rfl, Or.inr (Or.inl ⟨by assumption, rfl⟩)⟩)
  · refine go_swIn (tgt := 50) dX12_count_3 (by rw [z1]; decide) (by rw [z1]; decide) (by rw [z1]; rfl) (by decide) ?_
    refine go_aload_n (i := 0) (pc' := 51) dX12_count_50 rfl rfl rfl ?_
    refine gf_13_bounds (pc' := 54) dX12_count_51 rfl fl_X12_155 ?_
    have g4 := ixi_21 ix
    exact go_iret dX12_count_54 rfl (⟨rfl, Or.inr (Or.inr (Or.inl ⟨by assumption, rfl⟩))⟩)
  · refine go_swIn (tgt := 55) dX12_count_3 (by rw [z1]; decide) (by rw [z1]; decide) (by rw [z1]; rfl) (by decide) ?_
    refine go_iconst (v := 0) (pc' := 56) dX12_count_55 rfl (by decide) ?_
    refine go_istore_n (i := 3) (pc' := 57) dX12_count_56 rfl rfl (by decide) ?_
    have loop57_5 : ∀ (dd5 : Nat) (x2_5 : Int32) (x3_5 : Int32), (0 ≤ (x3_5).toInt ∧ (x3_5).toInt ≤ (σ.1 20).toInt) → ((x2_5).toInt = lostN (σ.2 101) (σ.2 108) (x3_5).toNatClampNeg) → (12 - (x3_5).toInt).toNat = dd5 → Go F L RX12 cX12_count 4 rm_X12_count (some .int) (RI F L (fun r σ2 => σ2 = σ ∧ cntP (σ.1 19) (σ.1 20) (σ.1 21) (σ.1 23) (σ.1 22) (lostN (σ.2 101) (σ.2 108) (σ.1 20).toNatClampNeg) x r)) σ 57 [(0, .ref (L.2.1 13)), (1, .int x), (2, .int x2_5), (3, .int x3_5)] [] := by
      intro dd5
      induction dd5 using Nat.strongRecOn with
      | _ dd5 ih5 =>
        intro x2_5 x3_5 h_5 ha_5 hm_5
        refine go_iload_n (i := 3) (pc' := 58) dX12_count_57 rfl rfl rfl ?_
        refine go_aload_n (i := 0) (pc' := 59) dX12_count_58 rfl rfl rfl ?_
        refine gf_13_letters (pc' := 62) dX12_count_59 rfl fl_X12_142 ?_
        have g6 := ixi_20 ix
        refine gz_icmp_ge (tgt := 98) (pc' := 65) dX12_count_62 rfl (by decide) (fun c7 => ?_) (fun c7 => ?_)
        · refine go_iload_n (i := 2) (pc' := 99) dX12_count_98 rfl rfl rfl ?_
          exact go_iret dX12_count_99 rfl (⟨rfl, Or.inr (Or.inr (Or.inr (Or.inl ⟨by assumption, by rw [show (σ.1 20).toNatClampNeg = (x3_5).toNatClampNeg from by rw [Int32.toInt_inj.mp (show (σ.1 20).toInt = (x3_5).toInt by omega)]]; assumption⟩)))⟩)
        refine go_iload_n (i := 2) (pc' := 66) dX12_count_65 rfl rfl rfl ?_
        refine go_aload_n (i := 0) (pc' := 67) dX12_count_66 rfl rfl rfl ?_
        refine gf_13_kind (pc' := 70) dX12_count_67 rfl fl_X12_26 ?_
        refine go_iload_n (i := 3) (pc' := 71) dX12_count_70 rfl rfl rfl ?_
        refine go_iald (pc' := 72) dX12_count_71 rfl (by decide) (by decide) rfl (vin_of (n := 12) (by omega) (by omega)) ?_
        have g8 := ixa_101 ix (x3_5).toNatClampNeg (vinlt (vin_of (n := 12) (by omega) (by omega)))
        refine go_iconst (v := 4) (pc' := 73) dX12_count_72 rfl (by decide) ?_
        have gj := ixa_108 ix (x3_5).toNatClampNeg (vinlt (vin_of (n := 12) (by omega) (by omega)))
        have ra := lostN_rng (σ.2 101) (σ.2 108) (x3_5).toNatClampNeg
        have rb := cnat (x := x3_5) (by omega)
        have mrg90_9 : ∀ (y0_9 : Int32), ((y0_9).toInt = if (σ.2 101 (x3_5).toNatClampNeg).toInt = 4 ∧ (σ.2 108 (x3_5).toNatClampNeg).toInt < 0 then 1 else 0) → Go F L RX12 cX12_count 4 rm_X12_count (some .int) (RI F L (fun r σ2 => σ2 = σ ∧ cntP (σ.1 19) (σ.1 20) (σ.1 21) (σ.1 23) (σ.1 22) (lostN (σ.2 101) (σ.2 108) (σ.1 20).toNatClampNeg) x r)) σ 90 [(0, .ref (L.2.1 13)), (1, .int x), (2, .int x2_5), (3, .int x3_5)] [.int y0_9, .int x2_5] := by
          intro y0_9 hs_9
          refine gz_iadd (pc' := 91) dX12_count_90 rfl (by omega) (fun v10 h10 e10 => ?_)
          refine go_istore_n (i := 2) (pc' := 92) dX12_count_91 rfl rfl (by decide) ?_
          refine gz_iinc (c := 1) (pc' := 95) dX12_count_92 rfl rfl (by decide) (by decide) (by decide) (by omega) (fun v11 h11 e11 => ?_)
          refine go_goto (tgt := 57) dX12_count_95 (by decide) ?_
          exact go_lv (lv' := [(0, .ref (L.2.1 13)), (1, .int x), (2, .int v10), (3, .int v11)]) rfl (ih5 _ (by omega)  v10 v11 (by omega) (lostN_step (by omega) (by omega) ha_5 (by rw [← hs_9]; omega)) rfl)
        refine gz_icmp_ne (tgt := 89) (pc' := 76) dX12_count_73 rfl (by decide) (fun c12 => ?_) (fun c12 => ?_)
        · refine go_iconst (v := 0) (pc' := 90) dX12_count_89 rfl (by decide) ?_
          exact go_lv (lv' := [(0, .ref (L.2.1 13)), (1, .int x), (2, .int x2_5), (3, .int x3_5)]) rfl (mrg90_9  (0 : Int32) (by split <;> omega))
        refine go_aload_n (i := 0) (pc' := 77) dX12_count_76 rfl rfl rfl ?_
        refine gf_13_is (pc' := 80) dX12_count_77 rfl fl_X12_47 ?_
        refine go_iload_n (i := 3) (pc' := 81) dX12_count_80 rfl rfl rfl ?_
        refine go_iald (pc' := 82) dX12_count_81 rfl (by decide) (by decide) rfl (vin_of (n := 12) (by omega) (by omega)) ?_
        have g13 := ixa_108 ix (x3_5).toNatClampNeg (vinlt (vin_of (n := 12) (by omega) (by omega)))
        refine gz_if_ge (tgt := 89) (pc' := 85) dX12_count_82 rfl (by decide) (fun c14 => ?_) (fun c14 => ?_)
        · refine go_iconst (v := 0) (pc' := 90) dX12_count_89 rfl (by decide) ?_
          exact go_lv (lv' := [(0, .ref (L.2.1 13)), (1, .int x), (2, .int x2_5), (3, .int x3_5)]) rfl (mrg90_9  (0 : Int32) (by split <;> omega))
        refine go_iconst (v := 1) (pc' := 86) dX12_count_85 rfl (by decide) ?_
        refine go_goto (tgt := 90) dX12_count_86 (by decide) ?_
        exact go_lv (lv' := [(0, .ref (L.2.1 13)), (1, .int x), (2, .int x2_5), (3, .int x3_5)]) rfl (mrg90_9  (1 : Int32) (by split <;> omega))
    exact go_lv (lv' := [(0, .ref (L.2.1 13)), (1, .int x), (2, .int (0 : Int32)), (3, .int (0 : Int32))]) rfl (loop57_5 _  (0 : Int32) (0 : Int32) (by omega) rfl rfl)
  · refine go_swIn (tgt := 100) dX12_count_3 (by rw [z1]; decide) (by rw [z1]; decide) (by rw [z1]; rfl) (by decide) ?_
    refine go_aload_n (i := 0) (pc' := 101) dX12_count_100 rfl rfl rfl ?_
    refine gf_13_size (pc' := 104) dX12_count_101 rfl fl_X12_215 ?_
    have g15 := ixi_23 ix
    exact go_iret dX12_count_104 rfl (⟨rfl, Or.inr (Or.inr (Or.inr (Or.inr (Or.inl ⟨by assumption, rfl⟩))))⟩)
  · refine go_swIn (tgt := 105) dX12_count_3 (by rw [z1]; decide) (by rw [z1]; decide) (by rw [z1]; rfl) (by decide) ?_
    refine go_aload_n (i := 0) (pc' := 106) dX12_count_105 rfl rfl rfl ?_
    refine gf_13_hands (pc' := 109) dX12_count_106 rfl fl_X12_203 ?_
    have g16 := ixi_22 ix
    exact go_iret dX12_count_109 rfl (⟨rfl, Or.inr (Or.inr (Or.inr (Or.inr (Or.inr (Or.inl ⟨by assumption, rfl⟩)))))⟩)
  · refine go_swOut (tgt := 110) dX12_count_3 (by omega) (by decide) ?_
    refine go_bipush (v := (-2)) (pc' := 112) dX12_count_110 rfl (by decide) ?_
    exact go_iret dX12_count_112 rfl (⟨rfl, Or.inr (Or.inr (Or.inr (Or.inr (Or.inr (Or.inr (⟨by assumption, rfl⟩))))))⟩)
