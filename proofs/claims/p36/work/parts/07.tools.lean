/-! ===== small facts ===== -/
/-- the model's part is as it was / the drawer's part is as it was -/
def KM (σ σ2 : ST) : Prop := (∀ i : Nat, 19 ≤ i → σ2.1 i = σ.1 i) ∧ ∀ k : Nat, 96 ≤ k → σ2.2 k = σ.2 k
theorem KM_rfl (σ : ST) : KM σ σ := ⟨fun _ _ => rfl, fun _ _ => rfl⟩
theorem KM_trans {σ σ2 σ3 : ST} (h : KM σ σ2) (h2 : KM σ2 σ3) : KM σ σ3 := ⟨fun i hi => (h2.1 i hi).trans (h.1 i hi), fun k hk => (h2.2 k hk).trans (h.2 k hk)⟩
theorem KM_setI {σ σ2 : ST} {i : Nat} {v : Int32} (h : KM σ σ2) (hi : i < 19) : KM σ (setI σ2 i v) := ⟨fun a ha => (setI_ne σ2 i v (by omega)).trans (h.1 a ha), fun k hk => h.2 k hk⟩
theorem KM_setA {σ σ2 : ST} {k j : Nat} {v : Int32} (h : KM σ σ2) (hk : k < 96) : KM σ (setA σ2 k j v) := ⟨fun i hi => h.1 i hi, fun a ha => (setA_ne σ2 k j v (by omega)).trans (h.2 a ha)⟩
theorem vin0 {x : Int32} {n : Nat} (h : x = 0) (hn : 0 < n) : vp_in x n := by
  rw [h, vp_in_iff]
  have : (0 : Int32).toInt = 0 := by decide
  omega
theorem nohas {x y : Int32} (h : y = 0) : ¬ (0 ≤ x.toInt ∧ x.toInt < y.toInt) := by
  have h0 : (0 : Int32).toInt = 0 := by decide
  rw [h, h0]
  omega
theorem vin_of {x : Int32} {n : Nat} (h : 0 ≤ x.toInt) (h2 : x.toInt < n) : vp_in x n := vp_in_iff.mpr ⟨h, h2⟩
theorem vinlt {x : Int32} {n : Nat} (h : vp_in x n) : x.toNatClampNeg < n := Nat.not_le.mp fun q => h (Or.inr q)
theorem bq_c {A B : Prop} {r : Int32} (h : A ↔ B) (hB : bq A r) : bq B r := by
  rcases hB with ⟨h1, h2⟩ | ⟨h1, h2⟩
  · exact Or.inl ⟨h1, h.mp h2⟩
  · exact Or.inr ⟨h1, fun z => h2 (h.mpr z)⟩
theorem ush0 {x y : Int32} (h : y = 0) (c : (x.toUInt32 >>> (y.toUInt32 &&& Int32.toUInt32 31)).toInt32 = 0) : x = 0 := by
  subst h
  rw [show ((0 : Int32).toUInt32 &&& Int32.toUInt32 31) = 0 from by decide] at c
  simpa using c
theorem ush1 {x y : Int32} (h : y = 0) (e : x = 0) : (x.toUInt32 >>> (y.toUInt32 &&& Int32.toUInt32 31)).toInt32 = 0 := by
  subst h
  subst e
  decide
theorem i32_sub {a b : Int32} (h : -2147483648 ≤ a.toInt - b.toInt) (h2 : a.toInt - b.toInt < 2147483648) : (a - b).toInt = a.toInt - b.toInt := by
  rw [Int32.toInt_sub]
  exact Int.bmod_eq_of_le (by omega) (by omega)
theorem i32_add {a b : Int32} (h : -2147483648 ≤ a.toInt + b.toInt) (h2 : a.toInt + b.toInt < 2147483648) : (a + b).toInt = a.toInt + b.toInt := by
  rw [Int32.toInt_add]
  exact Int.bmod_eq_of_le (by omega) (by omega)
theorem i32_mul {a b : Int32} (h : -2147483648 ≤ a.toInt * b.toInt) (h2 : a.toInt * b.toInt < 2147483648) : (a * b).toInt = a.toInt * b.toInt := by
  rw [Int32.toInt_mul]
  exact Int.bmod_eq_of_le (by omega) (by omega)
theorem vin6 {a b : Int32} (ha : 0 ≤ a.toInt ∧ a.toInt < 6) (hb : 0 ≤ b.toInt ∧ b.toInt < 6) : vp_in (6 * a + b) 36 := by
  have h6 : (6 : Int32).toInt = 6 := by decide
  have e1 : (6 * a).toInt = 6 * a.toInt := by rw [i32_mul (by rw [h6]; omega) (by rw [h6]; omega), h6]
  have e2 : (6 * a + b).toInt = 6 * a.toInt + b.toInt := by rw [i32_add (by rw [e1]; omega) (by rw [e1]; omega), e1]
  rw [vp_in_iff, e2]
  omega
theorem vin60 {a : Int32} {i : Nat} (ha : 0 ≤ a.toInt ∧ a.toInt < 4) (hi : i < 60) : vp_in (60 * a + nI i) 240 := by
  have h6 : (60 : Int32).toInt = 60 := by decide
  have hn : (nI i).toInt = i := nI_toInt (by omega)
  have e1 : (60 * a).toInt = 60 * a.toInt := by rw [i32_mul (by rw [h6]; omega) (by rw [h6]; omega), h6]
  have e2 : (60 * a + nI i).toInt = 60 * a.toInt + i := by rw [i32_add (by rw [e1, hn]; omega) (by rw [e1, hn]; omega), e1, hn]
  rw [vp_in_iff, e2]
  omega
theorem sub1c (n K : Int32) : (0 ≤ (n - 1).toInt ∧ (n - 1).toInt < K.toInt) ↔ (1 ≤ n.toInt ∧ n.toInt ≤ K.toInt) := by
  have h1 : (1 : Int32).toInt = 1 := by decide
  have a1 := Int32.le_toInt n
  have a2 := Int32.toInt_lt n
  have b2 := Int32.toInt_lt K
  by_cases h : n.toInt = -2147483648
  · have e : (n - 1).toInt = 2147483647 := by
      rw [Int32.toInt_sub, h, h1]
      decide
    rw [e]
    omega
  · rw [i32_sub (by omega) (by omega), h1]
    omega
theorem rowt_56 {j : Nat} (h : j < 12) : aty (56 + j) = .byte := (show ∀ m : Nat, m < 12 → aty (56 + m) = .byte by decide) j h
theorem rowl_56 {j : Nat} (h : j < 12) : alen (56 + j) = 160 := (show ∀ m : Nat, m < 12 → alen (56 + m) = 160 by decide) j h
theorem rowt_68 {j : Nat} (h : j < 12) : aty (68 + j) = .int := (show ∀ m : Nat, m < 12 → aty (68 + m) = .int by decide) j h
theorem rowl_68 {j : Nat} (h : j < 12) : alen (68 + j) = 12 := (show ∀ m : Nat, m < 12 → alen (68 + m) = 12 by decide) j h
theorem rowt_80 {j : Nat} (h : j < 6) : aty (80 + j) = .int := (show ∀ m : Nat, m < 6 → aty (80 + m) = .int by decide) j h
theorem rowl_80 {j : Nat} (h : j < 6) : alen (80 + j) = 6 := (show ∀ m : Nat, m < 6 → alen (80 + m) = 6 by decide) j h
theorem rowt_86 {j : Nat} (h : j < 6) : aty (86 + j) = .int := (show ∀ m : Nat, m < 6 → aty (86 + m) = .int by decide) j h
theorem rowl_86 {j : Nat} (h : j < 6) : alen (86 + j) = 6 := (show ∀ m : Nat, m < 6 → alen (86 + m) = 6 by decide) j h
theorem rowt_92 {j : Nat} (h : j < 4) : aty (92 + j) = .byte := (show ∀ m : Nat, m < 4 → aty (92 + m) = .byte by decide) j h
theorem rowl_92 {j : Nat} (h : j < 4) : alen (92 + j) = 60 := (show ∀ m : Nat, m < 4 → alen (92 + m) = 60 by decide) j h
abbrev rm_X0_init : Room := { frames := 1, cells := 0, slots := 0, locals := 21 }
abbrev rm_X0_isShift : Room := { frames := 0, cells := 0, slots := 0, locals := 0 }
abbrev rm_X0_add : Room := { frames := 0, cells := 0, slots := 0, locals := 0 }
abbrev rm_X0_removeLast : Room := { frames := 0, cells := 0, slots := 0, locals := 0 }
abbrev rm_X0_settle : Room := { frames := 5, cells := 0, slots := 0, locals := 114 }
abbrev rm_X0_conflict : Room := { frames := 5, cells := 0, slots := 0, locals := 114 }
abbrev rm_X0_isAhead : Room := { frames := 0, cells := 0, slots := 0, locals := 0 }
abbrev rm_X0_measurePaths : Room := { frames := 2, cells := 0, slots := 0, locals := 45 }
abbrev rm_X0_joinPaths : Room := { frames := 1, cells := 0, slots := 0, locals := 21 }
abbrev rm_X0_allBounds : Room := { frames := 0, cells := 0, slots := 0, locals := 0 }
abbrev rm_X0_isPossible : Room := { frames := 4, cells := 0, slots := 0, locals := 91 }
abbrev rm_X0_joinFound : Room := { frames := 2, cells := 0, slots := 0, locals := 43 }
abbrev rm_X0_raiseLows : Room := { frames := 3, cells := 0, slots := 0, locals := 66 }
abbrev rm_X0_raiseBy : Room := { frames := 2, cells := 0, slots := 0, locals := 43 }
abbrev rm_X0_isOrdered : Room := { frames := 0, cells := 0, slots := 0, locals := 0 }
abbrev rm_X0_sinkHighs : Room := { frames := 3, cells := 0, slots := 0, locals := 66 }
abbrev rm_X0_sinkBy : Room := { frames := 2, cells := 0, slots := 0, locals := 43 }
abbrev rm_X0_dayFrom : Room := { frames := 1, cells := 0, slots := 0, locals := 22 }
abbrev rm_X0_dayUpTo : Room := { frames := 1, cells := 0, slots := 0, locals := 22 }
abbrev rm_X1_init : Room := { frames := 1, cells := 0, slots := 0, locals := 21 }
abbrev rm_X1_find : Room := { frames := 0, cells := 0, slots := 0, locals := 0 }
abbrev rm_X1_put : Room := { frames := 1, cells := 0, slots := 0, locals := 23 }
abbrev rm_X2_init : Room := { frames := 1, cells := 0, slots := 0, locals := 21 }
abbrev rm_X2_isKind : Room := { frames := 0, cells := 0, slots := 0, locals := 0 }
abbrev rm_X2_isUnder : Room := { frames := 1, cells := 0, slots := 0, locals := 20 }
abbrev rm_X2_has : Room := { frames := 0, cells := 0, slots := 0, locals := 0 }
abbrev rm_X2_add : Room := { frames := 0, cells := 0, slots := 0, locals := 0 }
abbrev rm_X2_isLost : Room := { frames := 0, cells := 0, slots := 0, locals := 0 }
abbrev rm_X2_stillLost : Room := { frames := 1, cells := 0, slots := 0, locals := 21 }
abbrev rm_X2_isReader : Room := { frames := 0, cells := 0, slots := 0, locals := 0 }
abbrev rm_X2_write : Room := { frames := 1, cells := 0, slots := 0, locals := 21 }
abbrev rm_X3_init : Room := { frames := 1, cells := 0, slots := 0, locals := 21 }
abbrev rm_X3_begin : Room := { frames := 0, cells := 0, slots := 0, locals := 0 }
abbrev rm_X3_isWhole : Room := { frames := 0, cells := 0, slots := 0, locals := 0 }
abbrev rm_X3_take : Room := { frames := 2, cells := 0, slots := 0, locals := 44 }
abbrev rm_X3_takeText : Room := { frames := 1, cells := 0, slots := 0, locals := 21 }
abbrev rm_X3_takeSort : Room := { frames := 1, cells := 0, slots := 0, locals := 22 }
abbrev rm_X3_takeNumber : Room := { frames := 1, cells := 0, slots := 0, locals := 21 }
abbrev rm_X3_openMark : Room := { frames := 0, cells := 0, slots := 0, locals := 0 }
abbrev rm_X3_stopAt : Room := { frames := 0, cells := 0, slots := 0, locals := 0 }
abbrev rm_X3_isOpen : Room := { frames := 0, cells := 0, slots := 0, locals := 0 }
abbrev rm_X3_isLetter : Room := { frames := 0, cells := 0, slots := 0, locals := 0 }
abbrev rm_X3_isSort : Room := { frames := 0, cells := 0, slots := 0, locals := 0 }
abbrev rm_X4_init : Room := { frames := 1, cells := 0, slots := 0, locals := 21 }
abbrev rm_X4_has : Room := { frames := 0, cells := 0, slots := 0, locals := 0 }
abbrev rm_X4_add : Room := { frames := 0, cells := 0, slots := 0, locals := 0 }
abbrev rm_X4_acquaint : Room := { frames := 0, cells := 0, slots := 0, locals := 0 }
abbrev rm_X4_knownBy : Room := { frames := 2, cells := 0, slots := 0, locals := 44 }
abbrev rm_X4_onlyOne : Room := { frames := 0, cells := 0, slots := 0, locals := 0 }
abbrev rm_X4_isAlive : Room := { frames := 1, cells := 0, slots := 0, locals := 21 }
abbrev rm_X5_init : Room := { frames := 1, cells := 0, slots := 0, locals := 21 }
abbrev rm_X5_isTime : Room := { frames := 0, cells := 0, slots := 0, locals := 0 }
abbrev rm_X6_init : Room := { frames := 1, cells := 0, slots := 0, locals := 21 }
abbrev rm_X6_render : Room := { frames := 3, cells := 0, slots := 0, locals := 66 }
abbrev rm_X6_isHidden : Room := { frames := 0, cells := 0, slots := 0, locals := 0 }
abbrev rm_X6_addMark : Room := { frames := 2, cells := 0, slots := 0, locals := 43 }
abbrev rm_X6_addNumber : Room := { frames := 1, cells := 0, slots := 0, locals := 21 }
abbrev rm_X6_add : Room := { frames := 0, cells := 0, slots := 0, locals := 0 }
abbrev rm_X7_init : Room := { frames := 1, cells := 0, slots := 0, locals := 21 }
abbrev rm_X7_arrange : Room := { frames := 2, cells := 0, slots := 0, locals := 45 }
abbrev rm_X7_collect : Room := { frames := 0, cells := 0, slots := 0, locals := 0 }
abbrev rm_X7_isFree : Room := { frames := 1, cells := 0, slots := 0, locals := 22 }
abbrev rm_X7_sort : Room := { frames := 0, cells := 0, slots := 0, locals := 0 }
abbrev rm_X8_init : Room := { frames := 1, cells := 0, slots := 0, locals := 21 }
abbrev rm_X8_add : Room := { frames := 0, cells := 0, slots := 0, locals := 0 }
abbrev rm_X9_init : Room := { frames := 1, cells := 0, slots := 0, locals := 21 }
abbrev rm_X9_has : Room := { frames := 0, cells := 0, slots := 0, locals := 0 }
abbrev rm_X9_hasCell : Room := { frames := 0, cells := 0, slots := 0, locals := 0 }
abbrev rm_X9_empty : Room := { frames := 0, cells := 0, slots := 0, locals := 0 }
abbrev rm_X10_init : Room := { frames := 1, cells := 0, slots := 0, locals := 21 }
abbrev rm_X10_split : Room := { frames := 1, cells := 0, slots := 0, locals := 20 }
abbrev rm_X10_stepsTo : Room := { frames := 1, cells := 0, slots := 0, locals := 25 }
abbrev rm_X10_isAlike : Room := { frames := 0, cells := 0, slots := 0, locals := 0 }
abbrev rm_X11_init : Room := { frames := 2, cells := 0, slots := 0, locals := 43 }
abbrev rm_X11_person : Room := { frames := 1, cells := 0, slots := 0, locals := 22 }
abbrev rm_X11_lived : Room := { frames := 1, cells := 0, slots := 0, locals := 21 }
abbrev rm_X11_knows : Room := { frames := 1, cells := 0, slots := 0, locals := 25 }
abbrev rm_X11_letter : Room := { frames := 1, cells := 0, slots := 0, locals := 24 }
abbrev rm_X11_told : Room := { frames := 1, cells := 0, slots := 0, locals := 21 }
abbrev rm_X11_days : Room := { frames := 1, cells := 0, slots := 0, locals := 21 }
abbrev rm_X11_week : Room := { frames := 1, cells := 0, slots := 0, locals := 21 }
abbrev rm_X11_bound : Room := { frames := 1, cells := 0, slots := 0, locals := 23 }
abbrev rm_X11_loose : Room := { frames := 1, cells := 0, slots := 0, locals := 20 }
abbrev rm_X11_found : Room := { frames := 1, cells := 0, slots := 0, locals := 21 }
abbrev rm_X11_lose : Room := { frames := 1, cells := 0, slots := 0, locals := 21 }
abbrev rm_X11_span : Room := { frames := 6, cells := 0, slots := 0, locals := 136 }
abbrev rm_X11_clash : Room := { frames := 6, cells := 0, slots := 0, locals := 138 }
abbrev rm_X11_before : Room := { frames := 6, cells := 0, slots := 0, locals := 136 }
abbrev rm_X11_post : Room := { frames := 1, cells := 0, slots := 0, locals := 20 }
abbrev rm_X11_read : Room := { frames := 6, cells := 0, slots := 0, locals := 136 }
abbrev rm_X11_reads : Room := { frames := 6, cells := 0, slots := 0, locals := 136 }
abbrev rm_X11_means : Room := { frames := 7, cells := 0, slots := 0, locals := 161 }
abbrev rm_X11_who : Room := { frames := 7, cells := 0, slots := 0, locals := 161 }
abbrev rm_X11_hand : Room := { frames := 2, cells := 0, slots := 0, locals := 47 }
abbrev rm_X11_feed : Room := { frames := 1, cells := 0, slots := 0, locals := 21 }
abbrev rm_X11_text : Room := { frames := 4, cells := 0, slots := 0, locals := 88 }
abbrev rm_X11_fault : Room := { frames := 0, cells := 0, slots := 0, locals := 0 }
abbrev rm_X11_print : Room := { frames := 5, cells := 0, slots := 0, locals := 117 }
abbrev rm_X11_printed : Room := { frames := 5, cells := 0, slots := 0, locals := 117 }
abbrev rm_X11_words : Room := { frames := 6, cells := 0, slots := 0, locals := 139 }
abbrev rm_X11_differ : Room := { frames := 6, cells := 0, slots := 0, locals := 139 }
abbrev rm_X11_note : Room := { frames := 3, cells := 0, slots := 0, locals := 66 }
abbrev rm_X11_jumps : Room := { frames := 7, cells := 0, slots := 0, locals := 157 }
abbrev rm_X11_order : Room := { frames := 7, cells := 0, slots := 0, locals := 157 }
abbrev rm_X11_count : Room := { frames := 2, cells := 0, slots := 0, locals := 43 }
abbrev rm_X11_tray : Room := { frames := 1, cells := 0, slots := 0, locals := 23 }
abbrev rm_X11_cell : Room := { frames := 1, cells := 0, slots := 0, locals := 22 }
abbrev rm_X11_lay : Room := { frames := 1, cells := 0, slots := 0, locals := 22 }
abbrev rm_X11_taken : Room := { frames := 2, cells := 0, slots := 0, locals := 43 }
abbrev rm_X11_isDay : Room := { frames := 0, cells := 0, slots := 0, locals := 0 }
abbrev rm_X11_isName : Room := { frames := 0, cells := 0, slots := 0, locals := 0 }
abbrev rm_X11_isPlace : Room := { frames := 0, cells := 0, slots := 0, locals := 0 }
abbrev rm_X11_isReading : Room := { frames := 1, cells := 0, slots := 0, locals := 21 }
abbrev rm_X11_isPrinting : Room := { frames := 1, cells := 0, slots := 0, locals := 21 }
abbrev rm_X11_isOrderable : Room := { frames := 1, cells := 0, slots := 0, locals := 20 }
abbrev rm_X11_hasRead : Room := { frames := 1, cells := 0, slots := 0, locals := 22 }
abbrev rm_X11_meant : Room := { frames := 6, cells := 0, slots := 0, locals := 136 }
abbrev rm_X11_examineTape : Room := { frames := 3, cells := 0, slots := 0, locals := 66 }
abbrev rm_X11_printText : Room := { frames := 4, cells := 0, slots := 0, locals := 94 }
abbrev rm_X11_readWords : Room := { frames := 5, cells := 0, slots := 0, locals := 117 }
abbrev rm_X11_arrange : Room := { frames := 6, cells := 0, slots := 0, locals := 136 }
abbrev rm_X12_init : Room := { frames := 1, cells := 0, slots := 0, locals := 21 }
abbrev rm_X12_isIn : Room := { frames := 0, cells := 0, slots := 0, locals := 0 }
abbrev rm_X12_isDay : Room := { frames := 1, cells := 0, slots := 0, locals := 21 }
abbrev rm_X12_isPerson : Room := { frames := 1, cells := 0, slots := 0, locals := 21 }
abbrev rm_X12_isLetter : Room := { frames := 1, cells := 0, slots := 0, locals := 21 }
abbrev rm_X12_person : Room := { frames := 1, cells := 0, slots := 0, locals := 21 }
abbrev rm_X12_lived : Room := { frames := 2, cells := 0, slots := 0, locals := 42 }
abbrev rm_X12_knows : Room := { frames := 2, cells := 0, slots := 0, locals := 42 }
abbrev rm_X12_letter : Room := { frames := 2, cells := 0, slots := 0, locals := 42 }
abbrev rm_X12_told : Room := { frames := 2, cells := 0, slots := 0, locals := 42 }
abbrev rm_X12_days : Room := { frames := 2, cells := 0, slots := 0, locals := 42 }
abbrev rm_X12_week : Room := { frames := 2, cells := 0, slots := 0, locals := 42 }
abbrev rm_X12_bound : Room := { frames := 2, cells := 0, slots := 0, locals := 42 }
abbrev rm_X12_loose : Room := { frames := 0, cells := 0, slots := 0, locals := 0 }
abbrev rm_X12_found : Room := { frames := 2, cells := 0, slots := 0, locals := 42 }
abbrev rm_X12_lose : Room := { frames := 2, cells := 0, slots := 0, locals := 42 }
abbrev rm_X12_raise : Room := { frames := 0, cells := 0, slots := 0, locals := 0 }
abbrev rm_X12_sink : Room := { frames := 1, cells := 0, slots := 0, locals := 22 }
abbrev rm_X12_clashes : Room := { frames := 2, cells := 0, slots := 0, locals := 45 }
abbrev rm_X12_clashAll : Room := { frames := 3, cells := 0, slots := 0, locals := 67 }
abbrev rm_X12_span : Room := { frames := 4, cells := 0, slots := 0, locals := 87 }
abbrev rm_X12_clash : Room := { frames := 4, cells := 0, slots := 0, locals := 87 }
abbrev rm_X12_leads : Room := { frames := 1, cells := 0, slots := 0, locals := 21 }
abbrev rm_X12_findWays : Room := { frames := 2, cells := 0, slots := 0, locals := 44 }
abbrev rm_X12_isBefore : Room := { frames := 0, cells := 0, slots := 0, locals := 0 }
abbrev rm_X12_before : Room := { frames := 4, cells := 0, slots := 0, locals := 87 }
abbrev rm_X12_post : Room := { frames := 1, cells := 0, slots := 0, locals := 21 }
abbrev rm_X12_hasRead : Room := { frames := 0, cells := 0, slots := 0, locals := 0 }
abbrev rm_X12_read : Room := { frames := 4, cells := 0, slots := 0, locals := 87 }
abbrev rm_X12_reads : Room := { frames := 4, cells := 0, slots := 0, locals := 87 }
abbrev rm_X12_handOf : Room := { frames := 0, cells := 0, slots := 0, locals := 0 }
abbrev rm_X12_meansOf : Room := { frames := 4, cells := 0, slots := 0, locals := 87 }
abbrev rm_X12_means : Room := { frames := 5, cells := 0, slots := 0, locals := 114 }
abbrev rm_X12_who : Room := { frames := 5, cells := 0, slots := 0, locals := 114 }
abbrev rm_X12_hand : Room := { frames := 2, cells := 0, slots := 0, locals := 42 }
abbrev rm_X12_feed : Room := { frames := 1, cells := 0, slots := 0, locals := 21 }
abbrev rm_X12_isDigit : Room := { frames := 0, cells := 0, slots := 0, locals := 0 }
abbrev rm_X12_isPlain : Room := { frames := 0, cells := 0, slots := 0, locals := 0 }
abbrev rm_X12_isSort : Room := { frames := 0, cells := 0, slots := 0, locals := 0 }
abbrev rm_X12_isOpen : Room := { frames := 0, cells := 0, slots := 0, locals := 0 }
abbrev rm_X12_digits : Room := { frames := 1, cells := 0, slots := 0, locals := 20 }
abbrev rm_X12_wrongAt : Room := { frames := 2, cells := 0, slots := 0, locals := 43 }
abbrev rm_X12_numberAt : Room := { frames := 1, cells := 0, slots := 0, locals := 20 }
abbrev rm_X12_text : Room := { frames := 3, cells := 0, slots := 0, locals := 67 }
abbrev rm_X12_fault : Room := { frames := 0, cells := 0, slots := 0, locals := 0 }
abbrev rm_X12_puts : Room := { frames := 0, cells := 0, slots := 0, locals := 0 }
abbrev rm_X12_number : Room := { frames := 1, cells := 0, slots := 0, locals := 21 }
abbrev rm_X12_prints : Room := { frames := 2, cells := 0, slots := 0, locals := 44 }
abbrev rm_X12_opens : Room := { frames := 1, cells := 0, slots := 0, locals := 21 }
abbrev rm_X12_closes : Room := { frames := 1, cells := 0, slots := 0, locals := 21 }
abbrev rm_X12_print : Room := { frames := 3, cells := 0, slots := 0, locals := 73 }
abbrev rm_X12_printed : Room := { frames := 3, cells := 0, slots := 0, locals := 73 }
abbrev rm_X12_findWords : Room := { frames := 3, cells := 0, slots := 0, locals := 73 }
abbrev rm_X12_words : Room := { frames := 4, cells := 0, slots := 0, locals := 98 }
abbrev rm_X12_isSame : Room := { frames := 0, cells := 0, slots := 0, locals := 0 }
abbrev rm_X12_differ : Room := { frames := 4, cells := 0, slots := 0, locals := 98 }
abbrev rm_X12_note : Room := { frames := 2, cells := 0, slots := 0, locals := 42 }
abbrev rm_X12_finds : Room := { frames := 4, cells := 0, slots := 0, locals := 87 }
abbrev rm_X12_may : Room := { frames := 1, cells := 0, slots := 0, locals := 22 }
abbrev rm_X12_jump : Room := { frames := 1, cells := 0, slots := 0, locals := 21 }
abbrev rm_X12_rest : Room := { frames := 2, cells := 0, slots := 0, locals := 45 }
abbrev rm_X12_leastOf : Room := { frames := 2, cells := 0, slots := 0, locals := 45 }
abbrev rm_X12_jumps : Room := { frames := 5, cells := 0, slots := 0, locals := 111 }
abbrev rm_X12_order : Room := { frames := 5, cells := 0, slots := 0, locals := 111 }
abbrev rm_X12_count : Room := { frames := 0, cells := 0, slots := 0, locals := 0 }
abbrev rm_X12_tray : Room := { frames := 1, cells := 0, slots := 0, locals := 21 }
abbrev rm_X12_cell : Room := { frames := 1, cells := 0, slots := 0, locals := 21 }
abbrev rm_X12_lay : Room := { frames := 1, cells := 0, slots := 0, locals := 21 }
abbrev rm_X12_taken : Room := { frames := 2, cells := 0, slots := 0, locals := 42 }
abbrev rm_J6_bitCount_0f7a4 : Room := { frames := 0, cells := 0, slots := 0, locals := 0 }
abbrev rm_J9_floorMod_7cf53 : Room := { frames := 0, cells := 0, slots := 0, locals := 0 }
