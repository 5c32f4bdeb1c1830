/-! ===== the fixed world: what the heap is between the constructors and the law's end; cells by number, contents by a pair of functions ===== -/
abbrev ST : Type := (Nat → Int32) × (Nat → Nat → Int32)
abbrev WL : Type := va_G × (Nat → Nat) × (Nat → ClassId)
def xlens : List Nat := [10, 10, 10, 10, 10, 12, 12, 12, 12, 12, 12, 12, 12, 12, 12, 12, 20, 20, 20, 12, 12, 10, 10, 10, 160, 4, 160, 160, 80, 80, 81, 160, 80, 80, 81, 8, 4, 160, 160, 160, 160, 160, 160, 160, 160, 160, 160, 160, 160, 12, 12, 12, 12, 12, 12, 12, 12, 12, 12, 12, 12, 6, 6, 6, 6, 6, 6, 6, 6, 6, 6, 6, 6, 60, 60, 60, 60, 10, 10, 10, 10, 100, 12, 12, 12, 12, 12, 12, 12, 12, 12, 1920, 20, 20, 20, 36, 36, 10, 10, 10, 160, 12, 12, 144, 5, 320, 161, 320, 320, 320, 2, 161, 161, 8, 2048, 4, 240]
def alen (k : Nat) : Nat := xlens.getD (k - 19) 0
def xtys : List FieldType := [.array .byte, .array .int, .array .int, .array .int, .array .byte, .int, .int, .int, .int, .int, .int, .int, .int, .int, .int, .int, .int, .int, .int, .int, .int, .int, .int, .int, .int, .int, .int, .int, .int, .byte, .int, .byte, .byte, .int, .int, .int, .byte, .int, .int, .int, .int, .int, .byte, .byte, .byte, .byte, .byte, .byte, .byte, .byte, .byte, .byte, .byte, .byte, .int, .int, .int, .int, .int, .int, .int, .int, .int, .int, .int, .int, .int, .int, .int, .int, .int, .int, .int, .int, .int, .int, .int, .int, .byte, .byte, .byte, .byte, .int, .int, .int, .int, .boolean, .int, .int, .int, .int, .int, .int, .int, .int, .int, .int, .int, .int, .int, .int, .int, .int, .int, .int, .int, .int, .int, .int, .int, .int, .int, .int, .int, .int, .int, .int, .int, .int, .int, .int, .int]
def aty (k : Nat) : FieldType := xtys.getD (k - 14) .int
def xob (ad : Nat → Nat) (i : Nat → Int32) (k : Nat) : va_E := match k with
  | 0 => .inr (11, [.ref (ad 1), .ref (ad 2), .ref (ad 3), .ref (ad 4), .ref (ad 5), .ref (ad 6), .ref (ad 7), .ref (ad 8), .ref (ad 9), .ref (ad 10), .ref (ad 11), .ref (ad 12), .int (i 0), .int (i 1)])
  | 1 => .inr (4, [.ref (ad 19), .ref (ad 20), .ref (ad 21), .ref (ad 22), .ref (ad 23), .int (i 2)])
  | 2 => .inr (2, [.ref (ad 24), .ref (ad 25), .ref (ad 26), .ref (ad 27), .ref (ad 28), .ref (ad 29), .ref (ad 30), .ref (ad 31), .ref (ad 32), .ref (ad 14), .int (i 3)])
  | 3 => .inr (0, [.ref (ad 33), .ref (ad 34), .int (i 4), .ref (ad 35), .ref (ad 36), .ref (ad 37), .ref (ad 38), .ref (ad 39), .ref (ad 15)])
  | 4 => .inr (5, [.ref (ad 16), .ref (ad 17)])
  | 5 => .inr (1, [.ref (ad 40), .int (i 5), .ref (ad 41), .ref (ad 42)])
  | 6 => .inr (8, [.ref (ad 43), .int (i 6)])
  | 7 => .inr (3, [.int (i 7), .int (i 8), .int (i 9), .int (i 10), .int (i 11), .ref (ad 44), .int (i 12), .int (i 13)])
  | 8 => .inr (6, [.ref (ad 45), .int (i 14)])
  | 9 => .inr (10, [.int (i 15), .ref (ad 46), .ref (ad 47), .ref (ad 48), .ref (ad 49)])
  | 10 => .inr (10, [.int (i 16), .ref (ad 50), .ref (ad 51), .ref (ad 52), .ref (ad 53)])
  | 11 => .inr (7, [.ref (ad 54), .int (i 17), .int (i 18)])
  | 12 => .inr (9, [.ref (ad 18), .ref (ad 55)])
  | 13 => .inr (12, [.int (i 19), .int (i 20), .int (i 21), .int (i 22), .int (i 23), .ref (ad 96), .ref (ad 97), .ref (ad 98), .ref (ad 99), .ref (ad 100), .ref (ad 101), .ref (ad 102), .ref (ad 103), .ref (ad 104), .ref (ad 105), .ref (ad 106), .ref (ad 107), .ref (ad 108), .ref (ad 109), .ref (ad 110), .ref (ad 111), .ref (ad 112), .ref (ad 113), .ref (ad 114), .ref (ad 115), .ref (ad 116), .ref (ad 117), .ref (ad 118), .ref (ad 119), .ref (ad 120), .ref (ad 121), .int (i 24), .ref (ad 122), .int (i 25), .int (i 26), .int (i 27), .int (i 28), .ref (ad 123), .ref (ad 124), .ref (ad 125), .int (i 29), .ref (ad 126), .ref (ad 127), .ref (ad 128), .ref (ad 129), .ref (ad 130), .ref (ad 131), .ref (ad 132), .ref (ad 133), .int (i 30), .ref (ad 134), .ref (ad 135)])
  | _ => .inr (0, [])
/-- the rows of an outer array: how many, the first one -/
def xon (k : Nat) : Nat := match k with
  | 14 => 12
  | 15 => 12
  | 16 => 6
  | 17 => 6
  | 18 => 4
  | _ => 0
def xof (k : Nat) : Nat := match k with
  | 14 => 56
  | 15 => 68
  | 16 => 80
  | 17 => 86
  | 18 => 92
  | _ => 0
def cellOf (L : WL) (σ : ST) (k : Nat) : va_E := if k < 14 then xob L.2.1 σ.1 k else if k < 19 then .inl (L.2.2 k, xon k, .inr (.inr (.inr (.inr (fun j => if j < xon k then some (L.2.1 (xof k + j)) else none))))) else .inl (L.2.2 k, alen k, .inl (σ.2 k))
def xw (L : WL) (σ : ST) : va_W := (List.range 136).map (fun k => (L.2.1 k, cellOf L σ k))
def tysOf (L : WL) : List (ClassId × FieldType) := (List.range 122).map (fun j => (L.2.2 (14 + j), aty (14 + j)))
def setI (σ : ST) (i : Nat) (v : Int32) : ST := (upd σ.1 i v, σ.2)
def setA (σ : ST) (k j : Nat) (v : Int32) : ST := (σ.1, fun a => if a = k then upd (σ.2 k) j v else σ.2 a)
theorem xw_get (L : WL) (σ : ST) {k : Nat} (h : k < 136) : (xw L σ)[k]? = some (L.2.1 k, cellOf L σ k) := by simp [xw, h]
theorem xw_len (L : WL) (σ : ST) : (xw L σ).length = 136 := by simp [xw]
theorem xw_set {L : WL} {σ σ' : ST} {k : Nat} {e : va_E} (h : k < 136) (he : cellOf L σ' k = e) (ho : ∀ j : Nat, j ≠ k → cellOf L σ' j = cellOf L σ j) : (xw L σ).set k (L.2.1 k, e) = xw L σ' := by
  apply List.ext_getElem?
  intro j
  by_cases hj : j < 136
  · rw [xw_get L σ' hj]
    by_cases e1 : j = k
    · subst e1
      rw [List.getElem?_set_self (by rw [xw_len]; exact h), he]
    · rw [List.getElem?_set_ne (fun q => e1 q.symm), xw_get L σ hj, ho j e1]
  · rw [List.getElem?_eq_none (by rw [List.length_set, xw_len]; omega), List.getElem?_eq_none (by rw [xw_len]; omega)]
theorem tys_get (L : WL) {k : Nat} (h : 14 ≤ k) (h2 : k < 136) : (tysOf L)[k - 14]? = some (L.2.2 k, aty k) := by
  have h3 : k - 14 < 122 := by omega
  have h4 : 14 + (k - 14) = k := by omega
  simp [tysOf, h3, h4]
theorem cell_arr (L : WL) (σ : ST) {k : Nat} (h : 19 ≤ k) : cellOf L σ k = .inl (L.2.2 k, alen k, .inl (σ.2 k)) := by
  unfold cellOf
  rw [if_neg (by omega), if_neg (by omega)]
theorem cell_out (L : WL) (σ : ST) {k : Nat} (h : 14 ≤ k) (h2 : k < 19) : cellOf L σ k = .inl (L.2.2 k, xon k, .inr (.inr (.inr (.inr (fun j => if j < xon k then some (L.2.1 (xof k + j)) else none))))) := by
  unfold cellOf
  rw [if_neg (by omega), if_pos h2]
theorem cell_obj (L : WL) (σ : ST) {k : Nat} (h : k < 14) : cellOf L σ k = xob L.2.1 σ.1 k := by
  unfold cellOf
  rw [if_pos h]
theorem cell_setA (L : WL) (σ : ST) (k j : Nat) (v : Int32) (h : 19 ≤ k) : ∀ a : Nat, a ≠ k → cellOf L (setA σ k j v) a = cellOf L σ a := by
  intro a ha
  unfold cellOf setA
  by_cases h1 : a < 14
  · rw [if_pos h1, if_pos h1]
  · rw [if_neg h1, if_neg h1]
    by_cases h2 : a < 19
    · rw [if_pos h2, if_pos h2]
    · rw [if_neg h2, if_neg h2]
      simp only [if_neg ha]
theorem setA_same (σ : ST) (k j : Nat) (v : Int32) : (setA σ k j v).2 k = upd (σ.2 k) j v := if_pos rfl
theorem setA_ne (σ : ST) (k j : Nat) (v : Int32) {a : Nat} (h : a ≠ k) : (setA σ k j v).2 a = σ.2 a := if_neg h
theorem setA_1 (σ : ST) (k j : Nat) (v : Int32) : (setA σ k j v).1 = σ.1 := rfl
theorem setI_2 (σ : ST) (i : Nat) (v : Int32) : (setI σ i v).2 = σ.2 := rfl
theorem setI_same (σ : ST) (i : Nat) (v : Int32) : (setI σ i v).1 i = v := if_pos rfl
theorem setI_ne (σ : ST) (i : Nat) (v : Int32) {a : Nat} (h : a ≠ i) : (setI σ i v).1 a = σ.1 a := if_neg h
/-- the object that holds the int i -/
def xown (i : Nat) : Nat := match i with
  | 0 => 0
  | 1 => 0
  | 2 => 1
  | 3 => 2
  | 4 => 3
  | 5 => 5
  | 6 => 6
  | 7 => 7
  | 8 => 7
  | 9 => 7
  | 10 => 7
  | 11 => 7
  | 12 => 7
  | 13 => 7
  | 14 => 8
  | 15 => 9
  | 16 => 10
  | 17 => 11
  | 18 => 11
  | 19 => 13
  | 20 => 13
  | 21 => 13
  | 22 => 13
  | 23 => 13
  | 24 => 13
  | 25 => 13
  | 26 => 13
  | 27 => 13
  | 28 => 13
  | 29 => 13
  | 30 => 13
  | _ => 99
theorem cell_setI (L : WL) (σ : ST) (i : Nat) (v : Int32) : ∀ a : Nat, a ≠ xown i → cellOf L (setI σ i v) a = cellOf L σ a := by
  intro a ha
  unfold cellOf
  by_cases h1 : a < 14
  · rw [if_pos h1, if_pos h1]
    have hn : ∀ b : Nat, xown b = a → upd σ.1 i v b = σ.1 b := fun b hb => if_neg (fun e => ha (by rw [← e]; exact hb.symm))
    rcases (show a = 0 ∨ a = 1 ∨ a = 2 ∨ a = 3 ∨ a = 4 ∨ a = 5 ∨ a = 6 ∨ a = 7 ∨ a = 8 ∨ a = 9 ∨ a = 10 ∨ a = 11 ∨ a = 12 ∨ a = 13 by omega) with rfl | rfl | rfl | rfl | rfl | rfl | rfl | rfl | rfl | rfl | rfl | rfl | rfl | rfl
    · show xob L.2.1 (upd σ.1 i v) 0 = xob L.2.1 σ.1 0
      simp only [xob]
      rw [hn 0 rfl, hn 1 rfl]
    · show xob L.2.1 (upd σ.1 i v) 1 = xob L.2.1 σ.1 1
      simp only [xob]
      rw [hn 2 rfl]
    · show xob L.2.1 (upd σ.1 i v) 2 = xob L.2.1 σ.1 2
      simp only [xob]
      rw [hn 3 rfl]
    · show xob L.2.1 (upd σ.1 i v) 3 = xob L.2.1 σ.1 3
      simp only [xob]
      rw [hn 4 rfl]
    · show xob L.2.1 (upd σ.1 i v) 4 = xob L.2.1 σ.1 4
      rfl
    · show xob L.2.1 (upd σ.1 i v) 5 = xob L.2.1 σ.1 5
      simp only [xob]
      rw [hn 5 rfl]
    · show xob L.2.1 (upd σ.1 i v) 6 = xob L.2.1 σ.1 6
      simp only [xob]
      rw [hn 6 rfl]
    · show xob L.2.1 (upd σ.1 i v) 7 = xob L.2.1 σ.1 7
      simp only [xob]
      rw [hn 7 rfl, hn 8 rfl, hn 9 rfl, hn 10 rfl, hn 11 rfl, hn 12 rfl, hn 13 rfl]
    · show xob L.2.1 (upd σ.1 i v) 8 = xob L.2.1 σ.1 8
      simp only [xob]
      rw [hn 14 rfl]
    · show xob L.2.1 (upd σ.1 i v) 9 = xob L.2.1 σ.1 9
      simp only [xob]
      rw [hn 15 rfl]
    · show xob L.2.1 (upd σ.1 i v) 10 = xob L.2.1 σ.1 10
      simp only [xob]
      rw [hn 16 rfl]
    · show xob L.2.1 (upd σ.1 i v) 11 = xob L.2.1 σ.1 11
      simp only [xob]
      rw [hn 17 rfl, hn 18 rfl]
    · show xob L.2.1 (upd σ.1 i v) 12 = xob L.2.1 σ.1 12
      rfl
    · show xob L.2.1 (upd σ.1 i v) 13 = xob L.2.1 σ.1 13
      simp only [xob]
      rw [hn 19 rfl, hn 20 rfl, hn 21 rfl, hn 22 rfl, hn 23 rfl, hn 24 rfl, hn 25 rfl, hn 26 rfl, hn 27 rfl, hn 28 rfl, hn 29 rfl, hn 30 rfl]
  · rw [if_neg h1, if_neg h1]
    rfl
/-! ===== the judgement: at pc, with these locals and this stack, in any heap that holds the world σ, the machine comes to Q ===== -/
/-- program, launch, env, start, method, arguments, below, meth, code, what may change, cells, slots -/
abbrev FX : Type := Program × Launch × Env × State × MethodId × Array Value × List Frame × Method × Code × (Nat → Prop) × Nat × Nat
def AW (L : WL) : Nat → Prop := fun q => ∃ k : Nat, k < 136 ∧ q = L.2.1 k
def INJ (L : WL) : Prop := ∀ i j : Nat, i < 136 → j < 136 → L.2.1 i = L.2.1 j → i = j
def abvF (j : Nat) : Value := match j with
  | 0 => .int (-1)
  | 5 => .int 2
  | _ => .int 0
def abv (A : Nat → Prop) (U : State) (H : Heap) : Prop := ∃ t : Nat, va_Z "LetterDrawer$Letters" "ABOVE" "[I" (.ref t) A U H ∧ va_T .int t 6 abvF A U H
theorem abv_moved {A : Nat → Prop} {u U : State} {H : Heap} (hvm : u.vm.Alike U.vm) (h : abv A u H) : abv A U H := by
  obtain ⟨t, h1, h2⟩ := h
  exact ⟨t, h1.moved hvm, h2.moved hvm⟩
theorem abv_kept {A : Nat → Prop} {U : State} {H H1 : Heap} (h : abv A U H) (hq : ∀ a : Nat, a < H.size → ¬ A a → H1[a]? = H[a]?) : abv A U H1 := by
  obtain ⟨t, h1, h2⟩ := h
  exact ⟨t, h1.kept hq, h2.kept hq⟩
theorem abv_narrow {A B : Nat → Prop} {U : State} {H : Heap} (h : abv A U H) (hAB : ∀ q, B q → A q) : abv B U H := by
  obtain ⟨t, h1, h2⟩ := h
  exact ⟨t, h1.narrow hAB, h2.narrow hAB⟩
def WOK (L : WL) (σ : ST) (U : State) : Prop := va_P L.1 vwCl (xw L σ) U.heap ∧ va_K L.1 vwCl (tysOf L) U ∧ INJ L ∧ abv (AW L) U U.heap
def OKx (F : FX) (L : WL) (own : String) (cc : ByteArray) (nL : Nat) (R : Room) (ret : Option FieldType) : Prop :=
  F.1.tables.exec = Jvm.exec ∧ F.2.2.2.2.2.2.2.2.1.code = cc ∧ F.2.2.2.2.2.2.2.2.1.maxLocals = nL ∧ F.2.2.2.1.vm.findClass own = some F.2.2.2.2.1.cls ∧ (∀ w ∈ WD, w.before F.2.2.2.2.2.1 F.2.2.2.1 = true) ∧ va_K L.1 vwCl (tysOf L) F.2.2.2.1 ∧ INJ L ∧ (∀ q, AW L q → F.2.2.2.2.2.2.2.2.2.1 q) ∧ F.2.2.2.2.2.2.2.1.sig.returnType = ret ∧ F.2.2.2.2.2.2.2.1.locks = false ∧ abv F.2.2.2.2.2.2.2.2.2.1 F.2.2.2.1 F.2.2.2.1.heap ∧ F.2.2.2.2.2.2.2.2.2.2.1 ≤ R.cells ∧ F.2.2.2.2.2.2.2.2.2.2.2 ≤ R.slots
def Go (F : FX) (L : WL) (own : String) (cc : ByteArray) (nL : Nat) (R : Room) (ret : Option FieldType) (Q : State → Prop) (σ : ST) (pc : Nat) (lv : List (Nat × Value)) (st : List Value) : Prop :=
  OKx F L own cc nL R ret → ∀ (H : Heap) (locs : List Loc) (ls : Array Slot), va_P L.1 vwCl (xw L σ) H → va_S F.2.2.2.2.2.2.2.2.2.1 F.2.2.2.1.heap H locs → lv_has ls nL lv →
    W F.1 F.2.1 F.2.2.1 R F.2.2.2.1 F.2.2.2.2.1 F.2.2.2.2.2.1 F.2.2.2.2.2.2.1 F.2.2.2.2.2.2.2.1 F.2.2.2.2.2.2.2.2.1 H locs F.2.2.2.2.2.2.2.2.2.2.1 F.2.2.2.2.2.2.2.2.2.2.2 Q (F0 F.2.2.2.2.1 pc ls st)
/-- the ends of a method -/
def RI (F : FX) (L : WL) (post : Int32 → ST → Prop) : State → Prop := MQ F.2.2.2.2.2.2.1 (va_Qi post (fun σ' t => va_P L.1 vwCl (xw L σ') t.heap) F.2.2.2.2.2.2.2.2.2.1) F.2.2.2.2.2.1 F.2.2.2.1 F.2.2.2.2.2.2.2.2.2.2.1 F.2.2.2.2.2.2.2.2.2.2.2 F.2.2.2.2.2.2.2.2.2.1
def RV (F : FX) (L : WL) (post : ST → Prop) : State → Prop := MQ F.2.2.2.2.2.2.1 (va_Qv post (fun σ' t => va_P L.1 vwCl (xw L σ') t.heap) F.2.2.2.2.2.2.2.2.2.1) F.2.2.2.2.2.1 F.2.2.2.1 F.2.2.2.2.2.2.2.2.2.2.1 F.2.2.2.2.2.2.2.2.2.2.2 F.2.2.2.2.2.2.2.2.2.1
/-- contracts: from the world σ, with these arguments, the method answers r in the world σ' with post r σ' -/
def CtI (l : Launch) (L : WL) (y : MethodName) (cc : ByteArray) (nL : Nat) (ret : Option FieldType) (rm : Room) (av : List Value) (σ : ST) (post : Int32 → ST → Prop) : Prop :=
  Met l y (Cond.code y cc nL ret :: WD) rm (va_Pc av (WOK L σ)) (va_Qi post (fun σ' t => va_P L.1 vwCl (xw L σ') t.heap) (AW L)) 0 0 (AW L)
def CtV (l : Launch) (L : WL) (y : MethodName) (cc : ByteArray) (nL : Nat) (ret : Option FieldType) (rm : Room) (av : List Value) (σ : ST) (post : ST → Prop) : Prop :=
  Met l y (Cond.code y cc nL ret :: WD) rm (va_Pc av (WOK L σ)) (va_Qv post (fun σ' t => va_P L.1 vwCl (xw L σ') t.heap) (AW L)) 0 0 (AW L)
theorem xw_D {L : WL} {A : Nat → Prop} (hI : INJ L) (hA : ∀ q, AW L q → A q) (σ : ST) : va_D A (xw L σ) := by
  have key : ∀ (k : Nat) (q : Nat × va_E), (xw L σ)[k]? = some q → k < 136 ∧ q = (L.2.1 k, cellOf L σ k) := fun k q h => by
    have hk : k < 136 := by have := (List.getElem?_eq_some_iff.mp h).1; rw [xw_len] at this; exact this
    rw [xw_get L σ hk] at h
    exact ⟨hk, (Option.some.inj h).symm⟩
  refine ⟨fun i j p q hi hj e => ?_, fun k q hk => ?_⟩
  · obtain ⟨h1, rfl⟩ := key i p hi
    obtain ⟨h2, rfl⟩ := key j q hj
    exact hI i j h1 h2 e
  · obtain ⟨h1, rfl⟩ := key k q hk
    exact hA _ ⟨k, h1, rfl⟩
theorem WOK_blind (L : WL) (σ : ST) (av : List Value) : FrameBlind (va_Pc av (WOK L σ)) := fun a U g mk q => by
  obtain ⟨q0, qP, qK, qI, qa⟩ := q
  exact ⟨q0, qP, va_K.moved (u := U) (U := U.calling g mk a) (Vm.Alike.refl U.vm) qK, qI, abv_moved (u := U) (U := U.calling g mk a) (Vm.Alike.refl U.vm) qa⟩
theorem wd_goodIn (y : MethodName) (b : ByteArray) (n : Nat) (r : Option FieldType) (hc : Cond.code y b n r ∈ WD) : GoodIn WD (Cond.code y b n r :: WD) := fun w hw => by
  rcases List.mem_cons.mp hw with rfl | h
  · exact ⟨hc, good_of_word (wd_good hc)⟩
  · exact ⟨h, good_of_word (wd_good h)⟩
/-- from a contract's head to the judgement at the first instruction -/
theorem ctI_go {l : Launch} {L : WL} {y : MethodName} {cc : ByteArray} {nL : Nat} {ret : Option FieldType} {rm : Room} {av : List Value} {σ : ST} {post : Int32 → ST → Prop} {own : String} (hy : plainName y.cls = true) (ho : y.cls = own) (hn : (lg_sl av).length ≤ nL)
    (body : ∀ F : FX, F.2.1 = l → Go F L own cc nL rm ret (RI F L post) σ 0 (lv_args 0 av) []) : CtI l L y cc nL ret rm av σ post := by
  subst ho
  refine Met.ofW (cc := cc) (maxL := nL) (ret := ret) hy rfl ?_
  intro p e s m args below meth c s₁ B hml hv
  obtain ⟨rfl, hP, hK, hI, ha⟩ := hv
  have hts := atoms_spec (ws := Cond.code y cc nL ret :: WD) B.pre
  have hown : s.vm.findClass y.cls = some m.cls := findClass_of_methodNamed B.named
  have hl := lv_entry av (n := nL) hn
  rw [lg_entry_eq]
  exact body (p, l, e, s, m, av.toArray, below, meth, c, AW L, 0, 0) rfl ⟨B.exec, B.bytes, hml, hown, fun w h => hts w (List.mem_cons_of_mem _ h), hK, hI, fun _ h => h, B.returns, B.notSynchronized, ha, Nat.zero_le _, Nat.zero_le _⟩ s.heap [] _ hP va_S.rf hl
theorem ctV_go {l : Launch} {L : WL} {y : MethodName} {cc : ByteArray} {nL : Nat} {ret : Option FieldType} {rm : Room} {av : List Value} {σ : ST} {post : ST → Prop} {own : String} (hy : plainName y.cls = true) (ho : y.cls = own) (hn : (lg_sl av).length ≤ nL)
    (body : ∀ F : FX, F.2.1 = l → Go F L own cc nL rm ret (RV F L post) σ 0 (lv_args 0 av) []) : CtV l L y cc nL ret rm av σ post := by
  subst ho
  refine Met.ofW (cc := cc) (maxL := nL) (ret := ret) hy rfl ?_
  intro p e s m args below meth c s₁ B hml hv
  obtain ⟨rfl, hP, hK, hI, ha⟩ := hv
  have hts := atoms_spec (ws := Cond.code y cc nL ret :: WD) B.pre
  have hown : s.vm.findClass y.cls = some m.cls := findClass_of_methodNamed B.named
  have hl := lv_entry av (n := nL) hn
  rw [lg_entry_eq]
  exact body (p, l, e, s, m, av.toArray, below, meth, c, AW L, 0, 0) rfl ⟨B.exec, B.bytes, hml, hown, fun w h => hts w (List.mem_cons_of_mem _ h), hK, hI, fun _ h => h, B.returns, B.notSynchronized, ha, Nat.zero_le _, Nat.zero_le _⟩ s.heap [] _ hP va_S.rf hl

section GOR
variable {F : FX} {L : WL} {own : String} {cc : ByteArray} {nL : Nat} {R : Room} {ret : Option FieldType} {Q : State → Prop} {σ : ST} {pc pc' : Nat} {lv : List (Nat × Value)} {st : List Value}
/-- what a local holds, by the list -/
def lvg (lv : List (Nat × Value)) (i : Nat) : Option Value := match lv with
  | [] => none
  | q :: r => bif Nat.beq q.1 i then some q.2 else lvg r i
theorem lvg_mem {lv : List (Nat × Value)} {i : Nat} {v : Value} (h : lvg lv i = some v) : (i, v) ∈ lv := by
  induction lv with
  | nil => cases h
  | cons q r ih =>
    unfold lvg at h
    cases e : Nat.beq q.1 i with
    | true =>
      rw [e] at h
      have e2 := Nat.eq_of_beq_eq_true e
      subst e2
      cases h
      exact List.mem_cons_self
    | false =>
      rw [e] at h
      exact List.mem_cons_of_mem _ (ih h)
theorem lvg_at {ls : Array Slot} {n : Nat} {lv : List (Nat × Value)} {i : Nat} {v : Value} (hl : lv_has ls n lv) (h : lvg lv i = some v) : ls[i]? = some (.val v) := hl.2.2 (i, v) (lvg_mem h)
/-- behind a store -/
def lvs (lv : List (Nat × Value)) (i : Nat) (v : Value) : List (Nat × Value) := (i, v) :: lv.filter (fun q => !(q.1 == i) && !(q.1 + 1 == i && q.2.category == 2))
def lvsl (lv : List (Nat × Value)) (i : Nat) (v : Value) : List (Nat × Value) := (i, v) :: lv.filter (fun q => !(q.1 == i) && (!(q.1 == i + 1) && !(q.1 + 1 == i && q.2.category == 2)))
/-- fewer locals, in any order -/
theorem go_lv {lv' : List (Nat × Value)} (h : lv'.map (fun q => lvg lv q.1) = lv'.map (fun q => some q.2)) (k : Go F L own cc nL R ret Q σ pc lv' st) : Go F L own cc nL R ret Q σ pc lv st := by
  intro hok H locs ls hP hS hl
  refine k hok H locs ls hP hS ⟨hl.1, hl.2.1, fun q hq => ?_⟩
  obtain ⟨i, hi⟩ := List.getElem?_of_mem hq
  have h2 := congrArg (fun l => l[i]?) h
  simp only [List.getElem?_map, hi, Option.map_some] at h2
  exact lvg_at hl (Option.some.inj h2)
theorem go_topi {x : Int32} (k : ∀ y : Int32, y = x → Go F L own cc nL R ret Q σ pc lv (.int y :: st)) : Go F L own cc nL R ret Q σ pc lv (.int x :: st) := k x rfl
theorem go_sig {σ' : ST} (h : σ = σ') (k : Go F L own cc nL R ret Q σ' pc lv st) : Go F L own cc nL R ret Q σ pc lv st := h ▸ k
theorem go_st {st' : List Value} (h : st = st') (k : Go F L own cc nL R ret Q σ pc lv st') : Go F L own cc nL R ret Q σ pc lv st := h ▸ k
theorem go_iconst {n : Int} {v : Int32} (hdg : decode cc pc = .ok (.iconst n, 1)) (hp : pc + 1 = pc') (hv : Int32.ofInt n = v) (k : Go F L own cc nL R ret Q σ pc' lv (.int v :: st)) : Go F L own cc nL R ret Q σ pc lv (st) := by
  subst hp
  intro hok H locs ls hP hS hl
  exact lv_iconst hok.1 hok.2.1 hdg hv (k hok H locs ls hP hS hl)
theorem go_bipush {n : Int} {v : Int32} (hdg : decode cc pc = .ok (.bipush n, 2)) (hp : pc + 2 = pc') (hv : (Int8.ofInt n).toInt32 = v) (k : Go F L own cc nL R ret Q σ pc' lv (.int v :: st)) : Go F L own cc nL R ret Q σ pc lv (st) := by
  subst hp
  intro hok H locs ls hP hS hl
  exact lv_bipush hok.1 hok.2.1 hdg hv (k hok H locs ls hP hS hl)
theorem go_sipush {n : Int} {v : Int32} (hdg : decode cc pc = .ok (.sipush n, 3)) (hp : pc + 3 = pc') (hv : (Int16.ofInt n).toInt32 = v) (k : Go F L own cc nL R ret Q σ pc' lv (.int v :: st)) : Go F L own cc nL R ret Q σ pc lv (st) := by
  subst hp
  intro hok H locs ls hP hS hl
  exact lv_sipush hok.1 hok.2.1 hdg hv (k hok H locs ls hP hS hl)
theorem go_lconst {n : Fin 2} {v : Int64} (hdg : decode cc pc = .ok (.lconst n, 1)) (hp : pc + 1 = pc') (hv : Int64.ofNat (n : Nat) = v) (k : Go F L own cc nL R ret Q σ pc' lv (.long v :: st)) : Go F L own cc nL R ret Q σ pc lv (st) := by
  subst hp
  intro hok H locs ls hP hS hl
  exact lv_lconst hok.1 hok.2.1 hdg hv (k hok H locs ls hP hS hl)
theorem go_iload_n {n : Fin 4} {x : Int32} (hdg : decode cc pc = .ok (.iload_n n, 1)) (hp : pc + 1 = pc') {i : Nat} (hi : (n : Nat) = i) (hv : lvg lv i = some (.int x)) (k : Go F L own cc nL R ret Q σ pc' lv (.int x :: st)) : Go F L own cc nL R ret Q σ pc lv (st) := by
  subst hp
  intro hok H locs ls hP hS hl
  exact lv_iload_n hok.1 hok.2.1 hdg hi (lvg_at hl hv) (k hok H locs ls hP hS hl)
theorem go_iload {n : Nat} {x : Int32} (hdg : decode cc pc = .ok (.iload n, 2)) (hp : pc + 2 = pc') (hv : lvg lv n = some (.int x)) (k : Go F L own cc nL R ret Q σ pc' lv (.int x :: st)) : Go F L own cc nL R ret Q σ pc lv (st) := by
  subst hp
  intro hok H locs ls hP hS hl
  exact lv_iload hok.1 hok.2.1 hdg (lvg_at hl hv) (k hok H locs ls hP hS hl)
theorem go_lload_n {n : Fin 4} {x : Int64} (hdg : decode cc pc = .ok (.lload_n n, 1)) (hp : pc + 1 = pc') {i : Nat} (hi : (n : Nat) = i) (hv : lvg lv i = some (.long x)) (k : Go F L own cc nL R ret Q σ pc' lv (.long x :: st)) : Go F L own cc nL R ret Q σ pc lv (st) := by
  subst hp
  intro hok H locs ls hP hS hl
  exact lv_lload_n hok.1 hok.2.1 hdg hi (lvg_at hl hv) (k hok H locs ls hP hS hl)
theorem go_lload {n : Nat} {x : Int64} (hdg : decode cc pc = .ok (.lload n, 2)) (hp : pc + 2 = pc') (hv : lvg lv n = some (.long x)) (k : Go F L own cc nL R ret Q σ pc' lv (.long x :: st)) : Go F L own cc nL R ret Q σ pc lv (st) := by
  subst hp
  intro hok H locs ls hP hS hl
  exact lv_lload hok.1 hok.2.1 hdg (lvg_at hl hv) (k hok H locs ls hP hS hl)
theorem go_aload_n {n : Fin 4} {x : Nat} (hdg : decode cc pc = .ok (.aload_n n, 1)) (hp : pc + 1 = pc') {i : Nat} (hi : (n : Nat) = i) (hv : lvg lv i = some (.ref x)) (k : Go F L own cc nL R ret Q σ pc' lv (.ref x :: st)) : Go F L own cc nL R ret Q σ pc lv (st) := by
  subst hp
  intro hok H locs ls hP hS hl
  exact lv_aload_n hok.1 hok.2.1 hdg hi (lvg_at hl hv) (k hok H locs ls hP hS hl)
theorem go_aload {n : Nat} {x : Nat} (hdg : decode cc pc = .ok (.aload n, 2)) (hp : pc + 2 = pc') (hv : lvg lv n = some (.ref x)) (k : Go F L own cc nL R ret Q σ pc' lv (.ref x :: st)) : Go F L own cc nL R ret Q σ pc lv (st) := by
  subst hp
  intro hok H locs ls hP hS hl
  exact lv_aload hok.1 hok.2.1 hdg (lvg_at hl hv) (k hok H locs ls hP hS hl)
theorem go_istore_n {n : Fin 4} {x : Int32} (hdg : decode cc pc = .ok (.istore_n n, 1)) (hp : pc + 1 = pc') {i : Nat} (hi : (n : Nat) = i) (hn : i < nL) (k : Go F L own cc nL R ret Q σ pc' (lvs lv i (.int x)) (st)) : Go F L own cc nL R ret Q σ pc lv (.int x :: st) := by
  subst hp
  intro hok H locs ls hP hS hl
  exact lv_istore_n hok.1 hok.2.1 hdg hi hl hn rfl (fun ls2 hl2 => k hok H locs ls2 hP hS hl2)
theorem go_istore {n : Nat} {x : Int32} (hdg : decode cc pc = .ok (.istore n, 2)) (hp : pc + 2 = pc') (hn : n < nL) (k : Go F L own cc nL R ret Q σ pc' (lvs lv n (.int x)) (st)) : Go F L own cc nL R ret Q σ pc lv (.int x :: st) := by
  subst hp
  intro hok H locs ls hP hS hl
  exact lv_istore hok.1 hok.2.1 hdg hl hn rfl (fun ls2 hl2 => k hok H locs ls2 hP hS hl2)
theorem go_lstore_n {n : Fin 4} {x : Int64} (hdg : decode cc pc = .ok (.lstore_n n, 1)) (hp : pc + 1 = pc') {i : Nat} (hi : (n : Nat) = i) (hn : i + 1 < nL) (k : Go F L own cc nL R ret Q σ pc' (lvsl lv i (.long x)) (st)) : Go F L own cc nL R ret Q σ pc lv (.long x :: st) := by
  subst hp
  intro hok H locs ls hP hS hl
  exact lv_lstore_n hok.1 hok.2.1 hdg hi hl hn rfl (fun ls2 hl2 => k hok H locs ls2 hP hS hl2)
theorem go_lstore {n : Nat} {x : Int64} (hdg : decode cc pc = .ok (.lstore n, 2)) (hp : pc + 2 = pc') (hn : n + 1 < nL) (k : Go F L own cc nL R ret Q σ pc' (lvsl lv n (.long x)) (st)) : Go F L own cc nL R ret Q σ pc lv (.long x :: st) := by
  subst hp
  intro hok H locs ls hP hS hl
  exact lv_lstore hok.1 hok.2.1 hdg hl hn rfl (fun ls2 hl2 => k hok H locs ls2 hP hS hl2)
theorem go_astore_n {n : Fin 4} {x : Nat} (hdg : decode cc pc = .ok (.astore_n n, 1)) (hp : pc + 1 = pc') {i : Nat} (hi : (n : Nat) = i) (hn : i < nL) (k : Go F L own cc nL R ret Q σ pc' (lvs lv i (.ref x)) (st)) : Go F L own cc nL R ret Q σ pc lv (.ref x :: st) := by
  subst hp
  intro hok H locs ls hP hS hl
  exact lv_astore_n hok.1 hok.2.1 hdg hi hl hn rfl (fun ls2 hl2 => k hok H locs ls2 hP hS hl2)
theorem go_astore {n : Nat} {x : Nat} (hdg : decode cc pc = .ok (.astore n, 2)) (hp : pc + 2 = pc') (hn : n < nL) (k : Go F L own cc nL R ret Q σ pc' (lvs lv n (.ref x)) (st)) : Go F L own cc nL R ret Q σ pc lv (.ref x :: st) := by
  subst hp
  intro hok H locs ls hP hS hl
  exact lv_astore hok.1 hok.2.1 hdg hl hn rfl (fun ls2 hl2 => k hok H locs ls2 hP hS hl2)
theorem lvg_idx {lv : List (Nat × Value)} {i : Nat} {v : Value} (h : lvg lv i = some v) : ∃ k : Nat, lv[k]? = some (i, v) := List.getElem?_of_mem (lvg_mem h)
theorem go_iinc {n : Nat} {d : Int} {x c : Int32} (hdg : decode cc pc = .ok (.iinc n d, 3)) (hp : pc + 3 = pc') (hv : lvg lv n = some (.int x)) (hc : Int32.ofInt d = c) (hn : n < nL) (k : Go F L own cc nL R ret Q σ pc' (lvs lv n (.int (x + c))) st) : Go F L own cc nL R ret Q σ pc lv st := by
  subst hp
  intro hok H locs ls hP hS hl
  obtain ⟨j, hj⟩ := lvg_idx hv
  exact lv_iinc hok.1 hok.2.1 hdg hl hj (by rw [hc]) hn rfl (fun ls2 hl2 => k hok H locs ls2 hP hS hl2)
theorem go_iadd {x y : Int32} (hdg : decode cc pc = .ok (.iadd, 1)) (hp : pc + 1 = pc') (k : Go F L own cc nL R ret Q σ pc' lv (.int (x + y) :: st)) : Go F L own cc nL R ret Q σ pc lv (.int y :: .int x :: st) := by
  subst hp
  intro hok H locs ls hP hS hl
  exact lv_iadd hok.1 hok.2.1 hdg (k hok H locs ls hP hS hl)
theorem go_isub {x y : Int32} (hdg : decode cc pc = .ok (.isub, 1)) (hp : pc + 1 = pc') (k : Go F L own cc nL R ret Q σ pc' lv (.int (x - y) :: st)) : Go F L own cc nL R ret Q σ pc lv (.int y :: .int x :: st) := by
  subst hp
  intro hok H locs ls hP hS hl
  exact lv_isub hok.1 hok.2.1 hdg (k hok H locs ls hP hS hl)
theorem go_imul {x y : Int32} (hdg : decode cc pc = .ok (.imul, 1)) (hp : pc + 1 = pc') (k : Go F L own cc nL R ret Q σ pc' lv (.int (x * y) :: st)) : Go F L own cc nL R ret Q σ pc lv (.int y :: .int x :: st) := by
  subst hp
  intro hok H locs ls hP hS hl
  exact lv_imul hok.1 hok.2.1 hdg (k hok H locs ls hP hS hl)
theorem go_iand {x y : Int32} (hdg : decode cc pc = .ok (.iand, 1)) (hp : pc + 1 = pc') (k : Go F L own cc nL R ret Q σ pc' lv (.int (x &&& y) :: st)) : Go F L own cc nL R ret Q σ pc lv (.int y :: .int x :: st) := by
  subst hp
  intro hok H locs ls hP hS hl
  exact lv_iand hok.1 hok.2.1 hdg (k hok H locs ls hP hS hl)
theorem go_ior {x y : Int32} (hdg : decode cc pc = .ok (.ior, 1)) (hp : pc + 1 = pc') (k : Go F L own cc nL R ret Q σ pc' lv (.int (x ||| y) :: st)) : Go F L own cc nL R ret Q σ pc lv (.int y :: .int x :: st) := by
  subst hp
  intro hok H locs ls hP hS hl
  exact lv_ior hok.1 hok.2.1 hdg (k hok H locs ls hP hS hl)
theorem go_ixor {x y : Int32} (hdg : decode cc pc = .ok (.ixor, 1)) (hp : pc + 1 = pc') (k : Go F L own cc nL R ret Q σ pc' lv (.int (x ^^^ y) :: st)) : Go F L own cc nL R ret Q σ pc lv (.int y :: .int x :: st) := by
  subst hp
  intro hok H locs ls hP hS hl
  exact lv_ixor hok.1 hok.2.1 hdg (k hok H locs ls hP hS hl)
theorem go_ishl {x y : Int32} (hdg : decode cc pc = .ok (.ishl, 1)) (hp : pc + 1 = pc') (k : Go F L own cc nL R ret Q σ pc' lv (.int (x <<< (y &&& 31)) :: st)) : Go F L own cc nL R ret Q σ pc lv (.int y :: .int x :: st) := by
  subst hp
  intro hok H locs ls hP hS hl
  exact lv_ishl hok.1 hok.2.1 hdg (k hok H locs ls hP hS hl)
theorem go_ishr {x y : Int32} (hdg : decode cc pc = .ok (.ishr, 1)) (hp : pc + 1 = pc') (k : Go F L own cc nL R ret Q σ pc' lv (.int (x >>> (y &&& 31)) :: st)) : Go F L own cc nL R ret Q σ pc lv (.int y :: .int x :: st) := by
  subst hp
  intro hok H locs ls hP hS hl
  exact lv_ishr hok.1 hok.2.1 hdg (k hok H locs ls hP hS hl)
theorem go_idiv {x y : Int32} (hdg : decode cc pc = .ok (.idiv, 1)) (hp : pc + 1 = pc') (hne : ¬ y = 0) (k : Go F L own cc nL R ret Q σ pc' lv (.int (x / y) :: st)) : Go F L own cc nL R ret Q σ pc lv (.int y :: .int x :: st) := by
  subst hp
  intro hok H locs ls hP hS hl
  exact lv_idiv hok.1 hok.2.1 hdg hne (k hok H locs ls hP hS hl)
theorem go_irem {x y : Int32} (hdg : decode cc pc = .ok (.irem, 1)) (hp : pc + 1 = pc') (hne : ¬ y = 0) (k : Go F L own cc nL R ret Q σ pc' lv (.int (x - x / y * y) :: st)) : Go F L own cc nL R ret Q σ pc lv (.int y :: .int x :: st) := by
  subst hp
  intro hok H locs ls hP hS hl
  exact lv_irem hok.1 hok.2.1 hdg hne (k hok H locs ls hP hS hl)
theorem go_iushr {x y v : Int32} (hdg : decode cc pc = .ok (.iushr, 1)) (hp : pc + 1 = pc') (hv : (x.toUInt32 >>> (y.toUInt32 &&& Int32.toUInt32 31)).toInt32 = v) (k : Go F L own cc nL R ret Q σ pc' lv (.int v :: st)) : Go F L own cc nL R ret Q σ pc lv (.int y :: .int x :: st) := by
  subst hp
  intro hok H locs ls hP hS hl
  exact lv_iushr hok.1 hok.2.1 hdg hv (k hok H locs ls hP hS hl)
theorem go_ineg {x : Int32} (hdg : decode cc pc = .ok (.ineg, 1)) (hp : pc + 1 = pc') (k : Go F L own cc nL R ret Q σ pc' lv (.int (-x) :: st)) : Go F L own cc nL R ret Q σ pc lv (.int x :: st) := by
  subst hp
  intro hok H locs ls hP hS hl
  exact lv_ineg hok.1 hok.2.1 hdg (k hok H locs ls hP hS hl)
theorem go_i2l {x : Int32} (hdg : decode cc pc = .ok (.i2l, 1)) (hp : pc + 1 = pc') (k : Go F L own cc nL R ret Q σ pc' lv (.long x.toInt64 :: st)) : Go F L own cc nL R ret Q σ pc lv (.int x :: st) := by
  subst hp
  intro hok H locs ls hP hS hl
  exact lv_i2l hok.1 hok.2.1 hdg rfl (k hok H locs ls hP hS hl)
theorem go_l2i {x : Int64} (hdg : decode cc pc = .ok (.l2i, 1)) (hp : pc + 1 = pc') (k : Go F L own cc nL R ret Q σ pc' lv (.int x.toInt32 :: st)) : Go F L own cc nL R ret Q σ pc lv (.long x :: st) := by
  subst hp
  intro hok H locs ls hP hS hl
  exact lv_l2i hok.1 hok.2.1 hdg rfl (k hok H locs ls hP hS hl)
theorem go_i2b {x : Int32} (hdg : decode cc pc = .ok (.i2b, 1)) (hp : pc + 1 = pc') (k : Go F L own cc nL R ret Q σ pc' lv (.int x.toInt8.toInt32 :: st)) : Go F L own cc nL R ret Q σ pc lv (.int x :: st) := by
  subst hp
  intro hok H locs ls hP hS hl
  exact lv_i2b hok.1 hok.2.1 hdg rfl (k hok H locs ls hP hS hl)
theorem go_ladd {x y : Int64} (hdg : decode cc pc = .ok (.ladd, 1)) (hp : pc + 1 = pc') (k : Go F L own cc nL R ret Q σ pc' lv (.long (x + y) :: st)) : Go F L own cc nL R ret Q σ pc lv (.long y :: .long x :: st) := by
  subst hp
  intro hok H locs ls hP hS hl
  exact lv_ladd hok.1 hok.2.1 hdg (k hok H locs ls hP hS hl)
theorem go_land {x y : Int64} (hdg : decode cc pc = .ok (.land, 1)) (hp : pc + 1 = pc') (k : Go F L own cc nL R ret Q σ pc' lv (.long (x &&& y) :: st)) : Go F L own cc nL R ret Q σ pc lv (.long y :: .long x :: st) := by
  subst hp
  intro hok H locs ls hP hS hl
  exact lv_land hok.1 hok.2.1 hdg (k hok H locs ls hP hS hl)
theorem go_lor {x y : Int64} (hdg : decode cc pc = .ok (.lor, 1)) (hp : pc + 1 = pc') (k : Go F L own cc nL R ret Q σ pc' lv (.long (x ||| y) :: st)) : Go F L own cc nL R ret Q σ pc lv (.long y :: .long x :: st) := by
  subst hp
  intro hok H locs ls hP hS hl
  exact lv_lor hok.1 hok.2.1 hdg (k hok H locs ls hP hS hl)
theorem go_lushr {x v : Int64} {y : Int32} (hdg : decode cc pc = .ok (.lushr, 1)) (hp : pc + 1 = pc') (hv : (x.toUInt64 >>> (y.toInt64.toUInt64 &&& Int64.toUInt64 63)).toInt64 = v) (k : Go F L own cc nL R ret Q σ pc' lv (.long v :: st)) : Go F L own cc nL R ret Q σ pc lv (.int y :: .long x :: st) := by
  subst hp
  intro hok H locs ls hP hS hl
  exact lv_lushr hok.1 hok.2.1 hdg hv (k hok H locs ls hP hS hl)
theorem go_lshl {x : Int64} {y : Int32} (hdg : decode cc pc = .ok (.lshl, 1)) (hp : pc + 1 = pc') (k : Go F L own cc nL R ret Q σ pc' lv (.long (x <<< (y.toInt64 &&& 63)) :: st)) : Go F L own cc nL R ret Q σ pc lv (.int y :: .long x :: st) := by
  subst hp
  intro hok H locs ls hP hS hl
  exact lv_lshl hok.1 hok.2.1 hdg rfl (k hok H locs ls hP hS hl)
theorem go_lshr {x : Int64} {y : Int32} (hdg : decode cc pc = .ok (.lshr, 1)) (hp : pc + 1 = pc') (k : Go F L own cc nL R ret Q σ pc' lv (.long (x >>> (y.toInt64 &&& 63)) :: st)) : Go F L own cc nL R ret Q σ pc lv (.int y :: .long x :: st) := by
  subst hp
  intro hok H locs ls hP hS hl
  exact lv_lshr hok.1 hok.2.1 hdg rfl (k hok H locs ls hP hS hl)
theorem go_lcmp {x y : Int64} (hdg : decode cc pc = .ok (.lcmp, 1)) (hp : pc + 1 = pc') (k : Go F L own cc nL R ret Q σ pc' lv (.int (lg_cmp x y) :: st)) : Go F L own cc nL R ret Q σ pc lv (.long y :: .long x :: st) := by
  subst hp
  intro hok H locs ls hP hS hl
  exact W.lcmp hok.1 hok.2.1 hdg (k hok H locs ls hP hS hl)
theorem go_dup {v : Value} (hdg : decode cc pc = .ok (.dup, 1)) (hp : pc + 1 = pc') (hv : v.category = 1) (k : Go F L own cc nL R ret Q σ pc' lv (v :: v :: st)) : Go F L own cc nL R ret Q σ pc lv (v :: st) := by
  subst hp
  intro hok H locs ls hP hS hl
  exact lv_dup hok.1 hok.2.1 hdg hv (k hok H locs ls hP hS hl)
theorem go_pop {v : Value} (hdg : decode cc pc = .ok (.pop, 1)) (hp : pc + 1 = pc') (hv : v.category = 1) (k : Go F L own cc nL R ret Q σ pc' lv (st)) : Go F L own cc nL R ret Q σ pc lv (v :: st) := by
  subst hp
  intro hok H locs ls hP hS hl
  exact lv_pop hok.1 hok.2.1 hdg hv (k hok H locs ls hP hS hl)
theorem go_ldc {i : Nat} {v : Int32} (hdg : decode cc pc = .ok (.ldc i, 2)) (hp : pc + 2 = pc') (hc : Cond.constant own i v ∈ WD) (k : Go F L own cc nL R ret Q σ pc' lv (.int v :: st)) : Go F L own cc nL R ret Q σ pc lv (st) := by
  subst hp
  intro hok H locs ls hP hS hl
  exact lv_ldc hok.1 hok.2.1 hok.2.2.2.1 (hok.2.2.2.2.1 _ hc) hdg (k hok H locs ls hP hS hl)
theorem go_ldcw {i : Nat} {v : Int32} (hdg : decode cc pc = .ok (.ldc_w i, 3)) (hp : pc + 3 = pc') (hc : Cond.constant own i v ∈ WD) (k : Go F L own cc nL R ret Q σ pc' lv (.int v :: st)) : Go F L own cc nL R ret Q σ pc lv (st) := by
  subst hp
  intro hok H locs ls hP hS hl
  exact lv_ldcw hok.1 hok.2.1 hok.2.2.2.1 (hok.2.2.2.2.1 _ hc) hdg (k hok H locs ls hP hS hl)
theorem go_ldc2 {i : Nat} {v : Int64} (hdg : decode cc pc = .ok (.ldc2_w i, 3)) (hp : pc + 3 = pc') (hc : Cond.constantLong own i v ∈ WD) (k : Go F L own cc nL R ret Q σ pc' lv (.long v :: st)) : Go F L own cc nL R ret Q σ pc lv (st) := by
  subst hp
  intro hok H locs ls hP hS hl
  exact lv_ldc2 hok.1 hok.2.1 hok.2.2.2.1 (hok.2.2.2.2.1 _ hc) hdg (k hok H locs ls hP hS hl)
theorem go_if_eq {x : Int32} {off : Int} {tgt : Nat} (hdg : decode cc pc = .ok (.ifCond .eq off, 3)) (hp : pc + 3 = pc') (ht : (pc : Int) + off = (tgt : Int)) (k1 : x = 0 → Go F L own cc nL R ret Q σ tgt lv st) (k2 : ¬ (x = 0) → Go F L own cc nL R ret Q σ pc' lv st) : Go F L own cc nL R ret Q σ pc lv (.int x :: st) := by
  subst hp
  intro hok H locs ls hP hS hl
  exact lv_if_eq hok.1 hok.2.1 hdg ht (fun h => k1 h hok H locs ls hP hS hl) (fun h => k2 h hok H locs ls hP hS hl)
theorem go_icmp_eq {x y : Int32} {off : Int} {tgt : Nat} (hdg : decode cc pc = .ok (.if_icmp .eq off, 3)) (hp : pc + 3 = pc') (ht : (pc : Int) + off = (tgt : Int)) (k1 : x = y → Go F L own cc nL R ret Q σ tgt lv st) (k2 : ¬ (x = y) → Go F L own cc nL R ret Q σ pc' lv st) : Go F L own cc nL R ret Q σ pc lv (.int y :: .int x :: st) := by
  subst hp
  intro hok H locs ls hP hS hl
  exact lv_icmp_eq hok.1 hok.2.1 hdg ht (fun h => k1 h hok H locs ls hP hS hl) (fun h => k2 h hok H locs ls hP hS hl)
theorem go_if_ne {x : Int32} {off : Int} {tgt : Nat} (hdg : decode cc pc = .ok (.ifCond .ne off, 3)) (hp : pc + 3 = pc') (ht : (pc : Int) + off = (tgt : Int)) (k1 : x ≠ 0 → Go F L own cc nL R ret Q σ tgt lv st) (k2 : x = 0 → Go F L own cc nL R ret Q σ pc' lv st) : Go F L own cc nL R ret Q σ pc lv (.int x :: st) := by
  subst hp
  intro hok H locs ls hP hS hl
  exact lv_if_ne hok.1 hok.2.1 hdg ht (fun h => k1 h hok H locs ls hP hS hl) (fun h => k2 h hok H locs ls hP hS hl)
theorem go_icmp_ne {x y : Int32} {off : Int} {tgt : Nat} (hdg : decode cc pc = .ok (.if_icmp .ne off, 3)) (hp : pc + 3 = pc') (ht : (pc : Int) + off = (tgt : Int)) (k1 : x ≠ y → Go F L own cc nL R ret Q σ tgt lv st) (k2 : x = y → Go F L own cc nL R ret Q σ pc' lv st) : Go F L own cc nL R ret Q σ pc lv (.int y :: .int x :: st) := by
  subst hp
  intro hok H locs ls hP hS hl
  exact lv_icmp_ne hok.1 hok.2.1 hdg ht (fun h => k1 h hok H locs ls hP hS hl) (fun h => k2 h hok H locs ls hP hS hl)
theorem go_if_lt {x : Int32} {off : Int} {tgt : Nat} (hdg : decode cc pc = .ok (.ifCond .lt off, 3)) (hp : pc + 3 = pc') (ht : (pc : Int) + off = (tgt : Int)) (k1 : x < 0 → Go F L own cc nL R ret Q σ tgt lv st) (k2 : ¬ (x < 0) → Go F L own cc nL R ret Q σ pc' lv st) : Go F L own cc nL R ret Q σ pc lv (.int x :: st) := by
  subst hp
  intro hok H locs ls hP hS hl
  exact lv_if_lt hok.1 hok.2.1 hdg ht (fun h => k1 h hok H locs ls hP hS hl) (fun h => k2 h hok H locs ls hP hS hl)
theorem go_icmp_lt {x y : Int32} {off : Int} {tgt : Nat} (hdg : decode cc pc = .ok (.if_icmp .lt off, 3)) (hp : pc + 3 = pc') (ht : (pc : Int) + off = (tgt : Int)) (k1 : x < y → Go F L own cc nL R ret Q σ tgt lv st) (k2 : ¬ (x < y) → Go F L own cc nL R ret Q σ pc' lv st) : Go F L own cc nL R ret Q σ pc lv (.int y :: .int x :: st) := by
  subst hp
  intro hok H locs ls hP hS hl
  exact lv_icmp_lt hok.1 hok.2.1 hdg ht (fun h => k1 h hok H locs ls hP hS hl) (fun h => k2 h hok H locs ls hP hS hl)
theorem go_if_ge {x : Int32} {off : Int} {tgt : Nat} (hdg : decode cc pc = .ok (.ifCond .ge off, 3)) (hp : pc + 3 = pc') (ht : (pc : Int) + off = (tgt : Int)) (k1 : x ≥ 0 → Go F L own cc nL R ret Q σ tgt lv st) (k2 : ¬ (x ≥ 0) → Go F L own cc nL R ret Q σ pc' lv st) : Go F L own cc nL R ret Q σ pc lv (.int x :: st) := by
  subst hp
  intro hok H locs ls hP hS hl
  exact lv_if_ge hok.1 hok.2.1 hdg ht (fun h => k1 h hok H locs ls hP hS hl) (fun h => k2 h hok H locs ls hP hS hl)
theorem go_icmp_ge {x y : Int32} {off : Int} {tgt : Nat} (hdg : decode cc pc = .ok (.if_icmp .ge off, 3)) (hp : pc + 3 = pc') (ht : (pc : Int) + off = (tgt : Int)) (k1 : x ≥ y → Go F L own cc nL R ret Q σ tgt lv st) (k2 : ¬ (x ≥ y) → Go F L own cc nL R ret Q σ pc' lv st) : Go F L own cc nL R ret Q σ pc lv (.int y :: .int x :: st) := by
  subst hp
  intro hok H locs ls hP hS hl
  exact lv_icmp_ge hok.1 hok.2.1 hdg ht (fun h => k1 h hok H locs ls hP hS hl) (fun h => k2 h hok H locs ls hP hS hl)
theorem go_if_gt {x : Int32} {off : Int} {tgt : Nat} (hdg : decode cc pc = .ok (.ifCond .gt off, 3)) (hp : pc + 3 = pc') (ht : (pc : Int) + off = (tgt : Int)) (k1 : x > 0 → Go F L own cc nL R ret Q σ tgt lv st) (k2 : ¬ (x > 0) → Go F L own cc nL R ret Q σ pc' lv st) : Go F L own cc nL R ret Q σ pc lv (.int x :: st) := by
  subst hp
  intro hok H locs ls hP hS hl
  exact lv_if_gt hok.1 hok.2.1 hdg ht (fun h => k1 h hok H locs ls hP hS hl) (fun h => k2 h hok H locs ls hP hS hl)
theorem go_icmp_gt {x y : Int32} {off : Int} {tgt : Nat} (hdg : decode cc pc = .ok (.if_icmp .gt off, 3)) (hp : pc + 3 = pc') (ht : (pc : Int) + off = (tgt : Int)) (k1 : x > y → Go F L own cc nL R ret Q σ tgt lv st) (k2 : ¬ (x > y) → Go F L own cc nL R ret Q σ pc' lv st) : Go F L own cc nL R ret Q σ pc lv (.int y :: .int x :: st) := by
  subst hp
  intro hok H locs ls hP hS hl
  exact lv_icmp_gt hok.1 hok.2.1 hdg ht (fun h => k1 h hok H locs ls hP hS hl) (fun h => k2 h hok H locs ls hP hS hl)
theorem go_if_le {x : Int32} {off : Int} {tgt : Nat} (hdg : decode cc pc = .ok (.ifCond .le off, 3)) (hp : pc + 3 = pc') (ht : (pc : Int) + off = (tgt : Int)) (k1 : x ≤ 0 → Go F L own cc nL R ret Q σ tgt lv st) (k2 : ¬ (x ≤ 0) → Go F L own cc nL R ret Q σ pc' lv st) : Go F L own cc nL R ret Q σ pc lv (.int x :: st) := by
  subst hp
  intro hok H locs ls hP hS hl
  exact lv_if_le hok.1 hok.2.1 hdg ht (fun h => k1 h hok H locs ls hP hS hl) (fun h => k2 h hok H locs ls hP hS hl)
theorem go_icmp_le {x y : Int32} {off : Int} {tgt : Nat} (hdg : decode cc pc = .ok (.if_icmp .le off, 3)) (hp : pc + 3 = pc') (ht : (pc : Int) + off = (tgt : Int)) (k1 : x ≤ y → Go F L own cc nL R ret Q σ tgt lv st) (k2 : ¬ (x ≤ y) → Go F L own cc nL R ret Q σ pc' lv st) : Go F L own cc nL R ret Q σ pc lv (.int y :: .int x :: st) := by
  subst hp
  intro hok H locs ls hP hS hl
  exact lv_icmp_le hok.1 hok.2.1 hdg ht (fun h => k1 h hok H locs ls hP hS hl) (fun h => k2 h hok H locs ls hP hS hl)
/-- a boolean answer -/
def bq (A : Prop) (r : Int32) : Prop := (r = 1 ∧ A) ∨ (r = 0 ∧ ¬ A)
theorem bq_t {A : Prop} (h : A) : bq A 1 := Or.inl ⟨rfl, h⟩
theorem bq_f {A : Prop} (h : ¬ A) : bq A 0 := Or.inr ⟨rfl, h⟩
theorem bq_0 {A : Prop} {r : Int32} (h : bq A r) (e : r = 0) : ¬ A := by
  rcases h with ⟨h1, -⟩ | ⟨-, h2⟩
  · exact absurd (h1.symm.trans e) (by decide)
  · exact h2
theorem bq_1 {A : Prop} {r : Int32} (h : bq A r) (e : ¬ r = 0) : A := by
  rcases h with ⟨-, h2⟩ | ⟨h1, -⟩
  · exact h2
  · exact absurd h1 e
theorem bq_n {A : Prop} {r : Int32} (h : bq A r) : narrow .boolean (.int r) = .int r := by
  rcases h with ⟨rfl, -⟩ | ⟨rfl, -⟩ <;> rfl
theorem go_eqB {A : Prop} {x : Int32} {off : Int} {tgt : Nat} (hB : bq A x) (hdg : decode cc pc = .ok (.ifCond .eq off, 3)) (hp : pc + 3 = pc') (ht : (pc : Int) + off = (tgt : Int)) (k1 : ¬ A → Go F L own cc nL R ret Q σ tgt lv st) (k2 : A → Go F L own cc nL R ret Q σ pc' lv st) : Go F L own cc nL R ret Q σ pc lv (.int x :: st) := go_if_eq hdg hp ht (fun h => k1 (bq_0 hB h)) (fun h => k2 (bq_1 hB h))
theorem go_neB {A : Prop} {x : Int32} {off : Int} {tgt : Nat} (hB : bq A x) (hdg : decode cc pc = .ok (.ifCond .ne off, 3)) (hp : pc + 3 = pc') (ht : (pc : Int) + off = (tgt : Int)) (k1 : A → Go F L own cc nL R ret Q σ tgt lv st) (k2 : ¬ A → Go F L own cc nL R ret Q σ pc' lv st) : Go F L own cc nL R ret Q σ pc lv (.int x :: st) := go_if_ne hdg hp ht (fun h => k1 (bq_1 hB h)) (fun h => k2 (bq_0 hB h))
theorem go_goto {off : Int} {tgt : Nat} (hdg : decode cc pc = .ok (.goto off, 3)) (ht : (pc : Int) + off = (tgt : Int)) (k : Go F L own cc nL R ret Q σ tgt lv st) : Go F L own cc nL R ret Q σ pc lv st := by
  intro hok H locs ls hP hS hl
  exact lv_goto hok.1 hok.2.1 hdg ht (k hok H locs ls hP hS hl)
theorem go_swOut {dflt lo hi : Int} {offs : Array Int} {len : Nat} {x : Int32} {tgt : Nat} (hdg : decode cc pc = .ok (.tableswitch dflt lo hi offs, len)) (h : x.toInt < lo ∨ hi < x.toInt) (ht : (pc : Int) + dflt = (tgt : Int)) (k : Go F L own cc nL R ret Q σ tgt lv st) : Go F L own cc nL R ret Q σ pc lv (.int x :: st) := by
  intro hok H locs ls hP hS hl
  exact lv_tableOut hok.1 hok.2.1 hdg h ht (k hok H locs ls hP hS hl)
theorem go_swIn {dflt lo hi : Int} {offs : Array Int} {len : Nat} {x : Int32} {off : Int} {tgt : Nat} (hdg : decode cc pc = .ok (.tableswitch dflt lo hi offs, len)) (h1 : ¬ x.toInt < lo) (h2 : ¬ hi < x.toInt) (ho : offs[(x.toInt - lo).toNat]? = some off) (ht : (pc : Int) + off = (tgt : Int)) (k : Go F L own cc nL R ret Q σ tgt lv st) : Go F L own cc nL R ret Q σ pc lv (.int x :: st) := by
  intro hok H locs ls hP hS hl
  exact lv_tableIn hok.1 hok.2.1 hdg h1 h2 ho ht (k hok H locs ls hP hS hl)
theorem go_lookup {dflt : Int} {ps : Array (Int × Int)} {len : Nat} {x : Int32} {off : Int} {tgt : Nat} (hdg : decode cc pc = .ok (.lookupswitch dflt ps, len)) (hq : (ps.toList.zip (ps.toList.drop 1)).all (fun (a, next) => a.1 < next.1) = true) (ho : Op.lookupswitch.offset ps.toList dflt x.toInt = off) (ht : (pc : Int) + off = (tgt : Int)) (k : Go F L own cc nL R ret Q σ tgt lv st) : Go F L own cc nL R ret Q σ pc lv (.int x :: st) := by
  intro hok H locs ls hP hS hl
  exact lv_lookup hok.1 hok.2.1 hdg hq ho ht (k hok H locs ls hP hS hl)
/-- the heap's rows: fields -/
theorem go_get {C ref nm ds : String} {T : u_T} {N ci idx o kf : Nat} {fs : List Value} {v : Value} (hin : ∀ w ∈ u_ws C T N, w ∈ WD) (hc : vwCl[ci]? = some (C, T, N)) (hdg : decode cc pc = .ok (.getfield idx, 3)) (hp : pc + 3 = pc') (hlk : Cond.fieldLink own idx ref nm ds ∈ WD) (he : cellOf L σ o = .inr (ci, fs)) (ho : o < 136) (hk : kf < N) (hT : T kf = (ref, nm, ds, (T kf).2.2.2)) (hv : fs[kf]? = some v)
    (k : Go F L own cc nL R ret Q σ pc' lv (v :: st)) : Go F L own cc nL R ret Q σ pc lv (.ref (L.2.1 o) :: st) := by
  subst hp
  intro hok H locs ls hP hS hl
  have hg := xw_get L σ ho
  rw [he] at hg
  have e1 : (T kf).1 = ref := by rw [hT]
  have e2 : (T kf).2.1 = nm := by rw [hT]
  have e3 : (T kf).2.2.1 = ds := by rw [hT]
  exact va_get (ref := ref) (C := C) (T := T) (N := N) (ci := ci) (index := idx) hok.1 hok.2.1 hok.2.2.2.2.1 hin hok.2.2.2.1 hok.2.2.2.2.2.1 hP o hg hc kf hk (by rw [e2, e3]; exact hok.2.2.2.2.1 _ hlk) (fun _ h9 => by rw [e1] at h9; exact h9) hv hdg (k hok H locs ls hP hS hl)
theorem go_put {C ref nm ds : String} {T : u_T} {N ci idx o kf : Nat} {fs : List Value} {v : Value} {ty : FieldType} {σ' : ST} (hin : ∀ w ∈ u_ws C T N, w ∈ WD) (ty0 : Nat → FieldType) (hty : ∀ k, k < N → parseFieldDescriptor (T k).2.2.1 = some (ty0 k)) (hnm : ∀ a, a < N → ∀ b, b < N → a ≠ b → (T a).2.1 ≠ (T b).2.1) (hc : vwCl[ci]? = some (C, T, N)) (hdg : decode cc pc = .ok (.putfield idx, 3)) (hp : pc + 3 = pc') (hlk : Cond.fieldLink own idx ref nm ds ∈ WD) (he : cellOf L σ o = .inr (ci, fs)) (ho : o < 136) (hk : kf < N) (hT : T kf = (ref, nm, ds, false)) (hd : ty0 kf = ty) (hn : narrow ty v = v) (hf : fits ty v = true) (hl9 : kf < fs.length) (he' : cellOf L σ' o = .inr (ci, fs.set kf v)) (hoth : ∀ j : Nat, j ≠ o → cellOf L σ' j = cellOf L σ j)
    (k : Go F L own cc nL R ret Q σ' pc' lv st) : Go F L own cc nL R ret Q σ pc lv (v :: .ref (L.2.1 o) :: st) := by
  subst hp
  intro hok H locs ls hP hS hl
  have hg := xw_get L σ ho
  rw [he] at hg
  have e1 : (T kf).1 = ref := by rw [hT]
  have e2 : (T kf).2.1 = nm := by rw [hT]
  have e3 : (T kf).2.2.1 = ds := by rw [hT]
  have e4 : (T kf).2.2.2 = false := by rw [hT]
  refine va_put (ref := ref) (C := C) (T := T) (N := N) (ci := ci) (index := idx) (ty := ty) hok.1 hok.2.1 hok.2.2.2.2.1 hin ty0 hty hnm hok.2.2.2.1 hok.2.2.2.2.2.1 hP (xw_D hok.2.2.2.2.2.2.1 hok.2.2.2.2.2.2.2.1 σ) hS o hg hc kf hk (by rw [e2, e3]; exact hok.2.2.2.2.1 _ hlk) (fun _ h9 => by rw [e1] at h9; exact h9) e4 (by rw [hty kf hk, hd]) hn hf hl9 hdg (fun H1 locs1 hP1 hD1 hS1 => ?_)
  rw [xw_set ho he' hoth] at hP1
  exact k hok H1 locs1 ls hP1 hS1 hl
/-- arrays of numbers -/
theorem go_iald {a : Nat} {j : Int32} (hdg : decode cc pc = .ok (.iaload, 1)) (hp : pc + 1 = pc') (h19 : 19 ≤ a) (hN : a < 136) (hty : aty a = .int) (hin : vp_in j (alen a))
    (k : Go F L own cc nL R ret Q σ pc' lv (.int (σ.2 a j.toNatClampNeg) :: st)) : Go F L own cc nL R ret Q σ pc lv (.int j :: .ref (L.2.1 a) :: st) := by
  subst hp
  intro hok H locs ls hP hS hl
  have hg := xw_get L σ hN
  rw [cell_arr L σ h19] at hg
  have ht := tys_get L (show 14 ≤ a by omega) hN
  rw [hty] at ht
  exact va_iald hok.1 hok.2.1 hok.2.2.2.2.2.1 hP a (a - 14) hg ht hin hdg (k hok H locs ls hP hS hl)
theorem go_bald {a : Nat} {j : Int32} (hdg : decode cc pc = .ok (.baload, 1)) (hp : pc + 1 = pc') (h19 : 19 ≤ a) (hN : a < 136) (hty : aty a = .byte) (hin : vp_in j (alen a))
    (k : Go F L own cc nL R ret Q σ pc' lv (.int (σ.2 a j.toNatClampNeg) :: st)) : Go F L own cc nL R ret Q σ pc lv (.int j :: .ref (L.2.1 a) :: st) := by
  subst hp
  intro hok H locs ls hP hS hl
  have hg := xw_get L σ hN
  rw [cell_arr L σ h19] at hg
  have ht := tys_get L (show 14 ≤ a by omega) hN
  rw [hty] at ht
  exact va_bald hok.1 hok.2.1 hok.2.2.2.2.2.1 hP a (a - 14) hg ht hin hdg (k hok H locs ls hP hS hl)
theorem go_zald {a : Nat} {j : Int32} (hdg : decode cc pc = .ok (.baload, 1)) (hp : pc + 1 = pc') (h19 : 19 ≤ a) (hN : a < 136) (hty : aty a = .boolean) (hin : vp_in j (alen a))
    (k : Go F L own cc nL R ret Q σ pc' lv (.int (σ.2 a j.toNatClampNeg) :: st)) : Go F L own cc nL R ret Q σ pc lv (.int j :: .ref (L.2.1 a) :: st) := by
  subst hp
  intro hok H locs ls hP hS hl
  have hg := xw_get L σ hN
  rw [cell_arr L σ h19] at hg
  have ht := tys_get L (show 14 ≤ a by omega) hN
  rw [hty] at ht
  exact va_zald hok.1 hok.2.1 hok.2.2.2.2.2.1 hP a (a - 14) hg ht hin hdg (k hok H locs ls hP hS hl)
theorem go_iast {a : Nat} {j x : Int32} (hdg : decode cc pc = .ok (.iastore, 1)) (hp : pc + 1 = pc') (h19 : 19 ≤ a) (hN : a < 136) (hty : aty a = .int) (hin : vp_in j (alen a))
    (k : Go F L own cc nL R ret Q (setA σ a j.toNatClampNeg x) pc' lv st) : Go F L own cc nL R ret Q σ pc lv (.int x :: .int j :: .ref (L.2.1 a) :: st) := by
  subst hp
  intro hok H locs ls hP hS hl
  have hg := xw_get L σ hN
  rw [cell_arr L σ h19] at hg
  have ht := tys_get L (show 14 ≤ a by omega) hN
  rw [hty] at ht
  refine va_iast hok.1 hok.2.1 hok.2.2.2.2.2.1 hP (xw_D hok.2.2.2.2.2.2.1 hok.2.2.2.2.2.2.2.1 σ) hS a (a - 14) hg ht hin hdg (fun H1 locs1 hP1 hD1 hS1 => ?_)
  rw [xw_set (σ' := setA σ a j.toNatClampNeg x) hN (by rw [cell_arr L _ h19, setA_same]) (cell_setA L σ a _ x h19)] at hP1
  exact k hok H1 locs1 ls hP1 hS1 hl
theorem go_bast {a : Nat} {j x : Int32} (hdg : decode cc pc = .ok (.bastore, 1)) (hp : pc + 1 = pc') (h19 : 19 ≤ a) (hN : a < 136) (hty : aty a = .byte) (hin : vp_in j (alen a))
    (k : Go F L own cc nL R ret Q (setA σ a j.toNatClampNeg x.toInt8.toInt32) pc' lv st) : Go F L own cc nL R ret Q σ pc lv (.int x :: .int j :: .ref (L.2.1 a) :: st) := by
  subst hp
  intro hok H locs ls hP hS hl
  have hg := xw_get L σ hN
  rw [cell_arr L σ h19] at hg
  have ht := tys_get L (show 14 ≤ a by omega) hN
  rw [hty] at ht
  refine va_bast hok.1 hok.2.1 hok.2.2.2.2.2.1 hP (xw_D hok.2.2.2.2.2.2.1 hok.2.2.2.2.2.2.2.1 σ) hS a (a - 14) hg ht hin hdg (fun H1 locs1 hP1 hD1 hS1 => ?_)
  rw [vp_nar_byte, xw_set (σ' := setA σ a j.toNatClampNeg x.toInt8.toInt32) hN (by rw [cell_arr L _ h19, setA_same]) (cell_setA L σ a _ _ h19)] at hP1
  exact k hok H1 locs1 ls hP1 hS1 hl
theorem go_zast {a : Nat} {j x : Int32} (hdg : decode cc pc = .ok (.bastore, 1)) (hp : pc + 1 = pc') (h19 : 19 ≤ a) (hN : a < 136) (hty : aty a = .boolean) (hin : vp_in j (alen a)) (hz : vp_nar .boolean x = x)
    (k : Go F L own cc nL R ret Q (setA σ a j.toNatClampNeg x) pc' lv st) : Go F L own cc nL R ret Q σ pc lv (.int x :: .int j :: .ref (L.2.1 a) :: st) := by
  subst hp
  intro hok H locs ls hP hS hl
  have hg := xw_get L σ hN
  rw [cell_arr L σ h19] at hg
  have ht := tys_get L (show 14 ≤ a by omega) hN
  rw [hty] at ht
  refine va_zast hok.1 hok.2.1 hok.2.2.2.2.2.1 hP (xw_D hok.2.2.2.2.2.2.1 hok.2.2.2.2.2.2.2.1 σ) hS a (a - 14) hg ht hin hdg (fun H1 locs1 hP1 hD1 hS1 => ?_)
  rw [hz, xw_set (σ' := setA σ a j.toNatClampNeg x) hN (by rw [cell_arr L _ h19, setA_same]) (cell_setA L σ a _ _ h19)] at hP1
  exact k hok H1 locs1 ls hP1 hS1 hl
theorem go_alen {a : Nat} {v : Int32} (hdg : decode cc pc = .ok (.arraylength, 1)) (hp : pc + 1 = pc') (h19 : 19 ≤ a) (hN : a < 136) (hv : Int32.ofNat (alen a) = v)
    (k : Go F L own cc nL R ret Q σ pc' lv (.int v :: st)) : Go F L own cc nL R ret Q σ pc lv (.ref (L.2.1 a) :: st) := by
  subst hp
  intro hok H locs ls hP hS hl
  have hg := xw_get L σ hN
  rw [cell_arr L σ h19] at hg
  have ht := tys_get L (show 14 ≤ a by omega) hN
  exact va_alen hok.1 hok.2.1 hok.2.2.2.2.2.1 hP a (a - 14) hg ht hv hdg (k hok H locs ls hP hS hl)
/-- a row of an array of arrays -/
theorem go_aald {a b : Nat} {j : Int32} (hdg : decode cc pc = .ok (.aaload, 1)) (hp : pc + 1 = pc') (h14 : 14 ≤ a) (hN : a < 19) (hty : ∃ t, aty a = .array t) (hin : vp_in j (xon a)) (hb : xof a = b)
    (k : Go F L own cc nL R ret Q σ pc' lv (.ref (L.2.1 (b + j.toNatClampNeg)) :: st)) : Go F L own cc nL R ret Q σ pc lv (.int j :: .ref (L.2.1 a) :: st) := by
  subst hp
  subst hb
  intro hok H locs ls hP hS hl
  have hg := xw_get L σ (show a < 136 by omega)
  rw [cell_out L σ h14 hN] at hg
  have ht := tys_get L h14 (show a < 136 by omega)
  obtain ⟨t, hty⟩ := hty
  have hlt : j.toNatClampNeg < xon a := Nat.not_le.mp fun q => hin (Or.inr q)
  refine W.aald (v := .ref (L.2.1 (xof a + j.toNatClampNeg))) (ty := .array t) hok.1 hok.2.1 (hP a _ hg) (by rw [hty] at ht; exact (hok.2.2.2.2.2.1.2 _ _ ht).1 (xon a) (fun i => va_rf (if i < xon a then some (L.2.1 (xof a + i)) else none))) rfl (fun q => by cases q) (by show ¬ (j < 0 ∨ (arrV _ _ _).slots.size ≤ _); rw [arrV_size]; exact hin) (by show (arrV _ _ _).slots[_]? = _; rw [arrV_read _ _ hlt]; show some (va_rf (if j.toNatClampNeg < xon a then some (L.2.1 (xof a + j.toNatClampNeg)) else none)) = _; rw [if_pos hlt]; rfl) rfl rfl hdg (k hok H locs ls hP hS hl)
/-- the constant table ABOVE: its reference is carried by a name -/
theorem go_above {idx : Nat} (hdg : decode cc pc = .ok (.getstatic idx, 3)) (hp : pc + 3 = pc') (hlk : Cond.fieldLink own idx "LetterDrawer$Letters" "ABOVE" "[I" ∈ WD)
    (k : ∀ t : Nat, va_T .int t 6 abvF F.2.2.2.2.2.2.2.2.2.1 F.2.2.2.1 F.2.2.2.1.heap → Go F L own cc nL R ret Q σ pc' lv (.ref t :: st)) : Go F L own cc nL R ret Q σ pc lv st := by
  subst hp
  intro hok H locs ls hP hS hl
  obtain ⟨t, hZ, hT⟩ := hok.2.2.2.2.2.2.2.2.2.2.1
  exact va_gets hok.1 hok.2.1 hZ hS hok.2.2.2.1 (hok.2.2.2.2.1 _ hlk) (fun _ h => h) hdg (k t hT hok H locs ls hP hS hl)
theorem go_tld {t : Nat} {j v : Int32} (hT : va_T .int t 6 abvF F.2.2.2.2.2.2.2.2.2.1 F.2.2.2.1 F.2.2.2.1.heap) (hdg : decode cc pc = .ok (.iaload, 1)) (hp : pc + 1 = pc') (hin : vp_in j 6) (hv : abvF j.toNatClampNeg = .int v)
    (k : Go F L own cc nL R ret Q σ pc' lv (.int v :: st)) : Go F L own cc nL R ret Q σ pc lv (.int j :: .ref t :: st) := by
  subst hp
  intro hok H locs ls hP hS hl
  exact va_ti hok.1 hok.2.1 hT hS hin hv hdg (k hok H locs ls hP hS hl)
/-- ends -/
theorem go_iret {post : Int32 → ST → Prop} {v : Int32} (hdg : decode cc pc = .ok (.ireturn, 1)) (hr : ret = some .int) (h : post v σ) : Go F L own cc nL R ret (RI F L post) σ pc lv [.int v] := by
  subst hr
  intro hok H locs ls hP hS hl
  exact W.iret hok.1 hok.2.1 hok.2.2.2.2.2.2.2.2.1 (fun t ht hW => ⟨⟨v, σ, rfl, h, by show va_P _ _ _ t.heap; rw [ht]; exact hP⟩, hS.F ht⟩) hS.2.2 hdg hok.2.2.2.2.2.2.2.2.2.1
theorem go_zret {post : Int32 → ST → Prop} {v : Int32} (hdg : decode cc pc = .ok (.ireturn, 1)) (hr : ret = some .boolean) (hz : narrow .boolean (.int v) = .int v) (h : post v σ) : Go F L own cc nL R ret (RI F L post) σ pc lv [.int v] := by
  subst hr
  intro hok H locs ls hP hS hl
  exact W.zret hok.1 hok.2.1 hok.2.2.2.2.2.2.2.2.1 hz (fun t ht hW => ⟨⟨v, σ, rfl, h, by show va_P _ _ _ t.heap; rw [ht]; exact hP⟩, hS.F ht⟩) hS.2.2 hdg hok.2.2.2.2.2.2.2.2.2.1
theorem go_vret {post : ST → Prop} (hdg : decode cc pc = .ok (.return_, 1)) (hr : ret = none) (h : post σ) : Go F L own cc nL R ret (RV F L post) σ pc lv [] := by
  subst hr
  intro hok H locs ls hP hS hl
  exact W.vret hok.1 hok.2.1 hok.2.2.2.2.2.2.2.2.1 (fun t ht hW => ⟨⟨σ, rfl, h, by show va_P _ _ _ t.heap; rw [ht]; exact hP⟩, hS.F ht⟩) hS.2.2 hdg hok.2.2.2.2.2.2.2.2.2.1
/-- calls -/
theorem go_pre (hok : OKx F L own cc nL R ret) {H : Heap} {locs : List Loc} (hP : va_P L.1 vwCl (xw L σ) H) (hS : va_S F.2.2.2.2.2.2.2.2.2.1 F.2.2.2.1.heap H locs) (av : List Value) : ∀ U : State, U.heap = H → F.2.2.2.1.WarmedH U.vm → va_Pc av (WOK L σ) av.toArray U := fun U hU hW =>
  ⟨rfl, by rw [hU]; exact hP, va_K.moved hW.alike hok.2.2.2.2.2.1, hok.2.2.2.2.2.2.1, by rw [hU]; exact abv_moved hW.alike (abv_narrow (abv_kept hok.2.2.2.2.2.2.2.2.2.2.1 (fun a h1 h2 => hS.2.1 a h1 h2)) hok.2.2.2.2.2.2.2.1)⟩
section GOC
variable {C : String} {y : MethodName} {b2 : ByteArray} {n2 kn idx o ci : Nat} {r2 : Option FieldType} {rm : Room} {As rest : List Value}
theorem go_cb (hok : OKx F L own cc nL R ret) (hm : Cond.methodLink own idx y ∈ WD) (hcl : Cond.initialized y.cls ∈ WD) (hco : Cond.code y b2 n2 r2 ∈ WD) (hd : y.cls ≠ "java/lang/invoke/MethodHandle" ∧ y.cls ≠ "java/lang/invoke/VarHandle" ∧ (parseMethodDescriptor y.desc).map (fun d => d.parameters.length) = some kn) (hR : rm.frames + 1 ≤ R.frames ∧ 8 + (n2 + 11) + rm.locals ≤ R.locals) (h0 : rm.cells = 0 ∧ rm.slots = 0) : CallB R F.2.2.2.1 F.2.2.2.2.2.1 own idx y b2 n2 r2 (Cond.code y b2 n2 r2 :: WD) rm 0 0 kn :=
  callB_of kn hok.2.2.2.2.1 (wd_goodIn y b2 n2 r2 hco) rfl h0.1 h0.2 (hok.2.2.2.2.1 _ hcl) (hok.2.2.2.2.1 _ hm) hd hR
theorem go_cvi {post : Int32 → ST → Prop} (lk : LkV own idx C y b2 n2 r2 kn) (hc : CtI F.2.1 L y b2 n2 r2 rm (.ref (L.2.1 o) :: As) σ post) (hst : st = As.reverse ++ .ref (L.2.1 o) :: rest) (hAs : As.length = kn) (hrest : (rest.map fun v => v.category).sum ≤ 8) (ho : o < 14) {fs : List Value} {cq : vw_C} (he : cellOf L σ o = .inr (ci, fs)) (hci : vwCl[ci]? = some cq) (hcq : cq.1 = C) (hR : rm.frames + 1 ≤ R.frames ∧ 8 + (n2 + 11) + rm.locals ≤ R.locals) (h0 : rm.cells = 0 ∧ rm.slots = 0) (hdg : decode cc pc = .ok (.invokevirtual idx, 3)) (hp : pc + 3 = pc')
    (k : ∀ (r : Int32) (σ' : ST), post r σ' → Go F L own cc nL R ret Q σ' pc' lv (.int r :: rest)) : Go F L own cc nL R ret Q σ pc lv st := by
  subst hp
  subst hst
  subst hcq
  intro hok H locs ls hP hS hl
  obtain ⟨l1, l2, l3, l4, l5, l6, l7, l8, l9⟩ := lk
  have hg := xw_get L σ (show o < 136 by omega)
  rw [he] at hg
  refine va_calli (va_runV (As := As) (rest := rest) ⟨hok.1, hok.2.1, hok.2.2.1, hok.2.2.2.1, hok.2.2.2.2.1⟩ hc ⟨go_cb hok l1 (l6 ▸ l4) l5 ⟨l7, l8, l9⟩ hR h0, hok.2.2.2.2.1 _ l2, hok.2.2.2.2.1 _ l3⟩ ⟨WOK_blind L σ _, va_recv hok.2.2.2.2.2.1 hP hci hg, go_pre hok hP hS _⟩ rfl hAs hl.1 rfl (lv_room hrest) hdg ⟨hok.2.2.2.2.2.2.2.2.2.2.2.1, hok.2.2.2.2.2.2.2.2.2.2.2.2⟩) hS (fun q _ h => hok.2.2.2.2.2.2.2.1 q h) hok.2.2.2.2.2.2.2.1 (fun r σ' t H1 locs1 ht hvm hw hB hz1 hk1 hS1 => ?_)
  rw [ht] at hB
  exact k r σ' hw hok H1 locs1 ls hB hS1 hl
theorem go_cvv {post : ST → Prop} (lk : LkV own idx C y b2 n2 r2 kn) (hc : CtV F.2.1 L y b2 n2 r2 rm (.ref (L.2.1 o) :: As) σ post) (hst : st = As.reverse ++ .ref (L.2.1 o) :: rest) (hAs : As.length = kn) (hrest : (rest.map fun v => v.category).sum ≤ 8) (ho : o < 14) {fs : List Value} {cq : vw_C} (he : cellOf L σ o = .inr (ci, fs)) (hci : vwCl[ci]? = some cq) (hcq : cq.1 = C) (hR : rm.frames + 1 ≤ R.frames ∧ 8 + (n2 + 11) + rm.locals ≤ R.locals) (h0 : rm.cells = 0 ∧ rm.slots = 0) (hdg : decode cc pc = .ok (.invokevirtual idx, 3)) (hp : pc + 3 = pc')
    (k : ∀ (σ' : ST), post σ' → Go F L own cc nL R ret Q σ' pc' lv rest) : Go F L own cc nL R ret Q σ pc lv st := by
  subst hp
  subst hst
  subst hcq
  intro hok H locs ls hP hS hl
  obtain ⟨l1, l2, l3, l4, l5, l6, l7, l8, l9⟩ := lk
  have hg := xw_get L σ (show o < 136 by omega)
  rw [he] at hg
  refine va_callv (va_runV (As := As) (rest := rest) ⟨hok.1, hok.2.1, hok.2.2.1, hok.2.2.2.1, hok.2.2.2.2.1⟩ hc ⟨go_cb hok l1 (l6 ▸ l4) l5 ⟨l7, l8, l9⟩ hR h0, hok.2.2.2.2.1 _ l2, hok.2.2.2.2.1 _ l3⟩ ⟨WOK_blind L σ _, va_recv hok.2.2.2.2.2.1 hP hci hg, go_pre hok hP hS _⟩ rfl hAs hl.1 rfl (lv_room hrest) hdg ⟨hok.2.2.2.2.2.2.2.2.2.2.2.1, hok.2.2.2.2.2.2.2.2.2.2.2.2⟩) hS (fun q _ h => hok.2.2.2.2.2.2.2.1 q h) hok.2.2.2.2.2.2.2.1 (fun σ' t H1 locs1 ht hvm hw hB hz1 hk1 hS1 => ?_)
  rw [ht] at hB
  exact k σ' hw hok H1 locs1 ls hB hS1 hl
theorem go_csi {post : Int32 → ST → Prop} (lk : LkS own idx y b2 n2 r2 kn) (hc : CtI F.2.1 L y b2 n2 r2 rm As σ post) (hst : st = As.reverse ++ rest) (hAs : As.length = kn) (hrest : (rest.map fun v => v.category).sum ≤ 8) (hR : rm.frames + 1 ≤ R.frames ∧ 8 + (n2 + 11) + rm.locals ≤ R.locals) (h0 : rm.cells = 0 ∧ rm.slots = 0) (hdg : decode cc pc = .ok (.invokestatic idx, 3)) (hp : pc + 3 = pc')
    (k : ∀ (r : Int32) (σ' : ST), post r σ' → Go F L own cc nL R ret Q σ' pc' lv (.int r :: rest)) : Go F L own cc nL R ret Q σ pc lv st := by
  subst hp
  subst hst
  intro hok H locs ls hP hS hl
  obtain ⟨l1, l2, l4, l5, l7, l8, l9⟩ := lk
  refine va_calli (va_runS (As := As) (rest := rest) ⟨hok.1, hok.2.1, hok.2.2.1, hok.2.2.2.1, hok.2.2.2.2.1⟩ hc ⟨go_cb hok l1 l4 l5 ⟨l7, l8, l9⟩ hR h0, hok.2.2.2.2.1 _ l2⟩ ⟨WOK_blind L σ _, go_pre hok hP hS _⟩ rfl hAs hl.1 rfl (lv_room hrest) hdg ⟨hok.2.2.2.2.2.2.2.2.2.2.2.1, hok.2.2.2.2.2.2.2.2.2.2.2.2⟩) hS (fun q _ h => hok.2.2.2.2.2.2.2.1 q h) hok.2.2.2.2.2.2.2.1 (fun r σ' t H1 locs1 ht hvm hw hB hz1 hk1 hS1 => ?_)
  rw [ht] at hB
  exact k r σ' hw hok H1 locs1 ls hB hS1 hl
end GOC
theorem go_max {idx : Nat} {x y : Int32} (hdg : decode cc pc = .ok (.invokestatic idx, 3)) (hp : pc + 3 = pc') (hlk : Cond.methodLink own idx Lib.Math.max.name ∈ WD) (hw : (st.map fun v => v.category).sum + 13 ≤ R.locals) (hf : 1 ≤ R.frames)
    (k : Go F L own cc nL R ret Q σ pc' lv (.int (if x < y then y else x) :: st)) : Go F L own cc nL R ret Q σ pc lv (.int y :: .int x :: st) := by
  subst hp
  intro hok H locs ls hP hS hl
  exact va_mmax hok.1 hok.2.1 (hok.2.2.1.trans hl.1.symm) hok.2.2.2.1 (hok.2.2.2.2.1 _ hlk) (hok.2.2.2.2.1 _ sm_Lib_Math_max_name) (hok.2.2.2.2.1 _ ini_java_lang_Math) (hok.2.2.2.2.1 _ co_Lib_Math_max_name) hf hw hok.2.2.2.2.2.2.2.2.2.2.2.1 hok.2.2.2.2.2.2.2.2.2.2.2.2 hdg (k hok H locs ls hP hS hl)
theorem go_min {idx : Nat} {x y : Int32} (hdg : decode cc pc = .ok (.invokestatic idx, 3)) (hp : pc + 3 = pc') (hlk : Cond.methodLink own idx Lib.Math.min.name ∈ WD) (hw : (st.map fun v => v.category).sum + 13 ≤ R.locals) (hf : 1 ≤ R.frames)
    (k : Go F L own cc nL R ret Q σ pc' lv (.int (if y < x then y else x) :: st)) : Go F L own cc nL R ret Q σ pc lv (.int y :: .int x :: st) := by
  subst hp
  intro hok H locs ls hP hS hl
  exact va_mmin hok.1 hok.2.1 (hok.2.2.1.trans hl.1.symm) hok.2.2.2.1 (hok.2.2.2.2.1 _ hlk) (hok.2.2.2.2.1 _ sm_Lib_Math_min_name) (hok.2.2.2.2.1 _ ini_java_lang_Math) (hok.2.2.2.2.1 _ co_Lib_Math_min_name) hf hw hok.2.2.2.2.2.2.2.2.2.2.2.1 hok.2.2.2.2.2.2.2.2.2.2.2.2 hdg (k hok H locs ls hP hS hl)
end GOR

section GOF
variable {F : FX} {L : WL} {own : String} {cc : ByteArray} {nL : Nat} {R : Room} {ret : Option FieldType} {Q : State → Prop} {σ : ST} {pc pc' : Nat} {lv : List (Nat × Value)} {st : List Value}
theorem gf_0_people {idx : Nat} (hdg : decode cc pc = .ok (.getfield idx, 3)) (hp : pc + 3 = pc') (hlk : Cond.fieldLink own idx "LetterDrawer" "people" "LLetterDrawer$People;" ∈ WD) (k : Go F L own cc nL R ret Q σ pc' lv (.ref (L.2.1 1) :: st)) : Go F L own cc nL R ret Q σ pc lv (.ref (L.2.1 0) :: st) :=
  go_get (C := RX11) (T := TX11) (N := 14) (ci := 11) (kf := 0) inlX11 rfl hdg hp hlk rfl (by decide) (by decide) rfl rfl k
theorem gf_0_letters {idx : Nat} (hdg : decode cc pc = .ok (.getfield idx, 3)) (hp : pc + 3 = pc') (hlk : Cond.fieldLink own idx "LetterDrawer" "letters" "LLetterDrawer$Letters;" ∈ WD) (k : Go F L own cc nL R ret Q σ pc' lv (.ref (L.2.1 2) :: st)) : Go F L own cc nL R ret Q σ pc lv (.ref (L.2.1 0) :: st) :=
  go_get (C := RX11) (T := TX11) (N := 14) (ci := 11) (kf := 1) inlX11 rfl hdg hp hlk rfl (by decide) (by decide) rfl rfl k
theorem gf_0_calendar {idx : Nat} (hdg : decode cc pc = .ok (.getfield idx, 3)) (hp : pc + 3 = pc') (hlk : Cond.fieldLink own idx "LetterDrawer" "calendar" "LLetterDrawer$Calendar;" ∈ WD) (k : Go F L own cc nL R ret Q σ pc' lv (.ref (L.2.1 3) :: st)) : Go F L own cc nL R ret Q σ pc lv (.ref (L.2.1 0) :: st) :=
  go_get (C := RX11) (T := TX11) (N := 14) (ci := 11) (kf := 2) inlX11 rfl hdg hp hlk rfl (by decide) (by decide) rfl rfl k
theorem gf_0_posts {idx : Nat} (hdg : decode cc pc = .ok (.getfield idx, 3)) (hp : pc + 3 = pc') (hlk : Cond.fieldLink own idx "LetterDrawer" "posts" "LLetterDrawer$Posts;" ∈ WD) (k : Go F L own cc nL R ret Q σ pc' lv (.ref (L.2.1 4) :: st)) : Go F L own cc nL R ret Q σ pc lv (.ref (L.2.1 0) :: st) :=
  go_get (C := RX11) (T := TX11) (N := 14) (ci := 11) (kf := 3) inlX11 rfl hdg hp hlk rfl (by decide) (by decide) rfl rfl k
theorem gf_0_hands {idx : Nat} (hdg : decode cc pc = .ok (.getfield idx, 3)) (hp : pc + 3 = pc') (hlk : Cond.fieldLink own idx "LetterDrawer" "hands" "LLetterDrawer$Hands;" ∈ WD) (k : Go F L own cc nL R ret Q σ pc' lv (.ref (L.2.1 5) :: st)) : Go F L own cc nL R ret Q σ pc lv (.ref (L.2.1 0) :: st) :=
  go_get (C := RX11) (T := TX11) (N := 14) (ci := 11) (kf := 4) inlX11 rfl hdg hp hlk rfl (by decide) (by decide) rfl rfl k
theorem gf_0_tape {idx : Nat} (hdg : decode cc pc = .ok (.getfield idx, 3)) (hp : pc + 3 = pc') (hlk : Cond.fieldLink own idx "LetterDrawer" "tape" "LLetterDrawer$Tape;" ∈ WD) (k : Go F L own cc nL R ret Q σ pc' lv (.ref (L.2.1 6) :: st)) : Go F L own cc nL R ret Q σ pc lv (.ref (L.2.1 0) :: st) :=
  go_get (C := RX11) (T := TX11) (N := 14) (ci := 11) (kf := 5) inlX11 rfl hdg hp hlk rfl (by decide) (by decide) rfl rfl k
theorem gf_0_reader {idx : Nat} (hdg : decode cc pc = .ok (.getfield idx, 3)) (hp : pc + 3 = pc') (hlk : Cond.fieldLink own idx "LetterDrawer" "reader" "LLetterDrawer$MarkReader;" ∈ WD) (k : Go F L own cc nL R ret Q σ pc' lv (.ref (L.2.1 7) :: st)) : Go F L own cc nL R ret Q σ pc lv (.ref (L.2.1 0) :: st) :=
  go_get (C := RX11) (T := TX11) (N := 14) (ci := 11) (kf := 6) inlX11 rfl hdg hp hlk rfl (by decide) (by decide) rfl rfl k
theorem gf_0_printer {idx : Nat} (hdg : decode cc pc = .ok (.getfield idx, 3)) (hp : pc + 3 = pc') (hlk : Cond.fieldLink own idx "LetterDrawer" "printer" "LLetterDrawer$Printer;" ∈ WD) (k : Go F L own cc nL R ret Q σ pc' lv (.ref (L.2.1 8) :: st)) : Go F L own cc nL R ret Q σ pc lv (.ref (L.2.1 0) :: st) :=
  go_get (C := RX11) (T := TX11) (N := 14) (ci := 11) (kf := 7) inlX11 rfl hdg hp hlk rfl (by decide) (by decide) rfl rfl k
theorem gf_0_someWords {idx : Nat} (hdg : decode cc pc = .ok (.getfield idx, 3)) (hp : pc + 3 = pc') (hlk : Cond.fieldLink own idx "LetterDrawer" "someWords" "LLetterDrawer$WordRow;" ∈ WD) (k : Go F L own cc nL R ret Q σ pc' lv (.ref (L.2.1 9) :: st)) : Go F L own cc nL R ret Q σ pc lv (.ref (L.2.1 0) :: st) :=
  go_get (C := RX11) (T := TX11) (N := 14) (ci := 11) (kf := 8) inlX11 rfl hdg hp hlk rfl (by decide) (by decide) rfl rfl k
theorem gf_0_otherWords {idx : Nat} (hdg : decode cc pc = .ok (.getfield idx, 3)) (hp : pc + 3 = pc') (hlk : Cond.fieldLink own idx "LetterDrawer" "otherWords" "LLetterDrawer$WordRow;" ∈ WD) (k : Go F L own cc nL R ret Q σ pc' lv (.ref (L.2.1 10) :: st)) : Go F L own cc nL R ret Q σ pc lv (.ref (L.2.1 0) :: st) :=
  go_get (C := RX11) (T := TX11) (N := 14) (ci := 11) (kf := 9) inlX11 rfl hdg hp hlk rfl (by decide) (by decide) rfl rfl k
theorem gf_0_sequence {idx : Nat} (hdg : decode cc pc = .ok (.getfield idx, 3)) (hp : pc + 3 = pc') (hlk : Cond.fieldLink own idx "LetterDrawer" "sequence" "LLetterDrawer$Sequence;" ∈ WD) (k : Go F L own cc nL R ret Q σ pc' lv (.ref (L.2.1 11) :: st)) : Go F L own cc nL R ret Q σ pc lv (.ref (L.2.1 0) :: st) :=
  go_get (C := RX11) (T := TX11) (N := 14) (ci := 11) (kf := 10) inlX11 rfl hdg hp hlk rfl (by decide) (by decide) rfl rfl k
theorem gf_0_trays {idx : Nat} (hdg : decode cc pc = .ok (.getfield idx, 3)) (hp : pc + 3 = pc') (hlk : Cond.fieldLink own idx "LetterDrawer" "trays" "LLetterDrawer$Trays;" ∈ WD) (k : Go F L own cc nL R ret Q σ pc' lv (.ref (L.2.1 12) :: st)) : Go F L own cc nL R ret Q σ pc lv (.ref (L.2.1 0) :: st) :=
  go_get (C := RX11) (T := TX11) (N := 14) (ci := 11) (kf := 11) inlX11 rfl hdg hp hlk rfl (by decide) (by decide) rfl rfl k
theorem gf_0_faultKind {idx : Nat} (hdg : decode cc pc = .ok (.getfield idx, 3)) (hp : pc + 3 = pc') (hlk : Cond.fieldLink own idx "LetterDrawer" "faultKind" "I" ∈ WD) (k : Go F L own cc nL R ret Q σ pc' lv (.int (σ.1 0) :: st)) : Go F L own cc nL R ret Q σ pc lv (.ref (L.2.1 0) :: st) :=
  go_get (C := RX11) (T := TX11) (N := 14) (ci := 11) (kf := 12) inlX11 rfl hdg hp hlk rfl (by decide) (by decide) rfl rfl k
theorem pf_0_faultKind {idx : Nat} {v : Int32} (hdg : decode cc pc = .ok (.putfield idx, 3)) (hp : pc + 3 = pc') (hlk : Cond.fieldLink own idx "LetterDrawer" "faultKind" "I" ∈ WD) (k : Go F L own cc nL R ret Q (setI σ 0 v) pc' lv st) : Go F L own cc nL R ret Q σ pc lv (.int v :: .ref (L.2.1 0) :: st) :=
  go_put (C := RX11) (T := TX11) (N := 14) (ci := 11) (kf := 12) (ty := .int) inlX11 tyX11 tyX11_ok nmX11 rfl hdg hp hlk rfl (by decide) (by decide) rfl rfl rfl rfl (Nat.le_of_ble_eq_true rfl) rfl (cell_setI L σ 0 v) k
theorem gf_0_faultPlace {idx : Nat} (hdg : decode cc pc = .ok (.getfield idx, 3)) (hp : pc + 3 = pc') (hlk : Cond.fieldLink own idx "LetterDrawer" "faultPlace" "I" ∈ WD) (k : Go F L own cc nL R ret Q σ pc' lv (.int (σ.1 1) :: st)) : Go F L own cc nL R ret Q σ pc lv (.ref (L.2.1 0) :: st) :=
  go_get (C := RX11) (T := TX11) (N := 14) (ci := 11) (kf := 13) inlX11 rfl hdg hp hlk rfl (by decide) (by decide) rfl rfl k
theorem pf_0_faultPlace {idx : Nat} {v : Int32} (hdg : decode cc pc = .ok (.putfield idx, 3)) (hp : pc + 3 = pc') (hlk : Cond.fieldLink own idx "LetterDrawer" "faultPlace" "I" ∈ WD) (k : Go F L own cc nL R ret Q (setI σ 1 v) pc' lv st) : Go F L own cc nL R ret Q σ pc lv (.int v :: .ref (L.2.1 0) :: st) :=
  go_put (C := RX11) (T := TX11) (N := 14) (ci := 11) (kf := 13) (ty := .int) inlX11 tyX11 tyX11_ok nmX11 rfl hdg hp hlk rfl (by decide) (by decide) rfl rfl rfl rfl (Nat.le_of_ble_eq_true rfl) rfl (cell_setI L σ 1 v) k
theorem gf_1_names {idx : Nat} (hdg : decode cc pc = .ok (.getfield idx, 3)) (hp : pc + 3 = pc') (hlk : Cond.fieldLink own idx "LetterDrawer$People" "names" "[I" ∈ WD) (k : Go F L own cc nL R ret Q σ pc' lv (.ref (L.2.1 19) :: st)) : Go F L own cc nL R ret Q σ pc lv (.ref (L.2.1 1) :: st) :=
  go_get (C := RX4) (T := TX4) (N := 6) (ci := 4) (kf := 0) inlX4 rfl hdg hp hlk rfl (by decide) (by decide) rfl rfl k
theorem gf_1_places {idx : Nat} (hdg : decode cc pc = .ok (.getfield idx, 3)) (hp : pc + 3 = pc') (hlk : Cond.fieldLink own idx "LetterDrawer$People" "places" "[I" ∈ WD) (k : Go F L own cc nL R ret Q σ pc' lv (.ref (L.2.1 20) :: st)) : Go F L own cc nL R ret Q σ pc lv (.ref (L.2.1 1) :: st) :=
  go_get (C := RX4) (T := TX4) (N := 6) (ci := 4) (kf := 1) inlX4 rfl hdg hp hlk rfl (by decide) (by decide) rfl rfl k
theorem gf_1_firsts {idx : Nat} (hdg : decode cc pc = .ok (.getfield idx, 3)) (hp : pc + 3 = pc') (hlk : Cond.fieldLink own idx "LetterDrawer$People" "firsts" "[I" ∈ WD) (k : Go F L own cc nL R ret Q σ pc' lv (.ref (L.2.1 21) :: st)) : Go F L own cc nL R ret Q σ pc lv (.ref (L.2.1 1) :: st) :=
  go_get (C := RX4) (T := TX4) (N := 6) (ci := 4) (kf := 2) inlX4 rfl hdg hp hlk rfl (by decide) (by decide) rfl rfl k
theorem gf_1_lasts {idx : Nat} (hdg : decode cc pc = .ok (.getfield idx, 3)) (hp : pc + 3 = pc') (hlk : Cond.fieldLink own idx "LetterDrawer$People" "lasts" "[I" ∈ WD) (k : Go F L own cc nL R ret Q σ pc' lv (.ref (L.2.1 22) :: st)) : Go F L own cc nL R ret Q σ pc lv (.ref (L.2.1 1) :: st) :=
  go_get (C := RX4) (T := TX4) (N := 6) (ci := 4) (kf := 3) inlX4 rfl hdg hp hlk rfl (by decide) (by decide) rfl rfl k
theorem gf_1_known {idx : Nat} (hdg : decode cc pc = .ok (.getfield idx, 3)) (hp : pc + 3 = pc') (hlk : Cond.fieldLink own idx "LetterDrawer$People" "known" "[I" ∈ WD) (k : Go F L own cc nL R ret Q σ pc' lv (.ref (L.2.1 23) :: st)) : Go F L own cc nL R ret Q σ pc lv (.ref (L.2.1 1) :: st) :=
  go_get (C := RX4) (T := TX4) (N := 6) (ci := 4) (kf := 4) inlX4 rfl hdg hp hlk rfl (by decide) (by decide) rfl rfl k
theorem gf_1_size {idx : Nat} (hdg : decode cc pc = .ok (.getfield idx, 3)) (hp : pc + 3 = pc') (hlk : Cond.fieldLink own idx "LetterDrawer$People" "size" "I" ∈ WD) (k : Go F L own cc nL R ret Q σ pc' lv (.int (σ.1 2) :: st)) : Go F L own cc nL R ret Q σ pc lv (.ref (L.2.1 1) :: st) :=
  go_get (C := RX4) (T := TX4) (N := 6) (ci := 4) (kf := 5) inlX4 rfl hdg hp hlk rfl (by decide) (by decide) rfl rfl k
theorem pf_1_size {idx : Nat} {v : Int32} (hdg : decode cc pc = .ok (.putfield idx, 3)) (hp : pc + 3 = pc') (hlk : Cond.fieldLink own idx "LetterDrawer$People" "size" "I" ∈ WD) (k : Go F L own cc nL R ret Q (setI σ 2 v) pc' lv st) : Go F L own cc nL R ret Q σ pc lv (.int v :: .ref (L.2.1 1) :: st) :=
  go_put (C := RX4) (T := TX4) (N := 6) (ci := 4) (kf := 5) (ty := .int) inlX4 tyX4 tyX4_ok nmX4 rfl hdg hp hlk rfl (by decide) (by decide) rfl rfl rfl rfl (Nat.le_of_ble_eq_true rfl) rfl (cell_setI L σ 2 v) k
theorem gf_2_kinds {idx : Nat} (hdg : decode cc pc = .ok (.getfield idx, 3)) (hp : pc + 3 = pc') (hlk : Cond.fieldLink own idx "LetterDrawer$Letters" "kinds" "[I" ∈ WD) (k : Go F L own cc nL R ret Q σ pc' lv (.ref (L.2.1 24) :: st)) : Go F L own cc nL R ret Q σ pc lv (.ref (L.2.1 2) :: st) :=
  go_get (C := RX2) (T := TX2) (N := 11) (ci := 2) (kf := 0) inlX2 rfl hdg hp hlk rfl (by decide) (by decide) rfl rfl k
theorem gf_2_writers {idx : Nat} (hdg : decode cc pc = .ok (.getfield idx, 3)) (hp : pc + 3 = pc') (hlk : Cond.fieldLink own idx "LetterDrawer$Letters" "writers" "[I" ∈ WD) (k : Go F L own cc nL R ret Q σ pc' lv (.ref (L.2.1 25) :: st)) : Go F L own cc nL R ret Q σ pc lv (.ref (L.2.1 2) :: st) :=
  go_get (C := RX2) (T := TX2) (N := 11) (ci := 2) (kf := 1) inlX2 rfl hdg hp hlk rfl (by decide) (by decide) rfl rfl k
theorem gf_2_readers {idx : Nat} (hdg : decode cc pc = .ok (.getfield idx, 3)) (hp : pc + 3 = pc') (hlk : Cond.fieldLink own idx "LetterDrawer$Letters" "readers" "[I" ∈ WD) (k : Go F L own cc nL R ret Q σ pc' lv (.ref (L.2.1 26) :: st)) : Go F L own cc nL R ret Q σ pc lv (.ref (L.2.1 2) :: st) :=
  go_get (C := RX2) (T := TX2) (N := 11) (ci := 2) (kf := 2) inlX2 rfl hdg hp hlk rfl (by decide) (by decide) rfl rfl k
theorem gf_2_places {idx : Nat} (hdg : decode cc pc = .ok (.getfield idx, 3)) (hp : pc + 3 = pc') (hlk : Cond.fieldLink own idx "LetterDrawer$Letters" "places" "[I" ∈ WD) (k : Go F L own cc nL R ret Q σ pc' lv (.ref (L.2.1 27) :: st)) : Go F L own cc nL R ret Q σ pc lv (.ref (L.2.1 2) :: st) :=
  go_get (C := RX2) (T := TX2) (N := 11) (ci := 2) (kf := 3) inlX2 rfl hdg hp hlk rfl (by decide) (by decide) rfl rfl k
theorem gf_2_leasts {idx : Nat} (hdg : decode cc pc = .ok (.getfield idx, 3)) (hp : pc + 3 = pc') (hlk : Cond.fieldLink own idx "LetterDrawer$Letters" "leasts" "[I" ∈ WD) (k : Go F L own cc nL R ret Q σ pc' lv (.ref (L.2.1 28) :: st)) : Go F L own cc nL R ret Q σ pc lv (.ref (L.2.1 2) :: st) :=
  go_get (C := RX2) (T := TX2) (N := 11) (ci := 2) (kf := 4) inlX2 rfl hdg hp hlk rfl (by decide) (by decide) rfl rfl k
theorem gf_2_greatests {idx : Nat} (hdg : decode cc pc = .ok (.getfield idx, 3)) (hp : pc + 3 = pc') (hlk : Cond.fieldLink own idx "LetterDrawer$Letters" "greatests" "[I" ∈ WD) (k : Go F L own cc nL R ret Q σ pc' lv (.ref (L.2.1 29) :: st)) : Go F L own cc nL R ret Q σ pc lv (.ref (L.2.1 2) :: st) :=
  go_get (C := RX2) (T := TX2) (N := 11) (ci := 2) (kf := 5) inlX2 rfl hdg hp hlk rfl (by decide) (by decide) rfl rfl k
theorem gf_2_weekdays {idx : Nat} (hdg : decode cc pc = .ok (.getfield idx, 3)) (hp : pc + 3 = pc') (hlk : Cond.fieldLink own idx "LetterDrawer$Letters" "weekdays" "[I" ∈ WD) (k : Go F L own cc nL R ret Q σ pc' lv (.ref (L.2.1 30) :: st)) : Go F L own cc nL R ret Q σ pc lv (.ref (L.2.1 2) :: st) :=
  go_get (C := RX2) (T := TX2) (N := 11) (ci := 2) (kf := 6) inlX2 rfl hdg hp hlk rfl (by decide) (by decide) rfl rfl k
theorem gf_2_founds {idx : Nat} (hdg : decode cc pc = .ok (.getfield idx, 3)) (hp : pc + 3 = pc') (hlk : Cond.fieldLink own idx "LetterDrawer$Letters" "founds" "[I" ∈ WD) (k : Go F L own cc nL R ret Q σ pc' lv (.ref (L.2.1 31) :: st)) : Go F L own cc nL R ret Q σ pc lv (.ref (L.2.1 2) :: st) :=
  go_get (C := RX2) (T := TX2) (N := 11) (ci := 2) (kf := 7) inlX2 rfl hdg hp hlk rfl (by decide) (by decide) rfl rfl k
theorem gf_2_sizes {idx : Nat} (hdg : decode cc pc = .ok (.getfield idx, 3)) (hp : pc + 3 = pc') (hlk : Cond.fieldLink own idx "LetterDrawer$Letters" "sizes" "[I" ∈ WD) (k : Go F L own cc nL R ret Q σ pc' lv (.ref (L.2.1 32) :: st)) : Go F L own cc nL R ret Q σ pc lv (.ref (L.2.1 2) :: st) :=
  go_get (C := RX2) (T := TX2) (N := 11) (ci := 2) (kf := 8) inlX2 rfl hdg hp hlk rfl (by decide) (by decide) rfl rfl k
theorem gf_2_texts {idx : Nat} (hdg : decode cc pc = .ok (.getfield idx, 3)) (hp : pc + 3 = pc') (hlk : Cond.fieldLink own idx "LetterDrawer$Letters" "texts" "[[B" ∈ WD) (k : Go F L own cc nL R ret Q σ pc' lv (.ref (L.2.1 14) :: st)) : Go F L own cc nL R ret Q σ pc lv (.ref (L.2.1 2) :: st) :=
  go_get (C := RX2) (T := TX2) (N := 11) (ci := 2) (kf := 9) inlX2 rfl hdg hp hlk rfl (by decide) (by decide) rfl rfl k
theorem gf_2_size {idx : Nat} (hdg : decode cc pc = .ok (.getfield idx, 3)) (hp : pc + 3 = pc') (hlk : Cond.fieldLink own idx "LetterDrawer$Letters" "size" "I" ∈ WD) (k : Go F L own cc nL R ret Q σ pc' lv (.int (σ.1 3) :: st)) : Go F L own cc nL R ret Q σ pc lv (.ref (L.2.1 2) :: st) :=
  go_get (C := RX2) (T := TX2) (N := 11) (ci := 2) (kf := 10) inlX2 rfl hdg hp hlk rfl (by decide) (by decide) rfl rfl k
theorem pf_2_size {idx : Nat} {v : Int32} (hdg : decode cc pc = .ok (.putfield idx, 3)) (hp : pc + 3 = pc') (hlk : Cond.fieldLink own idx "LetterDrawer$Letters" "size" "I" ∈ WD) (k : Go F L own cc nL R ret Q (setI σ 3 v) pc' lv st) : Go F L own cc nL R ret Q σ pc lv (.int v :: .ref (L.2.1 2) :: st) :=
  go_put (C := RX2) (T := TX2) (N := 11) (ci := 2) (kf := 10) (ty := .int) inlX2 tyX2 tyX2_ok nmX2 rfl hdg hp hlk rfl (by decide) (by decide) rfl rfl rfl rfl (Nat.le_of_ble_eq_true rfl) rfl (cell_setI L σ 3 v) k
theorem gf_3_lows {idx : Nat} (hdg : decode cc pc = .ok (.getfield idx, 3)) (hp : pc + 3 = pc') (hlk : Cond.fieldLink own idx "LetterDrawer$Calendar" "lows" "[I" ∈ WD) (k : Go F L own cc nL R ret Q σ pc' lv (.ref (L.2.1 33) :: st)) : Go F L own cc nL R ret Q σ pc lv (.ref (L.2.1 3) :: st) :=
  go_get (C := RX0) (T := TX0) (N := 9) (ci := 0) (kf := 0) inlX0 rfl hdg hp hlk rfl (by decide) (by decide) rfl rfl k
theorem gf_3_highs {idx : Nat} (hdg : decode cc pc = .ok (.getfield idx, 3)) (hp : pc + 3 = pc') (hlk : Cond.fieldLink own idx "LetterDrawer$Calendar" "highs" "[I" ∈ WD) (k : Go F L own cc nL R ret Q σ pc' lv (.ref (L.2.1 34) :: st)) : Go F L own cc nL R ret Q σ pc lv (.ref (L.2.1 3) :: st) :=
  go_get (C := RX0) (T := TX0) (N := 9) (ci := 0) (kf := 1) inlX0 rfl hdg hp hlk rfl (by decide) (by decide) rfl rfl k
theorem gf_3_size {idx : Nat} (hdg : decode cc pc = .ok (.getfield idx, 3)) (hp : pc + 3 = pc') (hlk : Cond.fieldLink own idx "LetterDrawer$Calendar" "size" "I" ∈ WD) (k : Go F L own cc nL R ret Q σ pc' lv (.int (σ.1 4) :: st)) : Go F L own cc nL R ret Q σ pc lv (.ref (L.2.1 3) :: st) :=
  go_get (C := RX0) (T := TX0) (N := 9) (ci := 0) (kf := 2) inlX0 rfl hdg hp hlk rfl (by decide) (by decide) rfl rfl k
theorem pf_3_size {idx : Nat} {v : Int32} (hdg : decode cc pc = .ok (.putfield idx, 3)) (hp : pc + 3 = pc') (hlk : Cond.fieldLink own idx "LetterDrawer$Calendar" "size" "I" ∈ WD) (k : Go F L own cc nL R ret Q (setI σ 4 v) pc' lv st) : Go F L own cc nL R ret Q σ pc lv (.int v :: .ref (L.2.1 3) :: st) :=
  go_put (C := RX0) (T := TX0) (N := 9) (ci := 0) (kf := 2) (ty := .int) inlX0 tyX0 tyX0_ok nmX0 rfl hdg hp hlk rfl (by decide) (by decide) rfl rfl rfl rfl (Nat.le_of_ble_eq_true rfl) rfl (cell_setI L σ 4 v) k
theorem gf_3_froms {idx : Nat} (hdg : decode cc pc = .ok (.getfield idx, 3)) (hp : pc + 3 = pc') (hlk : Cond.fieldLink own idx "LetterDrawer$Calendar" "froms" "[I" ∈ WD) (k : Go F L own cc nL R ret Q σ pc' lv (.ref (L.2.1 35) :: st)) : Go F L own cc nL R ret Q σ pc lv (.ref (L.2.1 3) :: st) :=
  go_get (C := RX0) (T := TX0) (N := 9) (ci := 0) (kf := 3) inlX0 rfl hdg hp hlk rfl (by decide) (by decide) rfl rfl k
theorem gf_3_tos {idx : Nat} (hdg : decode cc pc = .ok (.getfield idx, 3)) (hp : pc + 3 = pc') (hlk : Cond.fieldLink own idx "LetterDrawer$Calendar" "tos" "[I" ∈ WD) (k : Go F L own cc nL R ret Q σ pc' lv (.ref (L.2.1 36) :: st)) : Go F L own cc nL R ret Q σ pc lv (.ref (L.2.1 3) :: st) :=
  go_get (C := RX0) (T := TX0) (N := 9) (ci := 0) (kf := 4) inlX0 rfl hdg hp hlk rfl (by decide) (by decide) rfl rfl k
theorem gf_3_shifts {idx : Nat} (hdg : decode cc pc = .ok (.getfield idx, 3)) (hp : pc + 3 = pc') (hlk : Cond.fieldLink own idx "LetterDrawer$Calendar" "shifts" "[I" ∈ WD) (k : Go F L own cc nL R ret Q σ pc' lv (.ref (L.2.1 37) :: st)) : Go F L own cc nL R ret Q σ pc lv (.ref (L.2.1 3) :: st) :=
  go_get (C := RX0) (T := TX0) (N := 9) (ci := 0) (kf := 5) inlX0 rfl hdg hp hlk rfl (by decide) (by decide) rfl rfl k
theorem gf_3_roots {idx : Nat} (hdg : decode cc pc = .ok (.getfield idx, 3)) (hp : pc + 3 = pc') (hlk : Cond.fieldLink own idx "LetterDrawer$Calendar" "roots" "[I" ∈ WD) (k : Go F L own cc nL R ret Q σ pc' lv (.ref (L.2.1 38) :: st)) : Go F L own cc nL R ret Q σ pc lv (.ref (L.2.1 3) :: st) :=
  go_get (C := RX0) (T := TX0) (N := 9) (ci := 0) (kf := 6) inlX0 rfl hdg hp hlk rfl (by decide) (by decide) rfl rfl k
theorem gf_3_weekdays {idx : Nat} (hdg : decode cc pc = .ok (.getfield idx, 3)) (hp : pc + 3 = pc') (hlk : Cond.fieldLink own idx "LetterDrawer$Calendar" "weekdays" "[I" ∈ WD) (k : Go F L own cc nL R ret Q σ pc' lv (.ref (L.2.1 39) :: st)) : Go F L own cc nL R ret Q σ pc lv (.ref (L.2.1 3) :: st) :=
  go_get (C := RX0) (T := TX0) (N := 9) (ci := 0) (kf := 7) inlX0 rfl hdg hp hlk rfl (by decide) (by decide) rfl rfl k
theorem gf_3_paths {idx : Nat} (hdg : decode cc pc = .ok (.getfield idx, 3)) (hp : pc + 3 = pc') (hlk : Cond.fieldLink own idx "LetterDrawer$Calendar" "paths" "[[I" ∈ WD) (k : Go F L own cc nL R ret Q σ pc' lv (.ref (L.2.1 15) :: st)) : Go F L own cc nL R ret Q σ pc lv (.ref (L.2.1 3) :: st) :=
  go_get (C := RX0) (T := TX0) (N := 9) (ci := 0) (kf := 8) inlX0 rfl hdg hp hlk rfl (by decide) (by decide) rfl rfl k
theorem gf_4_leasts {idx : Nat} (hdg : decode cc pc = .ok (.getfield idx, 3)) (hp : pc + 3 = pc') (hlk : Cond.fieldLink own idx "LetterDrawer$Posts" "leasts" "[[I" ∈ WD) (k : Go F L own cc nL R ret Q σ pc' lv (.ref (L.2.1 16) :: st)) : Go F L own cc nL R ret Q σ pc lv (.ref (L.2.1 4) :: st) :=
  go_get (C := RX5) (T := TX5) (N := 2) (ci := 5) (kf := 0) inlX5 rfl hdg hp hlk rfl (by decide) (by decide) rfl rfl k
theorem gf_4_mosts {idx : Nat} (hdg : decode cc pc = .ok (.getfield idx, 3)) (hp : pc + 3 = pc') (hlk : Cond.fieldLink own idx "LetterDrawer$Posts" "mosts" "[[I" ∈ WD) (k : Go F L own cc nL R ret Q σ pc' lv (.ref (L.2.1 17) :: st)) : Go F L own cc nL R ret Q σ pc lv (.ref (L.2.1 4) :: st) :=
  go_get (C := RX5) (T := TX5) (N := 2) (ci := 5) (kf := 1) inlX5 rfl hdg hp hlk rfl (by decide) (by decide) rfl rfl k
theorem gf_5_persons {idx : Nat} (hdg : decode cc pc = .ok (.getfield idx, 3)) (hp : pc + 3 = pc') (hlk : Cond.fieldLink own idx "LetterDrawer$Hands" "persons" "[I" ∈ WD) (k : Go F L own cc nL R ret Q σ pc' lv (.ref (L.2.1 40) :: st)) : Go F L own cc nL R ret Q σ pc lv (.ref (L.2.1 5) :: st) :=
  go_get (C := RX1) (T := TX1) (N := 4) (ci := 1) (kf := 0) inlX1 rfl hdg hp hlk rfl (by decide) (by decide) rfl rfl k
theorem gf_5_size {idx : Nat} (hdg : decode cc pc = .ok (.getfield idx, 3)) (hp : pc + 3 = pc') (hlk : Cond.fieldLink own idx "LetterDrawer$Hands" "size" "I" ∈ WD) (k : Go F L own cc nL R ret Q σ pc' lv (.int (σ.1 5) :: st)) : Go F L own cc nL R ret Q σ pc lv (.ref (L.2.1 5) :: st) :=
  go_get (C := RX1) (T := TX1) (N := 4) (ci := 1) (kf := 1) inlX1 rfl hdg hp hlk rfl (by decide) (by decide) rfl rfl k
theorem pf_5_size {idx : Nat} {v : Int32} (hdg : decode cc pc = .ok (.putfield idx, 3)) (hp : pc + 3 = pc') (hlk : Cond.fieldLink own idx "LetterDrawer$Hands" "size" "I" ∈ WD) (k : Go F L own cc nL R ret Q (setI σ 5 v) pc' lv st) : Go F L own cc nL R ret Q σ pc lv (.int v :: .ref (L.2.1 5) :: st) :=
  go_put (C := RX1) (T := TX1) (N := 4) (ci := 1) (kf := 1) (ty := .int) inlX1 tyX1 tyX1_ok nmX1 rfl hdg hp hlk rfl (by decide) (by decide) rfl rfl rfl rfl (Nat.le_of_ble_eq_true rfl) rfl (cell_setI L σ 5 v) k
theorem gf_5_letters {idx : Nat} (hdg : decode cc pc = .ok (.getfield idx, 3)) (hp : pc + 3 = pc') (hlk : Cond.fieldLink own idx "LetterDrawer$Hands" "letters" "[I" ∈ WD) (k : Go F L own cc nL R ret Q σ pc' lv (.ref (L.2.1 41) :: st)) : Go F L own cc nL R ret Q σ pc lv (.ref (L.2.1 5) :: st) :=
  go_get (C := RX1) (T := TX1) (N := 4) (ci := 1) (kf := 2) inlX1 rfl hdg hp hlk rfl (by decide) (by decide) rfl rfl k
theorem gf_5_names {idx : Nat} (hdg : decode cc pc = .ok (.getfield idx, 3)) (hp : pc + 3 = pc') (hlk : Cond.fieldLink own idx "LetterDrawer$Hands" "names" "[I" ∈ WD) (k : Go F L own cc nL R ret Q σ pc' lv (.ref (L.2.1 42) :: st)) : Go F L own cc nL R ret Q σ pc lv (.ref (L.2.1 5) :: st) :=
  go_get (C := RX1) (T := TX1) (N := 4) (ci := 1) (kf := 3) inlX1 rfl hdg hp hlk rfl (by decide) (by decide) rfl rfl k
theorem gf_6_bytes {idx : Nat} (hdg : decode cc pc = .ok (.getfield idx, 3)) (hp : pc + 3 = pc') (hlk : Cond.fieldLink own idx "LetterDrawer$Tape" "bytes" "[B" ∈ WD) (k : Go F L own cc nL R ret Q σ pc' lv (.ref (L.2.1 43) :: st)) : Go F L own cc nL R ret Q σ pc lv (.ref (L.2.1 6) :: st) :=
  go_get (C := RX8) (T := TX8) (N := 2) (ci := 8) (kf := 0) inlX8 rfl hdg hp hlk rfl (by decide) (by decide) rfl rfl k
theorem gf_6_size {idx : Nat} (hdg : decode cc pc = .ok (.getfield idx, 3)) (hp : pc + 3 = pc') (hlk : Cond.fieldLink own idx "LetterDrawer$Tape" "size" "I" ∈ WD) (k : Go F L own cc nL R ret Q σ pc' lv (.int (σ.1 6) :: st)) : Go F L own cc nL R ret Q σ pc lv (.ref (L.2.1 6) :: st) :=
  go_get (C := RX8) (T := TX8) (N := 2) (ci := 8) (kf := 1) inlX8 rfl hdg hp hlk rfl (by decide) (by decide) rfl rfl k
theorem pf_6_size {idx : Nat} {v : Int32} (hdg : decode cc pc = .ok (.putfield idx, 3)) (hp : pc + 3 = pc') (hlk : Cond.fieldLink own idx "LetterDrawer$Tape" "size" "I" ∈ WD) (k : Go F L own cc nL R ret Q (setI σ 6 v) pc' lv st) : Go F L own cc nL R ret Q σ pc lv (.int v :: .ref (L.2.1 6) :: st) :=
  go_put (C := RX8) (T := TX8) (N := 2) (ci := 8) (kf := 1) (ty := .int) inlX8 tyX8 tyX8_ok nmX8 rfl hdg hp hlk rfl (by decide) (by decide) rfl rfl rfl rfl (Nat.le_of_ble_eq_true rfl) rfl (cell_setI L σ 6 v) k
theorem gf_7_depth {idx : Nat} (hdg : decode cc pc = .ok (.getfield idx, 3)) (hp : pc + 3 = pc') (hlk : Cond.fieldLink own idx "LetterDrawer$MarkReader" "depth" "I" ∈ WD) (k : Go F L own cc nL R ret Q σ pc' lv (.int (σ.1 7) :: st)) : Go F L own cc nL R ret Q σ pc lv (.ref (L.2.1 7) :: st) :=
  go_get (C := RX3) (T := TX3) (N := 8) (ci := 3) (kf := 0) inlX3 rfl hdg hp hlk rfl (by decide) (by decide) rfl rfl k
theorem pf_7_depth {idx : Nat} {v : Int32} (hdg : decode cc pc = .ok (.putfield idx, 3)) (hp : pc + 3 = pc') (hlk : Cond.fieldLink own idx "LetterDrawer$MarkReader" "depth" "I" ∈ WD) (k : Go F L own cc nL R ret Q (setI σ 7 v) pc' lv st) : Go F L own cc nL R ret Q σ pc lv (.int v :: .ref (L.2.1 7) :: st) :=
  go_put (C := RX3) (T := TX3) (N := 8) (ci := 3) (kf := 0) (ty := .int) inlX3 tyX3 tyX3_ok nmX3 rfl hdg hp hlk rfl (by decide) (by decide) rfl rfl rfl rfl (Nat.le_of_ble_eq_true rfl) rfl (cell_setI L σ 7 v) k
theorem gf_7_sort {idx : Nat} (hdg : decode cc pc = .ok (.getfield idx, 3)) (hp : pc + 3 = pc') (hlk : Cond.fieldLink own idx "LetterDrawer$MarkReader" "sort" "I" ∈ WD) (k : Go F L own cc nL R ret Q σ pc' lv (.int (σ.1 8) :: st)) : Go F L own cc nL R ret Q σ pc lv (.ref (L.2.1 7) :: st) :=
  go_get (C := RX3) (T := TX3) (N := 8) (ci := 3) (kf := 1) inlX3 rfl hdg hp hlk rfl (by decide) (by decide) rfl rfl k
theorem pf_7_sort {idx : Nat} {v : Int32} (hdg : decode cc pc = .ok (.putfield idx, 3)) (hp : pc + 3 = pc') (hlk : Cond.fieldLink own idx "LetterDrawer$MarkReader" "sort" "I" ∈ WD) (k : Go F L own cc nL R ret Q (setI σ 8 v) pc' lv st) : Go F L own cc nL R ret Q σ pc lv (.int v :: .ref (L.2.1 7) :: st) :=
  go_put (C := RX3) (T := TX3) (N := 8) (ci := 3) (kf := 1) (ty := .int) inlX3 tyX3 tyX3_ok nmX3 rfl hdg hp hlk rfl (by decide) (by decide) rfl rfl rfl rfl (Nat.le_of_ble_eq_true rfl) rfl (cell_setI L σ 8 v) k
theorem gf_7_number {idx : Nat} (hdg : decode cc pc = .ok (.getfield idx, 3)) (hp : pc + 3 = pc') (hlk : Cond.fieldLink own idx "LetterDrawer$MarkReader" "number" "I" ∈ WD) (k : Go F L own cc nL R ret Q σ pc' lv (.int (σ.1 9) :: st)) : Go F L own cc nL R ret Q σ pc lv (.ref (L.2.1 7) :: st) :=
  go_get (C := RX3) (T := TX3) (N := 8) (ci := 3) (kf := 2) inlX3 rfl hdg hp hlk rfl (by decide) (by decide) rfl rfl k
theorem pf_7_number {idx : Nat} {v : Int32} (hdg : decode cc pc = .ok (.putfield idx, 3)) (hp : pc + 3 = pc') (hlk : Cond.fieldLink own idx "LetterDrawer$MarkReader" "number" "I" ∈ WD) (k : Go F L own cc nL R ret Q (setI σ 9 v) pc' lv st) : Go F L own cc nL R ret Q σ pc lv (.int v :: .ref (L.2.1 7) :: st) :=
  go_put (C := RX3) (T := TX3) (N := 8) (ci := 3) (kf := 2) (ty := .int) inlX3 tyX3 tyX3_ok nmX3 rfl hdg hp hlk rfl (by decide) (by decide) rfl rfl rfl rfl (Nat.le_of_ble_eq_true rfl) rfl (cell_setI L σ 9 v) k
theorem gf_7_markAt {idx : Nat} (hdg : decode cc pc = .ok (.getfield idx, 3)) (hp : pc + 3 = pc') (hlk : Cond.fieldLink own idx "LetterDrawer$MarkReader" "markAt" "I" ∈ WD) (k : Go F L own cc nL R ret Q σ pc' lv (.int (σ.1 10) :: st)) : Go F L own cc nL R ret Q σ pc lv (.ref (L.2.1 7) :: st) :=
  go_get (C := RX3) (T := TX3) (N := 8) (ci := 3) (kf := 3) inlX3 rfl hdg hp hlk rfl (by decide) (by decide) rfl rfl k
theorem pf_7_markAt {idx : Nat} {v : Int32} (hdg : decode cc pc = .ok (.putfield idx, 3)) (hp : pc + 3 = pc') (hlk : Cond.fieldLink own idx "LetterDrawer$MarkReader" "markAt" "I" ∈ WD) (k : Go F L own cc nL R ret Q (setI σ 10 v) pc' lv st) : Go F L own cc nL R ret Q σ pc lv (.int v :: .ref (L.2.1 7) :: st) :=
  go_put (C := RX3) (T := TX3) (N := 8) (ci := 3) (kf := 3) (ty := .int) inlX3 tyX3 tyX3_ok nmX3 rfl hdg hp hlk rfl (by decide) (by decide) rfl rfl rfl rfl (Nat.le_of_ble_eq_true rfl) rfl (cell_setI L σ 10 v) k
theorem gf_7_wrongAt {idx : Nat} (hdg : decode cc pc = .ok (.getfield idx, 3)) (hp : pc + 3 = pc') (hlk : Cond.fieldLink own idx "LetterDrawer$MarkReader" "wrongAt" "I" ∈ WD) (k : Go F L own cc nL R ret Q σ pc' lv (.int (σ.1 11) :: st)) : Go F L own cc nL R ret Q σ pc lv (.ref (L.2.1 7) :: st) :=
  go_get (C := RX3) (T := TX3) (N := 8) (ci := 3) (kf := 4) inlX3 rfl hdg hp hlk rfl (by decide) (by decide) rfl rfl k
theorem pf_7_wrongAt {idx : Nat} {v : Int32} (hdg : decode cc pc = .ok (.putfield idx, 3)) (hp : pc + 3 = pc') (hlk : Cond.fieldLink own idx "LetterDrawer$MarkReader" "wrongAt" "I" ∈ WD) (k : Go F L own cc nL R ret Q (setI σ 11 v) pc' lv st) : Go F L own cc nL R ret Q σ pc lv (.int v :: .ref (L.2.1 7) :: st) :=
  go_put (C := RX3) (T := TX3) (N := 8) (ci := 3) (kf := 4) (ty := .int) inlX3 tyX3 tyX3_ok nmX3 rfl hdg hp hlk rfl (by decide) (by decide) rfl rfl rfl rfl (Nat.le_of_ble_eq_true rfl) rfl (cell_setI L σ 11 v) k
theorem gf_7_open {idx : Nat} (hdg : decode cc pc = .ok (.getfield idx, 3)) (hp : pc + 3 = pc') (hlk : Cond.fieldLink own idx "LetterDrawer$MarkReader" "open" "[I" ∈ WD) (k : Go F L own cc nL R ret Q σ pc' lv (.ref (L.2.1 44) :: st)) : Go F L own cc nL R ret Q σ pc lv (.ref (L.2.1 7) :: st) :=
  go_get (C := RX3) (T := TX3) (N := 8) (ci := 3) (kf := 5) inlX3 rfl hdg hp hlk rfl (by decide) (by decide) rfl rfl k
theorem gf_7_state {idx : Nat} (hdg : decode cc pc = .ok (.getfield idx, 3)) (hp : pc + 3 = pc') (hlk : Cond.fieldLink own idx "LetterDrawer$MarkReader" "state" "I" ∈ WD) (k : Go F L own cc nL R ret Q σ pc' lv (.int (σ.1 12) :: st)) : Go F L own cc nL R ret Q σ pc lv (.ref (L.2.1 7) :: st) :=
  go_get (C := RX3) (T := TX3) (N := 8) (ci := 3) (kf := 6) inlX3 rfl hdg hp hlk rfl (by decide) (by decide) rfl rfl k
theorem pf_7_state {idx : Nat} {v : Int32} (hdg : decode cc pc = .ok (.putfield idx, 3)) (hp : pc + 3 = pc') (hlk : Cond.fieldLink own idx "LetterDrawer$MarkReader" "state" "I" ∈ WD) (k : Go F L own cc nL R ret Q (setI σ 12 v) pc' lv st) : Go F L own cc nL R ret Q σ pc lv (.int v :: .ref (L.2.1 7) :: st) :=
  go_put (C := RX3) (T := TX3) (N := 8) (ci := 3) (kf := 6) (ty := .int) inlX3 tyX3 tyX3_ok nmX3 rfl hdg hp hlk rfl (by decide) (by decide) rfl rfl rfl rfl (Nat.le_of_ble_eq_true rfl) rfl (cell_setI L σ 12 v) k
theorem gf_7_digits {idx : Nat} (hdg : decode cc pc = .ok (.getfield idx, 3)) (hp : pc + 3 = pc') (hlk : Cond.fieldLink own idx "LetterDrawer$MarkReader" "digits" "I" ∈ WD) (k : Go F L own cc nL R ret Q σ pc' lv (.int (σ.1 13) :: st)) : Go F L own cc nL R ret Q σ pc lv (.ref (L.2.1 7) :: st) :=
  go_get (C := RX3) (T := TX3) (N := 8) (ci := 3) (kf := 7) inlX3 rfl hdg hp hlk rfl (by decide) (by decide) rfl rfl k
theorem pf_7_digits {idx : Nat} {v : Int32} (hdg : decode cc pc = .ok (.putfield idx, 3)) (hp : pc + 3 = pc') (hlk : Cond.fieldLink own idx "LetterDrawer$MarkReader" "digits" "I" ∈ WD) (k : Go F L own cc nL R ret Q (setI σ 13 v) pc' lv st) : Go F L own cc nL R ret Q σ pc lv (.int v :: .ref (L.2.1 7) :: st) :=
  go_put (C := RX3) (T := TX3) (N := 8) (ci := 3) (kf := 7) (ty := .int) inlX3 tyX3 tyX3_ok nmX3 rfl hdg hp hlk rfl (by decide) (by decide) rfl rfl rfl rfl (Nat.le_of_ble_eq_true rfl) rfl (cell_setI L σ 13 v) k
theorem gf_8_bytes {idx : Nat} (hdg : decode cc pc = .ok (.getfield idx, 3)) (hp : pc + 3 = pc') (hlk : Cond.fieldLink own idx "LetterDrawer$Printer" "bytes" "[B" ∈ WD) (k : Go F L own cc nL R ret Q σ pc' lv (.ref (L.2.1 45) :: st)) : Go F L own cc nL R ret Q σ pc lv (.ref (L.2.1 8) :: st) :=
  go_get (C := RX6) (T := TX6) (N := 2) (ci := 6) (kf := 0) inlX6 rfl hdg hp hlk rfl (by decide) (by decide) rfl rfl k
theorem gf_8_size {idx : Nat} (hdg : decode cc pc = .ok (.getfield idx, 3)) (hp : pc + 3 = pc') (hlk : Cond.fieldLink own idx "LetterDrawer$Printer" "size" "I" ∈ WD) (k : Go F L own cc nL R ret Q σ pc' lv (.int (σ.1 14) :: st)) : Go F L own cc nL R ret Q σ pc lv (.ref (L.2.1 8) :: st) :=
  go_get (C := RX6) (T := TX6) (N := 2) (ci := 6) (kf := 1) inlX6 rfl hdg hp hlk rfl (by decide) (by decide) rfl rfl k
theorem pf_8_size {idx : Nat} {v : Int32} (hdg : decode cc pc = .ok (.putfield idx, 3)) (hp : pc + 3 = pc') (hlk : Cond.fieldLink own idx "LetterDrawer$Printer" "size" "I" ∈ WD) (k : Go F L own cc nL R ret Q (setI σ 14 v) pc' lv st) : Go F L own cc nL R ret Q σ pc lv (.int v :: .ref (L.2.1 8) :: st) :=
  go_put (C := RX6) (T := TX6) (N := 2) (ci := 6) (kf := 1) (ty := .int) inlX6 tyX6 tyX6_ok nmX6 rfl hdg hp hlk rfl (by decide) (by decide) rfl rfl rfl rfl (Nat.le_of_ble_eq_true rfl) rfl (cell_setI L σ 14 v) k
theorem gf_9_size {idx : Nat} (hdg : decode cc pc = .ok (.getfield idx, 3)) (hp : pc + 3 = pc') (hlk : Cond.fieldLink own idx "LetterDrawer$WordRow" "size" "I" ∈ WD) (k : Go F L own cc nL R ret Q σ pc' lv (.int (σ.1 15) :: st)) : Go F L own cc nL R ret Q σ pc lv (.ref (L.2.1 9) :: st) :=
  go_get (C := RX10) (T := TX10) (N := 5) (ci := 10) (kf := 0) inlX10 rfl hdg hp hlk rfl (by decide) (by decide) rfl rfl k
theorem pf_9_size {idx : Nat} {v : Int32} (hdg : decode cc pc = .ok (.putfield idx, 3)) (hp : pc + 3 = pc') (hlk : Cond.fieldLink own idx "LetterDrawer$WordRow" "size" "I" ∈ WD) (k : Go F L own cc nL R ret Q (setI σ 15 v) pc' lv st) : Go F L own cc nL R ret Q σ pc lv (.int v :: .ref (L.2.1 9) :: st) :=
  go_put (C := RX10) (T := TX10) (N := 5) (ci := 10) (kf := 0) (ty := .int) inlX10 tyX10 tyX10_ok nmX10 rfl hdg hp hlk rfl (by decide) (by decide) rfl rfl rfl rfl (Nat.le_of_ble_eq_true rfl) rfl (cell_setI L σ 15 v) k
theorem gf_9_bytes {idx : Nat} (hdg : decode cc pc = .ok (.getfield idx, 3)) (hp : pc + 3 = pc') (hlk : Cond.fieldLink own idx "LetterDrawer$WordRow" "bytes" "[B" ∈ WD) (k : Go F L own cc nL R ret Q σ pc' lv (.ref (L.2.1 46) :: st)) : Go F L own cc nL R ret Q σ pc lv (.ref (L.2.1 9) :: st) :=
  go_get (C := RX10) (T := TX10) (N := 5) (ci := 10) (kf := 1) inlX10 rfl hdg hp hlk rfl (by decide) (by decide) rfl rfl k
theorem gf_9_starts {idx : Nat} (hdg : decode cc pc = .ok (.getfield idx, 3)) (hp : pc + 3 = pc') (hlk : Cond.fieldLink own idx "LetterDrawer$WordRow" "starts" "[I" ∈ WD) (k : Go F L own cc nL R ret Q σ pc' lv (.ref (L.2.1 47) :: st)) : Go F L own cc nL R ret Q σ pc lv (.ref (L.2.1 9) :: st) :=
  go_get (C := RX10) (T := TX10) (N := 5) (ci := 10) (kf := 2) inlX10 rfl hdg hp hlk rfl (by decide) (by decide) rfl rfl k
theorem gf_9_ends {idx : Nat} (hdg : decode cc pc = .ok (.getfield idx, 3)) (hp : pc + 3 = pc') (hlk : Cond.fieldLink own idx "LetterDrawer$WordRow" "ends" "[I" ∈ WD) (k : Go F L own cc nL R ret Q σ pc' lv (.ref (L.2.1 48) :: st)) : Go F L own cc nL R ret Q σ pc lv (.ref (L.2.1 9) :: st) :=
  go_get (C := RX10) (T := TX10) (N := 5) (ci := 10) (kf := 3) inlX10 rfl hdg hp hlk rfl (by decide) (by decide) rfl rfl k
theorem gf_9_costs {idx : Nat} (hdg : decode cc pc = .ok (.getfield idx, 3)) (hp : pc + 3 = pc') (hlk : Cond.fieldLink own idx "LetterDrawer$WordRow" "costs" "[I" ∈ WD) (k : Go F L own cc nL R ret Q σ pc' lv (.ref (L.2.1 49) :: st)) : Go F L own cc nL R ret Q σ pc lv (.ref (L.2.1 9) :: st) :=
  go_get (C := RX10) (T := TX10) (N := 5) (ci := 10) (kf := 4) inlX10 rfl hdg hp hlk rfl (by decide) (by decide) rfl rfl k
theorem gf_10_size {idx : Nat} (hdg : decode cc pc = .ok (.getfield idx, 3)) (hp : pc + 3 = pc') (hlk : Cond.fieldLink own idx "LetterDrawer$WordRow" "size" "I" ∈ WD) (k : Go F L own cc nL R ret Q σ pc' lv (.int (σ.1 16) :: st)) : Go F L own cc nL R ret Q σ pc lv (.ref (L.2.1 10) :: st) :=
  go_get (C := RX10) (T := TX10) (N := 5) (ci := 10) (kf := 0) inlX10 rfl hdg hp hlk rfl (by decide) (by decide) rfl rfl k
theorem pf_10_size {idx : Nat} {v : Int32} (hdg : decode cc pc = .ok (.putfield idx, 3)) (hp : pc + 3 = pc') (hlk : Cond.fieldLink own idx "LetterDrawer$WordRow" "size" "I" ∈ WD) (k : Go F L own cc nL R ret Q (setI σ 16 v) pc' lv st) : Go F L own cc nL R ret Q σ pc lv (.int v :: .ref (L.2.1 10) :: st) :=
  go_put (C := RX10) (T := TX10) (N := 5) (ci := 10) (kf := 0) (ty := .int) inlX10 tyX10 tyX10_ok nmX10 rfl hdg hp hlk rfl (by decide) (by decide) rfl rfl rfl rfl (Nat.le_of_ble_eq_true rfl) rfl (cell_setI L σ 16 v) k
theorem gf_10_bytes {idx : Nat} (hdg : decode cc pc = .ok (.getfield idx, 3)) (hp : pc + 3 = pc') (hlk : Cond.fieldLink own idx "LetterDrawer$WordRow" "bytes" "[B" ∈ WD) (k : Go F L own cc nL R ret Q σ pc' lv (.ref (L.2.1 50) :: st)) : Go F L own cc nL R ret Q σ pc lv (.ref (L.2.1 10) :: st) :=
  go_get (C := RX10) (T := TX10) (N := 5) (ci := 10) (kf := 1) inlX10 rfl hdg hp hlk rfl (by decide) (by decide) rfl rfl k
theorem gf_10_starts {idx : Nat} (hdg : decode cc pc = .ok (.getfield idx, 3)) (hp : pc + 3 = pc') (hlk : Cond.fieldLink own idx "LetterDrawer$WordRow" "starts" "[I" ∈ WD) (k : Go F L own cc nL R ret Q σ pc' lv (.ref (L.2.1 51) :: st)) : Go F L own cc nL R ret Q σ pc lv (.ref (L.2.1 10) :: st) :=
  go_get (C := RX10) (T := TX10) (N := 5) (ci := 10) (kf := 2) inlX10 rfl hdg hp hlk rfl (by decide) (by decide) rfl rfl k
theorem gf_10_ends {idx : Nat} (hdg : decode cc pc = .ok (.getfield idx, 3)) (hp : pc + 3 = pc') (hlk : Cond.fieldLink own idx "LetterDrawer$WordRow" "ends" "[I" ∈ WD) (k : Go F L own cc nL R ret Q σ pc' lv (.ref (L.2.1 52) :: st)) : Go F L own cc nL R ret Q σ pc lv (.ref (L.2.1 10) :: st) :=
  go_get (C := RX10) (T := TX10) (N := 5) (ci := 10) (kf := 3) inlX10 rfl hdg hp hlk rfl (by decide) (by decide) rfl rfl k
theorem gf_10_costs {idx : Nat} (hdg : decode cc pc = .ok (.getfield idx, 3)) (hp : pc + 3 = pc') (hlk : Cond.fieldLink own idx "LetterDrawer$WordRow" "costs" "[I" ∈ WD) (k : Go F L own cc nL R ret Q σ pc' lv (.ref (L.2.1 53) :: st)) : Go F L own cc nL R ret Q σ pc lv (.ref (L.2.1 10) :: st) :=
  go_get (C := RX10) (T := TX10) (N := 5) (ci := 10) (kf := 4) inlX10 rfl hdg hp hlk rfl (by decide) (by decide) rfl rfl k
theorem gf_11_row {idx : Nat} (hdg : decode cc pc = .ok (.getfield idx, 3)) (hp : pc + 3 = pc') (hlk : Cond.fieldLink own idx "LetterDrawer$Sequence" "row" "[I" ∈ WD) (k : Go F L own cc nL R ret Q σ pc' lv (.ref (L.2.1 54) :: st)) : Go F L own cc nL R ret Q σ pc lv (.ref (L.2.1 11) :: st) :=
  go_get (C := RX7) (T := TX7) (N := 3) (ci := 7) (kf := 0) inlX7 rfl hdg hp hlk rfl (by decide) (by decide) rfl rfl k
theorem gf_11_jumps {idx : Nat} (hdg : decode cc pc = .ok (.getfield idx, 3)) (hp : pc + 3 = pc') (hlk : Cond.fieldLink own idx "LetterDrawer$Sequence" "jumps" "I" ∈ WD) (k : Go F L own cc nL R ret Q σ pc' lv (.int (σ.1 17) :: st)) : Go F L own cc nL R ret Q σ pc lv (.ref (L.2.1 11) :: st) :=
  go_get (C := RX7) (T := TX7) (N := 3) (ci := 7) (kf := 1) inlX7 rfl hdg hp hlk rfl (by decide) (by decide) rfl rfl k
theorem pf_11_jumps {idx : Nat} {v : Int32} (hdg : decode cc pc = .ok (.putfield idx, 3)) (hp : pc + 3 = pc') (hlk : Cond.fieldLink own idx "LetterDrawer$Sequence" "jumps" "I" ∈ WD) (k : Go F L own cc nL R ret Q (setI σ 17 v) pc' lv st) : Go F L own cc nL R ret Q σ pc lv (.int v :: .ref (L.2.1 11) :: st) :=
  go_put (C := RX7) (T := TX7) (N := 3) (ci := 7) (kf := 1) (ty := .int) inlX7 tyX7 tyX7_ok nmX7 rfl hdg hp hlk rfl (by decide) (by decide) rfl rfl rfl rfl (Nat.le_of_ble_eq_true rfl) rfl (cell_setI L σ 17 v) k
theorem gf_11_size {idx : Nat} (hdg : decode cc pc = .ok (.getfield idx, 3)) (hp : pc + 3 = pc') (hlk : Cond.fieldLink own idx "LetterDrawer$Sequence" "size" "I" ∈ WD) (k : Go F L own cc nL R ret Q σ pc' lv (.int (σ.1 18) :: st)) : Go F L own cc nL R ret Q σ pc lv (.ref (L.2.1 11) :: st) :=
  go_get (C := RX7) (T := TX7) (N := 3) (ci := 7) (kf := 2) inlX7 rfl hdg hp hlk rfl (by decide) (by decide) rfl rfl k
theorem pf_11_size {idx : Nat} {v : Int32} (hdg : decode cc pc = .ok (.putfield idx, 3)) (hp : pc + 3 = pc') (hlk : Cond.fieldLink own idx "LetterDrawer$Sequence" "size" "I" ∈ WD) (k : Go F L own cc nL R ret Q (setI σ 18 v) pc' lv st) : Go F L own cc nL R ret Q σ pc lv (.int v :: .ref (L.2.1 11) :: st) :=
  go_put (C := RX7) (T := TX7) (N := 3) (ci := 7) (kf := 2) (ty := .int) inlX7 tyX7 tyX7_ok nmX7 rfl hdg hp hlk rfl (by decide) (by decide) rfl rfl rfl rfl (Nat.le_of_ble_eq_true rfl) rfl (cell_setI L σ 18 v) k
theorem gf_12_rows {idx : Nat} (hdg : decode cc pc = .ok (.getfield idx, 3)) (hp : pc + 3 = pc') (hlk : Cond.fieldLink own idx "LetterDrawer$Trays" "rows" "[[B" ∈ WD) (k : Go F L own cc nL R ret Q σ pc' lv (.ref (L.2.1 18) :: st)) : Go F L own cc nL R ret Q σ pc lv (.ref (L.2.1 12) :: st) :=
  go_get (C := RX9) (T := TX9) (N := 2) (ci := 9) (kf := 0) inlX9 rfl hdg hp hlk rfl (by decide) (by decide) rfl rfl k
theorem gf_12_sizes {idx : Nat} (hdg : decode cc pc = .ok (.getfield idx, 3)) (hp : pc + 3 = pc') (hlk : Cond.fieldLink own idx "LetterDrawer$Trays" "sizes" "[I" ∈ WD) (k : Go F L own cc nL R ret Q σ pc' lv (.ref (L.2.1 55) :: st)) : Go F L own cc nL R ret Q σ pc lv (.ref (L.2.1 12) :: st) :=
  go_get (C := RX9) (T := TX9) (N := 2) (ci := 9) (kf := 1) inlX9 rfl hdg hp hlk rfl (by decide) (by decide) rfl rfl k
theorem gf_13_persons {idx : Nat} (hdg : decode cc pc = .ok (.getfield idx, 3)) (hp : pc + 3 = pc') (hlk : Cond.fieldLink own idx "LetterDrawerModel" "persons" "I" ∈ WD) (k : Go F L own cc nL R ret Q σ pc' lv (.int (σ.1 19) :: st)) : Go F L own cc nL R ret Q σ pc lv (.ref (L.2.1 13) :: st) :=
  go_get (C := RX12) (T := TX12) (N := 52) (ci := 12) (kf := 0) inlX12 rfl hdg hp hlk rfl (by decide) (by decide) rfl rfl k
theorem pf_13_persons {idx : Nat} {v : Int32} (hdg : decode cc pc = .ok (.putfield idx, 3)) (hp : pc + 3 = pc') (hlk : Cond.fieldLink own idx "LetterDrawerModel" "persons" "I" ∈ WD) (k : Go F L own cc nL R ret Q (setI σ 19 v) pc' lv st) : Go F L own cc nL R ret Q σ pc lv (.int v :: .ref (L.2.1 13) :: st) :=
  go_put (C := RX12) (T := TX12) (N := 52) (ci := 12) (kf := 0) (ty := .int) inlX12 tyX12 tyX12_ok nmX12 rfl hdg hp hlk rfl (by decide) (by decide) rfl rfl rfl rfl (Nat.le_of_ble_eq_true rfl) rfl (cell_setI L σ 19 v) k
theorem gf_13_letters {idx : Nat} (hdg : decode cc pc = .ok (.getfield idx, 3)) (hp : pc + 3 = pc') (hlk : Cond.fieldLink own idx "LetterDrawerModel" "letters" "I" ∈ WD) (k : Go F L own cc nL R ret Q σ pc' lv (.int (σ.1 20) :: st)) : Go F L own cc nL R ret Q σ pc lv (.ref (L.2.1 13) :: st) :=
  go_get (C := RX12) (T := TX12) (N := 52) (ci := 12) (kf := 1) inlX12 rfl hdg hp hlk rfl (by decide) (by decide) rfl rfl k
theorem pf_13_letters {idx : Nat} {v : Int32} (hdg : decode cc pc = .ok (.putfield idx, 3)) (hp : pc + 3 = pc') (hlk : Cond.fieldLink own idx "LetterDrawerModel" "letters" "I" ∈ WD) (k : Go F L own cc nL R ret Q (setI σ 20 v) pc' lv st) : Go F L own cc nL R ret Q σ pc lv (.int v :: .ref (L.2.1 13) :: st) :=
  go_put (C := RX12) (T := TX12) (N := 52) (ci := 12) (kf := 1) (ty := .int) inlX12 tyX12 tyX12_ok nmX12 rfl hdg hp hlk rfl (by decide) (by decide) rfl rfl rfl rfl (Nat.le_of_ble_eq_true rfl) rfl (cell_setI L σ 20 v) k
theorem gf_13_bounds {idx : Nat} (hdg : decode cc pc = .ok (.getfield idx, 3)) (hp : pc + 3 = pc') (hlk : Cond.fieldLink own idx "LetterDrawerModel" "bounds" "I" ∈ WD) (k : Go F L own cc nL R ret Q σ pc' lv (.int (σ.1 21) :: st)) : Go F L own cc nL R ret Q σ pc lv (.ref (L.2.1 13) :: st) :=
  go_get (C := RX12) (T := TX12) (N := 52) (ci := 12) (kf := 2) inlX12 rfl hdg hp hlk rfl (by decide) (by decide) rfl rfl k
theorem pf_13_bounds {idx : Nat} {v : Int32} (hdg : decode cc pc = .ok (.putfield idx, 3)) (hp : pc + 3 = pc') (hlk : Cond.fieldLink own idx "LetterDrawerModel" "bounds" "I" ∈ WD) (k : Go F L own cc nL R ret Q (setI σ 21 v) pc' lv st) : Go F L own cc nL R ret Q σ pc lv (.int v :: .ref (L.2.1 13) :: st) :=
  go_put (C := RX12) (T := TX12) (N := 52) (ci := 12) (kf := 2) (ty := .int) inlX12 tyX12 tyX12_ok nmX12 rfl hdg hp hlk rfl (by decide) (by decide) rfl rfl rfl rfl (Nat.le_of_ble_eq_true rfl) rfl (cell_setI L σ 21 v) k
theorem gf_13_hands {idx : Nat} (hdg : decode cc pc = .ok (.getfield idx, 3)) (hp : pc + 3 = pc') (hlk : Cond.fieldLink own idx "LetterDrawerModel" "hands" "I" ∈ WD) (k : Go F L own cc nL R ret Q σ pc' lv (.int (σ.1 22) :: st)) : Go F L own cc nL R ret Q σ pc lv (.ref (L.2.1 13) :: st) :=
  go_get (C := RX12) (T := TX12) (N := 52) (ci := 12) (kf := 3) inlX12 rfl hdg hp hlk rfl (by decide) (by decide) rfl rfl k
theorem pf_13_hands {idx : Nat} {v : Int32} (hdg : decode cc pc = .ok (.putfield idx, 3)) (hp : pc + 3 = pc') (hlk : Cond.fieldLink own idx "LetterDrawerModel" "hands" "I" ∈ WD) (k : Go F L own cc nL R ret Q (setI σ 22 v) pc' lv st) : Go F L own cc nL R ret Q σ pc lv (.int v :: .ref (L.2.1 13) :: st) :=
  go_put (C := RX12) (T := TX12) (N := 52) (ci := 12) (kf := 3) (ty := .int) inlX12 tyX12 tyX12_ok nmX12 rfl hdg hp hlk rfl (by decide) (by decide) rfl rfl rfl rfl (Nat.le_of_ble_eq_true rfl) rfl (cell_setI L σ 22 v) k
theorem gf_13_size {idx : Nat} (hdg : decode cc pc = .ok (.getfield idx, 3)) (hp : pc + 3 = pc') (hlk : Cond.fieldLink own idx "LetterDrawerModel" "size" "I" ∈ WD) (k : Go F L own cc nL R ret Q σ pc' lv (.int (σ.1 23) :: st)) : Go F L own cc nL R ret Q σ pc lv (.ref (L.2.1 13) :: st) :=
  go_get (C := RX12) (T := TX12) (N := 52) (ci := 12) (kf := 4) inlX12 rfl hdg hp hlk rfl (by decide) (by decide) rfl rfl k
theorem pf_13_size {idx : Nat} {v : Int32} (hdg : decode cc pc = .ok (.putfield idx, 3)) (hp : pc + 3 = pc') (hlk : Cond.fieldLink own idx "LetterDrawerModel" "size" "I" ∈ WD) (k : Go F L own cc nL R ret Q (setI σ 23 v) pc' lv st) : Go F L own cc nL R ret Q σ pc lv (.int v :: .ref (L.2.1 13) :: st) :=
  go_put (C := RX12) (T := TX12) (N := 52) (ci := 12) (kf := 4) (ty := .int) inlX12 tyX12 tyX12_ok nmX12 rfl hdg hp hlk rfl (by decide) (by decide) rfl rfl rfl rfl (Nat.le_of_ble_eq_true rfl) rfl (cell_setI L σ 23 v) k
theorem gf_13_name {idx : Nat} (hdg : decode cc pc = .ok (.getfield idx, 3)) (hp : pc + 3 = pc') (hlk : Cond.fieldLink own idx "LetterDrawerModel" "name" "[I" ∈ WD) (k : Go F L own cc nL R ret Q σ pc' lv (.ref (L.2.1 96) :: st)) : Go F L own cc nL R ret Q σ pc lv (.ref (L.2.1 13) :: st) :=
  go_get (C := RX12) (T := TX12) (N := 52) (ci := 12) (kf := 5) inlX12 rfl hdg hp hlk rfl (by decide) (by decide) rfl rfl k
theorem gf_13_home {idx : Nat} (hdg : decode cc pc = .ok (.getfield idx, 3)) (hp : pc + 3 = pc') (hlk : Cond.fieldLink own idx "LetterDrawerModel" "home" "[I" ∈ WD) (k : Go F L own cc nL R ret Q σ pc' lv (.ref (L.2.1 97) :: st)) : Go F L own cc nL R ret Q σ pc lv (.ref (L.2.1 13) :: st) :=
  go_get (C := RX12) (T := TX12) (N := 52) (ci := 12) (kf := 6) inlX12 rfl hdg hp hlk rfl (by decide) (by decide) rfl rfl k
theorem gf_13_first {idx : Nat} (hdg : decode cc pc = .ok (.getfield idx, 3)) (hp : pc + 3 = pc') (hlk : Cond.fieldLink own idx "LetterDrawerModel" "first" "[I" ∈ WD) (k : Go F L own cc nL R ret Q σ pc' lv (.ref (L.2.1 98) :: st)) : Go F L own cc nL R ret Q σ pc lv (.ref (L.2.1 13) :: st) :=
  go_get (C := RX12) (T := TX12) (N := 52) (ci := 12) (kf := 7) inlX12 rfl hdg hp hlk rfl (by decide) (by decide) rfl rfl k
theorem gf_13_last {idx : Nat} (hdg : decode cc pc = .ok (.getfield idx, 3)) (hp : pc + 3 = pc') (hlk : Cond.fieldLink own idx "LetterDrawerModel" "last" "[I" ∈ WD) (k : Go F L own cc nL R ret Q σ pc' lv (.ref (L.2.1 99) :: st)) : Go F L own cc nL R ret Q σ pc lv (.ref (L.2.1 13) :: st) :=
  go_get (C := RX12) (T := TX12) (N := 52) (ci := 12) (kf := 8) inlX12 rfl hdg hp hlk rfl (by decide) (by decide) rfl rfl k
theorem gf_13_known {idx : Nat} (hdg : decode cc pc = .ok (.getfield idx, 3)) (hp : pc + 3 = pc') (hlk : Cond.fieldLink own idx "LetterDrawerModel" "known" "[Z" ∈ WD) (k : Go F L own cc nL R ret Q σ pc' lv (.ref (L.2.1 100) :: st)) : Go F L own cc nL R ret Q σ pc lv (.ref (L.2.1 13) :: st) :=
  go_get (C := RX12) (T := TX12) (N := 52) (ci := 12) (kf := 9) inlX12 rfl hdg hp hlk rfl (by decide) (by decide) rfl rfl k
theorem gf_13_kind {idx : Nat} (hdg : decode cc pc = .ok (.getfield idx, 3)) (hp : pc + 3 = pc') (hlk : Cond.fieldLink own idx "LetterDrawerModel" "kind" "[I" ∈ WD) (k : Go F L own cc nL R ret Q σ pc' lv (.ref (L.2.1 101) :: st)) : Go F L own cc nL R ret Q σ pc lv (.ref (L.2.1 13) :: st) :=
  go_get (C := RX12) (T := TX12) (N := 52) (ci := 12) (kf := 10) inlX12 rfl hdg hp hlk rfl (by decide) (by decide) rfl rfl k
theorem gf_13_writer {idx : Nat} (hdg : decode cc pc = .ok (.getfield idx, 3)) (hp : pc + 3 = pc') (hlk : Cond.fieldLink own idx "LetterDrawerModel" "writer" "[I" ∈ WD) (k : Go F L own cc nL R ret Q σ pc' lv (.ref (L.2.1 102) :: st)) : Go F L own cc nL R ret Q σ pc lv (.ref (L.2.1 13) :: st) :=
  go_get (C := RX12) (T := TX12) (N := 52) (ci := 12) (kf := 11) inlX12 rfl hdg hp hlk rfl (by decide) (by decide) rfl rfl k
theorem gf_13_reader {idx : Nat} (hdg : decode cc pc = .ok (.getfield idx, 3)) (hp : pc + 3 = pc') (hlk : Cond.fieldLink own idx "LetterDrawerModel" "reader" "[I" ∈ WD) (k : Go F L own cc nL R ret Q σ pc' lv (.ref (L.2.1 103) :: st)) : Go F L own cc nL R ret Q σ pc lv (.ref (L.2.1 13) :: st) :=
  go_get (C := RX12) (T := TX12) (N := 52) (ci := 12) (kf := 12) inlX12 rfl hdg hp hlk rfl (by decide) (by decide) rfl rfl k
theorem gf_13_place {idx : Nat} (hdg : decode cc pc = .ok (.getfield idx, 3)) (hp : pc + 3 = pc') (hlk : Cond.fieldLink own idx "LetterDrawerModel" "place" "[I" ∈ WD) (k : Go F L own cc nL R ret Q σ pc' lv (.ref (L.2.1 104) :: st)) : Go F L own cc nL R ret Q σ pc lv (.ref (L.2.1 13) :: st) :=
  go_get (C := RX12) (T := TX12) (N := 52) (ci := 12) (kf := 13) inlX12 rfl hdg hp hlk rfl (by decide) (by decide) rfl rfl k
theorem gf_13_least {idx : Nat} (hdg : decode cc pc = .ok (.getfield idx, 3)) (hp : pc + 3 = pc') (hlk : Cond.fieldLink own idx "LetterDrawerModel" "least" "[I" ∈ WD) (k : Go F L own cc nL R ret Q σ pc' lv (.ref (L.2.1 105) :: st)) : Go F L own cc nL R ret Q σ pc lv (.ref (L.2.1 13) :: st) :=
  go_get (C := RX12) (T := TX12) (N := 52) (ci := 12) (kf := 14) inlX12 rfl hdg hp hlk rfl (by decide) (by decide) rfl rfl k
theorem gf_13_most {idx : Nat} (hdg : decode cc pc = .ok (.getfield idx, 3)) (hp : pc + 3 = pc') (hlk : Cond.fieldLink own idx "LetterDrawerModel" "most" "[I" ∈ WD) (k : Go F L own cc nL R ret Q σ pc' lv (.ref (L.2.1 106) :: st)) : Go F L own cc nL R ret Q σ pc lv (.ref (L.2.1 13) :: st) :=
  go_get (C := RX12) (T := TX12) (N := 52) (ci := 12) (kf := 15) inlX12 rfl hdg hp hlk rfl (by decide) (by decide) rfl rfl k
theorem gf_13_week {idx : Nat} (hdg : decode cc pc = .ok (.getfield idx, 3)) (hp : pc + 3 = pc') (hlk : Cond.fieldLink own idx "LetterDrawerModel" "week" "[I" ∈ WD) (k : Go F L own cc nL R ret Q σ pc' lv (.ref (L.2.1 107) :: st)) : Go F L own cc nL R ret Q σ pc lv (.ref (L.2.1 13) :: st) :=
  go_get (C := RX12) (T := TX12) (N := 52) (ci := 12) (kf := 16) inlX12 rfl hdg hp hlk rfl (by decide) (by decide) rfl rfl k
theorem gf_13_is {idx : Nat} (hdg : decode cc pc = .ok (.getfield idx, 3)) (hp : pc + 3 = pc') (hlk : Cond.fieldLink own idx "LetterDrawerModel" "is" "[I" ∈ WD) (k : Go F L own cc nL R ret Q σ pc' lv (.ref (L.2.1 108) :: st)) : Go F L own cc nL R ret Q σ pc lv (.ref (L.2.1 13) :: st) :=
  go_get (C := RX12) (T := TX12) (N := 52) (ci := 12) (kf := 17) inlX12 rfl hdg hp hlk rfl (by decide) (by decide) rfl rfl k
theorem gf_13_length {idx : Nat} (hdg : decode cc pc = .ok (.getfield idx, 3)) (hp : pc + 3 = pc') (hlk : Cond.fieldLink own idx "LetterDrawerModel" "length" "[I" ∈ WD) (k : Go F L own cc nL R ret Q σ pc' lv (.ref (L.2.1 109) :: st)) : Go F L own cc nL R ret Q σ pc lv (.ref (L.2.1 13) :: st) :=
  go_get (C := RX12) (T := TX12) (N := 52) (ci := 12) (kf := 18) inlX12 rfl hdg hp hlk rfl (by decide) (by decide) rfl rfl k
theorem gf_13_texts {idx : Nat} (hdg : decode cc pc = .ok (.getfield idx, 3)) (hp : pc + 3 = pc') (hlk : Cond.fieldLink own idx "LetterDrawerModel" "texts" "[I" ∈ WD) (k : Go F L own cc nL R ret Q σ pc' lv (.ref (L.2.1 110) :: st)) : Go F L own cc nL R ret Q σ pc lv (.ref (L.2.1 13) :: st) :=
  go_get (C := RX12) (T := TX12) (N := 52) (ci := 12) (kf := 19) inlX12 rfl hdg hp hlk rfl (by decide) (by decide) rfl rfl k
theorem gf_13_boundA {idx : Nat} (hdg : decode cc pc = .ok (.getfield idx, 3)) (hp : pc + 3 = pc') (hlk : Cond.fieldLink own idx "LetterDrawerModel" "boundA" "[I" ∈ WD) (k : Go F L own cc nL R ret Q σ pc' lv (.ref (L.2.1 111) :: st)) : Go F L own cc nL R ret Q σ pc lv (.ref (L.2.1 13) :: st) :=
  go_get (C := RX12) (T := TX12) (N := 52) (ci := 12) (kf := 20) inlX12 rfl hdg hp hlk rfl (by decide) (by decide) rfl rfl k
theorem gf_13_boundB {idx : Nat} (hdg : decode cc pc = .ok (.getfield idx, 3)) (hp : pc + 3 = pc') (hlk : Cond.fieldLink own idx "LetterDrawerModel" "boundB" "[I" ∈ WD) (k : Go F L own cc nL R ret Q σ pc' lv (.ref (L.2.1 112) :: st)) : Go F L own cc nL R ret Q σ pc lv (.ref (L.2.1 13) :: st) :=
  go_get (C := RX12) (T := TX12) (N := 52) (ci := 12) (kf := 21) inlX12 rfl hdg hp hlk rfl (by decide) (by decide) rfl rfl k
theorem gf_13_boundBy {idx : Nat} (hdg : decode cc pc = .ok (.getfield idx, 3)) (hp : pc + 3 = pc') (hlk : Cond.fieldLink own idx "LetterDrawerModel" "boundBy" "[I" ∈ WD) (k : Go F L own cc nL R ret Q σ pc' lv (.ref (L.2.1 113) :: st)) : Go F L own cc nL R ret Q σ pc lv (.ref (L.2.1 13) :: st) :=
  go_get (C := RX12) (T := TX12) (N := 52) (ci := 12) (kf := 22) inlX12 rfl hdg hp hlk rfl (by decide) (by decide) rfl rfl k
theorem gf_13_postLeast {idx : Nat} (hdg : decode cc pc = .ok (.getfield idx, 3)) (hp : pc + 3 = pc') (hlk : Cond.fieldLink own idx "LetterDrawerModel" "postLeast" "[I" ∈ WD) (k : Go F L own cc nL R ret Q σ pc' lv (.ref (L.2.1 114) :: st)) : Go F L own cc nL R ret Q σ pc lv (.ref (L.2.1 13) :: st) :=
  go_get (C := RX12) (T := TX12) (N := 52) (ci := 12) (kf := 23) inlX12 rfl hdg hp hlk rfl (by decide) (by decide) rfl rfl k
theorem gf_13_postMost {idx : Nat} (hdg : decode cc pc = .ok (.getfield idx, 3)) (hp : pc + 3 = pc') (hlk : Cond.fieldLink own idx "LetterDrawerModel" "postMost" "[I" ∈ WD) (k : Go F L own cc nL R ret Q σ pc' lv (.ref (L.2.1 115) :: st)) : Go F L own cc nL R ret Q σ pc lv (.ref (L.2.1 13) :: st) :=
  go_get (C := RX12) (T := TX12) (N := 52) (ci := 12) (kf := 24) inlX12 rfl hdg hp hlk rfl (by decide) (by decide) rfl rfl k
theorem gf_13_handLetter {idx : Nat} (hdg : decode cc pc = .ok (.getfield idx, 3)) (hp : pc + 3 = pc') (hlk : Cond.fieldLink own idx "LetterDrawerModel" "handLetter" "[I" ∈ WD) (k : Go F L own cc nL R ret Q σ pc' lv (.ref (L.2.1 116) :: st)) : Go F L own cc nL R ret Q σ pc lv (.ref (L.2.1 13) :: st) :=
  go_get (C := RX12) (T := TX12) (N := 52) (ci := 12) (kf := 25) inlX12 rfl hdg hp hlk rfl (by decide) (by decide) rfl rfl k
theorem gf_13_handName {idx : Nat} (hdg : decode cc pc = .ok (.getfield idx, 3)) (hp : pc + 3 = pc') (hlk : Cond.fieldLink own idx "LetterDrawerModel" "handName" "[I" ∈ WD) (k : Go F L own cc nL R ret Q σ pc' lv (.ref (L.2.1 117) :: st)) : Go F L own cc nL R ret Q σ pc lv (.ref (L.2.1 13) :: st) :=
  go_get (C := RX12) (T := TX12) (N := 52) (ci := 12) (kf := 26) inlX12 rfl hdg hp hlk rfl (by decide) (by decide) rfl rfl k
theorem gf_13_handPerson {idx : Nat} (hdg : decode cc pc = .ok (.getfield idx, 3)) (hp : pc + 3 = pc') (hlk : Cond.fieldLink own idx "LetterDrawerModel" "handPerson" "[I" ∈ WD) (k : Go F L own cc nL R ret Q σ pc' lv (.ref (L.2.1 118) :: st)) : Go F L own cc nL R ret Q σ pc lv (.ref (L.2.1 13) :: st) :=
  go_get (C := RX12) (T := TX12) (N := 52) (ci := 12) (kf := 27) inlX12 rfl hdg hp hlk rfl (by decide) (by decide) rfl rfl k
theorem gf_13_tape {idx : Nat} (hdg : decode cc pc = .ok (.getfield idx, 3)) (hp : pc + 3 = pc') (hlk : Cond.fieldLink own idx "LetterDrawerModel" "tape" "[I" ∈ WD) (k : Go F L own cc nL R ret Q σ pc' lv (.ref (L.2.1 119) :: st)) : Go F L own cc nL R ret Q σ pc lv (.ref (L.2.1 13) :: st) :=
  go_get (C := RX12) (T := TX12) (N := 52) (ci := 12) (kf := 28) inlX12 rfl hdg hp hlk rfl (by decide) (by decide) rfl rfl k
theorem gf_13_low {idx : Nat} (hdg : decode cc pc = .ok (.getfield idx, 3)) (hp : pc + 3 = pc') (hlk : Cond.fieldLink own idx "LetterDrawerModel" "low" "[I" ∈ WD) (k : Go F L own cc nL R ret Q σ pc' lv (.ref (L.2.1 120) :: st)) : Go F L own cc nL R ret Q σ pc lv (.ref (L.2.1 13) :: st) :=
  go_get (C := RX12) (T := TX12) (N := 52) (ci := 12) (kf := 29) inlX12 rfl hdg hp hlk rfl (by decide) (by decide) rfl rfl k
theorem gf_13_high {idx : Nat} (hdg : decode cc pc = .ok (.getfield idx, 3)) (hp : pc + 3 = pc') (hlk : Cond.fieldLink own idx "LetterDrawerModel" "high" "[I" ∈ WD) (k : Go F L own cc nL R ret Q σ pc' lv (.ref (L.2.1 121) :: st)) : Go F L own cc nL R ret Q σ pc lv (.ref (L.2.1 13) :: st) :=
  go_get (C := RX12) (T := TX12) (N := 52) (ci := 12) (kf := 30) inlX12 rfl hdg hp hlk rfl (by decide) (by decide) rfl rfl k
theorem gf_13_moved {idx : Nat} (hdg : decode cc pc = .ok (.getfield idx, 3)) (hp : pc + 3 = pc') (hlk : Cond.fieldLink own idx "LetterDrawerModel" "moved" "Z" ∈ WD) (k : Go F L own cc nL R ret Q σ pc' lv (.int (σ.1 24) :: st)) : Go F L own cc nL R ret Q σ pc lv (.ref (L.2.1 13) :: st) :=
  go_get (C := RX12) (T := TX12) (N := 52) (ci := 12) (kf := 31) inlX12 rfl hdg hp hlk rfl (by decide) (by decide) rfl rfl k
theorem pf_13_moved {idx : Nat} {v : Int32} (hdg : decode cc pc = .ok (.putfield idx, 3)) (hp : pc + 3 = pc') (hlk : Cond.fieldLink own idx "LetterDrawerModel" "moved" "Z" ∈ WD) (hz : narrow .boolean (.int v) = .int v) (hf : fits .boolean (.int v) = true) (k : Go F L own cc nL R ret Q (setI σ 24 v) pc' lv st) : Go F L own cc nL R ret Q σ pc lv (.int v :: .ref (L.2.1 13) :: st) :=
  go_put (C := RX12) (T := TX12) (N := 52) (ci := 12) (kf := 31) (ty := .boolean) inlX12 tyX12 tyX12_ok nmX12 rfl hdg hp hlk rfl (by decide) (by decide) rfl rfl hz hf (Nat.le_of_ble_eq_true rfl) rfl (cell_setI L σ 24 v) k
theorem gf_13_way {idx : Nat} (hdg : decode cc pc = .ok (.getfield idx, 3)) (hp : pc + 3 = pc') (hlk : Cond.fieldLink own idx "LetterDrawerModel" "way" "[I" ∈ WD) (k : Go F L own cc nL R ret Q σ pc' lv (.ref (L.2.1 122) :: st)) : Go F L own cc nL R ret Q σ pc lv (.ref (L.2.1 13) :: st) :=
  go_get (C := RX12) (T := TX12) (N := 52) (ci := 12) (kf := 32) inlX12 rfl hdg hp hlk rfl (by decide) (by decide) rfl rfl k
theorem gf_13_meant {idx : Nat} (hdg : decode cc pc = .ok (.getfield idx, 3)) (hp : pc + 3 = pc') (hlk : Cond.fieldLink own idx "LetterDrawerModel" "meant" "I" ∈ WD) (k : Go F L own cc nL R ret Q σ pc' lv (.int (σ.1 25) :: st)) : Go F L own cc nL R ret Q σ pc lv (.ref (L.2.1 13) :: st) :=
  go_get (C := RX12) (T := TX12) (N := 52) (ci := 12) (kf := 33) inlX12 rfl hdg hp hlk rfl (by decide) (by decide) rfl rfl k
theorem pf_13_meant {idx : Nat} {v : Int32} (hdg : decode cc pc = .ok (.putfield idx, 3)) (hp : pc + 3 = pc') (hlk : Cond.fieldLink own idx "LetterDrawerModel" "meant" "I" ∈ WD) (k : Go F L own cc nL R ret Q (setI σ 25 v) pc' lv st) : Go F L own cc nL R ret Q σ pc lv (.int v :: .ref (L.2.1 13) :: st) :=
  go_put (C := RX12) (T := TX12) (N := 52) (ci := 12) (kf := 33) (ty := .int) inlX12 tyX12 tyX12_ok nmX12 rfl hdg hp hlk rfl (by decide) (by decide) rfl rfl rfl rfl (Nat.le_of_ble_eq_true rfl) rfl (cell_setI L σ 25 v) k
theorem gf_13_faultKind {idx : Nat} (hdg : decode cc pc = .ok (.getfield idx, 3)) (hp : pc + 3 = pc') (hlk : Cond.fieldLink own idx "LetterDrawerModel" "faultKind" "I" ∈ WD) (k : Go F L own cc nL R ret Q σ pc' lv (.int (σ.1 26) :: st)) : Go F L own cc nL R ret Q σ pc lv (.ref (L.2.1 13) :: st) :=
  go_get (C := RX12) (T := TX12) (N := 52) (ci := 12) (kf := 34) inlX12 rfl hdg hp hlk rfl (by decide) (by decide) rfl rfl k
theorem pf_13_faultKind {idx : Nat} {v : Int32} (hdg : decode cc pc = .ok (.putfield idx, 3)) (hp : pc + 3 = pc') (hlk : Cond.fieldLink own idx "LetterDrawerModel" "faultKind" "I" ∈ WD) (k : Go F L own cc nL R ret Q (setI σ 26 v) pc' lv st) : Go F L own cc nL R ret Q σ pc lv (.int v :: .ref (L.2.1 13) :: st) :=
  go_put (C := RX12) (T := TX12) (N := 52) (ci := 12) (kf := 34) (ty := .int) inlX12 tyX12 tyX12_ok nmX12 rfl hdg hp hlk rfl (by decide) (by decide) rfl rfl rfl rfl (Nat.le_of_ble_eq_true rfl) rfl (cell_setI L σ 26 v) k
theorem gf_13_faultAt {idx : Nat} (hdg : decode cc pc = .ok (.getfield idx, 3)) (hp : pc + 3 = pc') (hlk : Cond.fieldLink own idx "LetterDrawerModel" "faultAt" "I" ∈ WD) (k : Go F L own cc nL R ret Q σ pc' lv (.int (σ.1 27) :: st)) : Go F L own cc nL R ret Q σ pc lv (.ref (L.2.1 13) :: st) :=
  go_get (C := RX12) (T := TX12) (N := 52) (ci := 12) (kf := 35) inlX12 rfl hdg hp hlk rfl (by decide) (by decide) rfl rfl k
theorem pf_13_faultAt {idx : Nat} {v : Int32} (hdg : decode cc pc = .ok (.putfield idx, 3)) (hp : pc + 3 = pc') (hlk : Cond.fieldLink own idx "LetterDrawerModel" "faultAt" "I" ∈ WD) (k : Go F L own cc nL R ret Q (setI σ 27 v) pc' lv st) : Go F L own cc nL R ret Q σ pc lv (.int v :: .ref (L.2.1 13) :: st) :=
  go_put (C := RX12) (T := TX12) (N := 52) (ci := 12) (kf := 35) (ty := .int) inlX12 tyX12 tyX12_ok nmX12 rfl hdg hp hlk rfl (by decide) (by decide) rfl rfl rfl rfl (Nat.le_of_ble_eq_true rfl) rfl (cell_setI L σ 27 v) k
theorem gf_13_opened {idx : Nat} (hdg : decode cc pc = .ok (.getfield idx, 3)) (hp : pc + 3 = pc') (hlk : Cond.fieldLink own idx "LetterDrawerModel" "opened" "I" ∈ WD) (k : Go F L own cc nL R ret Q σ pc' lv (.int (σ.1 28) :: st)) : Go F L own cc nL R ret Q σ pc lv (.ref (L.2.1 13) :: st) :=
  go_get (C := RX12) (T := TX12) (N := 52) (ci := 12) (kf := 36) inlX12 rfl hdg hp hlk rfl (by decide) (by decide) rfl rfl k
theorem pf_13_opened {idx : Nat} {v : Int32} (hdg : decode cc pc = .ok (.putfield idx, 3)) (hp : pc + 3 = pc') (hlk : Cond.fieldLink own idx "LetterDrawerModel" "opened" "I" ∈ WD) (k : Go F L own cc nL R ret Q (setI σ 28 v) pc' lv st) : Go F L own cc nL R ret Q σ pc lv (.int v :: .ref (L.2.1 13) :: st) :=
  go_put (C := RX12) (T := TX12) (N := 52) (ci := 12) (kf := 36) (ty := .int) inlX12 tyX12 tyX12_ok nmX12 rfl hdg hp hlk rfl (by decide) (by decide) rfl rfl rfl rfl (Nat.le_of_ble_eq_true rfl) rfl (cell_setI L σ 28 v) k
theorem gf_13_open {idx : Nat} (hdg : decode cc pc = .ok (.getfield idx, 3)) (hp : pc + 3 = pc') (hlk : Cond.fieldLink own idx "LetterDrawerModel" "open" "[I" ∈ WD) (k : Go F L own cc nL R ret Q σ pc' lv (.ref (L.2.1 123) :: st)) : Go F L own cc nL R ret Q σ pc lv (.ref (L.2.1 13) :: st) :=
  go_get (C := RX12) (T := TX12) (N := 52) (ci := 12) (kf := 37) inlX12 rfl hdg hp hlk rfl (by decide) (by decide) rfl rfl k
theorem gf_13_print {idx : Nat} (hdg : decode cc pc = .ok (.getfield idx, 3)) (hp : pc + 3 = pc') (hlk : Cond.fieldLink own idx "LetterDrawerModel" "print" "[I" ∈ WD) (k : Go F L own cc nL R ret Q σ pc' lv (.ref (L.2.1 124) :: st)) : Go F L own cc nL R ret Q σ pc lv (.ref (L.2.1 13) :: st) :=
  go_get (C := RX12) (T := TX12) (N := 52) (ci := 12) (kf := 38) inlX12 rfl hdg hp hlk rfl (by decide) (by decide) rfl rfl k
theorem gf_13_row {idx : Nat} (hdg : decode cc pc = .ok (.getfield idx, 3)) (hp : pc + 3 = pc') (hlk : Cond.fieldLink own idx "LetterDrawerModel" "row" "[I" ∈ WD) (k : Go F L own cc nL R ret Q σ pc' lv (.ref (L.2.1 125) :: st)) : Go F L own cc nL R ret Q σ pc lv (.ref (L.2.1 13) :: st) :=
  go_get (C := RX12) (T := TX12) (N := 52) (ci := 12) (kf := 39) inlX12 rfl hdg hp hlk rfl (by decide) (by decide) rfl rfl k
theorem gf_13_printMany {idx : Nat} (hdg : decode cc pc = .ok (.getfield idx, 3)) (hp : pc + 3 = pc') (hlk : Cond.fieldLink own idx "LetterDrawerModel" "printMany" "I" ∈ WD) (k : Go F L own cc nL R ret Q σ pc' lv (.int (σ.1 29) :: st)) : Go F L own cc nL R ret Q σ pc lv (.ref (L.2.1 13) :: st) :=
  go_get (C := RX12) (T := TX12) (N := 52) (ci := 12) (kf := 40) inlX12 rfl hdg hp hlk rfl (by decide) (by decide) rfl rfl k
theorem pf_13_printMany {idx : Nat} {v : Int32} (hdg : decode cc pc = .ok (.putfield idx, 3)) (hp : pc + 3 = pc') (hlk : Cond.fieldLink own idx "LetterDrawerModel" "printMany" "I" ∈ WD) (k : Go F L own cc nL R ret Q (setI σ 29 v) pc' lv st) : Go F L own cc nL R ret Q σ pc lv (.int v :: .ref (L.2.1 13) :: st) :=
  go_put (C := RX12) (T := TX12) (N := 52) (ci := 12) (kf := 40) (ty := .int) inlX12 tyX12 tyX12_ok nmX12 rfl hdg hp hlk rfl (by decide) (by decide) rfl rfl rfl rfl (Nat.le_of_ble_eq_true rfl) rfl (cell_setI L σ 29 v) k
theorem gf_13_signs {idx : Nat} (hdg : decode cc pc = .ok (.getfield idx, 3)) (hp : pc + 3 = pc') (hlk : Cond.fieldLink own idx "LetterDrawerModel" "signs" "[I" ∈ WD) (k : Go F L own cc nL R ret Q σ pc' lv (.ref (L.2.1 126) :: st)) : Go F L own cc nL R ret Q σ pc lv (.ref (L.2.1 13) :: st) :=
  go_get (C := RX12) (T := TX12) (N := 52) (ci := 12) (kf := 41) inlX12 rfl hdg hp hlk rfl (by decide) (by decide) rfl rfl k
theorem gf_13_begins {idx : Nat} (hdg : decode cc pc = .ok (.getfield idx, 3)) (hp : pc + 3 = pc') (hlk : Cond.fieldLink own idx "LetterDrawerModel" "begins" "[I" ∈ WD) (k : Go F L own cc nL R ret Q σ pc' lv (.ref (L.2.1 127) :: st)) : Go F L own cc nL R ret Q σ pc lv (.ref (L.2.1 13) :: st) :=
  go_get (C := RX12) (T := TX12) (N := 52) (ci := 12) (kf := 42) inlX12 rfl hdg hp hlk rfl (by decide) (by decide) rfl rfl k
theorem gf_13_ends {idx : Nat} (hdg : decode cc pc = .ok (.getfield idx, 3)) (hp : pc + 3 = pc') (hlk : Cond.fieldLink own idx "LetterDrawerModel" "ends" "[I" ∈ WD) (k : Go F L own cc nL R ret Q σ pc' lv (.ref (L.2.1 128) :: st)) : Go F L own cc nL R ret Q σ pc lv (.ref (L.2.1 13) :: st) :=
  go_get (C := RX12) (T := TX12) (N := 52) (ci := 12) (kf := 43) inlX12 rfl hdg hp hlk rfl (by decide) (by decide) rfl rfl k
theorem gf_13_wordMany {idx : Nat} (hdg : decode cc pc = .ok (.getfield idx, 3)) (hp : pc + 3 = pc') (hlk : Cond.fieldLink own idx "LetterDrawerModel" "wordMany" "[I" ∈ WD) (k : Go F L own cc nL R ret Q σ pc' lv (.ref (L.2.1 129) :: st)) : Go F L own cc nL R ret Q σ pc lv (.ref (L.2.1 13) :: st) :=
  go_get (C := RX12) (T := TX12) (N := 52) (ci := 12) (kf := 44) inlX12 rfl hdg hp hlk rfl (by decide) (by decide) rfl rfl k
theorem gf_13_above {idx : Nat} (hdg : decode cc pc = .ok (.getfield idx, 3)) (hp : pc + 3 = pc') (hlk : Cond.fieldLink own idx "LetterDrawerModel" "above" "[I" ∈ WD) (k : Go F L own cc nL R ret Q σ pc' lv (.ref (L.2.1 130) :: st)) : Go F L own cc nL R ret Q σ pc lv (.ref (L.2.1 13) :: st) :=
  go_get (C := RX12) (T := TX12) (N := 52) (ci := 12) (kf := 45) inlX12 rfl hdg hp hlk rfl (by decide) (by decide) rfl rfl k
theorem gf_13_below {idx : Nat} (hdg : decode cc pc = .ok (.getfield idx, 3)) (hp : pc + 3 = pc') (hlk : Cond.fieldLink own idx "LetterDrawerModel" "below" "[I" ∈ WD) (k : Go F L own cc nL R ret Q σ pc' lv (.ref (L.2.1 131) :: st)) : Go F L own cc nL R ret Q σ pc lv (.ref (L.2.1 13) :: st) :=
  go_get (C := RX12) (T := TX12) (N := 52) (ci := 12) (kf := 46) inlX12 rfl hdg hp hlk rfl (by decide) (by decide) rfl rfl k
theorem gf_13_some {idx : Nat} (hdg : decode cc pc = .ok (.getfield idx, 3)) (hp : pc + 3 = pc') (hlk : Cond.fieldLink own idx "LetterDrawerModel" "some" "[I" ∈ WD) (k : Go F L own cc nL R ret Q σ pc' lv (.ref (L.2.1 132) :: st)) : Go F L own cc nL R ret Q σ pc lv (.ref (L.2.1 13) :: st) :=
  go_get (C := RX12) (T := TX12) (N := 52) (ci := 12) (kf := 47) inlX12 rfl hdg hp hlk rfl (by decide) (by decide) rfl rfl k
theorem gf_13_jumps {idx : Nat} (hdg : decode cc pc = .ok (.getfield idx, 3)) (hp : pc + 3 = pc') (hlk : Cond.fieldLink own idx "LetterDrawerModel" "jumps" "[I" ∈ WD) (k : Go F L own cc nL R ret Q σ pc' lv (.ref (L.2.1 133) :: st)) : Go F L own cc nL R ret Q σ pc lv (.ref (L.2.1 13) :: st) :=
  go_get (C := RX12) (T := TX12) (N := 52) (ci := 12) (kf := 48) inlX12 rfl hdg hp hlk rfl (by decide) (by decide) rfl rfl k
theorem gf_13_many {idx : Nat} (hdg : decode cc pc = .ok (.getfield idx, 3)) (hp : pc + 3 = pc') (hlk : Cond.fieldLink own idx "LetterDrawerModel" "many" "I" ∈ WD) (k : Go F L own cc nL R ret Q σ pc' lv (.int (σ.1 30) :: st)) : Go F L own cc nL R ret Q σ pc lv (.ref (L.2.1 13) :: st) :=
  go_get (C := RX12) (T := TX12) (N := 52) (ci := 12) (kf := 49) inlX12 rfl hdg hp hlk rfl (by decide) (by decide) rfl rfl k
theorem pf_13_many {idx : Nat} {v : Int32} (hdg : decode cc pc = .ok (.putfield idx, 3)) (hp : pc + 3 = pc') (hlk : Cond.fieldLink own idx "LetterDrawerModel" "many" "I" ∈ WD) (k : Go F L own cc nL R ret Q (setI σ 30 v) pc' lv st) : Go F L own cc nL R ret Q σ pc lv (.int v :: .ref (L.2.1 13) :: st) :=
  go_put (C := RX12) (T := TX12) (N := 52) (ci := 12) (kf := 49) (ty := .int) inlX12 tyX12 tyX12_ok nmX12 rfl hdg hp hlk rfl (by decide) (by decide) rfl rfl rfl rfl (Nat.le_of_ble_eq_true rfl) rfl (cell_setI L σ 30 v) k
theorem gf_13_traySize {idx : Nat} (hdg : decode cc pc = .ok (.getfield idx, 3)) (hp : pc + 3 = pc') (hlk : Cond.fieldLink own idx "LetterDrawerModel" "traySize" "[I" ∈ WD) (k : Go F L own cc nL R ret Q σ pc' lv (.ref (L.2.1 134) :: st)) : Go F L own cc nL R ret Q σ pc lv (.ref (L.2.1 13) :: st) :=
  go_get (C := RX12) (T := TX12) (N := 52) (ci := 12) (kf := 50) inlX12 rfl hdg hp hlk rfl (by decide) (by decide) rfl rfl k
theorem gf_13_trays {idx : Nat} (hdg : decode cc pc = .ok (.getfield idx, 3)) (hp : pc + 3 = pc') (hlk : Cond.fieldLink own idx "LetterDrawerModel" "trays" "[I" ∈ WD) (k : Go F L own cc nL R ret Q σ pc' lv (.ref (L.2.1 135) :: st)) : Go F L own cc nL R ret Q σ pc lv (.ref (L.2.1 13) :: st) :=
  go_get (C := RX12) (T := TX12) (N := 52) (ci := 12) (kf := 51) inlX12 rfl hdg hp hlk rfl (by decide) (by decide) rfl rfl k
end GOF
