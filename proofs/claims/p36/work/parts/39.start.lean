/-! ===== the world behind the two constructors, as cells by number ===== -/
def adL (h0 h1 : Nat) (u : (Nat → Nat) × (Nat → CS)) (v : CS) : Nat → Nat := fun k => if k < 19 then [h0, u.1 1, u.1 2, u.1 3, u.1 4, u.1 5, u.1 6, u.1 7, u.1 8, u.1 9, u.1 10, u.1 11, u.1 12, h1, (u.2 2).1 9, (u.2 3).1 7, (u.2 4).1 0, (u.2 4).1 1, (u.2 12).1 0].getD k 0 else if k < 56 then [(u.2 1).1 0, (u.2 1).1 1, (u.2 1).1 2, (u.2 1).1 3, (u.2 1).1 4, (u.2 2).1 0, (u.2 2).1 1, (u.2 2).1 2, (u.2 2).1 3, (u.2 2).1 4, (u.2 2).1 5, (u.2 2).1 6, (u.2 2).1 7, (u.2 2).1 8, (u.2 3).1 0, (u.2 3).1 1, (u.2 3).1 2, (u.2 3).1 3, (u.2 3).1 4, (u.2 3).1 5, (u.2 3).1 6, (u.2 5).1 0, (u.2 5).1 1, (u.2 5).1 2, (u.2 6).1 0, (u.2 7).1 0, (u.2 8).1 0, (u.2 9).1 0, (u.2 9).1 1, (u.2 9).1 2, (u.2 9).1 3, (u.2 10).1 0, (u.2 10).1 1, (u.2 10).1 2, (u.2 10).1 3, (u.2 11).1 0, (u.2 12).1 1].getD (k - 19) 0 else if k < 68 then (u.2 2).2.2.1 (k - 56) else if k < 80 then (u.2 3).2.2.1 (k - 68) else if k < 86 then (u.2 4).2.2.1 (k - 80) else if k < 92 then (u.2 4).2.2.2.1 (k - 86) else if k < 96 then (u.2 12).2.2.1 (k - 92) else v.1 (k - 96)
def acL (u : (Nat → Nat) × (Nat → CS)) (v : CS) : Nat → ClassId := fun k => if k < 19 then [0, 0, 0, 0, 0, 0, 0, 0, 0, 0, 0, 0, 0, 0, (u.2 2).2.1 10, (u.2 3).2.1 8, (u.2 4).2.1 1, (u.2 4).2.1 3, (u.2 12).2.1 1].getD k 0 else if k < 56 then [(u.2 1).2.1 0, (u.2 1).2.1 1, (u.2 1).2.1 2, (u.2 1).2.1 3, (u.2 1).2.1 4, (u.2 2).2.1 0, (u.2 2).2.1 1, (u.2 2).2.1 2, (u.2 2).2.1 3, (u.2 2).2.1 4, (u.2 2).2.1 5, (u.2 2).2.1 6, (u.2 2).2.1 7, (u.2 2).2.1 8, (u.2 3).2.1 0, (u.2 3).2.1 1, (u.2 3).2.1 2, (u.2 3).2.1 3, (u.2 3).2.1 4, (u.2 3).2.1 5, (u.2 3).2.1 6, (u.2 5).2.1 0, (u.2 5).2.1 1, (u.2 5).2.1 2, (u.2 6).2.1 0, (u.2 7).2.1 0, (u.2 8).2.1 0, (u.2 9).2.1 0, (u.2 9).2.1 1, (u.2 9).2.1 2, (u.2 9).2.1 3, (u.2 10).2.1 0, (u.2 10).2.1 1, (u.2 10).2.1 2, (u.2 10).2.1 3, (u.2 11).2.1 0, (u.2 12).2.1 2].getD (k - 19) 0 else if k < 68 then (u.2 2).2.1 9 else if k < 80 then (u.2 3).2.1 7 else if k < 86 then (u.2 4).2.1 0 else if k < 92 then (u.2 4).2.1 2 else if k < 96 then (u.2 12).2.1 0 else v.2.1 (k - 96)
def trS : Nat → Int32 := upd (upd (upd (upd (fun _ => 0) 0 (-1)) 1 (-1)) 2 (-1)) 3 (-1)
def stL (u : (Nat → Nat) × (Nat → CS)) (v : CS) : ST := (fun i => if i = 1 then -1 else if i = 27 then -1 else 0, fun k => if k = 55 then trS else if k < 80 then (fun _ => 0) else if k < 86 then (u.2 4).2.2.2.2 (k - 80) else if k < 92 then (u.2 4).2.2.2.2 (6 + (k - 86)) else if k = 114 then v.2.2.2.2 0 else if k = 115 then v.2.2.2.2 1 else if k = 134 then v.2.2.2.2 2 else (fun _ => 0))
def lyL (D : va_G) (h0 h1 : Nat) (u : (Nat → Nat) × (Nat → CS)) (v : CS) : WL := (D, adL h0 h1 u v, acL u v)
def piL (k : Nat) : Nat := [0, 1, 7, 30, 51, 66, 70, 72, 74, 76, 81, 86, 88, 95, 17, 38, 52, 59, 89, 2, 3, 4, 5, 6, 8, 9, 10, 11, 12, 13, 14, 15, 16, 31, 32, 33, 34, 35, 36, 37, 67, 68, 69, 71, 73, 75, 77, 78, 79, 80, 82, 83, 84, 85, 87, 94, 18, 19, 20, 21, 22, 23, 24, 25, 26, 27, 28, 29, 39, 40, 41, 42, 43, 44, 45, 46, 47, 48, 49, 50, 53, 54, 55, 56, 57, 58, 60, 61, 62, 63, 64, 65, 90, 91, 92, 93, 96, 97, 98, 99, 100, 101, 102, 103, 104, 105, 106, 107, 108, 109, 110, 111, 112, 113, 114, 115, 116, 117, 118, 119, 120, 121, 122, 123, 124, 125, 126, 127, 128, 129, 130, 131, 132, 133, 134, 135].getD k 0
def bigL (h0 h1 : Nat) (u : (Nat → Nat) × (Nat → CS)) (v : CS) : va_W := wf_X11_init h0 u ++ wf_X12_init h1 v
theorem ln_X0 (a : Nat) (t : CS) : (wf_X0_init a t).length = 21 := rfl
theorem ln_X1 (a : Nat) (t : CS) : (wf_X1_init a t).length = 4 := rfl
theorem ln_X2 (a : Nat) (t : CS) : (wf_X2_init a t).length = 23 := rfl
theorem ln_X3 (a : Nat) (t : CS) : (wf_X3_init a t).length = 2 := rfl
theorem ln_X4 (a : Nat) (t : CS) : (wf_X4_init a t).length = 6 := rfl
theorem ln_X5 (a : Nat) (t : CS) : (wf_X5_init a t).length = 15 := rfl
theorem ln_X6 (a : Nat) (t : CS) : (wf_X6_init a t).length = 2 := rfl
theorem ln_X7 (a : Nat) (t : CS) : (wf_X7_init a t).length = 2 := rfl
theorem ln_X8 (a : Nat) (t : CS) : (wf_X8_init a t).length = 2 := rfl
theorem ln_X9 (a : Nat) (t : CS) : (wf_X9_init a t).length = 7 := rfl
theorem ln_X10 (a : Nat) (t : CS) : (wf_X10_init a t).length = 5 := rfl
theorem sg_0 (h0 h1 : Nat) (u : (Nat → Nat) × (Nat → CS)) (v : CS) : (bigL h0 h1 u v)[0]? = some ((h0, .inr (11, [.ref (u.1 1), .ref (u.1 2), .ref (u.1 3), .ref (u.1 4), .ref (u.1 5), .ref (u.1 6), .ref (u.1 7), .ref (u.1 8), .ref (u.1 9), .ref (u.1 10), .ref (u.1 11), .ref (u.1 12), .int 0, .int (-1)])) : Nat × va_E) := rfl
theorem sg_1 (h0 h1 : Nat) (u : (Nat → Nat) × (Nat → CS)) (v : CS) {i : Nat} (hi : i < 6) : (bigL h0 h1 u v)[1 + i]? = (wf_X4_init (u.1 1) (u.2 1))[i]? := by
  have e : bigL h0 h1 u v = ([(h0, .inr (11, [.ref (u.1 1), .ref (u.1 2), .ref (u.1 3), .ref (u.1 4), .ref (u.1 5), .ref (u.1 6), .ref (u.1 7), .ref (u.1 8), .ref (u.1 9), .ref (u.1 10), .ref (u.1 11), .ref (u.1 12), .int 0, .int (-1)]))]) ++ (wf_X4_init (u.1 1) (u.2 1) ++ (wf_X2_init (u.1 2) (u.2 2) ++ (wf_X0_init (u.1 3) (u.2 3) ++ (wf_X5_init (u.1 4) (u.2 4) ++ (wf_X1_init (u.1 5) (u.2 5) ++ (wf_X8_init (u.1 6) (u.2 6) ++ (wf_X3_init (u.1 7) (u.2 7) ++ (wf_X6_init (u.1 8) (u.2 8) ++ (wf_X10_init (u.1 9) (u.2 9) ++ (wf_X10_init (u.1 10) (u.2 10) ++ (wf_X7_init (u.1 11) (u.2 11) ++ (wf_X9_init (u.1 12) (u.2 12) ++ (wf_X12_init h1 v))))))))))))) := by simp only [bigL, wf_X11_init, List.append_assoc, List.cons_append, List.nil_append]
  rw [e, List.getElem?_append_right (by simp only [List.length_cons, List.length_append, List.length_nil, ln_X0, ln_X1, ln_X2, ln_X3, ln_X4, ln_X5, ln_X6, ln_X7, ln_X8, ln_X9, ln_X10]; omega), List.getElem?_append_left (by simp only [List.length_cons, List.length_append, List.length_nil, ln_X0, ln_X1, ln_X2, ln_X3, ln_X4, ln_X5, ln_X6, ln_X7, ln_X8, ln_X9, ln_X10]; omega)]
  exact congrArg (fun z => (wf_X4_init (u.1 1) (u.2 1))[z]?) (by simp only [List.length_cons, List.length_append, List.length_nil, ln_X0, ln_X1, ln_X2, ln_X3, ln_X4, ln_X5, ln_X6, ln_X7, ln_X8, ln_X9, ln_X10]; omega)
theorem sg_2 (h0 h1 : Nat) (u : (Nat → Nat) × (Nat → CS)) (v : CS) {i : Nat} (hi : i < 23) : (bigL h0 h1 u v)[7 + i]? = (wf_X2_init (u.1 2) (u.2 2))[i]? := by
  have e : bigL h0 h1 u v = ((h0, .inr (11, [.ref (u.1 1), .ref (u.1 2), .ref (u.1 3), .ref (u.1 4), .ref (u.1 5), .ref (u.1 6), .ref (u.1 7), .ref (u.1 8), .ref (u.1 9), .ref (u.1 10), .ref (u.1 11), .ref (u.1 12), .int 0, .int (-1)])) :: (wf_X4_init (u.1 1) (u.2 1))) ++ (wf_X2_init (u.1 2) (u.2 2) ++ (wf_X0_init (u.1 3) (u.2 3) ++ (wf_X5_init (u.1 4) (u.2 4) ++ (wf_X1_init (u.1 5) (u.2 5) ++ (wf_X8_init (u.1 6) (u.2 6) ++ (wf_X3_init (u.1 7) (u.2 7) ++ (wf_X6_init (u.1 8) (u.2 8) ++ (wf_X10_init (u.1 9) (u.2 9) ++ (wf_X10_init (u.1 10) (u.2 10) ++ (wf_X7_init (u.1 11) (u.2 11) ++ (wf_X9_init (u.1 12) (u.2 12) ++ (wf_X12_init h1 v)))))))))))) := by simp only [bigL, wf_X11_init, List.append_assoc, List.cons_append, List.nil_append]
  rw [e, List.getElem?_append_right (by simp only [List.length_cons, List.length_append, List.length_nil, ln_X0, ln_X1, ln_X2, ln_X3, ln_X4, ln_X5, ln_X6, ln_X7, ln_X8, ln_X9, ln_X10]; omega), List.getElem?_append_left (by simp only [List.length_cons, List.length_append, List.length_nil, ln_X0, ln_X1, ln_X2, ln_X3, ln_X4, ln_X5, ln_X6, ln_X7, ln_X8, ln_X9, ln_X10]; omega)]
  exact congrArg (fun z => (wf_X2_init (u.1 2) (u.2 2))[z]?) (by simp only [List.length_cons, List.length_append, List.length_nil, ln_X0, ln_X1, ln_X2, ln_X3, ln_X4, ln_X5, ln_X6, ln_X7, ln_X8, ln_X9, ln_X10]; omega)
theorem sg_3 (h0 h1 : Nat) (u : (Nat → Nat) × (Nat → CS)) (v : CS) {i : Nat} (hi : i < 21) : (bigL h0 h1 u v)[30 + i]? = (wf_X0_init (u.1 3) (u.2 3))[i]? := by
  have e : bigL h0 h1 u v = ((h0, .inr (11, [.ref (u.1 1), .ref (u.1 2), .ref (u.1 3), .ref (u.1 4), .ref (u.1 5), .ref (u.1 6), .ref (u.1 7), .ref (u.1 8), .ref (u.1 9), .ref (u.1 10), .ref (u.1 11), .ref (u.1 12), .int 0, .int (-1)])) :: (wf_X4_init (u.1 1) (u.2 1) ++ wf_X2_init (u.1 2) (u.2 2))) ++ (wf_X0_init (u.1 3) (u.2 3) ++ (wf_X5_init (u.1 4) (u.2 4) ++ (wf_X1_init (u.1 5) (u.2 5) ++ (wf_X8_init (u.1 6) (u.2 6) ++ (wf_X3_init (u.1 7) (u.2 7) ++ (wf_X6_init (u.1 8) (u.2 8) ++ (wf_X10_init (u.1 9) (u.2 9) ++ (wf_X10_init (u.1 10) (u.2 10) ++ (wf_X7_init (u.1 11) (u.2 11) ++ (wf_X9_init (u.1 12) (u.2 12) ++ (wf_X12_init h1 v))))))))))) := by simp only [bigL, wf_X11_init, List.append_assoc, List.cons_append, List.nil_append]
  rw [e, List.getElem?_append_right (by simp only [List.length_cons, List.length_append, List.length_nil, ln_X0, ln_X1, ln_X2, ln_X3, ln_X4, ln_X5, ln_X6, ln_X7, ln_X8, ln_X9, ln_X10]; omega), List.getElem?_append_left (by simp only [List.length_cons, List.length_append, List.length_nil, ln_X0, ln_X1, ln_X2, ln_X3, ln_X4, ln_X5, ln_X6, ln_X7, ln_X8, ln_X9, ln_X10]; omega)]
  exact congrArg (fun z => (wf_X0_init (u.1 3) (u.2 3))[z]?) (by simp only [List.length_cons, List.length_append, List.length_nil, ln_X0, ln_X1, ln_X2, ln_X3, ln_X4, ln_X5, ln_X6, ln_X7, ln_X8, ln_X9, ln_X10]; omega)
theorem sg_4 (h0 h1 : Nat) (u : (Nat → Nat) × (Nat → CS)) (v : CS) {i : Nat} (hi : i < 15) : (bigL h0 h1 u v)[51 + i]? = (wf_X5_init (u.1 4) (u.2 4))[i]? := by
  have e : bigL h0 h1 u v = ((h0, .inr (11, [.ref (u.1 1), .ref (u.1 2), .ref (u.1 3), .ref (u.1 4), .ref (u.1 5), .ref (u.1 6), .ref (u.1 7), .ref (u.1 8), .ref (u.1 9), .ref (u.1 10), .ref (u.1 11), .ref (u.1 12), .int 0, .int (-1)])) :: (wf_X4_init (u.1 1) (u.2 1) ++ wf_X2_init (u.1 2) (u.2 2) ++ wf_X0_init (u.1 3) (u.2 3))) ++ (wf_X5_init (u.1 4) (u.2 4) ++ (wf_X1_init (u.1 5) (u.2 5) ++ (wf_X8_init (u.1 6) (u.2 6) ++ (wf_X3_init (u.1 7) (u.2 7) ++ (wf_X6_init (u.1 8) (u.2 8) ++ (wf_X10_init (u.1 9) (u.2 9) ++ (wf_X10_init (u.1 10) (u.2 10) ++ (wf_X7_init (u.1 11) (u.2 11) ++ (wf_X9_init (u.1 12) (u.2 12) ++ (wf_X12_init h1 v)))))))))) := by simp only [bigL, wf_X11_init, List.append_assoc, List.cons_append, List.nil_append]
  rw [e, List.getElem?_append_right (by simp only [List.length_cons, List.length_append, List.length_nil, ln_X0, ln_X1, ln_X2, ln_X3, ln_X4, ln_X5, ln_X6, ln_X7, ln_X8, ln_X9, ln_X10]; omega), List.getElem?_append_left (by simp only [List.length_cons, List.length_append, List.length_nil, ln_X0, ln_X1, ln_X2, ln_X3, ln_X4, ln_X5, ln_X6, ln_X7, ln_X8, ln_X9, ln_X10]; omega)]
  exact congrArg (fun z => (wf_X5_init (u.1 4) (u.2 4))[z]?) (by simp only [List.length_cons, List.length_append, List.length_nil, ln_X0, ln_X1, ln_X2, ln_X3, ln_X4, ln_X5, ln_X6, ln_X7, ln_X8, ln_X9, ln_X10]; omega)
theorem sg_5 (h0 h1 : Nat) (u : (Nat → Nat) × (Nat → CS)) (v : CS) {i : Nat} (hi : i < 4) : (bigL h0 h1 u v)[66 + i]? = (wf_X1_init (u.1 5) (u.2 5))[i]? := by
  have e : bigL h0 h1 u v = ((h0, .inr (11, [.ref (u.1 1), .ref (u.1 2), .ref (u.1 3), .ref (u.1 4), .ref (u.1 5), .ref (u.1 6), .ref (u.1 7), .ref (u.1 8), .ref (u.1 9), .ref (u.1 10), .ref (u.1 11), .ref (u.1 12), .int 0, .int (-1)])) :: (wf_X4_init (u.1 1) (u.2 1) ++ wf_X2_init (u.1 2) (u.2 2) ++ wf_X0_init (u.1 3) (u.2 3) ++ wf_X5_init (u.1 4) (u.2 4))) ++ (wf_X1_init (u.1 5) (u.2 5) ++ (wf_X8_init (u.1 6) (u.2 6) ++ (wf_X3_init (u.1 7) (u.2 7) ++ (wf_X6_init (u.1 8) (u.2 8) ++ (wf_X10_init (u.1 9) (u.2 9) ++ (wf_X10_init (u.1 10) (u.2 10) ++ (wf_X7_init (u.1 11) (u.2 11) ++ (wf_X9_init (u.1 12) (u.2 12) ++ (wf_X12_init h1 v))))))))) := by simp only [bigL, wf_X11_init, List.append_assoc, List.cons_append, List.nil_append]
  rw [e, List.getElem?_append_right (by simp only [List.length_cons, List.length_append, List.length_nil, ln_X0, ln_X1, ln_X2, ln_X3, ln_X4, ln_X5, ln_X6, ln_X7, ln_X8, ln_X9, ln_X10]; omega), List.getElem?_append_left (by simp only [List.length_cons, List.length_append, List.length_nil, ln_X0, ln_X1, ln_X2, ln_X3, ln_X4, ln_X5, ln_X6, ln_X7, ln_X8, ln_X9, ln_X10]; omega)]
  exact congrArg (fun z => (wf_X1_init (u.1 5) (u.2 5))[z]?) (by simp only [List.length_cons, List.length_append, List.length_nil, ln_X0, ln_X1, ln_X2, ln_X3, ln_X4, ln_X5, ln_X6, ln_X7, ln_X8, ln_X9, ln_X10]; omega)
theorem sg_6 (h0 h1 : Nat) (u : (Nat → Nat) × (Nat → CS)) (v : CS) {i : Nat} (hi : i < 2) : (bigL h0 h1 u v)[70 + i]? = (wf_X8_init (u.1 6) (u.2 6))[i]? := by
  have e : bigL h0 h1 u v = ((h0, .inr (11, [.ref (u.1 1), .ref (u.1 2), .ref (u.1 3), .ref (u.1 4), .ref (u.1 5), .ref (u.1 6), .ref (u.1 7), .ref (u.1 8), .ref (u.1 9), .ref (u.1 10), .ref (u.1 11), .ref (u.1 12), .int 0, .int (-1)])) :: (wf_X4_init (u.1 1) (u.2 1) ++ wf_X2_init (u.1 2) (u.2 2) ++ wf_X0_init (u.1 3) (u.2 3) ++ wf_X5_init (u.1 4) (u.2 4) ++ wf_X1_init (u.1 5) (u.2 5))) ++ (wf_X8_init (u.1 6) (u.2 6) ++ (wf_X3_init (u.1 7) (u.2 7) ++ (wf_X6_init (u.1 8) (u.2 8) ++ (wf_X10_init (u.1 9) (u.2 9) ++ (wf_X10_init (u.1 10) (u.2 10) ++ (wf_X7_init (u.1 11) (u.2 11) ++ (wf_X9_init (u.1 12) (u.2 12) ++ (wf_X12_init h1 v)))))))) := by simp only [bigL, wf_X11_init, List.append_assoc, List.cons_append, List.nil_append]
  rw [e, List.getElem?_append_right (by simp only [List.length_cons, List.length_append, List.length_nil, ln_X0, ln_X1, ln_X2, ln_X3, ln_X4, ln_X5, ln_X6, ln_X7, ln_X8, ln_X9, ln_X10]; omega), List.getElem?_append_left (by simp only [List.length_cons, List.length_append, List.length_nil, ln_X0, ln_X1, ln_X2, ln_X3, ln_X4, ln_X5, ln_X6, ln_X7, ln_X8, ln_X9, ln_X10]; omega)]
  exact congrArg (fun z => (wf_X8_init (u.1 6) (u.2 6))[z]?) (by simp only [List.length_cons, List.length_append, List.length_nil, ln_X0, ln_X1, ln_X2, ln_X3, ln_X4, ln_X5, ln_X6, ln_X7, ln_X8, ln_X9, ln_X10]; omega)
theorem sg_7 (h0 h1 : Nat) (u : (Nat → Nat) × (Nat → CS)) (v : CS) {i : Nat} (hi : i < 2) : (bigL h0 h1 u v)[72 + i]? = (wf_X3_init (u.1 7) (u.2 7))[i]? := by
  have e : bigL h0 h1 u v = ((h0, .inr (11, [.ref (u.1 1), .ref (u.1 2), .ref (u.1 3), .ref (u.1 4), .ref (u.1 5), .ref (u.1 6), .ref (u.1 7), .ref (u.1 8), .ref (u.1 9), .ref (u.1 10), .ref (u.1 11), .ref (u.1 12), .int 0, .int (-1)])) :: (wf_X4_init (u.1 1) (u.2 1) ++ wf_X2_init (u.1 2) (u.2 2) ++ wf_X0_init (u.1 3) (u.2 3) ++ wf_X5_init (u.1 4) (u.2 4) ++ wf_X1_init (u.1 5) (u.2 5) ++ wf_X8_init (u.1 6) (u.2 6))) ++ (wf_X3_init (u.1 7) (u.2 7) ++ (wf_X6_init (u.1 8) (u.2 8) ++ (wf_X10_init (u.1 9) (u.2 9) ++ (wf_X10_init (u.1 10) (u.2 10) ++ (wf_X7_init (u.1 11) (u.2 11) ++ (wf_X9_init (u.1 12) (u.2 12) ++ (wf_X12_init h1 v))))))) := by simp only [bigL, wf_X11_init, List.append_assoc, List.cons_append, List.nil_append]
  rw [e, List.getElem?_append_right (by simp only [List.length_cons, List.length_append, List.length_nil, ln_X0, ln_X1, ln_X2, ln_X3, ln_X4, ln_X5, ln_X6, ln_X7, ln_X8, ln_X9, ln_X10]; omega), List.getElem?_append_left (by simp only [List.length_cons, List.length_append, List.length_nil, ln_X0, ln_X1, ln_X2, ln_X3, ln_X4, ln_X5, ln_X6, ln_X7, ln_X8, ln_X9, ln_X10]; omega)]
  exact congrArg (fun z => (wf_X3_init (u.1 7) (u.2 7))[z]?) (by simp only [List.length_cons, List.length_append, List.length_nil, ln_X0, ln_X1, ln_X2, ln_X3, ln_X4, ln_X5, ln_X6, ln_X7, ln_X8, ln_X9, ln_X10]; omega)
theorem sg_8 (h0 h1 : Nat) (u : (Nat → Nat) × (Nat → CS)) (v : CS) {i : Nat} (hi : i < 2) : (bigL h0 h1 u v)[74 + i]? = (wf_X6_init (u.1 8) (u.2 8))[i]? := by
  have e : bigL h0 h1 u v = ((h0, .inr (11, [.ref (u.1 1), .ref (u.1 2), .ref (u.1 3), .ref (u.1 4), .ref (u.1 5), .ref (u.1 6), .ref (u.1 7), .ref (u.1 8), .ref (u.1 9), .ref (u.1 10), .ref (u.1 11), .ref (u.1 12), .int 0, .int (-1)])) :: (wf_X4_init (u.1 1) (u.2 1) ++ wf_X2_init (u.1 2) (u.2 2) ++ wf_X0_init (u.1 3) (u.2 3) ++ wf_X5_init (u.1 4) (u.2 4) ++ wf_X1_init (u.1 5) (u.2 5) ++ wf_X8_init (u.1 6) (u.2 6) ++ wf_X3_init (u.1 7) (u.2 7))) ++ (wf_X6_init (u.1 8) (u.2 8) ++ (wf_X10_init (u.1 9) (u.2 9) ++ (wf_X10_init (u.1 10) (u.2 10) ++ (wf_X7_init (u.1 11) (u.2 11) ++ (wf_X9_init (u.1 12) (u.2 12) ++ (wf_X12_init h1 v)))))) := by simp only [bigL, wf_X11_init, List.append_assoc, List.cons_append, List.nil_append]
  rw [e, List.getElem?_append_right (by simp only [List.length_cons, List.length_append, List.length_nil, ln_X0, ln_X1, ln_X2, ln_X3, ln_X4, ln_X5, ln_X6, ln_X7, ln_X8, ln_X9, ln_X10]; omega), List.getElem?_append_left (by simp only [List.length_cons, List.length_append, List.length_nil, ln_X0, ln_X1, ln_X2, ln_X3, ln_X4, ln_X5, ln_X6, ln_X7, ln_X8, ln_X9, ln_X10]; omega)]
  exact congrArg (fun z => (wf_X6_init (u.1 8) (u.2 8))[z]?) (by simp only [List.length_cons, List.length_append, List.length_nil, ln_X0, ln_X1, ln_X2, ln_X3, ln_X4, ln_X5, ln_X6, ln_X7, ln_X8, ln_X9, ln_X10]; omega)
theorem sg_9 (h0 h1 : Nat) (u : (Nat → Nat) × (Nat → CS)) (v : CS) {i : Nat} (hi : i < 5) : (bigL h0 h1 u v)[76 + i]? = (wf_X10_init (u.1 9) (u.2 9))[i]? := by
  have e : bigL h0 h1 u v = ((h0, .inr (11, [.ref (u.1 1), .ref (u.1 2), .ref (u.1 3), .ref (u.1 4), .ref (u.1 5), .ref (u.1 6), .ref (u.1 7), .ref (u.1 8), .ref (u.1 9), .ref (u.1 10), .ref (u.1 11), .ref (u.1 12), .int 0, .int (-1)])) :: (wf_X4_init (u.1 1) (u.2 1) ++ wf_X2_init (u.1 2) (u.2 2) ++ wf_X0_init (u.1 3) (u.2 3) ++ wf_X5_init (u.1 4) (u.2 4) ++ wf_X1_init (u.1 5) (u.2 5) ++ wf_X8_init (u.1 6) (u.2 6) ++ wf_X3_init (u.1 7) (u.2 7) ++ wf_X6_init (u.1 8) (u.2 8))) ++ (wf_X10_init (u.1 9) (u.2 9) ++ (wf_X10_init (u.1 10) (u.2 10) ++ (wf_X7_init (u.1 11) (u.2 11) ++ (wf_X9_init (u.1 12) (u.2 12) ++ (wf_X12_init h1 v))))) := by simp only [bigL, wf_X11_init, List.append_assoc, List.cons_append, List.nil_append]
  rw [e, List.getElem?_append_right (by simp only [List.length_cons, List.length_append, List.length_nil, ln_X0, ln_X1, ln_X2, ln_X3, ln_X4, ln_X5, ln_X6, ln_X7, ln_X8, ln_X9, ln_X10]; omega), List.getElem?_append_left (by simp only [List.length_cons, List.length_append, List.length_nil, ln_X0, ln_X1, ln_X2, ln_X3, ln_X4, ln_X5, ln_X6, ln_X7, ln_X8, ln_X9, ln_X10]; omega)]
  exact congrArg (fun z => (wf_X10_init (u.1 9) (u.2 9))[z]?) (by simp only [List.length_cons, List.length_append, List.length_nil, ln_X0, ln_X1, ln_X2, ln_X3, ln_X4, ln_X5, ln_X6, ln_X7, ln_X8, ln_X9, ln_X10]; omega)
theorem sg_10 (h0 h1 : Nat) (u : (Nat → Nat) × (Nat → CS)) (v : CS) {i : Nat} (hi : i < 5) : (bigL h0 h1 u v)[81 + i]? = (wf_X10_init (u.1 10) (u.2 10))[i]? := by
  have e : bigL h0 h1 u v = ((h0, .inr (11, [.ref (u.1 1), .ref (u.1 2), .ref (u.1 3), .ref (u.1 4), .ref (u.1 5), .ref (u.1 6), .ref (u.1 7), .ref (u.1 8), .ref (u.1 9), .ref (u.1 10), .ref (u.1 11), .ref (u.1 12), .int 0, .int (-1)])) :: (wf_X4_init (u.1 1) (u.2 1) ++ wf_X2_init (u.1 2) (u.2 2) ++ wf_X0_init (u.1 3) (u.2 3) ++ wf_X5_init (u.1 4) (u.2 4) ++ wf_X1_init (u.1 5) (u.2 5) ++ wf_X8_init (u.1 6) (u.2 6) ++ wf_X3_init (u.1 7) (u.2 7) ++ wf_X6_init (u.1 8) (u.2 8) ++ wf_X10_init (u.1 9) (u.2 9))) ++ (wf_X10_init (u.1 10) (u.2 10) ++ (wf_X7_init (u.1 11) (u.2 11) ++ (wf_X9_init (u.1 12) (u.2 12) ++ (wf_X12_init h1 v)))) := by simp only [bigL, wf_X11_init, List.append_assoc, List.cons_append, List.nil_append]
  rw [e, List.getElem?_append_right (by simp only [List.length_cons, List.length_append, List.length_nil, ln_X0, ln_X1, ln_X2, ln_X3, ln_X4, ln_X5, ln_X6, ln_X7, ln_X8, ln_X9, ln_X10]; omega), List.getElem?_append_left (by simp only [List.length_cons, List.length_append, List.length_nil, ln_X0, ln_X1, ln_X2, ln_X3, ln_X4, ln_X5, ln_X6, ln_X7, ln_X8, ln_X9, ln_X10]; omega)]
  exact congrArg (fun z => (wf_X10_init (u.1 10) (u.2 10))[z]?) (by simp only [List.length_cons, List.length_append, List.length_nil, ln_X0, ln_X1, ln_X2, ln_X3, ln_X4, ln_X5, ln_X6, ln_X7, ln_X8, ln_X9, ln_X10]; omega)
theorem sg_11 (h0 h1 : Nat) (u : (Nat → Nat) × (Nat → CS)) (v : CS) {i : Nat} (hi : i < 2) : (bigL h0 h1 u v)[86 + i]? = (wf_X7_init (u.1 11) (u.2 11))[i]? := by
  have e : bigL h0 h1 u v = ((h0, .inr (11, [.ref (u.1 1), .ref (u.1 2), .ref (u.1 3), .ref (u.1 4), .ref (u.1 5), .ref (u.1 6), .ref (u.1 7), .ref (u.1 8), .ref (u.1 9), .ref (u.1 10), .ref (u.1 11), .ref (u.1 12), .int 0, .int (-1)])) :: (wf_X4_init (u.1 1) (u.2 1) ++ wf_X2_init (u.1 2) (u.2 2) ++ wf_X0_init (u.1 3) (u.2 3) ++ wf_X5_init (u.1 4) (u.2 4) ++ wf_X1_init (u.1 5) (u.2 5) ++ wf_X8_init (u.1 6) (u.2 6) ++ wf_X3_init (u.1 7) (u.2 7) ++ wf_X6_init (u.1 8) (u.2 8) ++ wf_X10_init (u.1 9) (u.2 9) ++ wf_X10_init (u.1 10) (u.2 10))) ++ (wf_X7_init (u.1 11) (u.2 11) ++ (wf_X9_init (u.1 12) (u.2 12) ++ (wf_X12_init h1 v))) := by simp only [bigL, wf_X11_init, List.append_assoc, List.cons_append, List.nil_append]
  rw [e, List.getElem?_append_right (by simp only [List.length_cons, List.length_append, List.length_nil, ln_X0, ln_X1, ln_X2, ln_X3, ln_X4, ln_X5, ln_X6, ln_X7, ln_X8, ln_X9, ln_X10]; omega), List.getElem?_append_left (by simp only [List.length_cons, List.length_append, List.length_nil, ln_X0, ln_X1, ln_X2, ln_X3, ln_X4, ln_X5, ln_X6, ln_X7, ln_X8, ln_X9, ln_X10]; omega)]
  exact congrArg (fun z => (wf_X7_init (u.1 11) (u.2 11))[z]?) (by simp only [List.length_cons, List.length_append, List.length_nil, ln_X0, ln_X1, ln_X2, ln_X3, ln_X4, ln_X5, ln_X6, ln_X7, ln_X8, ln_X9, ln_X10]; omega)
theorem sg_12 (h0 h1 : Nat) (u : (Nat → Nat) × (Nat → CS)) (v : CS) {i : Nat} (hi : i < 7) : (bigL h0 h1 u v)[88 + i]? = (wf_X9_init (u.1 12) (u.2 12))[i]? := by
  have e : bigL h0 h1 u v = ((h0, .inr (11, [.ref (u.1 1), .ref (u.1 2), .ref (u.1 3), .ref (u.1 4), .ref (u.1 5), .ref (u.1 6), .ref (u.1 7), .ref (u.1 8), .ref (u.1 9), .ref (u.1 10), .ref (u.1 11), .ref (u.1 12), .int 0, .int (-1)])) :: (wf_X4_init (u.1 1) (u.2 1) ++ wf_X2_init (u.1 2) (u.2 2) ++ wf_X0_init (u.1 3) (u.2 3) ++ wf_X5_init (u.1 4) (u.2 4) ++ wf_X1_init (u.1 5) (u.2 5) ++ wf_X8_init (u.1 6) (u.2 6) ++ wf_X3_init (u.1 7) (u.2 7) ++ wf_X6_init (u.1 8) (u.2 8) ++ wf_X10_init (u.1 9) (u.2 9) ++ wf_X10_init (u.1 10) (u.2 10) ++ wf_X7_init (u.1 11) (u.2 11))) ++ (wf_X9_init (u.1 12) (u.2 12) ++ (wf_X12_init h1 v)) := by simp only [bigL, wf_X11_init, List.append_assoc, List.cons_append, List.nil_append]
  rw [e, List.getElem?_append_right (by simp only [List.length_cons, List.length_append, List.length_nil, ln_X0, ln_X1, ln_X2, ln_X3, ln_X4, ln_X5, ln_X6, ln_X7, ln_X8, ln_X9, ln_X10]; omega), List.getElem?_append_left (by simp only [List.length_cons, List.length_append, List.length_nil, ln_X0, ln_X1, ln_X2, ln_X3, ln_X4, ln_X5, ln_X6, ln_X7, ln_X8, ln_X9, ln_X10]; omega)]
  exact congrArg (fun z => (wf_X9_init (u.1 12) (u.2 12))[z]?) (by simp only [List.length_cons, List.length_append, List.length_nil, ln_X0, ln_X1, ln_X2, ln_X3, ln_X4, ln_X5, ln_X6, ln_X7, ln_X8, ln_X9, ln_X10]; omega)
theorem sg_13 (h0 h1 : Nat) (u : (Nat → Nat) × (Nat → CS)) (v : CS) (i : Nat) : (bigL h0 h1 u v)[95 + i]? = (wf_X12_init h1 v)[i]? := by
  have e : (wf_X11_init h0 u).length = 95 := by simp only [wf_X11_init, List.length_cons, List.length_append, ln_X0, ln_X1, ln_X2, ln_X3, ln_X4, ln_X5, ln_X6, ln_X7, ln_X8, ln_X9, ln_X10]
  rw [bigL, List.getElem?_append_right (by omega), e]
  exact congrArg (fun z => (wf_X12_init h1 v)[z]?) (by omega)
def atL (D : va_G) (h0 h1 : Nat) (u : (Nat → Nat) × (Nat → CS)) (v : CS) (k : Nat) : Prop := (bigL h0 h1 u v)[piL k]? = some (adL h0 h1 u v k, cellOf (lyL D h0 h1 u v) (stL u v) k)
theorem row_14 (h0 h1 : Nat) (u : (Nat → Nat) × (Nat → CS)) (v : CS) : (fun j => if j < 12 then some ((u.2 2).2.2.1 j) else none) = (fun j => if j < xon 14 then some (adL h0 h1 u v (xof 14 + j)) else none) := by
  funext j
  show (if j < 12 then some ((u.2 2).2.2.1 j) else none) = (if j < 12 then some (adL h0 h1 u v (56 + j)) else none)
  by_cases hj : j < 12
  · rw [if_pos hj, if_pos hj]
    unfold adL
    rw [if_neg (show ¬ 56 + j < 19 by omega), if_neg (show ¬ 56 + j < 56 by omega), if_pos (show 56 + j < 68 by omega), Nat.add_sub_cancel_left]
  · rw [if_neg hj, if_neg hj]
theorem out_14 (D : va_G) (h0 h1 : Nat) (u : (Nat → Nat) × (Nat → CS)) (v : CS) : atL D h0 h1 u v 14 := by
  refine (sg_2 h0 h1 u v (i := 10) (by decide)).trans ?_
  show some (((u.2 2).1 9 : Nat), (Sum.inl ((u.2 2).2.1 10, 12, .inr (.inr (.inr (.inr (fun j => if j < 12 then some ((u.2 2).2.2.1 j) else none))))) : va_E)) = _
  rw [row_14 h0 h1 u v]
  rfl
theorem row_15 (h0 h1 : Nat) (u : (Nat → Nat) × (Nat → CS)) (v : CS) : (fun j => if j < 12 then some ((u.2 3).2.2.1 j) else none) = (fun j => if j < xon 15 then some (adL h0 h1 u v (xof 15 + j)) else none) := by
  funext j
  show (if j < 12 then some ((u.2 3).2.2.1 j) else none) = (if j < 12 then some (adL h0 h1 u v (68 + j)) else none)
  by_cases hj : j < 12
  · rw [if_pos hj, if_pos hj]
    unfold adL
    rw [if_neg (show ¬ 68 + j < 19 by omega), if_neg (show ¬ 68 + j < 56 by omega), if_neg (show ¬ 68 + j < 68 by omega), if_pos (show 68 + j < 80 by omega), Nat.add_sub_cancel_left]
  · rw [if_neg hj, if_neg hj]
theorem out_15 (D : va_G) (h0 h1 : Nat) (u : (Nat → Nat) × (Nat → CS)) (v : CS) : atL D h0 h1 u v 15 := by
  refine (sg_3 h0 h1 u v (i := 8) (by decide)).trans ?_
  show some (((u.2 3).1 7 : Nat), (Sum.inl ((u.2 3).2.1 8, 12, .inr (.inr (.inr (.inr (fun j => if j < 12 then some ((u.2 3).2.2.1 j) else none))))) : va_E)) = _
  rw [row_15 h0 h1 u v]
  rfl
theorem row_16 (h0 h1 : Nat) (u : (Nat → Nat) × (Nat → CS)) (v : CS) : (fun j => if j < 6 then some ((u.2 4).2.2.1 j) else none) = (fun j => if j < xon 16 then some (adL h0 h1 u v (xof 16 + j)) else none) := by
  funext j
  show (if j < 6 then some ((u.2 4).2.2.1 j) else none) = (if j < 6 then some (adL h0 h1 u v (80 + j)) else none)
  by_cases hj : j < 6
  · rw [if_pos hj, if_pos hj]
    unfold adL
    rw [if_neg (show ¬ 80 + j < 19 by omega), if_neg (show ¬ 80 + j < 56 by omega), if_neg (show ¬ 80 + j < 68 by omega), if_neg (show ¬ 80 + j < 80 by omega), if_pos (show 80 + j < 86 by omega), Nat.add_sub_cancel_left]
  · rw [if_neg hj, if_neg hj]
theorem out_16 (D : va_G) (h0 h1 : Nat) (u : (Nat → Nat) × (Nat → CS)) (v : CS) : atL D h0 h1 u v 16 := by
  refine (sg_4 h0 h1 u v (i := 1) (by decide)).trans ?_
  show some (((u.2 4).1 0 : Nat), (Sum.inl ((u.2 4).2.1 1, 6, .inr (.inr (.inr (.inr (fun j => if j < 6 then some ((u.2 4).2.2.1 j) else none))))) : va_E)) = _
  rw [row_16 h0 h1 u v]
  rfl
theorem row_17 (h0 h1 : Nat) (u : (Nat → Nat) × (Nat → CS)) (v : CS) : (fun j => if j < 6 then some ((u.2 4).2.2.2.1 j) else none) = (fun j => if j < xon 17 then some (adL h0 h1 u v (xof 17 + j)) else none) := by
  funext j
  show (if j < 6 then some ((u.2 4).2.2.2.1 j) else none) = (if j < 6 then some (adL h0 h1 u v (86 + j)) else none)
  by_cases hj : j < 6
  · rw [if_pos hj, if_pos hj]
    unfold adL
    rw [if_neg (show ¬ 86 + j < 19 by omega), if_neg (show ¬ 86 + j < 56 by omega), if_neg (show ¬ 86 + j < 68 by omega), if_neg (show ¬ 86 + j < 80 by omega), if_neg (show ¬ 86 + j < 86 by omega), if_pos (show 86 + j < 92 by omega), Nat.add_sub_cancel_left]
  · rw [if_neg hj, if_neg hj]
theorem out_17 (D : va_G) (h0 h1 : Nat) (u : (Nat → Nat) × (Nat → CS)) (v : CS) : atL D h0 h1 u v 17 := by
  refine (sg_4 h0 h1 u v (i := 8) (by decide)).trans ?_
  show some (((u.2 4).1 1 : Nat), (Sum.inl ((u.2 4).2.1 3, 6, .inr (.inr (.inr (.inr (fun j => if j < 6 then some ((u.2 4).2.2.2.1 j) else none))))) : va_E)) = _
  rw [row_17 h0 h1 u v]
  rfl
theorem row_18 (h0 h1 : Nat) (u : (Nat → Nat) × (Nat → CS)) (v : CS) : (fun j => if j < 4 then some ((u.2 12).2.2.1 j) else none) = (fun j => if j < xon 18 then some (adL h0 h1 u v (xof 18 + j)) else none) := by
  funext j
  show (if j < 4 then some ((u.2 12).2.2.1 j) else none) = (if j < 4 then some (adL h0 h1 u v (92 + j)) else none)
  by_cases hj : j < 4
  · rw [if_pos hj, if_pos hj]
    unfold adL
    rw [if_neg (show ¬ 92 + j < 19 by omega), if_neg (show ¬ 92 + j < 56 by omega), if_neg (show ¬ 92 + j < 68 by omega), if_neg (show ¬ 92 + j < 80 by omega), if_neg (show ¬ 92 + j < 86 by omega), if_neg (show ¬ 92 + j < 92 by omega), if_pos (show 92 + j < 96 by omega), Nat.add_sub_cancel_left]
  · rw [if_neg hj, if_neg hj]
theorem out_18 (D : va_G) (h0 h1 : Nat) (u : (Nat → Nat) × (Nat → CS)) (v : CS) : atL D h0 h1 u v 18 := by
  refine (sg_12 h0 h1 u v (i := 1) (by decide)).trans ?_
  show some (((u.2 12).1 0 : Nat), (Sum.inl ((u.2 12).2.1 1, 4, .inr (.inr (.inr (.inr (fun j => if j < 4 then some ((u.2 12).2.2.1 j) else none))))) : va_E)) = _
  rw [row_18 h0 h1 u v]
  rfl
set_option maxHeartbeats 8000000 in
set_option maxRecDepth 100000 in
theorem cells_0 (D : va_G) (h0 h1 : Nat) (u : (Nat → Nat) × (Nat → CS)) (v : CS) : ∀ a : Nat, a < 17 → atL D h0 h1 u v a := lt_s (lt_s (lt_s (lt_s (lt_s (lt_s (lt_s (lt_s (lt_s (lt_s (lt_s (lt_s (lt_s (lt_s (lt_s (lt_s (lt_s (lt_0) (show atL D h0 h1 u v 0 from sg_0 h0 h1 u v)) (show atL D h0 h1 u v 1 from (sg_1 h0 h1 u v (i := 0) (by decide)).trans rfl)) (show atL D h0 h1 u v 2 from (sg_2 h0 h1 u v (i := 0) (by decide)).trans rfl)) (show atL D h0 h1 u v 3 from (sg_3 h0 h1 u v (i := 0) (by decide)).trans rfl)) (show atL D h0 h1 u v 4 from (sg_4 h0 h1 u v (i := 0) (by decide)).trans rfl)) (show atL D h0 h1 u v 5 from (sg_5 h0 h1 u v (i := 0) (by decide)).trans rfl)) (show atL D h0 h1 u v 6 from (sg_6 h0 h1 u v (i := 0) (by decide)).trans rfl)) (show atL D h0 h1 u v 7 from (sg_7 h0 h1 u v (i := 0) (by decide)).trans rfl)) (show atL D h0 h1 u v 8 from (sg_8 h0 h1 u v (i := 0) (by decide)).trans rfl)) (show atL D h0 h1 u v 9 from (sg_9 h0 h1 u v (i := 0) (by decide)).trans rfl)) (show atL D h0 h1 u v 10 from (sg_10 h0 h1 u v (i := 0) (by decide)).trans rfl)) (show atL D h0 h1 u v 11 from (sg_11 h0 h1 u v (i := 0) (by decide)).trans rfl)) (show atL D h0 h1 u v 12 from (sg_12 h0 h1 u v (i := 0) (by decide)).trans rfl)) (show atL D h0 h1 u v 13 from (sg_13 h0 h1 u v 0).trans rfl)) (out_14 D h0 h1 u v)) (out_15 D h0 h1 u v)) (out_16 D h0 h1 u v)
set_option maxHeartbeats 8000000 in
set_option maxRecDepth 100000 in
theorem cells_17 (D : va_G) (h0 h1 : Nat) (u : (Nat → Nat) × (Nat → CS)) (v : CS) : ∀ a : Nat, a < 34 → atL D h0 h1 u v a := lt_s (lt_s (lt_s (lt_s (lt_s (lt_s (lt_s (lt_s (lt_s (lt_s (lt_s (lt_s (lt_s (lt_s (lt_s (lt_s (lt_s ((cells_0 D h0 h1 u v)) (out_17 D h0 h1 u v)) (out_18 D h0 h1 u v)) (show atL D h0 h1 u v 19 from (sg_1 h0 h1 u v (i := 1) (by decide)).trans rfl)) (show atL D h0 h1 u v 20 from (sg_1 h0 h1 u v (i := 2) (by decide)).trans rfl)) (show atL D h0 h1 u v 21 from (sg_1 h0 h1 u v (i := 3) (by decide)).trans rfl)) (show atL D h0 h1 u v 22 from (sg_1 h0 h1 u v (i := 4) (by decide)).trans rfl)) (show atL D h0 h1 u v 23 from (sg_1 h0 h1 u v (i := 5) (by decide)).trans rfl)) (show atL D h0 h1 u v 24 from (sg_2 h0 h1 u v (i := 1) (by decide)).trans rfl)) (show atL D h0 h1 u v 25 from (sg_2 h0 h1 u v (i := 2) (by decide)).trans rfl)) (show atL D h0 h1 u v 26 from (sg_2 h0 h1 u v (i := 3) (by decide)).trans rfl)) (show atL D h0 h1 u v 27 from (sg_2 h0 h1 u v (i := 4) (by decide)).trans rfl)) (show atL D h0 h1 u v 28 from (sg_2 h0 h1 u v (i := 5) (by decide)).trans rfl)) (show atL D h0 h1 u v 29 from (sg_2 h0 h1 u v (i := 6) (by decide)).trans rfl)) (show atL D h0 h1 u v 30 from (sg_2 h0 h1 u v (i := 7) (by decide)).trans rfl)) (show atL D h0 h1 u v 31 from (sg_2 h0 h1 u v (i := 8) (by decide)).trans rfl)) (show atL D h0 h1 u v 32 from (sg_2 h0 h1 u v (i := 9) (by decide)).trans rfl)) (show atL D h0 h1 u v 33 from (sg_3 h0 h1 u v (i := 1) (by decide)).trans rfl)
set_option maxHeartbeats 8000000 in
set_option maxRecDepth 100000 in
theorem cells_34 (D : va_G) (h0 h1 : Nat) (u : (Nat → Nat) × (Nat → CS)) (v : CS) : ∀ a : Nat, a < 51 → atL D h0 h1 u v a := lt_s (lt_s (lt_s (lt_s (lt_s (lt_s (lt_s (lt_s (lt_s (lt_s (lt_s (lt_s (lt_s (lt_s (lt_s (lt_s (lt_s ((cells_17 D h0 h1 u v)) (show atL D h0 h1 u v 34 from (sg_3 h0 h1 u v (i := 2) (by decide)).trans rfl)) (show atL D h0 h1 u v 35 from (sg_3 h0 h1 u v (i := 3) (by decide)).trans rfl)) (show atL D h0 h1 u v 36 from (sg_3 h0 h1 u v (i := 4) (by decide)).trans rfl)) (show atL D h0 h1 u v 37 from (sg_3 h0 h1 u v (i := 5) (by decide)).trans rfl)) (show atL D h0 h1 u v 38 from (sg_3 h0 h1 u v (i := 6) (by decide)).trans rfl)) (show atL D h0 h1 u v 39 from (sg_3 h0 h1 u v (i := 7) (by decide)).trans rfl)) (show atL D h0 h1 u v 40 from (sg_5 h0 h1 u v (i := 1) (by decide)).trans rfl)) (show atL D h0 h1 u v 41 from (sg_5 h0 h1 u v (i := 2) (by decide)).trans rfl)) (show atL D h0 h1 u v 42 from (sg_5 h0 h1 u v (i := 3) (by decide)).trans rfl)) (show atL D h0 h1 u v 43 from (sg_6 h0 h1 u v (i := 1) (by decide)).trans rfl)) (show atL D h0 h1 u v 44 from (sg_7 h0 h1 u v (i := 1) (by decide)).trans rfl)) (show atL D h0 h1 u v 45 from (sg_8 h0 h1 u v (i := 1) (by decide)).trans rfl)) (show atL D h0 h1 u v 46 from (sg_9 h0 h1 u v (i := 1) (by decide)).trans rfl)) (show atL D h0 h1 u v 47 from (sg_9 h0 h1 u v (i := 2) (by decide)).trans rfl)) (show atL D h0 h1 u v 48 from (sg_9 h0 h1 u v (i := 3) (by decide)).trans rfl)) (show atL D h0 h1 u v 49 from (sg_9 h0 h1 u v (i := 4) (by decide)).trans rfl)) (show atL D h0 h1 u v 50 from (sg_10 h0 h1 u v (i := 1) (by decide)).trans rfl)
set_option maxHeartbeats 8000000 in
set_option maxRecDepth 100000 in
theorem cells_51 (D : va_G) (h0 h1 : Nat) (u : (Nat → Nat) × (Nat → CS)) (v : CS) : ∀ a : Nat, a < 68 → atL D h0 h1 u v a := lt_s (lt_s (lt_s (lt_s (lt_s (lt_s (lt_s (lt_s (lt_s (lt_s (lt_s (lt_s (lt_s (lt_s (lt_s (lt_s (lt_s ((cells_34 D h0 h1 u v)) (show atL D h0 h1 u v 51 from (sg_10 h0 h1 u v (i := 2) (by decide)).trans rfl)) (show atL D h0 h1 u v 52 from (sg_10 h0 h1 u v (i := 3) (by decide)).trans rfl)) (show atL D h0 h1 u v 53 from (sg_10 h0 h1 u v (i := 4) (by decide)).trans rfl)) (show atL D h0 h1 u v 54 from (sg_11 h0 h1 u v (i := 1) (by decide)).trans rfl)) (show atL D h0 h1 u v 55 from (sg_12 h0 h1 u v (i := 6) (by decide)).trans rfl)) (show atL D h0 h1 u v 56 from (sg_2 h0 h1 u v (i := 11) (by decide)).trans rfl)) (show atL D h0 h1 u v 57 from (sg_2 h0 h1 u v (i := 12) (by decide)).trans rfl)) (show atL D h0 h1 u v 58 from (sg_2 h0 h1 u v (i := 13) (by decide)).trans rfl)) (show atL D h0 h1 u v 59 from (sg_2 h0 h1 u v (i := 14) (by decide)).trans rfl)) (show atL D h0 h1 u v 60 from (sg_2 h0 h1 u v (i := 15) (by decide)).trans rfl)) (show atL D h0 h1 u v 61 from (sg_2 h0 h1 u v (i := 16) (by decide)).trans rfl)) (show atL D h0 h1 u v 62 from (sg_2 h0 h1 u v (i := 17) (by decide)).trans rfl)) (show atL D h0 h1 u v 63 from (sg_2 h0 h1 u v (i := 18) (by decide)).trans rfl)) (show atL D h0 h1 u v 64 from (sg_2 h0 h1 u v (i := 19) (by decide)).trans rfl)) (show atL D h0 h1 u v 65 from (sg_2 h0 h1 u v (i := 20) (by decide)).trans rfl)) (show atL D h0 h1 u v 66 from (sg_2 h0 h1 u v (i := 21) (by decide)).trans rfl)) (show atL D h0 h1 u v 67 from (sg_2 h0 h1 u v (i := 22) (by decide)).trans rfl)
set_option maxHeartbeats 8000000 in
set_option maxRecDepth 100000 in
theorem cells_68 (D : va_G) (h0 h1 : Nat) (u : (Nat → Nat) × (Nat → CS)) (v : CS) : ∀ a : Nat, a < 85 → atL D h0 h1 u v a := lt_s (lt_s (lt_s (lt_s (lt_s (lt_s (lt_s (lt_s (lt_s (lt_s (lt_s (lt_s (lt_s (lt_s (lt_s (lt_s (lt_s ((cells_51 D h0 h1 u v)) (show atL D h0 h1 u v 68 from (sg_3 h0 h1 u v (i := 9) (by decide)).trans rfl)) (show atL D h0 h1 u v 69 from (sg_3 h0 h1 u v (i := 10) (by decide)).trans rfl)) (show atL D h0 h1 u v 70 from (sg_3 h0 h1 u v (i := 11) (by decide)).trans rfl)) (show atL D h0 h1 u v 71 from (sg_3 h0 h1 u v (i := 12) (by decide)).trans rfl)) (show atL D h0 h1 u v 72 from (sg_3 h0 h1 u v (i := 13) (by decide)).trans rfl)) (show atL D h0 h1 u v 73 from (sg_3 h0 h1 u v (i := 14) (by decide)).trans rfl)) (show atL D h0 h1 u v 74 from (sg_3 h0 h1 u v (i := 15) (by decide)).trans rfl)) (show atL D h0 h1 u v 75 from (sg_3 h0 h1 u v (i := 16) (by decide)).trans rfl)) (show atL D h0 h1 u v 76 from (sg_3 h0 h1 u v (i := 17) (by decide)).trans rfl)) (show atL D h0 h1 u v 77 from (sg_3 h0 h1 u v (i := 18) (by decide)).trans rfl)) (show atL D h0 h1 u v 78 from (sg_3 h0 h1 u v (i := 19) (by decide)).trans rfl)) (show atL D h0 h1 u v 79 from (sg_3 h0 h1 u v (i := 20) (by decide)).trans rfl)) (show atL D h0 h1 u v 80 from (sg_4 h0 h1 u v (i := 2) (by decide)).trans rfl)) (show atL D h0 h1 u v 81 from (sg_4 h0 h1 u v (i := 3) (by decide)).trans rfl)) (show atL D h0 h1 u v 82 from (sg_4 h0 h1 u v (i := 4) (by decide)).trans rfl)) (show atL D h0 h1 u v 83 from (sg_4 h0 h1 u v (i := 5) (by decide)).trans rfl)) (show atL D h0 h1 u v 84 from (sg_4 h0 h1 u v (i := 6) (by decide)).trans rfl)
set_option maxHeartbeats 8000000 in
set_option maxRecDepth 100000 in
theorem cells_85 (D : va_G) (h0 h1 : Nat) (u : (Nat → Nat) × (Nat → CS)) (v : CS) : ∀ a : Nat, a < 102 → atL D h0 h1 u v a := lt_s (lt_s (lt_s (lt_s (lt_s (lt_s (lt_s (lt_s (lt_s (lt_s (lt_s (lt_s (lt_s (lt_s (lt_s (lt_s (lt_s ((cells_68 D h0 h1 u v)) (show atL D h0 h1 u v 85 from (sg_4 h0 h1 u v (i := 7) (by decide)).trans rfl)) (show atL D h0 h1 u v 86 from (sg_4 h0 h1 u v (i := 9) (by decide)).trans rfl)) (show atL D h0 h1 u v 87 from (sg_4 h0 h1 u v (i := 10) (by decide)).trans rfl)) (show atL D h0 h1 u v 88 from (sg_4 h0 h1 u v (i := 11) (by decide)).trans rfl)) (show atL D h0 h1 u v 89 from (sg_4 h0 h1 u v (i := 12) (by decide)).trans rfl)) (show atL D h0 h1 u v 90 from (sg_4 h0 h1 u v (i := 13) (by decide)).trans rfl)) (show atL D h0 h1 u v 91 from (sg_4 h0 h1 u v (i := 14) (by decide)).trans rfl)) (show atL D h0 h1 u v 92 from (sg_12 h0 h1 u v (i := 2) (by decide)).trans rfl)) (show atL D h0 h1 u v 93 from (sg_12 h0 h1 u v (i := 3) (by decide)).trans rfl)) (show atL D h0 h1 u v 94 from (sg_12 h0 h1 u v (i := 4) (by decide)).trans rfl)) (show atL D h0 h1 u v 95 from (sg_12 h0 h1 u v (i := 5) (by decide)).trans rfl)) (show atL D h0 h1 u v 96 from (sg_13 h0 h1 u v 1).trans rfl)) (show atL D h0 h1 u v 97 from (sg_13 h0 h1 u v 2).trans rfl)) (show atL D h0 h1 u v 98 from (sg_13 h0 h1 u v 3).trans rfl)) (show atL D h0 h1 u v 99 from (sg_13 h0 h1 u v 4).trans rfl)) (show atL D h0 h1 u v 100 from (sg_13 h0 h1 u v 5).trans rfl)) (show atL D h0 h1 u v 101 from (sg_13 h0 h1 u v 6).trans rfl)
set_option maxHeartbeats 8000000 in
set_option maxRecDepth 100000 in
theorem cells_102 (D : va_G) (h0 h1 : Nat) (u : (Nat → Nat) × (Nat → CS)) (v : CS) : ∀ a : Nat, a < 119 → atL D h0 h1 u v a := lt_s (lt_s (lt_s (lt_s (lt_s (lt_s (lt_s (lt_s (lt_s (lt_s (lt_s (lt_s (lt_s (lt_s (lt_s (lt_s (lt_s ((cells_85 D h0 h1 u v)) (show atL D h0 h1 u v 102 from (sg_13 h0 h1 u v 7).trans rfl)) (show atL D h0 h1 u v 103 from (sg_13 h0 h1 u v 8).trans rfl)) (show atL D h0 h1 u v 104 from (sg_13 h0 h1 u v 9).trans rfl)) (show atL D h0 h1 u v 105 from (sg_13 h0 h1 u v 10).trans rfl)) (show atL D h0 h1 u v 106 from (sg_13 h0 h1 u v 11).trans rfl)) (show atL D h0 h1 u v 107 from (sg_13 h0 h1 u v 12).trans rfl)) (show atL D h0 h1 u v 108 from (sg_13 h0 h1 u v 13).trans rfl)) (show atL D h0 h1 u v 109 from (sg_13 h0 h1 u v 14).trans rfl)) (show atL D h0 h1 u v 110 from (sg_13 h0 h1 u v 15).trans rfl)) (show atL D h0 h1 u v 111 from (sg_13 h0 h1 u v 16).trans rfl)) (show atL D h0 h1 u v 112 from (sg_13 h0 h1 u v 17).trans rfl)) (show atL D h0 h1 u v 113 from (sg_13 h0 h1 u v 18).trans rfl)) (show atL D h0 h1 u v 114 from (sg_13 h0 h1 u v 19).trans rfl)) (show atL D h0 h1 u v 115 from (sg_13 h0 h1 u v 20).trans rfl)) (show atL D h0 h1 u v 116 from (sg_13 h0 h1 u v 21).trans rfl)) (show atL D h0 h1 u v 117 from (sg_13 h0 h1 u v 22).trans rfl)) (show atL D h0 h1 u v 118 from (sg_13 h0 h1 u v 23).trans rfl)
set_option maxHeartbeats 8000000 in
set_option maxRecDepth 100000 in
theorem cells_119 (D : va_G) (h0 h1 : Nat) (u : (Nat → Nat) × (Nat → CS)) (v : CS) : ∀ a : Nat, a < 136 → atL D h0 h1 u v a := lt_s (lt_s (lt_s (lt_s (lt_s (lt_s (lt_s (lt_s (lt_s (lt_s (lt_s (lt_s (lt_s (lt_s (lt_s (lt_s (lt_s ((cells_102 D h0 h1 u v)) (show atL D h0 h1 u v 119 from (sg_13 h0 h1 u v 24).trans rfl)) (show atL D h0 h1 u v 120 from (sg_13 h0 h1 u v 25).trans rfl)) (show atL D h0 h1 u v 121 from (sg_13 h0 h1 u v 26).trans rfl)) (show atL D h0 h1 u v 122 from (sg_13 h0 h1 u v 27).trans rfl)) (show atL D h0 h1 u v 123 from (sg_13 h0 h1 u v 28).trans rfl)) (show atL D h0 h1 u v 124 from (sg_13 h0 h1 u v 29).trans rfl)) (show atL D h0 h1 u v 125 from (sg_13 h0 h1 u v 30).trans rfl)) (show atL D h0 h1 u v 126 from (sg_13 h0 h1 u v 31).trans rfl)) (show atL D h0 h1 u v 127 from (sg_13 h0 h1 u v 32).trans rfl)) (show atL D h0 h1 u v 128 from (sg_13 h0 h1 u v 33).trans rfl)) (show atL D h0 h1 u v 129 from (sg_13 h0 h1 u v 34).trans rfl)) (show atL D h0 h1 u v 130 from (sg_13 h0 h1 u v 35).trans rfl)) (show atL D h0 h1 u v 131 from (sg_13 h0 h1 u v 36).trans rfl)) (show atL D h0 h1 u v 132 from (sg_13 h0 h1 u v 37).trans rfl)) (show atL D h0 h1 u v 133 from (sg_13 h0 h1 u v 38).trans rfl)) (show atL D h0 h1 u v 134 from (sg_13 h0 h1 u v 39).trans rfl)) (show atL D h0 h1 u v 135 from (sg_13 h0 h1 u v 40).trans rfl)
theorem tn_X0 (t : CS) : (tf_X0_init t).length = 9 := rfl
theorem tn_X1 (t : CS) : (tf_X1_init t).length = 3 := rfl
theorem tn_X2 (t : CS) : (tf_X2_init t).length = 11 := rfl
theorem tn_X3 (t : CS) : (tf_X3_init t).length = 1 := rfl
theorem tn_X4 (t : CS) : (tf_X4_init t).length = 5 := rfl
theorem tn_X5 (t : CS) : (tf_X5_init t).length = 4 := rfl
theorem tn_X6 (t : CS) : (tf_X6_init t).length = 1 := rfl
theorem tn_X7 (t : CS) : (tf_X7_init t).length = 1 := rfl
theorem tn_X8 (t : CS) : (tf_X8_init t).length = 1 := rfl
theorem tn_X9 (t : CS) : (tf_X9_init t).length = 3 := rfl
theorem tn_X10 (t : CS) : (tf_X10_init t).length = 4 := rfl
def bigT (u : (Nat → Nat) × (Nat → CS)) (v : CS) : List (ClassId × FieldType) := tf_X11_init u ++ tf_X12_init v
theorem tg_1 (u : (Nat → Nat) × (Nat → CS)) (v : CS) {i : Nat} (hi : i < 5) : (bigT u v)[0 + i]? = (tf_X4_init (u.2 1))[i]? := by
  have e : bigT u v = ([] : List (ClassId × FieldType)) ++ (tf_X4_init (u.2 1) ++ (tf_X2_init (u.2 2) ++ (tf_X0_init (u.2 3) ++ (tf_X5_init (u.2 4) ++ (tf_X1_init (u.2 5) ++ (tf_X8_init (u.2 6) ++ (tf_X3_init (u.2 7) ++ (tf_X6_init (u.2 8) ++ (tf_X10_init (u.2 9) ++ (tf_X10_init (u.2 10) ++ (tf_X7_init (u.2 11) ++ (tf_X9_init (u.2 12) ++ (tf_X12_init v))))))))))))) := by simp only [bigT, tf_X11_init, List.append_assoc, List.nil_append]
  rw [e, List.getElem?_append_right (by simp only [List.length_append, List.length_nil, tn_X0, tn_X1, tn_X2, tn_X3, tn_X4, tn_X5, tn_X6, tn_X7, tn_X8, tn_X9, tn_X10]; omega), List.getElem?_append_left (by simp only [List.length_append, List.length_nil, tn_X0, tn_X1, tn_X2, tn_X3, tn_X4, tn_X5, tn_X6, tn_X7, tn_X8, tn_X9, tn_X10]; omega)]
  exact congrArg (fun z => (tf_X4_init (u.2 1))[z]?) (by simp only [List.length_append, List.length_nil, tn_X0, tn_X1, tn_X2, tn_X3, tn_X4, tn_X5, tn_X6, tn_X7, tn_X8, tn_X9, tn_X10]; omega)
theorem tg_2 (u : (Nat → Nat) × (Nat → CS)) (v : CS) {i : Nat} (hi : i < 11) : (bigT u v)[5 + i]? = (tf_X2_init (u.2 2))[i]? := by
  have e : bigT u v = (tf_X4_init (u.2 1)) ++ (tf_X2_init (u.2 2) ++ (tf_X0_init (u.2 3) ++ (tf_X5_init (u.2 4) ++ (tf_X1_init (u.2 5) ++ (tf_X8_init (u.2 6) ++ (tf_X3_init (u.2 7) ++ (tf_X6_init (u.2 8) ++ (tf_X10_init (u.2 9) ++ (tf_X10_init (u.2 10) ++ (tf_X7_init (u.2 11) ++ (tf_X9_init (u.2 12) ++ (tf_X12_init v)))))))))))) := by simp only [bigT, tf_X11_init, List.append_assoc, List.nil_append]
  rw [e, List.getElem?_append_right (by simp only [List.length_append, List.length_nil, tn_X0, tn_X1, tn_X2, tn_X3, tn_X4, tn_X5, tn_X6, tn_X7, tn_X8, tn_X9, tn_X10]; omega), List.getElem?_append_left (by simp only [List.length_append, List.length_nil, tn_X0, tn_X1, tn_X2, tn_X3, tn_X4, tn_X5, tn_X6, tn_X7, tn_X8, tn_X9, tn_X10]; omega)]
  exact congrArg (fun z => (tf_X2_init (u.2 2))[z]?) (by simp only [List.length_append, List.length_nil, tn_X0, tn_X1, tn_X2, tn_X3, tn_X4, tn_X5, tn_X6, tn_X7, tn_X8, tn_X9, tn_X10]; omega)
theorem tg_3 (u : (Nat → Nat) × (Nat → CS)) (v : CS) {i : Nat} (hi : i < 9) : (bigT u v)[16 + i]? = (tf_X0_init (u.2 3))[i]? := by
  have e : bigT u v = (tf_X4_init (u.2 1) ++ tf_X2_init (u.2 2)) ++ (tf_X0_init (u.2 3) ++ (tf_X5_init (u.2 4) ++ (tf_X1_init (u.2 5) ++ (tf_X8_init (u.2 6) ++ (tf_X3_init (u.2 7) ++ (tf_X6_init (u.2 8) ++ (tf_X10_init (u.2 9) ++ (tf_X10_init (u.2 10) ++ (tf_X7_init (u.2 11) ++ (tf_X9_init (u.2 12) ++ (tf_X12_init v))))))))))) := by simp only [bigT, tf_X11_init, List.append_assoc, List.nil_append]
  rw [e, List.getElem?_append_right (by simp only [List.length_append, List.length_nil, tn_X0, tn_X1, tn_X2, tn_X3, tn_X4, tn_X5, tn_X6, tn_X7, tn_X8, tn_X9, tn_X10]; omega), List.getElem?_append_left (by simp only [List.length_append, List.length_nil, tn_X0, tn_X1, tn_X2, tn_X3, tn_X4, tn_X5, tn_X6, tn_X7, tn_X8, tn_X9, tn_X10]; omega)]
  exact congrArg (fun z => (tf_X0_init (u.2 3))[z]?) (by simp only [List.length_append, List.length_nil, tn_X0, tn_X1, tn_X2, tn_X3, tn_X4, tn_X5, tn_X6, tn_X7, tn_X8, tn_X9, tn_X10]; omega)
theorem tg_4 (u : (Nat → Nat) × (Nat → CS)) (v : CS) {i : Nat} (hi : i < 4) : (bigT u v)[25 + i]? = (tf_X5_init (u.2 4))[i]? := by
  have e : bigT u v = (tf_X4_init (u.2 1) ++ tf_X2_init (u.2 2) ++ tf_X0_init (u.2 3)) ++ (tf_X5_init (u.2 4) ++ (tf_X1_init (u.2 5) ++ (tf_X8_init (u.2 6) ++ (tf_X3_init (u.2 7) ++ (tf_X6_init (u.2 8) ++ (tf_X10_init (u.2 9) ++ (tf_X10_init (u.2 10) ++ (tf_X7_init (u.2 11) ++ (tf_X9_init (u.2 12) ++ (tf_X12_init v)))))))))) := by simp only [bigT, tf_X11_init, List.append_assoc, List.nil_append]
  rw [e, List.getElem?_append_right (by simp only [List.length_append, List.length_nil, tn_X0, tn_X1, tn_X2, tn_X3, tn_X4, tn_X5, tn_X6, tn_X7, tn_X8, tn_X9, tn_X10]; omega), List.getElem?_append_left (by simp only [List.length_append, List.length_nil, tn_X0, tn_X1, tn_X2, tn_X3, tn_X4, tn_X5, tn_X6, tn_X7, tn_X8, tn_X9, tn_X10]; omega)]
  exact congrArg (fun z => (tf_X5_init (u.2 4))[z]?) (by simp only [List.length_append, List.length_nil, tn_X0, tn_X1, tn_X2, tn_X3, tn_X4, tn_X5, tn_X6, tn_X7, tn_X8, tn_X9, tn_X10]; omega)
theorem tg_5 (u : (Nat → Nat) × (Nat → CS)) (v : CS) {i : Nat} (hi : i < 3) : (bigT u v)[29 + i]? = (tf_X1_init (u.2 5))[i]? := by
  have e : bigT u v = (tf_X4_init (u.2 1) ++ tf_X2_init (u.2 2) ++ tf_X0_init (u.2 3) ++ tf_X5_init (u.2 4)) ++ (tf_X1_init (u.2 5) ++ (tf_X8_init (u.2 6) ++ (tf_X3_init (u.2 7) ++ (tf_X6_init (u.2 8) ++ (tf_X10_init (u.2 9) ++ (tf_X10_init (u.2 10) ++ (tf_X7_init (u.2 11) ++ (tf_X9_init (u.2 12) ++ (tf_X12_init v))))))))) := by simp only [bigT, tf_X11_init, List.append_assoc, List.nil_append]
  rw [e, List.getElem?_append_right (by simp only [List.length_append, List.length_nil, tn_X0, tn_X1, tn_X2, tn_X3, tn_X4, tn_X5, tn_X6, tn_X7, tn_X8, tn_X9, tn_X10]; omega), List.getElem?_append_left (by simp only [List.length_append, List.length_nil, tn_X0, tn_X1, tn_X2, tn_X3, tn_X4, tn_X5, tn_X6, tn_X7, tn_X8, tn_X9, tn_X10]; omega)]
  exact congrArg (fun z => (tf_X1_init (u.2 5))[z]?) (by simp only [List.length_append, List.length_nil, tn_X0, tn_X1, tn_X2, tn_X3, tn_X4, tn_X5, tn_X6, tn_X7, tn_X8, tn_X9, tn_X10]; omega)
theorem tg_6 (u : (Nat → Nat) × (Nat → CS)) (v : CS) {i : Nat} (hi : i < 1) : (bigT u v)[32 + i]? = (tf_X8_init (u.2 6))[i]? := by
  have e : bigT u v = (tf_X4_init (u.2 1) ++ tf_X2_init (u.2 2) ++ tf_X0_init (u.2 3) ++ tf_X5_init (u.2 4) ++ tf_X1_init (u.2 5)) ++ (tf_X8_init (u.2 6) ++ (tf_X3_init (u.2 7) ++ (tf_X6_init (u.2 8) ++ (tf_X10_init (u.2 9) ++ (tf_X10_init (u.2 10) ++ (tf_X7_init (u.2 11) ++ (tf_X9_init (u.2 12) ++ (tf_X12_init v)))))))) := by simp only [bigT, tf_X11_init, List.append_assoc, List.nil_append]
  rw [e, List.getElem?_append_right (by simp only [List.length_append, List.length_nil, tn_X0, tn_X1, tn_X2, tn_X3, tn_X4, tn_X5, tn_X6, tn_X7, tn_X8, tn_X9, tn_X10]; omega), List.getElem?_append_left (by simp only [List.length_append, List.length_nil, tn_X0, tn_X1, tn_X2, tn_X3, tn_X4, tn_X5, tn_X6, tn_X7, tn_X8, tn_X9, tn_X10]; omega)]
  exact congrArg (fun z => (tf_X8_init (u.2 6))[z]?) (by simp only [List.length_append, List.length_nil, tn_X0, tn_X1, tn_X2, tn_X3, tn_X4, tn_X5, tn_X6, tn_X7, tn_X8, tn_X9, tn_X10]; omega)
theorem tg_7 (u : (Nat → Nat) × (Nat → CS)) (v : CS) {i : Nat} (hi : i < 1) : (bigT u v)[33 + i]? = (tf_X3_init (u.2 7))[i]? := by
  have e : bigT u v = (tf_X4_init (u.2 1) ++ tf_X2_init (u.2 2) ++ tf_X0_init (u.2 3) ++ tf_X5_init (u.2 4) ++ tf_X1_init (u.2 5) ++ tf_X8_init (u.2 6)) ++ (tf_X3_init (u.2 7) ++ (tf_X6_init (u.2 8) ++ (tf_X10_init (u.2 9) ++ (tf_X10_init (u.2 10) ++ (tf_X7_init (u.2 11) ++ (tf_X9_init (u.2 12) ++ (tf_X12_init v))))))) := by simp only [bigT, tf_X11_init, List.append_assoc, List.nil_append]
  rw [e, List.getElem?_append_right (by simp only [List.length_append, List.length_nil, tn_X0, tn_X1, tn_X2, tn_X3, tn_X4, tn_X5, tn_X6, tn_X7, tn_X8, tn_X9, tn_X10]; omega), List.getElem?_append_left (by simp only [List.length_append, List.length_nil, tn_X0, tn_X1, tn_X2, tn_X3, tn_X4, tn_X5, tn_X6, tn_X7, tn_X8, tn_X9, tn_X10]; omega)]
  exact congrArg (fun z => (tf_X3_init (u.2 7))[z]?) (by simp only [List.length_append, List.length_nil, tn_X0, tn_X1, tn_X2, tn_X3, tn_X4, tn_X5, tn_X6, tn_X7, tn_X8, tn_X9, tn_X10]; omega)
theorem tg_8 (u : (Nat → Nat) × (Nat → CS)) (v : CS) {i : Nat} (hi : i < 1) : (bigT u v)[34 + i]? = (tf_X6_init (u.2 8))[i]? := by
  have e : bigT u v = (tf_X4_init (u.2 1) ++ tf_X2_init (u.2 2) ++ tf_X0_init (u.2 3) ++ tf_X5_init (u.2 4) ++ tf_X1_init (u.2 5) ++ tf_X8_init (u.2 6) ++ tf_X3_init (u.2 7)) ++ (tf_X6_init (u.2 8) ++ (tf_X10_init (u.2 9) ++ (tf_X10_init (u.2 10) ++ (tf_X7_init (u.2 11) ++ (tf_X9_init (u.2 12) ++ (tf_X12_init v)))))) := by simp only [bigT, tf_X11_init, List.append_assoc, List.nil_append]
  rw [e, List.getElem?_append_right (by simp only [List.length_append, List.length_nil, tn_X0, tn_X1, tn_X2, tn_X3, tn_X4, tn_X5, tn_X6, tn_X7, tn_X8, tn_X9, tn_X10]; omega), List.getElem?_append_left (by simp only [List.length_append, List.length_nil, tn_X0, tn_X1, tn_X2, tn_X3, tn_X4, tn_X5, tn_X6, tn_X7, tn_X8, tn_X9, tn_X10]; omega)]
  exact congrArg (fun z => (tf_X6_init (u.2 8))[z]?) (by simp only [List.length_append, List.length_nil, tn_X0, tn_X1, tn_X2, tn_X3, tn_X4, tn_X5, tn_X6, tn_X7, tn_X8, tn_X9, tn_X10]; omega)
theorem tg_9 (u : (Nat → Nat) × (Nat → CS)) (v : CS) {i : Nat} (hi : i < 4) : (bigT u v)[35 + i]? = (tf_X10_init (u.2 9))[i]? := by
  have e : bigT u v = (tf_X4_init (u.2 1) ++ tf_X2_init (u.2 2) ++ tf_X0_init (u.2 3) ++ tf_X5_init (u.2 4) ++ tf_X1_init (u.2 5) ++ tf_X8_init (u.2 6) ++ tf_X3_init (u.2 7) ++ tf_X6_init (u.2 8)) ++ (tf_X10_init (u.2 9) ++ (tf_X10_init (u.2 10) ++ (tf_X7_init (u.2 11) ++ (tf_X9_init (u.2 12) ++ (tf_X12_init v))))) := by simp only [bigT, tf_X11_init, List.append_assoc, List.nil_append]
  rw [e, List.getElem?_append_right (by simp only [List.length_append, List.length_nil, tn_X0, tn_X1, tn_X2, tn_X3, tn_X4, tn_X5, tn_X6, tn_X7, tn_X8, tn_X9, tn_X10]; omega), List.getElem?_append_left (by simp only [List.length_append, List.length_nil, tn_X0, tn_X1, tn_X2, tn_X3, tn_X4, tn_X5, tn_X6, tn_X7, tn_X8, tn_X9, tn_X10]; omega)]
  exact congrArg (fun z => (tf_X10_init (u.2 9))[z]?) (by simp only [List.length_append, List.length_nil, tn_X0, tn_X1, tn_X2, tn_X3, tn_X4, tn_X5, tn_X6, tn_X7, tn_X8, tn_X9, tn_X10]; omega)
theorem tg_10 (u : (Nat → Nat) × (Nat → CS)) (v : CS) {i : Nat} (hi : i < 4) : (bigT u v)[39 + i]? = (tf_X10_init (u.2 10))[i]? := by
  have e : bigT u v = (tf_X4_init (u.2 1) ++ tf_X2_init (u.2 2) ++ tf_X0_init (u.2 3) ++ tf_X5_init (u.2 4) ++ tf_X1_init (u.2 5) ++ tf_X8_init (u.2 6) ++ tf_X3_init (u.2 7) ++ tf_X6_init (u.2 8) ++ tf_X10_init (u.2 9)) ++ (tf_X10_init (u.2 10) ++ (tf_X7_init (u.2 11) ++ (tf_X9_init (u.2 12) ++ (tf_X12_init v)))) := by simp only [bigT, tf_X11_init, List.append_assoc, List.nil_append]
  rw [e, List.getElem?_append_right (by simp only [List.length_append, List.length_nil, tn_X0, tn_X1, tn_X2, tn_X3, tn_X4, tn_X5, tn_X6, tn_X7, tn_X8, tn_X9, tn_X10]; omega), List.getElem?_append_left (by simp only [List.length_append, List.length_nil, tn_X0, tn_X1, tn_X2, tn_X3, tn_X4, tn_X5, tn_X6, tn_X7, tn_X8, tn_X9, tn_X10]; omega)]
  exact congrArg (fun z => (tf_X10_init (u.2 10))[z]?) (by simp only [List.length_append, List.length_nil, tn_X0, tn_X1, tn_X2, tn_X3, tn_X4, tn_X5, tn_X6, tn_X7, tn_X8, tn_X9, tn_X10]; omega)
theorem tg_11 (u : (Nat → Nat) × (Nat → CS)) (v : CS) {i : Nat} (hi : i < 1) : (bigT u v)[43 + i]? = (tf_X7_init (u.2 11))[i]? := by
  have e : bigT u v = (tf_X4_init (u.2 1) ++ tf_X2_init (u.2 2) ++ tf_X0_init (u.2 3) ++ tf_X5_init (u.2 4) ++ tf_X1_init (u.2 5) ++ tf_X8_init (u.2 6) ++ tf_X3_init (u.2 7) ++ tf_X6_init (u.2 8) ++ tf_X10_init (u.2 9) ++ tf_X10_init (u.2 10)) ++ (tf_X7_init (u.2 11) ++ (tf_X9_init (u.2 12) ++ (tf_X12_init v))) := by simp only [bigT, tf_X11_init, List.append_assoc, List.nil_append]
  rw [e, List.getElem?_append_right (by simp only [List.length_append, List.length_nil, tn_X0, tn_X1, tn_X2, tn_X3, tn_X4, tn_X5, tn_X6, tn_X7, tn_X8, tn_X9, tn_X10]; omega), List.getElem?_append_left (by simp only [List.length_append, List.length_nil, tn_X0, tn_X1, tn_X2, tn_X3, tn_X4, tn_X5, tn_X6, tn_X7, tn_X8, tn_X9, tn_X10]; omega)]
  exact congrArg (fun z => (tf_X7_init (u.2 11))[z]?) (by simp only [List.length_append, List.length_nil, tn_X0, tn_X1, tn_X2, tn_X3, tn_X4, tn_X5, tn_X6, tn_X7, tn_X8, tn_X9, tn_X10]; omega)
theorem tg_12 (u : (Nat → Nat) × (Nat → CS)) (v : CS) {i : Nat} (hi : i < 3) : (bigT u v)[44 + i]? = (tf_X9_init (u.2 12))[i]? := by
  have e : bigT u v = (tf_X4_init (u.2 1) ++ tf_X2_init (u.2 2) ++ tf_X0_init (u.2 3) ++ tf_X5_init (u.2 4) ++ tf_X1_init (u.2 5) ++ tf_X8_init (u.2 6) ++ tf_X3_init (u.2 7) ++ tf_X6_init (u.2 8) ++ tf_X10_init (u.2 9) ++ tf_X10_init (u.2 10) ++ tf_X7_init (u.2 11)) ++ (tf_X9_init (u.2 12) ++ (tf_X12_init v)) := by simp only [bigT, tf_X11_init, List.append_assoc, List.nil_append]
  rw [e, List.getElem?_append_right (by simp only [List.length_append, List.length_nil, tn_X0, tn_X1, tn_X2, tn_X3, tn_X4, tn_X5, tn_X6, tn_X7, tn_X8, tn_X9, tn_X10]; omega), List.getElem?_append_left (by simp only [List.length_append, List.length_nil, tn_X0, tn_X1, tn_X2, tn_X3, tn_X4, tn_X5, tn_X6, tn_X7, tn_X8, tn_X9, tn_X10]; omega)]
  exact congrArg (fun z => (tf_X9_init (u.2 12))[z]?) (by simp only [List.length_append, List.length_nil, tn_X0, tn_X1, tn_X2, tn_X3, tn_X4, tn_X5, tn_X6, tn_X7, tn_X8, tn_X9, tn_X10]; omega)
theorem tg_13 (u : (Nat → Nat) × (Nat → CS)) (v : CS) (i : Nat) : (bigT u v)[47 + i]? = (tf_X12_init v)[i]? := by
  have e : (tf_X11_init u).length = 47 := by simp only [tf_X11_init, List.length_append, tn_X0, tn_X1, tn_X2, tn_X3, tn_X4, tn_X5, tn_X6, tn_X7, tn_X8, tn_X9, tn_X10]
  rw [bigT, List.getElem?_append_right (by omega), e]
  exact congrArg (fun z => (tf_X12_init v)[z]?) (by omega)
def ptL (k : Nat) : Nat := [15, 24, 26, 28, 45, 0, 1, 2, 3, 4, 5, 6, 7, 8, 9, 10, 11, 12, 13, 16, 17, 18, 19, 20, 21, 22, 29, 30, 31, 32, 33, 34, 35, 36, 37, 38, 39, 40, 41, 42, 43, 46, 14, 14, 14, 14, 14, 14, 14, 14, 14, 14, 14, 14, 23, 23, 23, 23, 23, 23, 23, 23, 23, 23, 23, 23, 25, 25, 25, 25, 25, 25, 27, 27, 27, 27, 27, 27, 44, 44, 44, 44, 47, 48, 49, 50, 51, 52, 53, 54, 55, 56, 57, 58, 59, 60, 61, 62, 63, 64, 65, 66, 67, 68, 69, 70, 71, 72, 73, 74, 75, 76, 77, 78, 79, 80, 81, 82, 83, 84, 85, 86].getD k 0
def atT (u : (Nat → Nat) × (Nat → CS)) (v : CS) (k : Nat) : Prop := (bigT u v)[ptL k]? = some (acL u v (14 + k), aty (14 + k))
set_option maxHeartbeats 8000000 in
set_option maxRecDepth 100000 in
theorem kinds_0 (u : (Nat → Nat) × (Nat → CS)) (v : CS) : ∀ a : Nat, a < 31 → atT u v a := lt_s (lt_s (lt_s (lt_s (lt_s (lt_s (lt_s (lt_s (lt_s (lt_s (lt_s (lt_s (lt_s (lt_s (lt_s (lt_s (lt_s (lt_s (lt_s (lt_s (lt_s (lt_s (lt_s (lt_s (lt_s (lt_s (lt_s (lt_s (lt_s (lt_s (lt_s (lt_0) (show atT u v 0 from (tg_2 u v (i := 10) (by decide)).trans rfl)) (show atT u v 1 from (tg_3 u v (i := 8) (by decide)).trans rfl)) (show atT u v 2 from (tg_4 u v (i := 1) (by decide)).trans rfl)) (show atT u v 3 from (tg_4 u v (i := 3) (by decide)).trans rfl)) (show atT u v 4 from (tg_12 u v (i := 1) (by decide)).trans rfl)) (show atT u v 5 from (tg_1 u v (i := 0) (by decide)).trans rfl)) (show atT u v 6 from (tg_1 u v (i := 1) (by decide)).trans rfl)) (show atT u v 7 from (tg_1 u v (i := 2) (by decide)).trans rfl)) (show atT u v 8 from (tg_1 u v (i := 3) (by decide)).trans rfl)) (show atT u v 9 from (tg_1 u v (i := 4) (by decide)).trans rfl)) (show atT u v 10 from (tg_2 u v (i := 0) (by decide)).trans rfl)) (show atT u v 11 from (tg_2 u v (i := 1) (by decide)).trans rfl)) (show atT u v 12 from (tg_2 u v (i := 2) (by decide)).trans rfl)) (show atT u v 13 from (tg_2 u v (i := 3) (by decide)).trans rfl)) (show atT u v 14 from (tg_2 u v (i := 4) (by decide)).trans rfl)) (show atT u v 15 from (tg_2 u v (i := 5) (by decide)).trans rfl)) (show atT u v 16 from (tg_2 u v (i := 6) (by decide)).trans rfl)) (show atT u v 17 from (tg_2 u v (i := 7) (by decide)).trans rfl)) (show atT u v 18 from (tg_2 u v (i := 8) (by decide)).trans rfl)) (show atT u v 19 from (tg_3 u v (i := 0) (by decide)).trans rfl)) (show atT u v 20 from (tg_3 u v (i := 1) (by decide)).trans rfl)) (show atT u v 21 from (tg_3 u v (i := 2) (by decide)).trans rfl)) (show atT u v 22 from (tg_3 u v (i := 3) (by decide)).trans rfl)) (show atT u v 23 from (tg_3 u v (i := 4) (by decide)).trans rfl)) (show atT u v 24 from (tg_3 u v (i := 5) (by decide)).trans rfl)) (show atT u v 25 from (tg_3 u v (i := 6) (by decide)).trans rfl)) (show atT u v 26 from (tg_5 u v (i := 0) (by decide)).trans rfl)) (show atT u v 27 from (tg_5 u v (i := 1) (by decide)).trans rfl)) (show atT u v 28 from (tg_5 u v (i := 2) (by decide)).trans rfl)) (show atT u v 29 from (tg_6 u v (i := 0) (by decide)).trans rfl)) (show atT u v 30 from (tg_7 u v (i := 0) (by decide)).trans rfl)
set_option maxHeartbeats 8000000 in
set_option maxRecDepth 100000 in
theorem kinds_31 (u : (Nat → Nat) × (Nat → CS)) (v : CS) : ∀ a : Nat, a < 62 → atT u v a := lt_s (lt_s (lt_s (lt_s (lt_s (lt_s (lt_s (lt_s (lt_s (lt_s (lt_s (lt_s (lt_s (lt_s (lt_s (lt_s (lt_s (lt_s (lt_s (lt_s (lt_s (lt_s (lt_s (lt_s (lt_s (lt_s (lt_s (lt_s (lt_s (lt_s (lt_s ((kinds_0 u v)) (show atT u v 31 from (tg_8 u v (i := 0) (by decide)).trans rfl)) (show atT u v 32 from (tg_9 u v (i := 0) (by decide)).trans rfl)) (show atT u v 33 from (tg_9 u v (i := 1) (by decide)).trans rfl)) (show atT u v 34 from (tg_9 u v (i := 2) (by decide)).trans rfl)) (show atT u v 35 from (tg_9 u v (i := 3) (by decide)).trans rfl)) (show atT u v 36 from (tg_10 u v (i := 0) (by decide)).trans rfl)) (show atT u v 37 from (tg_10 u v (i := 1) (by decide)).trans rfl)) (show atT u v 38 from (tg_10 u v (i := 2) (by decide)).trans rfl)) (show atT u v 39 from (tg_10 u v (i := 3) (by decide)).trans rfl)) (show atT u v 40 from (tg_11 u v (i := 0) (by decide)).trans rfl)) (show atT u v 41 from (tg_12 u v (i := 2) (by decide)).trans rfl)) (show atT u v 42 from (tg_2 u v (i := 9) (by decide)).trans rfl)) (show atT u v 43 from (tg_2 u v (i := 9) (by decide)).trans rfl)) (show atT u v 44 from (tg_2 u v (i := 9) (by decide)).trans rfl)) (show atT u v 45 from (tg_2 u v (i := 9) (by decide)).trans rfl)) (show atT u v 46 from (tg_2 u v (i := 9) (by decide)).trans rfl)) (show atT u v 47 from (tg_2 u v (i := 9) (by decide)).trans rfl)) (show atT u v 48 from (tg_2 u v (i := 9) (by decide)).trans rfl)) (show atT u v 49 from (tg_2 u v (i := 9) (by decide)).trans rfl)) (show atT u v 50 from (tg_2 u v (i := 9) (by decide)).trans rfl)) (show atT u v 51 from (tg_2 u v (i := 9) (by decide)).trans rfl)) (show atT u v 52 from (tg_2 u v (i := 9) (by decide)).trans rfl)) (show atT u v 53 from (tg_2 u v (i := 9) (by decide)).trans rfl)) (show atT u v 54 from (tg_3 u v (i := 7) (by decide)).trans rfl)) (show atT u v 55 from (tg_3 u v (i := 7) (by decide)).trans rfl)) (show atT u v 56 from (tg_3 u v (i := 7) (by decide)).trans rfl)) (show atT u v 57 from (tg_3 u v (i := 7) (by decide)).trans rfl)) (show atT u v 58 from (tg_3 u v (i := 7) (by decide)).trans rfl)) (show atT u v 59 from (tg_3 u v (i := 7) (by decide)).trans rfl)) (show atT u v 60 from (tg_3 u v (i := 7) (by decide)).trans rfl)) (show atT u v 61 from (tg_3 u v (i := 7) (by decide)).trans rfl)
set_option maxHeartbeats 8000000 in
set_option maxRecDepth 100000 in
theorem kinds_62 (u : (Nat → Nat) × (Nat → CS)) (v : CS) : ∀ a : Nat, a < 93 → atT u v a := lt_s (lt_s (lt_s (lt_s (lt_s (lt_s (lt_s (lt_s (lt_s (lt_s (lt_s (lt_s (lt_s (lt_s (lt_s (lt_s (lt_s (lt_s (lt_s (lt_s (lt_s (lt_s (lt_s (lt_s (lt_s (lt_s (lt_s (lt_s (lt_s (lt_s (lt_s ((kinds_31 u v)) (show atT u v 62 from (tg_3 u v (i := 7) (by decide)).trans rfl)) (show atT u v 63 from (tg_3 u v (i := 7) (by decide)).trans rfl)) (show atT u v 64 from (tg_3 u v (i := 7) (by decide)).trans rfl)) (show atT u v 65 from (tg_3 u v (i := 7) (by decide)).trans rfl)) (show atT u v 66 from (tg_4 u v (i := 0) (by decide)).trans rfl)) (show atT u v 67 from (tg_4 u v (i := 0) (by decide)).trans rfl)) (show atT u v 68 from (tg_4 u v (i := 0) (by decide)).trans rfl)) (show atT u v 69 from (tg_4 u v (i := 0) (by decide)).trans rfl)) (show atT u v 70 from (tg_4 u v (i := 0) (by decide)).trans rfl)) (show atT u v 71 from (tg_4 u v (i := 0) (by decide)).trans rfl)) (show atT u v 72 from (tg_4 u v (i := 2) (by decide)).trans rfl)) (show atT u v 73 from (tg_4 u v (i := 2) (by decide)).trans rfl)) (show atT u v 74 from (tg_4 u v (i := 2) (by decide)).trans rfl)) (show atT u v 75 from (tg_4 u v (i := 2) (by decide)).trans rfl)) (show atT u v 76 from (tg_4 u v (i := 2) (by decide)).trans rfl)) (show atT u v 77 from (tg_4 u v (i := 2) (by decide)).trans rfl)) (show atT u v 78 from (tg_12 u v (i := 0) (by decide)).trans rfl)) (show atT u v 79 from (tg_12 u v (i := 0) (by decide)).trans rfl)) (show atT u v 80 from (tg_12 u v (i := 0) (by decide)).trans rfl)) (show atT u v 81 from (tg_12 u v (i := 0) (by decide)).trans rfl)) (show atT u v 82 from (tg_13 u v 0).trans rfl)) (show atT u v 83 from (tg_13 u v 1).trans rfl)) (show atT u v 84 from (tg_13 u v 2).trans rfl)) (show atT u v 85 from (tg_13 u v 3).trans rfl)) (show atT u v 86 from (tg_13 u v 4).trans rfl)) (show atT u v 87 from (tg_13 u v 5).trans rfl)) (show atT u v 88 from (tg_13 u v 6).trans rfl)) (show atT u v 89 from (tg_13 u v 7).trans rfl)) (show atT u v 90 from (tg_13 u v 8).trans rfl)) (show atT u v 91 from (tg_13 u v 9).trans rfl)) (show atT u v 92 from (tg_13 u v 10).trans rfl)
set_option maxHeartbeats 8000000 in
set_option maxRecDepth 100000 in
theorem kinds_93 (u : (Nat → Nat) × (Nat → CS)) (v : CS) : ∀ a : Nat, a < 122 → atT u v a := lt_s (lt_s (lt_s (lt_s (lt_s (lt_s (lt_s (lt_s (lt_s (lt_s (lt_s (lt_s (lt_s (lt_s (lt_s (lt_s (lt_s (lt_s (lt_s (lt_s (lt_s (lt_s (lt_s (lt_s (lt_s (lt_s (lt_s (lt_s (lt_s ((kinds_62 u v)) (show atT u v 93 from (tg_13 u v 11).trans rfl)) (show atT u v 94 from (tg_13 u v 12).trans rfl)) (show atT u v 95 from (tg_13 u v 13).trans rfl)) (show atT u v 96 from (tg_13 u v 14).trans rfl)) (show atT u v 97 from (tg_13 u v 15).trans rfl)) (show atT u v 98 from (tg_13 u v 16).trans rfl)) (show atT u v 99 from (tg_13 u v 17).trans rfl)) (show atT u v 100 from (tg_13 u v 18).trans rfl)) (show atT u v 101 from (tg_13 u v 19).trans rfl)) (show atT u v 102 from (tg_13 u v 20).trans rfl)) (show atT u v 103 from (tg_13 u v 21).trans rfl)) (show atT u v 104 from (tg_13 u v 22).trans rfl)) (show atT u v 105 from (tg_13 u v 23).trans rfl)) (show atT u v 106 from (tg_13 u v 24).trans rfl)) (show atT u v 107 from (tg_13 u v 25).trans rfl)) (show atT u v 108 from (tg_13 u v 26).trans rfl)) (show atT u v 109 from (tg_13 u v 27).trans rfl)) (show atT u v 110 from (tg_13 u v 28).trans rfl)) (show atT u v 111 from (tg_13 u v 29).trans rfl)) (show atT u v 112 from (tg_13 u v 30).trans rfl)) (show atT u v 113 from (tg_13 u v 31).trans rfl)) (show atT u v 114 from (tg_13 u v 32).trans rfl)) (show atT u v 115 from (tg_13 u v 33).trans rfl)) (show atT u v 116 from (tg_13 u v 34).trans rfl)) (show atT u v 117 from (tg_13 u v 35).trans rfl)) (show atT u v 118 from (tg_13 u v 36).trans rfl)) (show atT u v 119 from (tg_13 u v 37).trans rfl)) (show atT u v 120 from (tg_13 u v 38).trans rfl)) (show atT u v 121 from (tg_13 u v 39).trans rfl)
theorem pi_inj : ∀ i : Nat, i < 136 → ∀ j : Nat, j < 136 → piL i = piL j → i = j := by decide +kernel
theorem conv_P {D : va_G} {h0 h1 : Nat} {u : (Nat → Nat) × (Nat → CS)} {v : CS} {H : Heap} (hP : va_P D vwCl (bigL h0 h1 u v) H) : va_P D vwCl (xw (lyL D h0 h1 u v) (stL u v)) H := fun k q hq => by
  have hk : k < 136 := by have := (List.getElem?_eq_some_iff.mp hq).1; rw [xw_len] at this; exact this
  rw [xw_get _ _ hk] at hq
  cases hq
  exact hP (piL k) _ (cells_119 D h0 h1 u v k hk)
theorem conv_I {D : va_G} {h0 h1 : Nat} {u : (Nat → Nat) × (Nat → CS)} {v : CS} {A : Nat → Prop} (hD : va_D A (bigL h0 h1 u v)) : INJ (lyL D h0 h1 u v) ∧ ∀ q, AW (lyL D h0 h1 u v) q → A q :=
  ⟨fun i j hi hj e => pi_inj i hi j hj (hD.1 _ _ _ _ (cells_119 D h0 h1 u v i hi) (cells_119 D h0 h1 u v j hj) e), fun q ⟨k, hk, e⟩ => by rw [e]; exact hD.2 _ _ (cells_119 D h0 h1 u v k hk)⟩
theorem conv_K {D : va_G} {h0 h1 : Nat} {u : (Nat → Nat) × (Nat → CS)} {v : CS} {U : State} (hK : va_K D vwCl (tf_X11_init u ++ tf_X12_init v) U) : va_K D vwCl (tysOf (lyL D h0 h1 u v)) U := ⟨hK.1, fun k q hq => by
  have hk : k < 122 := by have := (List.getElem?_eq_some_iff.mp hq).1; simpa [tysOf] using this
  have e : (tysOf (lyL D h0 h1 u v))[k]? = some (acL u v (14 + k), aty (14 + k)) := by simp [tysOf, hk, lyL]
  rw [e] at hq
  cases hq
  exact hK.2 (ptL k) _ (kinds_93 u v k hk)⟩
theorem trS_v {j : Nat} (hj : j < 4) : trS j = -1 := by
  rcases (show j = 0 ∨ j = 1 ∨ j = 2 ∨ j = 3 by omega) with rfl | rfl | rfl | rfl <;> rfl
theorem stL_z (u : (Nat → Nat) × (Nat → CS)) (v : CS) {k : Nat} (h : k ≠ 55 ∧ (k < 80 ∨ 92 ≤ k) ∧ k ≠ 114 ∧ k ≠ 115 ∧ k ≠ 134) : (stL u v).2 k = fun _ => 0 := by
  unfold stL
  show (if k = 55 then trS else if k < 80 then (fun _ => 0) else if k < 86 then (u.2 4).2.2.2.2 (k - 80) else if k < 92 then (u.2 4).2.2.2.2 (6 + (k - 86)) else if k = 114 then v.2.2.2.2 0 else if k = 115 then v.2.2.2.2 1 else if k = 134 then v.2.2.2.2 2 else (fun _ => 0)) = _
  rw [if_neg h.1]
  rcases h.2.1 with q | q
  · rw [if_pos q]
  · rw [if_neg (by omega), if_neg (by omega), if_neg (by omega), if_neg h.2.2.1, if_neg h.2.2.2.1, if_neg h.2.2.2.2]
theorem iv_tI : ∀ q ∈ IVI, q.1 ≠ 1 ∧ q.1 ≠ 27 ∧ q.2.1 ≤ 0 ∧ 0 ≤ q.2.2 := by decide +kernel
theorem iv_tA : ∀ q ∈ IVA, ((q.1 = 55 ∨ q.1 = 134) ∧ q.2.1 = 4 ∧ q.2.2.1 = -1 ∧ 0 ≤ q.2.2.2) ∨ ((q.1 ≠ 55 ∧ (q.1 < 80 ∨ 92 ≤ q.1) ∧ q.1 ≠ 114 ∧ q.1 ≠ 115 ∧ q.1 ≠ 134) ∧ q.2.2.1 ≤ 0 ∧ 0 ≤ q.2.2.2) := by decide +kernel
/-- what a new pair of objects holds -/
theorem inv_L {u : (Nat → Nat) × (Nat → CS)} {v : CS} (hv : ∀ j : Nat, j < 4 → v.2.2.2.2 2 j = -1) : INV (stL u v) := by
  have n0 : (0 : Int32).toInt = 0 := by decide
  have nm1 : (-1 : Int32).toInt = -1 := by decide
  refine ⟨⟨fun q hq => ?_, fun q hq j hj => ?_⟩, ⟨fun j hj => ?_, fun k hk => ?_⟩, fun l hl => ?_, rfl, rfl, rfl, rfl, rfl, rfl, rfl, rfl, rfl, rfl, fun j hj => ?_⟩
  · have z := iv_tI q hq
    have e : (stL u v).1 q.1 = 0 := by
      show (if q.1 = 1 then (-1 : Int32) else if q.1 = 27 then -1 else 0) = 0
      rw [if_neg z.1, if_neg z.2.1]
    rw [e, n0]
    omega
  · rcases iv_tA q hq with z | z
    · rcases z.1 with y | y
      · have e : (stL u v).2 q.1 j = -1 := by
          rw [y]
          exact trS_v (by omega)
        rw [e, nm1]
        omega
      · have e : (stL u v).2 q.1 j = -1 := by
          rw [y]
          exact hv j (by omega)
        rw [e, nm1]
        omega
    · rw [stL_z u v z.1]
      show _ ≤ (0 : Int32).toInt ∧ (0 : Int32).toInt ≤ _
      rw [n0]
      omega
  · have e : ((stL u v).1 20).toInt = 0 := n0
    rw [e] at hj
    omega
  · have e : ((stL u v).1 21).toInt = 0 := n0
    rw [e] at hk
    omega
  · unfold VT
    rw [show ((stL u v).2 109 l).toNatClampNeg = 0 from rfl]
    rfl
  · exact (trS_v hj).trans (hv j hj).symm
/-- the law's end -/
theorem go_lend {p : Program} {l : Launch} {e : Env} {s : State} {m : MethodId} {below : List Frame} {meth : Method} {c : Code} {b ce sl : Nat} {L : WL} (hce : ce ≤ 600000) (hsl : sl ≤ 7302249) (σ : ST) (lv : List (Nat × Value)) : Go (p, l, e, s, m, #[Value.ref b], below, meth, c, (fun q : Nat => s.heap.size ≤ q), ce, sl) L RL cL_law 4 room_1 (some .boolean) (lw_Z below #[Value.ref b] s) σ 1465 lv [] := by
  refine go_iconst (v := 1) (pc' := 1466) dL_law_1465 rfl (by decide) ?_
  intro hok H locs ls hP hS hl
  refine va_forget (fun q hq => hS.2.2 q hq) ?_
  refine W.widen (k := 600000) (n := 7302249) hce hsl ?_
  exact lw_ret hok.1 hok.2.1 hok.2.2.2.2.2.2.2.2.1 hok.2.2.2.2.2.2.2.2.2.1 dL_law_1466
theorem abv_start {args : Array Value} {s : State} (hts : ∀ w ∈ lw_tbl, w.before args s = true) (hgv : (Jvm.Cond.and given_1 narrow_1).before args s = true) : abv (fun q : Nat => s.heap.size ≤ q) s s.heap := by
  have hs := flat_of_before _ hgv
  have hA : ∀ a : Nat, a < s.heap.size → ¬ (fun q : Nat => s.heap.size ≤ q) a := fun a h h2 => absurd h (Nat.not_lt.mpr h2)
  have hlen := va_eqt (hs (.eq (.length (.static "LetterDrawer$Letters" "ABOVE" "[I")) (.int 6)) (by decide +kernel))
  have e0 := va_eqt (hs (.eq (.elem (.static "LetterDrawer$Letters" "ABOVE" "[I") (.int 0)) (.int (-1))) (by decide +kernel))
  have e1 := va_eqt (hs (.eq (.elem (.static "LetterDrawer$Letters" "ABOVE" "[I") (.int 1)) (.int 0)) (by decide +kernel))
  have e2 := va_eqt (hs (.eq (.elem (.static "LetterDrawer$Letters" "ABOVE" "[I") (.int 2)) (.int 0)) (by decide +kernel))
  have e3 := va_eqt (hs (.eq (.elem (.static "LetterDrawer$Letters" "ABOVE" "[I") (.int 3)) (.int 0)) (by decide +kernel))
  have e4 := va_eqt (hs (.eq (.elem (.static "LetterDrawer$Letters" "ABOVE" "[I") (.int 4)) (.int 0)) (by decide +kernel))
  have e5 := va_eqt (hs (.eq (.elem (.static "LetterDrawer$Letters" "ABOVE" "[I") (.int 5)) (.int 2)) (by decide +kernel))
  obtain ⟨t, ht, hT⟩ := va_Tof (N := 6) (f := abvF) (A := fun q : Nat => s.heap.size ≤ q) (by decide) (hs (.arrayOf (.static "LetterDrawer$Letters" "ABOVE" "[I") .int) (by decide +kernel)) hlen (fun j hj => by
    rcases (show j = 0 ∨ j = 1 ∨ j = 2 ∨ j = 3 ∨ j = 4 ∨ j = 5 by omega) with rfl | rfl | rfl | rfl | rfl | rfl
    · exact e0
    · exact e1
    · exact e2
    · exact e3
    · exact e4
    · exact e5) hA
  exact ⟨t, va_Zref (hts (.laysStatic "LetterDrawer$Letters" "ABOVE" "[I") (List.mem_of_getElem? (i := 867) (by decide +kernel))) (hts _ (wd_tbl ini_X2)) ht hA, hT⟩
set_option maxHeartbeats 8000000 in
set_option maxRecDepth 100000 in
theorem ex11_start {args : Array Value} {s : State} (hts : ∀ w ∈ lw_tbl, w.before args s = true) : ex11 s := by
  refine ⟨va_AOA.of (hts (.arrayOver (.array .byte)) (List.mem_of_getElem? (i := 120) (by decide +kernel))), va_AOA.of (hts (.arrayOver (.array .int)) (List.mem_of_getElem? (i := 179) (by decide +kernel))), ?_⟩
  intro w hw
  refine va_Nw.of (nest_tab w hw) (hts w ?_)
  simp only [nestW, List.mem_cons, List.not_mem_nil, or_false] at hw
  rcases hw with rfl | rfl | rfl | rfl | rfl | rfl | rfl | rfl | rfl | rfl
  · exact List.mem_of_getElem? (i := 85) (by decide +kernel)
  · exact List.mem_of_getElem? (i := 115) (by decide +kernel)
  · exact List.mem_of_getElem? (i := 174) (by decide +kernel)
  · exact List.mem_of_getElem? (i := 230) (by decide +kernel)
  · exact List.mem_of_getElem? (i := 251) (by decide +kernel)
  · exact List.mem_of_getElem? (i := 266) (by decide +kernel)
  · exact List.mem_of_getElem? (i := 303) (by decide +kernel)
  · exact List.mem_of_getElem? (i := 318) (by decide +kernel)
  · exact List.mem_of_getElem? (i := 341) (by decide +kernel)
  · exact List.mem_of_getElem? (i := 359) (by decide +kernel)
set_option maxHeartbeats 8000000 in
set_option maxRecDepth 100000 in
theorem whole_start {p : Program} {e : Env} {s : State} {m : MethodId} {below : List Frame} {meth : Method} {c : Code} (l : Launch) (hflags : l.flags = flags0) {b L : Nat} {xs : Nat → Int32} (hL : L ≤ 2560) (C0 : lw_At p s m meth c b L xs) : W p l e room_1 s m #[Value.ref b] below meth c s.heap [] 0 0 (lw_Z below #[Value.ref b] s) (entryFrame m ([Value.ref b] : List Value).toArray 4) := by
  obtain ⟨hx, hb, hr, hml, hown, hts, hX, hbl, hlocks, hgv⟩ := id C0
  obtain ⟨c0, i0, hKn0⟩ := u_known (C := RX0) (T := TX0) (N := 9) (n := 9) hts (fun w h => wd_tbl (inlX0 w h)) (hts _ (wd_tbl inst_X0))
  obtain ⟨c1, i1, hKn1⟩ := u_known (C := RX1) (T := TX1) (N := 4) (n := 4) hts (fun w h => wd_tbl (inlX1 w h)) (hts _ (wd_tbl inst_X1))
  obtain ⟨c2, i2, hKn2⟩ := u_known (C := RX2) (T := TX2) (N := 11) (n := 11) hts (fun w h => wd_tbl (inlX2 w h)) (hts _ (wd_tbl inst_X2))
  obtain ⟨c3, i3, hKn3⟩ := u_known (C := RX3) (T := TX3) (N := 8) (n := 8) hts (fun w h => wd_tbl (inlX3 w h)) (hts _ (wd_tbl inst_X3))
  obtain ⟨c4, i4, hKn4⟩ := u_known (C := RX4) (T := TX4) (N := 6) (n := 6) hts (fun w h => wd_tbl (inlX4 w h)) (hts _ (wd_tbl inst_X4))
  obtain ⟨c5, i5, hKn5⟩ := u_known (C := RX5) (T := TX5) (N := 2) (n := 2) hts (fun w h => wd_tbl (inlX5 w h)) (hts _ (wd_tbl inst_X5))
  obtain ⟨c6, i6, hKn6⟩ := u_known (C := RX6) (T := TX6) (N := 2) (n := 2) hts (fun w h => wd_tbl (inlX6 w h)) (hts _ (wd_tbl inst_X6))
  obtain ⟨c7, i7, hKn7⟩ := u_known (C := RX7) (T := TX7) (N := 3) (n := 3) hts (fun w h => wd_tbl (inlX7 w h)) (hts _ (wd_tbl inst_X7))
  obtain ⟨c8, i8, hKn8⟩ := u_known (C := RX8) (T := TX8) (N := 2) (n := 2) hts (fun w h => wd_tbl (inlX8 w h)) (hts _ (wd_tbl inst_X8))
  obtain ⟨c9, i9, hKn9⟩ := u_known (C := RX9) (T := TX9) (N := 2) (n := 2) hts (fun w h => wd_tbl (inlX9 w h)) (hts _ (wd_tbl inst_X9))
  obtain ⟨c10, i10, hKn10⟩ := u_known (C := RX10) (T := TX10) (N := 5) (n := 5) hts (fun w h => wd_tbl (inlX10 w h)) (hts _ (wd_tbl inst_X10))
  obtain ⟨c11, i11, hKn11⟩ := u_known (C := RX11) (T := TX11) (N := 14) (n := 14) hts (fun w h => wd_tbl (inlX11 w h)) (hts _ (wd_tbl inst_X11))
  obtain ⟨c12, i12, hKn12⟩ := u_known (C := RX12) (T := TX12) (N := 52) (n := 52) hts (fun w h => wd_tbl (inlX12 w h)) (hts _ (wd_tbl inst_X12))
  obtain ⟨D, hKc⟩ : ∃ D : va_G, ∀ (k : Nat) (q : vw_C), vwCl[k]? = some q → u_Kn s q.1 q.2.1 q.2.2 (D.1 k) (D.2 k) := by
    refine ⟨(fun k => if k = 0 then c0 else if k = 1 then c1 else if k = 2 then c2 else if k = 3 then c3 else if k = 4 then c4 else if k = 5 then c5 else if k = 6 then c6 else if k = 7 then c7 else if k = 8 then c8 else if k = 9 then c9 else if k = 10 then c10 else if k = 11 then c11 else c12, fun k => if k = 0 then i0 else if k = 1 then i1 else if k = 2 then i2 else if k = 3 then i3 else if k = 4 then i4 else if k = 5 then i5 else if k = 6 then i6 else if k = 7 then i7 else if k = 8 then i8 else if k = 9 then i9 else if k = 10 then i10 else if k = 11 then i11 else i12), ?_⟩
    intro k q hq
    match k, hq with
    | 0, hq => cases hq; exact hKn0
    | 1, hq => cases hq; exact hKn1
    | 2, hq => cases hq; exact hKn2
    | 3, hq => cases hq; exact hKn3
    | 4, hq => cases hq; exact hKn4
    | 5, hq => cases hq; exact hKn5
    | 6, hq => cases hq; exact hKn6
    | 7, hq => cases hq; exact hKn7
    | 8, hq => cases hq; exact hKn8
    | 9, hq => cases hq; exact hKn9
    | 10, hq => cases hq; exact hKn10
    | 11, hq => cases hq; exact hKn11
    | 12, hq => cases hq; exact hKn12
    | k + 13, hq => simp [vwCl] at hq
  have hbA : ¬ (fun q : Nat => s.heap.size ≤ q) b := Nat.not_le.mpr hbl
  have G : Gc (p, l, e, s, m, #[Value.ref b], below, meth, c, (fun q : Nat => s.heap.size ≤ q), 0, 0) D RL cL_law 4 room_1 (some .boolean) (lw_Z below #[Value.ref b] s) [] [] 0 0 0 (lv_args 0 [.ref b]) [] := by
    refine gc_new (C := RX11) (T := TX11) (N := 14) (ci := 11) (fs := [.null, .null, .null, .null, .null, .null, .null, .null, .null, .null, .null, .null, .int 0, .int 0]) (pc' := 3) inlX11 tyX11 tyX11_ok rfl dL_law_0 rfl cl_L_7 inst_X11 ini_X11 (fun j hj => by rcases (show j = 0 ∨ j = 1 ∨ j = 2 ∨ j = 3 ∨ j = 4 ∨ j = 5 ∨ j = 6 ∨ j = 7 ∨ j = 8 ∨ j = 9 ∨ j = 10 ∨ j = 11 ∨ j = 12 ∨ j = 13 by omega) with rfl | rfl | rfl | rfl | rfl | rfl | rfl | rfl | rfl | rfl | rfl | rfl | rfl | rfl <;> rfl) (Nat.le_of_ble_eq_true rfl) (Nat.le_of_ble_eq_true rfl) (fun q1 => ?_)
    refine gc_dup (pc' := 4) dL_law_3 rfl rfl ?_
    refine gc_ctor (pc' := 7) (i_X11_init _ _ _) ex11_s ex11_w (ex11_start hts) ml_L_9 im_yX11_init ini_X11 co_yX11_init rfl ⟨by decide +kernel, by decide +kernel, by decide +kernel⟩ ⟨Nat.le_of_ble_eq_true rfl, Nat.le_of_ble_eq_true rfl⟩ ⟨rfl, rfl⟩ (Nat.le_of_ble_eq_true rfl) ⟨Nat.le_of_ble_eq_true rfl, Nat.le_of_ble_eq_true rfl⟩ dL_law_4 rfl (fun u => ?_)
    refine gc_astore_n (i := 1) (pc' := 8) dL_law_7 rfl rfl (by decide) ?_
    refine gc_new (C := RX12) (T := TX12) (N := 52) (ci := 12) (fs := [.int 0, .int 0, .int 0, .int 0, .int 0, .null, .null, .null, .null, .null, .null, .null, .null, .null, .null, .null, .null, .null, .null, .null, .null, .null, .null, .null, .null, .null, .null, .null, .null, .null, .null, .int 0, .null, .int 0, .int 0, .int 0, .int 0, .null, .null, .null, .int 0, .null, .null, .null, .null, .null, .null, .null, .null, .int 0, .null, .null]) (pc' := 11) inlX12 tyX12 tyX12_ok rfl dL_law_8 rfl cl_L_10 inst_X12 ini_X12 (fun j hj => by rcases (show j = 0 ∨ j = 1 ∨ j = 2 ∨ j = 3 ∨ j = 4 ∨ j = 5 ∨ j = 6 ∨ j = 7 ∨ j = 8 ∨ j = 9 ∨ j = 10 ∨ j = 11 ∨ j = 12 ∨ j = 13 ∨ j = 14 ∨ j = 15 ∨ j = 16 ∨ j = 17 ∨ j = 18 ∨ j = 19 ∨ j = 20 ∨ j = 21 ∨ j = 22 ∨ j = 23 ∨ j = 24 ∨ j = 25 ∨ j = 26 ∨ j = 27 ∨ j = 28 ∨ j = 29 ∨ j = 30 ∨ j = 31 ∨ j = 32 ∨ j = 33 ∨ j = 34 ∨ j = 35 ∨ j = 36 ∨ j = 37 ∨ j = 38 ∨ j = 39 ∨ j = 40 ∨ j = 41 ∨ j = 42 ∨ j = 43 ∨ j = 44 ∨ j = 45 ∨ j = 46 ∨ j = 47 ∨ j = 48 ∨ j = 49 ∨ j = 50 ∨ j = 51 by omega) with rfl | rfl | rfl | rfl | rfl | rfl | rfl | rfl | rfl | rfl | rfl | rfl | rfl | rfl | rfl | rfl | rfl | rfl | rfl | rfl | rfl | rfl | rfl | rfl | rfl | rfl | rfl | rfl | rfl | rfl | rfl | rfl | rfl | rfl | rfl | rfl | rfl | rfl | rfl | rfl | rfl | rfl | rfl | rfl | rfl | rfl | rfl | rfl | rfl | rfl | rfl | rfl <;> rfl) (Nat.le_of_ble_eq_true rfl) (Nat.le_of_ble_eq_true rfl) (fun q2 => ?_)
    refine gc_dup (pc' := 12) dL_law_11 rfl rfl ?_
    refine gc_ctor (pc' := 15) (i_X12_init _ _ _) exT_s exT_w trivial ml_L_12 im_yX12_init ini_X12 co_yX12_init rfl ⟨by decide +kernel, by decide +kernel, by decide +kernel⟩ ⟨Nat.le_of_ble_eq_true rfl, Nat.le_of_ble_eq_true rfl⟩ ⟨rfl, rfl⟩ (Nat.le_of_ble_eq_true rfl) ⟨Nat.le_of_ble_eq_true rfl, Nat.le_of_ble_eq_true rfl⟩ dL_law_12 rfl (fun v => ?_)
    refine gc_astore_n (i := 2) (pc' := 16) dL_law_15 rfl rfl (by decide) ?_
    refine gc_iconst (v := 0) (pc' := 17) dL_law_16 rfl (by decide) ?_
    refine gc_istore_n (i := 3) (pc' := 18) dL_law_17 rfl rfl (by decide) ?_
    refine gc_lv (lv' := [(0, .ref b), (1, .ref q1), (2, .ref q2), (3, .int 0)]) rfl ?_
    refine gc_ws (ws' := bigL q1 q2 u v.1) rfl ?_
    intro hok H locs ls hK hP hD hS hl
    have hI := conv_I (D := D) hD
    exact law_go (F := (p, l, e, s, m, #[Value.ref b], below, meth, c, (fun q : Nat => s.heap.size ≤ q), 0 + 1 + 94 + 1 + 40, 0 + 14 + 3909 + 52 + 6728)) (L := lyL D q1 q2 u v.1) hL hX hbl hbA (go_lend (Nat.le_of_ble_eq_true rfl) (Nat.le_of_ble_eq_true rfl)) _ _ 0 (inv_L v.2) (by decide) rfl ⟨hx, hb, hml, hown, fun w h => hts w (wd_tbl h), conv_K hK, hI.1, hI.2, hr, hlocks, abv_start hts hgv, Nat.le_of_ble_eq_true rfl, Nat.le_of_ble_eq_true rfl⟩ H locs ls (conv_P hP) hS hl
  have hl := lv_entry ([.ref b]) (n := 4) (Nat.le_of_ble_eq_true rfl)
  rw [lg_entry_eq]
  exact G ⟨hx, hb, hml, hown, fun w h => hts w (wd_tbl h), hr, hlocks, fun _ h => h, fun h => absurd rfl h⟩ s.heap [] _ ⟨hKc, fun k q h => by simp at h⟩ (fun k q h => by simp at h) ⟨fun i j p q h => by simp at h, fun k q h => by simp at h⟩ va_S.rf hl
