/-! ===== rows with their facts in Int ===== -/
theorem z32 : (0 : Int32).toInt = 0 := by decide
theorem gz_if_lt {F : FX} {L : WL} {own : String} {cc : ByteArray} {nL : Nat} {R : Room} {ret : Option FieldType} {Q : State → Prop} {σ : ST} {pc pc' : Nat} {lv : List (Nat × Value)} {st : List Value} {x : Int32} {off : Int} {tgt : Nat} (hdg : decode cc pc = .ok (.ifCond .lt off, 3)) (hp : pc + 3 = pc') (ht : (pc : Int) + off = (tgt : Int)) (k1 : x.toInt < 0 → Go F L own cc nL R ret Q σ tgt lv st) (k2 : 0 ≤ x.toInt → Go F L own cc nL R ret Q σ pc' lv st) : Go F L own cc nL R ret Q σ pc lv (.int x :: st) := go_if_lt hdg hp ht (fun h => k1 (by simp only [Int32.lt_iff_toInt_lt, Int32.le_iff_toInt_le, ← Int32.toInt_inj, ge_iff_le, gt_iff_lt, ne_eq, Int32.reduceToInt] at h; omega)) (fun h => k2 (by simp only [Int32.lt_iff_toInt_lt, Int32.le_iff_toInt_le, ← Int32.toInt_inj, ge_iff_le, gt_iff_lt, ne_eq, Int32.reduceToInt] at h; omega))
theorem gz_icmp_lt {F : FX} {L : WL} {own : String} {cc : ByteArray} {nL : Nat} {R : Room} {ret : Option FieldType} {Q : State → Prop} {σ : ST} {pc pc' : Nat} {lv : List (Nat × Value)} {st : List Value} {x y : Int32} {off : Int} {tgt : Nat} (hdg : decode cc pc = .ok (.if_icmp .lt off, 3)) (hp : pc + 3 = pc') (ht : (pc : Int) + off = (tgt : Int)) (k1 : x.toInt < y.toInt → Go F L own cc nL R ret Q σ tgt lv st) (k2 : y.toInt ≤ x.toInt → Go F L own cc nL R ret Q σ pc' lv st) : Go F L own cc nL R ret Q σ pc lv (.int y :: .int x :: st) := go_icmp_lt hdg hp ht (fun h => k1 (by simp only [Int32.lt_iff_toInt_lt, Int32.le_iff_toInt_le, ← Int32.toInt_inj, ge_iff_le, gt_iff_lt, ne_eq, Int32.reduceToInt] at h; omega)) (fun h => k2 (by simp only [Int32.lt_iff_toInt_lt, Int32.le_iff_toInt_le, ← Int32.toInt_inj, ge_iff_le, gt_iff_lt, ne_eq, Int32.reduceToInt] at h; omega))
theorem gz_if_ge {F : FX} {L : WL} {own : String} {cc : ByteArray} {nL : Nat} {R : Room} {ret : Option FieldType} {Q : State → Prop} {σ : ST} {pc pc' : Nat} {lv : List (Nat × Value)} {st : List Value} {x : Int32} {off : Int} {tgt : Nat} (hdg : decode cc pc = .ok (.ifCond .ge off, 3)) (hp : pc + 3 = pc') (ht : (pc : Int) + off = (tgt : Int)) (k1 : 0 ≤ x.toInt → Go F L own cc nL R ret Q σ tgt lv st) (k2 : x.toInt < 0 → Go F L own cc nL R ret Q σ pc' lv st) : Go F L own cc nL R ret Q σ pc lv (.int x :: st) := go_if_ge hdg hp ht (fun h => k1 (by simp only [Int32.lt_iff_toInt_lt, Int32.le_iff_toInt_le, ← Int32.toInt_inj, ge_iff_le, gt_iff_lt, ne_eq, Int32.reduceToInt] at h; omega)) (fun h => k2 (by simp only [Int32.lt_iff_toInt_lt, Int32.le_iff_toInt_le, ← Int32.toInt_inj, ge_iff_le, gt_iff_lt, ne_eq, Int32.reduceToInt] at h; omega))
theorem gz_icmp_ge {F : FX} {L : WL} {own : String} {cc : ByteArray} {nL : Nat} {R : Room} {ret : Option FieldType} {Q : State → Prop} {σ : ST} {pc pc' : Nat} {lv : List (Nat × Value)} {st : List Value} {x y : Int32} {off : Int} {tgt : Nat} (hdg : decode cc pc = .ok (.if_icmp .ge off, 3)) (hp : pc + 3 = pc') (ht : (pc : Int) + off = (tgt : Int)) (k1 : y.toInt ≤ x.toInt → Go F L own cc nL R ret Q σ tgt lv st) (k2 : x.toInt < y.toInt → Go F L own cc nL R ret Q σ pc' lv st) : Go F L own cc nL R ret Q σ pc lv (.int y :: .int x :: st) := go_icmp_ge hdg hp ht (fun h => k1 (by simp only [Int32.lt_iff_toInt_lt, Int32.le_iff_toInt_le, ← Int32.toInt_inj, ge_iff_le, gt_iff_lt, ne_eq, Int32.reduceToInt] at h; omega)) (fun h => k2 (by simp only [Int32.lt_iff_toInt_lt, Int32.le_iff_toInt_le, ← Int32.toInt_inj, ge_iff_le, gt_iff_lt, ne_eq, Int32.reduceToInt] at h; omega))
theorem gz_if_gt {F : FX} {L : WL} {own : String} {cc : ByteArray} {nL : Nat} {R : Room} {ret : Option FieldType} {Q : State → Prop} {σ : ST} {pc pc' : Nat} {lv : List (Nat × Value)} {st : List Value} {x : Int32} {off : Int} {tgt : Nat} (hdg : decode cc pc = .ok (.ifCond .gt off, 3)) (hp : pc + 3 = pc') (ht : (pc : Int) + off = (tgt : Int)) (k1 : 0 < x.toInt → Go F L own cc nL R ret Q σ tgt lv st) (k2 : x.toInt ≤ 0 → Go F L own cc nL R ret Q σ pc' lv st) : Go F L own cc nL R ret Q σ pc lv (.int x :: st) := go_if_gt hdg hp ht (fun h => k1 (by simp only [Int32.lt_iff_toInt_lt, Int32.le_iff_toInt_le, ← Int32.toInt_inj, ge_iff_le, gt_iff_lt, ne_eq, Int32.reduceToInt] at h; omega)) (fun h => k2 (by simp only [Int32.lt_iff_toInt_lt, Int32.le_iff_toInt_le, ← Int32.toInt_inj, ge_iff_le, gt_iff_lt, ne_eq, Int32.reduceToInt] at h; omega))
theorem gz_icmp_gt {F : FX} {L : WL} {own : String} {cc : ByteArray} {nL : Nat} {R : Room} {ret : Option FieldType} {Q : State → Prop} {σ : ST} {pc pc' : Nat} {lv : List (Nat × Value)} {st : List Value} {x y : Int32} {off : Int} {tgt : Nat} (hdg : decode cc pc = .ok (.if_icmp .gt off, 3)) (hp : pc + 3 = pc') (ht : (pc : Int) + off = (tgt : Int)) (k1 : y.toInt < x.toInt → Go F L own cc nL R ret Q σ tgt lv st) (k2 : x.toInt ≤ y.toInt → Go F L own cc nL R ret Q σ pc' lv st) : Go F L own cc nL R ret Q σ pc lv (.int y :: .int x :: st) := go_icmp_gt hdg hp ht (fun h => k1 (by simp only [Int32.lt_iff_toInt_lt, Int32.le_iff_toInt_le, ← Int32.toInt_inj, ge_iff_le, gt_iff_lt, ne_eq, Int32.reduceToInt] at h; omega)) (fun h => k2 (by simp only [Int32.lt_iff_toInt_lt, Int32.le_iff_toInt_le, ← Int32.toInt_inj, ge_iff_le, gt_iff_lt, ne_eq, Int32.reduceToInt] at h; omega))
theorem gz_if_le {F : FX} {L : WL} {own : String} {cc : ByteArray} {nL : Nat} {R : Room} {ret : Option FieldType} {Q : State → Prop} {σ : ST} {pc pc' : Nat} {lv : List (Nat × Value)} {st : List Value} {x : Int32} {off : Int} {tgt : Nat} (hdg : decode cc pc = .ok (.ifCond .le off, 3)) (hp : pc + 3 = pc') (ht : (pc : Int) + off = (tgt : Int)) (k1 : x.toInt ≤ 0 → Go F L own cc nL R ret Q σ tgt lv st) (k2 : 0 < x.toInt → Go F L own cc nL R ret Q σ pc' lv st) : Go F L own cc nL R ret Q σ pc lv (.int x :: st) := go_if_le hdg hp ht (fun h => k1 (by simp only [Int32.lt_iff_toInt_lt, Int32.le_iff_toInt_le, ← Int32.toInt_inj, ge_iff_le, gt_iff_lt, ne_eq, Int32.reduceToInt] at h; omega)) (fun h => k2 (by simp only [Int32.lt_iff_toInt_lt, Int32.le_iff_toInt_le, ← Int32.toInt_inj, ge_iff_le, gt_iff_lt, ne_eq, Int32.reduceToInt] at h; omega))
theorem gz_icmp_le {F : FX} {L : WL} {own : String} {cc : ByteArray} {nL : Nat} {R : Room} {ret : Option FieldType} {Q : State → Prop} {σ : ST} {pc pc' : Nat} {lv : List (Nat × Value)} {st : List Value} {x y : Int32} {off : Int} {tgt : Nat} (hdg : decode cc pc = .ok (.if_icmp .le off, 3)) (hp : pc + 3 = pc') (ht : (pc : Int) + off = (tgt : Int)) (k1 : x.toInt ≤ y.toInt → Go F L own cc nL R ret Q σ tgt lv st) (k2 : y.toInt < x.toInt → Go F L own cc nL R ret Q σ pc' lv st) : Go F L own cc nL R ret Q σ pc lv (.int y :: .int x :: st) := go_icmp_le hdg hp ht (fun h => k1 (by simp only [Int32.lt_iff_toInt_lt, Int32.le_iff_toInt_le, ← Int32.toInt_inj, ge_iff_le, gt_iff_lt, ne_eq, Int32.reduceToInt] at h; omega)) (fun h => k2 (by simp only [Int32.lt_iff_toInt_lt, Int32.le_iff_toInt_le, ← Int32.toInt_inj, ge_iff_le, gt_iff_lt, ne_eq, Int32.reduceToInt] at h; omega))
theorem gz_if_eq {F : FX} {L : WL} {own : String} {cc : ByteArray} {nL : Nat} {R : Room} {ret : Option FieldType} {Q : State → Prop} {σ : ST} {pc pc' : Nat} {lv : List (Nat × Value)} {st : List Value} {x : Int32} {off : Int} {tgt : Nat} (hdg : decode cc pc = .ok (.ifCond .eq off, 3)) (hp : pc + 3 = pc') (ht : (pc : Int) + off = (tgt : Int)) (k1 : x.toInt = 0 → Go F L own cc nL R ret Q σ tgt lv st) (k2 : x.toInt ≠ 0 → Go F L own cc nL R ret Q σ pc' lv st) : Go F L own cc nL R ret Q σ pc lv (.int x :: st) := go_if_eq hdg hp ht (fun h => k1 (by simp only [Int32.lt_iff_toInt_lt, Int32.le_iff_toInt_le, ← Int32.toInt_inj, ge_iff_le, gt_iff_lt, ne_eq, Int32.reduceToInt] at h; omega)) (fun h => k2 (by simp only [Int32.lt_iff_toInt_lt, Int32.le_iff_toInt_le, ← Int32.toInt_inj, ge_iff_le, gt_iff_lt, ne_eq, Int32.reduceToInt] at h; omega))
theorem gz_icmp_eq {F : FX} {L : WL} {own : String} {cc : ByteArray} {nL : Nat} {R : Room} {ret : Option FieldType} {Q : State → Prop} {σ : ST} {pc pc' : Nat} {lv : List (Nat × Value)} {st : List Value} {x y : Int32} {off : Int} {tgt : Nat} (hdg : decode cc pc = .ok (.if_icmp .eq off, 3)) (hp : pc + 3 = pc') (ht : (pc : Int) + off = (tgt : Int)) (k1 : x.toInt = y.toInt → Go F L own cc nL R ret Q σ tgt lv st) (k2 : x.toInt ≠ y.toInt → Go F L own cc nL R ret Q σ pc' lv st) : Go F L own cc nL R ret Q σ pc lv (.int y :: .int x :: st) := go_icmp_eq hdg hp ht (fun h => k1 (by simp only [Int32.lt_iff_toInt_lt, Int32.le_iff_toInt_le, ← Int32.toInt_inj, ge_iff_le, gt_iff_lt, ne_eq, Int32.reduceToInt] at h; omega)) (fun h => k2 (by simp only [Int32.lt_iff_toInt_lt, Int32.le_iff_toInt_le, ← Int32.toInt_inj, ge_iff_le, gt_iff_lt, ne_eq, Int32.reduceToInt] at h; omega))
theorem gz_if_ne {F : FX} {L : WL} {own : String} {cc : ByteArray} {nL : Nat} {R : Room} {ret : Option FieldType} {Q : State → Prop} {σ : ST} {pc pc' : Nat} {lv : List (Nat × Value)} {st : List Value} {x : Int32} {off : Int} {tgt : Nat} (hdg : decode cc pc = .ok (.ifCond .ne off, 3)) (hp : pc + 3 = pc') (ht : (pc : Int) + off = (tgt : Int)) (k1 : x.toInt ≠ 0 → Go F L own cc nL R ret Q σ tgt lv st) (k2 : x.toInt = 0 → Go F L own cc nL R ret Q σ pc' lv st) : Go F L own cc nL R ret Q σ pc lv (.int x :: st) := go_if_ne hdg hp ht (fun h => k1 (by simp only [Int32.lt_iff_toInt_lt, Int32.le_iff_toInt_le, ← Int32.toInt_inj, ge_iff_le, gt_iff_lt, ne_eq, Int32.reduceToInt] at h; omega)) (fun h => k2 (by simp only [Int32.lt_iff_toInt_lt, Int32.le_iff_toInt_le, ← Int32.toInt_inj, ge_iff_le, gt_iff_lt, ne_eq, Int32.reduceToInt] at h; omega))
theorem gz_icmp_ne {F : FX} {L : WL} {own : String} {cc : ByteArray} {nL : Nat} {R : Room} {ret : Option FieldType} {Q : State → Prop} {σ : ST} {pc pc' : Nat} {lv : List (Nat × Value)} {st : List Value} {x y : Int32} {off : Int} {tgt : Nat} (hdg : decode cc pc = .ok (.if_icmp .ne off, 3)) (hp : pc + 3 = pc') (ht : (pc : Int) + off = (tgt : Int)) (k1 : x.toInt ≠ y.toInt → Go F L own cc nL R ret Q σ tgt lv st) (k2 : x.toInt = y.toInt → Go F L own cc nL R ret Q σ pc' lv st) : Go F L own cc nL R ret Q σ pc lv (.int y :: .int x :: st) := go_icmp_ne hdg hp ht (fun h => k1 (by simp only [Int32.lt_iff_toInt_lt, Int32.le_iff_toInt_le, ← Int32.toInt_inj, ge_iff_le, gt_iff_lt, ne_eq, Int32.reduceToInt] at h; omega)) (fun h => k2 (by simp only [Int32.lt_iff_toInt_lt, Int32.le_iff_toInt_le, ← Int32.toInt_inj, ge_iff_le, gt_iff_lt, ne_eq, Int32.reduceToInt] at h; omega))
theorem gz_iadd {F : FX} {L : WL} {own : String} {cc : ByteArray} {nL : Nat} {R : Room} {ret : Option FieldType} {Q : State → Prop} {σ : ST} {pc pc' : Nat} {lv : List (Nat × Value)} {st : List Value} {x y : Int32} (hdg : decode cc pc = .ok (.iadd, 1)) (hp : pc + 1 = pc') (h1 : -2147483648 ≤ x.toInt + y.toInt ∧ x.toInt + y.toInt < 2147483648) (k : ∀ v : Int32, v = x + y → v.toInt = x.toInt + y.toInt → Go F L own cc nL R ret Q σ pc' lv (.int v :: st)) : Go F L own cc nL R ret Q σ pc lv (.int y :: .int x :: st) := go_iadd hdg hp (k _ rfl (i32_add h1.1 h1.2))
theorem gz_isub {F : FX} {L : WL} {own : String} {cc : ByteArray} {nL : Nat} {R : Room} {ret : Option FieldType} {Q : State → Prop} {σ : ST} {pc pc' : Nat} {lv : List (Nat × Value)} {st : List Value} {x y : Int32} (hdg : decode cc pc = .ok (.isub, 1)) (hp : pc + 1 = pc') (h1 : -2147483648 ≤ x.toInt - y.toInt ∧ x.toInt - y.toInt < 2147483648) (k : ∀ v : Int32, v = x - y → v.toInt = x.toInt - y.toInt → Go F L own cc nL R ret Q σ pc' lv (.int v :: st)) : Go F L own cc nL R ret Q σ pc lv (.int y :: .int x :: st) := go_isub hdg hp (k _ rfl (i32_sub h1.1 h1.2))
theorem gz_imul {F : FX} {L : WL} {own : String} {cc : ByteArray} {nL : Nat} {R : Room} {ret : Option FieldType} {Q : State → Prop} {σ : ST} {pc pc' : Nat} {lv : List (Nat × Value)} {st : List Value} {x y : Int32} (hdg : decode cc pc = .ok (.imul, 1)) (hp : pc + 1 = pc') (h1 : -2147483648 ≤ x.toInt * y.toInt ∧ x.toInt * y.toInt < 2147483648) (k : ∀ v : Int32, v = x * y → v.toInt = x.toInt * y.toInt → Go F L own cc nL R ret Q σ pc' lv (.int v :: st)) : Go F L own cc nL R ret Q σ pc lv (.int y :: .int x :: st) := go_imul hdg hp (k _ rfl (i32_mul h1.1 h1.2))
theorem gz_iinc {F : FX} {L : WL} {own : String} {cc : ByteArray} {nL : Nat} {R : Room} {ret : Option FieldType} {Q : State → Prop} {σ : ST} {pc pc' : Nat} {lv : List (Nat × Value)} {st : List Value} {n : Nat} {d : Int} {x c : Int32} (hdg : decode cc pc = .ok (.iinc n d, 3)) (hp : pc + 3 = pc') (hv : lvg lv n = some (.int x)) (hc : Int32.ofInt d = c) (hn : n < nL) (e : c.toInt = d) (h1 : -2147483648 ≤ x.toInt + d ∧ x.toInt + d < 2147483648) (k : ∀ v : Int32, v = x + c → v.toInt = x.toInt + d → Go F L own cc nL R ret Q σ pc' (lvs lv n (.int v)) st) : Go F L own cc nL R ret Q σ pc lv st := go_iinc hdg hp hv hc hn (k _ rfl ((i32_add (by rw [e]; exact h1.1) (by rw [e]; exact h1.2)).trans (by rw [e])))
theorem go_topz {F : FX} {L : WL} {own : String} {cc : ByteArray} {nL : Nat} {R : Room} {ret : Option FieldType} {Q : State → Prop} {σ : ST} {pc : Nat} {lv : List (Nat × Value)} {st : List Value} {x : Int32} (k : ∀ y : Int32, y = x → y.toInt = x.toInt → Go F L own cc nL R ret Q σ pc lv (.int y :: st)) : Go F L own cc nL R ret Q σ pc lv (.int x :: st) := k x rfl rfl
theorem go_topq {F : FX} {L : WL} {own : String} {cc : ByteArray} {nL : Nat} {R : Room} {ret : Option FieldType} {Q : State → Prop} {σ : ST} {pc : Nat} {lv : List (Nat × Value)} {st : List Value} {x y : Int32} (h : x = y) (k : Go F L own cc nL R ret Q σ pc lv (.int y :: st)) : Go F L own cc nL R ret Q σ pc lv (.int x :: st) := h ▸ k
theorem go_gen {F : FX} {L : WL} {own : String} {cc : ByteArray} {nL : Nat} {R : Room} {ret : Option FieldType} {Q : State → Prop} {σ : ST} {pc : Nat} {lv : List (Nat × Value)} {st : List Value} {P : ST → Prop} (hP : P σ) (k : ∀ σ2 : ST, P σ2 → Go F L own cc nL R ret Q σ2 pc lv st) : Go F L own cc nL R ret Q σ pc lv st := k σ hP
theorem go_rngA {F : FX} {L : WL} {own : String} {cc : ByteArray} {nL : Nat} {R : Room} {ret : Option FieldType} {Q : State → Prop} {σ : ST} {pc : Nat} {lv : List (Nat × Value)} {st : List Value} {a j n : Nat} {lo hi : Int} (h : ∀ i : Nat, i < n → lo ≤ (σ.2 a i).toInt ∧ (σ.2 a i).toInt ≤ hi) (hj : j < n) (k : (lo ≤ (σ.2 a j).toInt ∧ (σ.2 a j).toInt ≤ hi) → Go F L own cc nL R ret Q σ pc lv (.int (σ.2 a j) :: st)) : Go F L own cc nL R ret Q σ pc lv (.int (σ.2 a j) :: st) := k (h j hj)
theorem gz_max_f (x y v : Int32) (h : v = if x < y then y else x) : x.toInt ≤ v.toInt ∧ y.toInt ≤ v.toInt ∧ (v.toInt = x.toInt ∨ v.toInt = y.toInt) := by
  subst h
  split
  · rename_i h
    simp only [Int32.lt_iff_toInt_lt, Int32.le_iff_toInt_le, ← Int32.toInt_inj, ge_iff_le, gt_iff_lt, ne_eq, Int32.reduceToInt] at h
    omega
  · rename_i h
    simp only [Int32.lt_iff_toInt_lt, Int32.le_iff_toInt_le, ← Int32.toInt_inj, ge_iff_le, gt_iff_lt, ne_eq, Int32.reduceToInt] at h
    omega
theorem gz_max {F : FX} {L : WL} {own : String} {cc : ByteArray} {nL : Nat} {R : Room} {ret : Option FieldType} {Q : State → Prop} {σ : ST} {pc pc' : Nat} {lv : List (Nat × Value)} {st : List Value} {idx : Nat} {x y : Int32} (hdg : decode cc pc = .ok (.invokestatic idx, 3)) (hp : pc + 3 = pc') (hlk : Cond.methodLink own idx Lib.Math.max.name ∈ WD) (hw : (st.map fun v => v.category).sum + 13 ≤ R.locals) (hf : 1 ≤ R.frames) (k : ∀ v : Int32, (v = if x < y then y else x) → (x.toInt ≤ v.toInt ∧ y.toInt ≤ v.toInt ∧ (v.toInt = x.toInt ∨ v.toInt = y.toInt)) → Go F L own cc nL R ret Q σ pc' lv (.int v :: st)) : Go F L own cc nL R ret Q σ pc lv (.int y :: .int x :: st) := go_max hdg hp hlk hw hf (k _ rfl (gz_max_f x y _ rfl))
theorem gz_min_f (x y v : Int32) (h : v = if y < x then y else x) : v.toInt ≤ x.toInt ∧ v.toInt ≤ y.toInt ∧ (v.toInt = x.toInt ∨ v.toInt = y.toInt) := by
  subst h
  split
  · rename_i h
    simp only [Int32.lt_iff_toInt_lt, Int32.le_iff_toInt_le, ← Int32.toInt_inj, ge_iff_le, gt_iff_lt, ne_eq, Int32.reduceToInt] at h
    omega
  · rename_i h
    simp only [Int32.lt_iff_toInt_lt, Int32.le_iff_toInt_le, ← Int32.toInt_inj, ge_iff_le, gt_iff_lt, ne_eq, Int32.reduceToInt] at h
    omega
theorem gz_min {F : FX} {L : WL} {own : String} {cc : ByteArray} {nL : Nat} {R : Room} {ret : Option FieldType} {Q : State → Prop} {σ : ST} {pc pc' : Nat} {lv : List (Nat × Value)} {st : List Value} {idx : Nat} {x y : Int32} (hdg : decode cc pc = .ok (.invokestatic idx, 3)) (hp : pc + 3 = pc') (hlk : Cond.methodLink own idx Lib.Math.min.name ∈ WD) (hw : (st.map fun v => v.category).sum + 13 ≤ R.locals) (hf : 1 ≤ R.frames) (k : ∀ v : Int32, (v = if y < x then y else x) → (v.toInt ≤ x.toInt ∧ v.toInt ≤ y.toInt ∧ (v.toInt = x.toInt ∨ v.toInt = y.toInt)) → Go F L own cc nL R ret Q σ pc' lv (.int v :: st)) : Go F L own cc nL R ret Q σ pc lv (.int y :: .int x :: st) := go_min hdg hp hlk hw hf (k _ rfl (gz_min_f x y _ rfl))
/-- the head of a method by its own name (one of a class that has natives) -/
theorem ctI_goF {l : Launch} {L : WL} {y : MethodName} {cc : ByteArray} {nL : Nat} {ret : Option FieldType} {rm : Room} {av : List Value} {σ : ST} {post : Int32 → ST → Prop} {own : String} (hy : plainFor y = true) (ho : y.cls = own) (hn : (lg_sl av).length ≤ nL)
    (body : ∀ F : FX, F.2.1 = l → Go F L own cc nL rm ret (RI F L post) σ 0 (lv_args 0 av) []) : CtI l L y cc nL ret rm av σ post := by
  subst ho
  show Met l y (Cond.code y cc nL ret :: WD) rm (va_Pc av (WOK L σ)) (va_Qi post (fun σ' t => va_P L.1 vwCl (xw L σ') t.heap) (AW L)) 0 0 (AW L)
  unfold Met
  refine MetFree.of_bodySF (code := cc) (maxLocals := nL) (ret := ret) hy ?_ ?_
  · intro args s m h hn2
    obtain ⟨meth, c, h1, h2, h3, h4, h5, h6, -, -⟩ := Cond.code_spec hn2 (atoms_spec (ws := Cond.code y cc nL ret :: WD) h _ List.mem_cons_self)
    exact ⟨meth, c, h1, h2, h3, h4, h5, h6⟩
  · intro p e s m args below meth c s₁ B hml hv _
    have hh0 : s₁.heap = s.heap := by rw [B.state]; rfl
    obtain ⟨rfl, hP, hK, hI, ha⟩ := hv
    have hts := atoms_spec (ws := Cond.code y cc nL ret :: WD) B.pre
    have hown : s.vm.findClass y.cls = some m.cls := findClass_of_methodNamed B.named
    have hl := lv_entry av (n := nL) hn
    have K := body (p, l, e, s, m, av.toArray, below, meth, c, AW L, 0, 0) rfl ⟨B.exec, B.bytes, hml, hown, fun w h => hts w (List.mem_cons_of_mem _ h), hK, hI, fun _ h => h, B.returns, B.notSynchronized, ha, Nat.zero_le _, Nat.zero_le _⟩ s.heap [] _ hP va_S.rf hl
    have K2 : W p l e rm s m av.toArray below meth c s.heap [] 0 0 (MQ below (va_Qi post (fun σ' t => va_P L.1 vwCl (xw L σ') t.heap) (AW L)) av.toArray s 0 0 (AW L)) (entryFrame m av.toArray nL) := by
      rw [lg_entry_eq]
      exact K
    obtain ⟨t, a1, o, b1, b2, b3⟩ := K2 s₁ hh0 (Stand.of_body B)
    exact ⟨t, o, a1, b1, b2, ⟨b3.1, b3.2⟩⟩
/-! ===== the invariant: ranges by tables ===== -/
def IVI : List (Nat × Int × Int) := [(2, 0, 10), (3, 0, 12), (4, 0, 20), (5, 0, 10), (6, 0, 160), (7, 0, 4), (14, 0, 160), (15, 0, 80), (16, 0, 80), (18, 0, 8), (19, 0, 10), (20, 0, 12), (21, 0, 20), (22, 0, 10), (23, 0, 160), (28, 0, 4), (29, 0, 320), (30, 0, 8)]
def IVA : List (Nat × Nat × Int × Int) := [(20, 10, 0, 5), (24, 12, 0, 5), (25, 12, 0, 9), (26, 12, 0, 9), (27, 12, 0, 5), (28, 12, 0, 9999), (29, 12, 0, 9999), (30, 12, (-1), 6), (31, 12, (-1), 11), (32, 12, 0, 160), (35, 20, 0, 11), (36, 20, 0, 11), (37, 20, (-500), 500), (38, 12, 0, 11), (40, 10, 0, 9), (43, 160, (-128), 127), (45, 160, (-128), 127), (46, 160, (-128), 127), (47, 80, 0, 160), (48, 80, 0, 160), (50, 160, (-128), 127), (51, 80, 0, 160), (52, 80, 0, 160), (54, 8, 0, 11), (55, 4, (-1), 60), (56, 160, (-128), 127), (57, 160, (-128), 127), (58, 160, (-128), 127), (59, 160, (-128), 127), (60, 160, (-128), 127), (61, 160, (-128), 127), (62, 160, (-128), 127), (63, 160, (-128), 127), (64, 160, (-128), 127), (65, 160, (-128), 127), (66, 160, (-128), 127), (67, 160, (-128), 127), (92, 60, (-128), 127), (93, 60, (-128), 127), (94, 60, (-128), 127), (95, 60, (-128), 127), (97, 10, 0, 5), (100, 100, 0, 1), (101, 12, 0, 5), (102, 12, 0, 9), (103, 12, 0, 9), (104, 12, 0, 5), (105, 12, 0, 9999), (106, 12, 0, 9999), (107, 12, (-1), 6), (108, 12, (-1), 11), (109, 12, 0, 160), (110, 1920, 0, 255), (111, 20, 0, 11), (112, 20, 0, 11), (113, 20, (-500), 500), (118, 10, 0, 9), (119, 160, 0, 255), (120, 12, (-1), 32000), (121, 12, (-32000), 10000), (127, 320, 0, 160), (128, 320, 0, 160), (129, 2, 0, 160), (132, 8, 0, 11), (133, 2048, 0, 100000000), (134, 4, (-1), 60), (135, 240, 0, 255)]
def IV (σ : ST) : Prop := (∀ q ∈ IVI, q.2.1 ≤ (σ.1 q.1).toInt ∧ (σ.1 q.1).toInt ≤ q.2.2) ∧ ∀ q ∈ IVA, ∀ j : Nat, j < q.2.1 → q.2.2.1 ≤ (σ.2 q.1 j).toInt ∧ (σ.2 q.1 j).toInt ≤ q.2.2.2
theorem ixi_2 {σ : ST} (h : IV σ) : 0 ≤ (σ.1 2).toInt ∧ (σ.1 2).toInt ≤ 10 := h.1 (2, 0, 10) (by decide)
theorem ixi_3 {σ : ST} (h : IV σ) : 0 ≤ (σ.1 3).toInt ∧ (σ.1 3).toInt ≤ 12 := h.1 (3, 0, 12) (by decide)
theorem ixi_4 {σ : ST} (h : IV σ) : 0 ≤ (σ.1 4).toInt ∧ (σ.1 4).toInt ≤ 20 := h.1 (4, 0, 20) (by decide)
theorem ixi_5 {σ : ST} (h : IV σ) : 0 ≤ (σ.1 5).toInt ∧ (σ.1 5).toInt ≤ 10 := h.1 (5, 0, 10) (by decide)
theorem ixi_6 {σ : ST} (h : IV σ) : 0 ≤ (σ.1 6).toInt ∧ (σ.1 6).toInt ≤ 160 := h.1 (6, 0, 160) (by decide)
theorem ixi_7 {σ : ST} (h : IV σ) : 0 ≤ (σ.1 7).toInt ∧ (σ.1 7).toInt ≤ 4 := h.1 (7, 0, 4) (by decide)
theorem ixi_14 {σ : ST} (h : IV σ) : 0 ≤ (σ.1 14).toInt ∧ (σ.1 14).toInt ≤ 160 := h.1 (14, 0, 160) (by decide)
theorem ixi_15 {σ : ST} (h : IV σ) : 0 ≤ (σ.1 15).toInt ∧ (σ.1 15).toInt ≤ 80 := h.1 (15, 0, 80) (by decide)
theorem ixi_16 {σ : ST} (h : IV σ) : 0 ≤ (σ.1 16).toInt ∧ (σ.1 16).toInt ≤ 80 := h.1 (16, 0, 80) (by decide)
theorem ixi_18 {σ : ST} (h : IV σ) : 0 ≤ (σ.1 18).toInt ∧ (σ.1 18).toInt ≤ 8 := h.1 (18, 0, 8) (by decide)
theorem ixi_19 {σ : ST} (h : IV σ) : 0 ≤ (σ.1 19).toInt ∧ (σ.1 19).toInt ≤ 10 := h.1 (19, 0, 10) (by decide)
theorem ixi_20 {σ : ST} (h : IV σ) : 0 ≤ (σ.1 20).toInt ∧ (σ.1 20).toInt ≤ 12 := h.1 (20, 0, 12) (by decide)
theorem ixi_21 {σ : ST} (h : IV σ) : 0 ≤ (σ.1 21).toInt ∧ (σ.1 21).toInt ≤ 20 := h.1 (21, 0, 20) (by decide)
theorem ixi_22 {σ : ST} (h : IV σ) : 0 ≤ (σ.1 22).toInt ∧ (σ.1 22).toInt ≤ 10 := h.1 (22, 0, 10) (by decide)
theorem ixi_23 {σ : ST} (h : IV σ) : 0 ≤ (σ.1 23).toInt ∧ (σ.1 23).toInt ≤ 160 := h.1 (23, 0, 160) (by decide)
theorem ixi_28 {σ : ST} (h : IV σ) : 0 ≤ (σ.1 28).toInt ∧ (σ.1 28).toInt ≤ 4 := h.1 (28, 0, 4) (by decide)
theorem ixi_29 {σ : ST} (h : IV σ) : 0 ≤ (σ.1 29).toInt ∧ (σ.1 29).toInt ≤ 320 := h.1 (29, 0, 320) (by decide)
theorem ixi_30 {σ : ST} (h : IV σ) : 0 ≤ (σ.1 30).toInt ∧ (σ.1 30).toInt ≤ 8 := h.1 (30, 0, 8) (by decide)
theorem ixa_20 {σ : ST} (h : IV σ) : ∀ j : Nat, j < 10 → 0 ≤ (σ.2 20 j).toInt ∧ (σ.2 20 j).toInt ≤ 5 := h.2 (20, 10, 0, 5) (by decide)
theorem ixa_24 {σ : ST} (h : IV σ) : ∀ j : Nat, j < 12 → 0 ≤ (σ.2 24 j).toInt ∧ (σ.2 24 j).toInt ≤ 5 := h.2 (24, 12, 0, 5) (by decide)
theorem ixa_25 {σ : ST} (h : IV σ) : ∀ j : Nat, j < 12 → 0 ≤ (σ.2 25 j).toInt ∧ (σ.2 25 j).toInt ≤ 9 := h.2 (25, 12, 0, 9) (by decide)
theorem ixa_26 {σ : ST} (h : IV σ) : ∀ j : Nat, j < 12 → 0 ≤ (σ.2 26 j).toInt ∧ (σ.2 26 j).toInt ≤ 9 := h.2 (26, 12, 0, 9) (by decide)
theorem ixa_27 {σ : ST} (h : IV σ) : ∀ j : Nat, j < 12 → 0 ≤ (σ.2 27 j).toInt ∧ (σ.2 27 j).toInt ≤ 5 := h.2 (27, 12, 0, 5) (by decide)
theorem ixa_28 {σ : ST} (h : IV σ) : ∀ j : Nat, j < 12 → 0 ≤ (σ.2 28 j).toInt ∧ (σ.2 28 j).toInt ≤ 9999 := h.2 (28, 12, 0, 9999) (by decide)
theorem ixa_29 {σ : ST} (h : IV σ) : ∀ j : Nat, j < 12 → 0 ≤ (σ.2 29 j).toInt ∧ (σ.2 29 j).toInt ≤ 9999 := h.2 (29, 12, 0, 9999) (by decide)
theorem ixa_30 {σ : ST} (h : IV σ) : ∀ j : Nat, j < 12 → (-1) ≤ (σ.2 30 j).toInt ∧ (σ.2 30 j).toInt ≤ 6 := h.2 (30, 12, (-1), 6) (by decide)
theorem ixa_31 {σ : ST} (h : IV σ) : ∀ j : Nat, j < 12 → (-1) ≤ (σ.2 31 j).toInt ∧ (σ.2 31 j).toInt ≤ 11 := h.2 (31, 12, (-1), 11) (by decide)
theorem ixa_32 {σ : ST} (h : IV σ) : ∀ j : Nat, j < 12 → 0 ≤ (σ.2 32 j).toInt ∧ (σ.2 32 j).toInt ≤ 160 := h.2 (32, 12, 0, 160) (by decide)
theorem ixa_35 {σ : ST} (h : IV σ) : ∀ j : Nat, j < 20 → 0 ≤ (σ.2 35 j).toInt ∧ (σ.2 35 j).toInt ≤ 11 := h.2 (35, 20, 0, 11) (by decide)
theorem ixa_36 {σ : ST} (h : IV σ) : ∀ j : Nat, j < 20 → 0 ≤ (σ.2 36 j).toInt ∧ (σ.2 36 j).toInt ≤ 11 := h.2 (36, 20, 0, 11) (by decide)
theorem ixa_37 {σ : ST} (h : IV σ) : ∀ j : Nat, j < 20 → (-500) ≤ (σ.2 37 j).toInt ∧ (σ.2 37 j).toInt ≤ 500 := h.2 (37, 20, (-500), 500) (by decide)
theorem ixa_38 {σ : ST} (h : IV σ) : ∀ j : Nat, j < 12 → 0 ≤ (σ.2 38 j).toInt ∧ (σ.2 38 j).toInt ≤ 11 := h.2 (38, 12, 0, 11) (by decide)
theorem ixa_40 {σ : ST} (h : IV σ) : ∀ j : Nat, j < 10 → 0 ≤ (σ.2 40 j).toInt ∧ (σ.2 40 j).toInt ≤ 9 := h.2 (40, 10, 0, 9) (by decide)
theorem ixa_43 {σ : ST} (h : IV σ) : ∀ j : Nat, j < 160 → (-128) ≤ (σ.2 43 j).toInt ∧ (σ.2 43 j).toInt ≤ 127 := h.2 (43, 160, (-128), 127) (by decide)
theorem ixa_45 {σ : ST} (h : IV σ) : ∀ j : Nat, j < 160 → (-128) ≤ (σ.2 45 j).toInt ∧ (σ.2 45 j).toInt ≤ 127 := h.2 (45, 160, (-128), 127) (by decide)
theorem ixa_46 {σ : ST} (h : IV σ) : ∀ j : Nat, j < 160 → (-128) ≤ (σ.2 46 j).toInt ∧ (σ.2 46 j).toInt ≤ 127 := h.2 (46, 160, (-128), 127) (by decide)
theorem ixa_47 {σ : ST} (h : IV σ) : ∀ j : Nat, j < 80 → 0 ≤ (σ.2 47 j).toInt ∧ (σ.2 47 j).toInt ≤ 160 := h.2 (47, 80, 0, 160) (by decide)
theorem ixa_48 {σ : ST} (h : IV σ) : ∀ j : Nat, j < 80 → 0 ≤ (σ.2 48 j).toInt ∧ (σ.2 48 j).toInt ≤ 160 := h.2 (48, 80, 0, 160) (by decide)
theorem ixa_50 {σ : ST} (h : IV σ) : ∀ j : Nat, j < 160 → (-128) ≤ (σ.2 50 j).toInt ∧ (σ.2 50 j).toInt ≤ 127 := h.2 (50, 160, (-128), 127) (by decide)
theorem ixa_51 {σ : ST} (h : IV σ) : ∀ j : Nat, j < 80 → 0 ≤ (σ.2 51 j).toInt ∧ (σ.2 51 j).toInt ≤ 160 := h.2 (51, 80, 0, 160) (by decide)
theorem ixa_52 {σ : ST} (h : IV σ) : ∀ j : Nat, j < 80 → 0 ≤ (σ.2 52 j).toInt ∧ (σ.2 52 j).toInt ≤ 160 := h.2 (52, 80, 0, 160) (by decide)
theorem ixa_54 {σ : ST} (h : IV σ) : ∀ j : Nat, j < 8 → 0 ≤ (σ.2 54 j).toInt ∧ (σ.2 54 j).toInt ≤ 11 := h.2 (54, 8, 0, 11) (by decide)
theorem ixa_55 {σ : ST} (h : IV σ) : ∀ j : Nat, j < 4 → (-1) ≤ (σ.2 55 j).toInt ∧ (σ.2 55 j).toInt ≤ 60 := h.2 (55, 4, (-1), 60) (by decide)
theorem ixa_56 {σ : ST} (h : IV σ) : ∀ j : Nat, j < 160 → (-128) ≤ (σ.2 56 j).toInt ∧ (σ.2 56 j).toInt ≤ 127 := h.2 (56, 160, (-128), 127) (by decide)
theorem ixa_57 {σ : ST} (h : IV σ) : ∀ j : Nat, j < 160 → (-128) ≤ (σ.2 57 j).toInt ∧ (σ.2 57 j).toInt ≤ 127 := h.2 (57, 160, (-128), 127) (by decide)
theorem ixa_58 {σ : ST} (h : IV σ) : ∀ j : Nat, j < 160 → (-128) ≤ (σ.2 58 j).toInt ∧ (σ.2 58 j).toInt ≤ 127 := h.2 (58, 160, (-128), 127) (by decide)
theorem ixa_59 {σ : ST} (h : IV σ) : ∀ j : Nat, j < 160 → (-128) ≤ (σ.2 59 j).toInt ∧ (σ.2 59 j).toInt ≤ 127 := h.2 (59, 160, (-128), 127) (by decide)
theorem ixa_60 {σ : ST} (h : IV σ) : ∀ j : Nat, j < 160 → (-128) ≤ (σ.2 60 j).toInt ∧ (σ.2 60 j).toInt ≤ 127 := h.2 (60, 160, (-128), 127) (by decide)
theorem ixa_61 {σ : ST} (h : IV σ) : ∀ j : Nat, j < 160 → (-128) ≤ (σ.2 61 j).toInt ∧ (σ.2 61 j).toInt ≤ 127 := h.2 (61, 160, (-128), 127) (by decide)
theorem ixa_62 {σ : ST} (h : IV σ) : ∀ j : Nat, j < 160 → (-128) ≤ (σ.2 62 j).toInt ∧ (σ.2 62 j).toInt ≤ 127 := h.2 (62, 160, (-128), 127) (by decide)
theorem ixa_63 {σ : ST} (h : IV σ) : ∀ j : Nat, j < 160 → (-128) ≤ (σ.2 63 j).toInt ∧ (σ.2 63 j).toInt ≤ 127 := h.2 (63, 160, (-128), 127) (by decide)
theorem ixa_64 {σ : ST} (h : IV σ) : ∀ j : Nat, j < 160 → (-128) ≤ (σ.2 64 j).toInt ∧ (σ.2 64 j).toInt ≤ 127 := h.2 (64, 160, (-128), 127) (by decide)
theorem ixa_65 {σ : ST} (h : IV σ) : ∀ j : Nat, j < 160 → (-128) ≤ (σ.2 65 j).toInt ∧ (σ.2 65 j).toInt ≤ 127 := h.2 (65, 160, (-128), 127) (by decide)
theorem ixa_66 {σ : ST} (h : IV σ) : ∀ j : Nat, j < 160 → (-128) ≤ (σ.2 66 j).toInt ∧ (σ.2 66 j).toInt ≤ 127 := h.2 (66, 160, (-128), 127) (by decide)
theorem ixa_67 {σ : ST} (h : IV σ) : ∀ j : Nat, j < 160 → (-128) ≤ (σ.2 67 j).toInt ∧ (σ.2 67 j).toInt ≤ 127 := h.2 (67, 160, (-128), 127) (by decide)
theorem ixa_92 {σ : ST} (h : IV σ) : ∀ j : Nat, j < 60 → (-128) ≤ (σ.2 92 j).toInt ∧ (σ.2 92 j).toInt ≤ 127 := h.2 (92, 60, (-128), 127) (by decide)
theorem ixa_93 {σ : ST} (h : IV σ) : ∀ j : Nat, j < 60 → (-128) ≤ (σ.2 93 j).toInt ∧ (σ.2 93 j).toInt ≤ 127 := h.2 (93, 60, (-128), 127) (by decide)
theorem ixa_94 {σ : ST} (h : IV σ) : ∀ j : Nat, j < 60 → (-128) ≤ (σ.2 94 j).toInt ∧ (σ.2 94 j).toInt ≤ 127 := h.2 (94, 60, (-128), 127) (by decide)
theorem ixa_95 {σ : ST} (h : IV σ) : ∀ j : Nat, j < 60 → (-128) ≤ (σ.2 95 j).toInt ∧ (σ.2 95 j).toInt ≤ 127 := h.2 (95, 60, (-128), 127) (by decide)
theorem ixa_97 {σ : ST} (h : IV σ) : ∀ j : Nat, j < 10 → 0 ≤ (σ.2 97 j).toInt ∧ (σ.2 97 j).toInt ≤ 5 := h.2 (97, 10, 0, 5) (by decide)
theorem ixa_100 {σ : ST} (h : IV σ) : ∀ j : Nat, j < 100 → 0 ≤ (σ.2 100 j).toInt ∧ (σ.2 100 j).toInt ≤ 1 := h.2 (100, 100, 0, 1) (by decide)
theorem ixa_101 {σ : ST} (h : IV σ) : ∀ j : Nat, j < 12 → 0 ≤ (σ.2 101 j).toInt ∧ (σ.2 101 j).toInt ≤ 5 := h.2 (101, 12, 0, 5) (by decide)
theorem ixa_102 {σ : ST} (h : IV σ) : ∀ j : Nat, j < 12 → 0 ≤ (σ.2 102 j).toInt ∧ (σ.2 102 j).toInt ≤ 9 := h.2 (102, 12, 0, 9) (by decide)
theorem ixa_103 {σ : ST} (h : IV σ) : ∀ j : Nat, j < 12 → 0 ≤ (σ.2 103 j).toInt ∧ (σ.2 103 j).toInt ≤ 9 := h.2 (103, 12, 0, 9) (by decide)
theorem ixa_104 {σ : ST} (h : IV σ) : ∀ j : Nat, j < 12 → 0 ≤ (σ.2 104 j).toInt ∧ (σ.2 104 j).toInt ≤ 5 := h.2 (104, 12, 0, 5) (by decide)
theorem ixa_105 {σ : ST} (h : IV σ) : ∀ j : Nat, j < 12 → 0 ≤ (σ.2 105 j).toInt ∧ (σ.2 105 j).toInt ≤ 9999 := h.2 (105, 12, 0, 9999) (by decide)
theorem ixa_106 {σ : ST} (h : IV σ) : ∀ j : Nat, j < 12 → 0 ≤ (σ.2 106 j).toInt ∧ (σ.2 106 j).toInt ≤ 9999 := h.2 (106, 12, 0, 9999) (by decide)
theorem ixa_107 {σ : ST} (h : IV σ) : ∀ j : Nat, j < 12 → (-1) ≤ (σ.2 107 j).toInt ∧ (σ.2 107 j).toInt ≤ 6 := h.2 (107, 12, (-1), 6) (by decide)
theorem ixa_108 {σ : ST} (h : IV σ) : ∀ j : Nat, j < 12 → (-1) ≤ (σ.2 108 j).toInt ∧ (σ.2 108 j).toInt ≤ 11 := h.2 (108, 12, (-1), 11) (by decide)
theorem ixa_109 {σ : ST} (h : IV σ) : ∀ j : Nat, j < 12 → 0 ≤ (σ.2 109 j).toInt ∧ (σ.2 109 j).toInt ≤ 160 := h.2 (109, 12, 0, 160) (by decide)
theorem ixa_110 {σ : ST} (h : IV σ) : ∀ j : Nat, j < 1920 → 0 ≤ (σ.2 110 j).toInt ∧ (σ.2 110 j).toInt ≤ 255 := h.2 (110, 1920, 0, 255) (by decide)
theorem ixa_111 {σ : ST} (h : IV σ) : ∀ j : Nat, j < 20 → 0 ≤ (σ.2 111 j).toInt ∧ (σ.2 111 j).toInt ≤ 11 := h.2 (111, 20, 0, 11) (by decide)
theorem ixa_112 {σ : ST} (h : IV σ) : ∀ j : Nat, j < 20 → 0 ≤ (σ.2 112 j).toInt ∧ (σ.2 112 j).toInt ≤ 11 := h.2 (112, 20, 0, 11) (by decide)
theorem ixa_113 {σ : ST} (h : IV σ) : ∀ j : Nat, j < 20 → (-500) ≤ (σ.2 113 j).toInt ∧ (σ.2 113 j).toInt ≤ 500 := h.2 (113, 20, (-500), 500) (by decide)
theorem ixa_118 {σ : ST} (h : IV σ) : ∀ j : Nat, j < 10 → 0 ≤ (σ.2 118 j).toInt ∧ (σ.2 118 j).toInt ≤ 9 := h.2 (118, 10, 0, 9) (by decide)
theorem ixa_119 {σ : ST} (h : IV σ) : ∀ j : Nat, j < 160 → 0 ≤ (σ.2 119 j).toInt ∧ (σ.2 119 j).toInt ≤ 255 := h.2 (119, 160, 0, 255) (by decide)
theorem ixa_120 {σ : ST} (h : IV σ) : ∀ j : Nat, j < 12 → (-1) ≤ (σ.2 120 j).toInt ∧ (σ.2 120 j).toInt ≤ 32000 := h.2 (120, 12, (-1), 32000) (by decide)
theorem ixa_121 {σ : ST} (h : IV σ) : ∀ j : Nat, j < 12 → (-32000) ≤ (σ.2 121 j).toInt ∧ (σ.2 121 j).toInt ≤ 10000 := h.2 (121, 12, (-32000), 10000) (by decide)
theorem ixa_127 {σ : ST} (h : IV σ) : ∀ j : Nat, j < 320 → 0 ≤ (σ.2 127 j).toInt ∧ (σ.2 127 j).toInt ≤ 160 := h.2 (127, 320, 0, 160) (by decide)
theorem ixa_128 {σ : ST} (h : IV σ) : ∀ j : Nat, j < 320 → 0 ≤ (σ.2 128 j).toInt ∧ (σ.2 128 j).toInt ≤ 160 := h.2 (128, 320, 0, 160) (by decide)
theorem ixa_129 {σ : ST} (h : IV σ) : ∀ j : Nat, j < 2 → 0 ≤ (σ.2 129 j).toInt ∧ (σ.2 129 j).toInt ≤ 160 := h.2 (129, 2, 0, 160) (by decide)
theorem ixa_132 {σ : ST} (h : IV σ) : ∀ j : Nat, j < 8 → 0 ≤ (σ.2 132 j).toInt ∧ (σ.2 132 j).toInt ≤ 11 := h.2 (132, 8, 0, 11) (by decide)
theorem ixa_133 {σ : ST} (h : IV σ) : ∀ j : Nat, j < 2048 → 0 ≤ (σ.2 133 j).toInt ∧ (σ.2 133 j).toInt ≤ 100000000 := h.2 (133, 2048, 0, 100000000) (by decide)
theorem ixa_134 {σ : ST} (h : IV σ) : ∀ j : Nat, j < 4 → (-1) ≤ (σ.2 134 j).toInt ∧ (σ.2 134 j).toInt ≤ 60 := h.2 (134, 4, (-1), 60) (by decide)
theorem ixa_135 {σ : ST} (h : IV σ) : ∀ j : Nat, j < 240 → 0 ≤ (σ.2 135 j).toInt ∧ (σ.2 135 j).toInt ≤ 255 := h.2 (135, 240, 0, 255) (by decide)
theorem IV_setI {σ : ST} {i : Nat} {v : Int32} (h : IV σ) (hv : ∀ q ∈ IVI, q.1 = i → q.2.1 ≤ v.toInt ∧ v.toInt ≤ q.2.2) : IV (setI σ i v) := by
  refine ⟨fun q hq => ?_, fun q hq => h.2 q hq⟩
  by_cases e : q.1 = i
  · rw [e, setI_same]
    exact hv q hq e
  · rw [setI_ne σ i v e]
    exact h.1 q hq
theorem IV_setA {σ : ST} {a j : Nat} {v : Int32} (h : IV σ) (hv : ∀ q ∈ IVA, q.1 = a → q.2.2.1 ≤ v.toInt ∧ v.toInt ≤ q.2.2.2) : IV (setA σ a j v) := by
  refine ⟨fun q hq => h.1 q hq, fun q hq i hi => ?_⟩
  by_cases e : q.1 = a
  · rw [e, setA_same]
    by_cases e2 : i = j
    · rw [show upd (σ.2 a) j v i = v from if_pos e2]
      exact hv q hq e
    · rw [show upd (σ.2 a) j v i = σ.2 a i from if_neg e2, ← e]
      exact h.2 q hq i hi
  · rw [setA_ne σ a j v e]
    exact h.2 q hq i hi
theorem IVA_key : ∀ q ∈ IVA, ∀ r ∈ IVA, q.1 = r.1 → q = r := by decide +kernel
theorem IVI_key : ∀ q ∈ IVI, ∀ r ∈ IVI, q.1 = r.1 → q = r := by decide +kernel
theorem IV_setI_t {σ : ST} {v : Int32} (q : Nat × Int × Int) (hq : q ∈ IVI) (h : IV σ) (h1 : q.2.1 ≤ v.toInt ∧ v.toInt ≤ q.2.2) : IV (setI σ q.1 v) := IV_setI h (fun r hr e => by rw [IVI_key r hr q hq e]; exact h1)
theorem IV_setA_t {σ : ST} {j : Nat} {v : Int32} (q : Nat × Nat × Int × Int) (hq : q ∈ IVA) (h : IV σ) (h1 : q.2.2.1 ≤ v.toInt ∧ v.toInt ≤ q.2.2.2) : IV (setA σ q.1 j v) := IV_setA h (fun r hr e => by rw [IVA_key r hr q hq e]; exact h1)
theorem IVI_out (i : Nat) (h : IVI.all (fun q => !(q.1 == i)) = true) : ∀ q ∈ IVI, q.1 ≠ i := fun q hq e => by
  have := List.all_eq_true.mp h q hq
  simp [e] at this
theorem IVA_out (i : Nat) (h : IVA.all (fun q => !(q.1 == i)) = true) : ∀ q ∈ IVA, q.1 ≠ i := fun q hq e => by
  have := List.all_eq_true.mp h q hq
  simp [e] at this
theorem ixs_n {σ : ST} {i : Nat} {v : Int32} (h : IV σ) (ho : IVI.all (fun q => !(q.1 == i)) = true) : IV (setI σ i v) := IV_setI h (fun q hq e => absurd e (IVI_out i ho q hq))
theorem ixt_n {σ : ST} {a j : Nat} {v : Int32} (h : IV σ) (ho : IVA.all (fun q => !(q.1 == a)) = true) : IV (setA σ a j v) := IV_setA h (fun q hq e => absurd e (IVA_out a ho q hq))
theorem ixt_p {σ : ST} {a j : Nat} {v : Int32} (h : IV σ) (h1 : 68 ≤ a) (h2 : a < 80) : IV (setA σ a j v) := ixt_n h ((show ∀ m : Nat, m < 80 → 68 ≤ m → IVA.all (fun q => !(q.1 == m)) = true by decide +kernel) a h2 h1)
theorem b8 (x : Int32) : -128 ≤ x.toInt8.toInt32.toInt ∧ x.toInt8.toInt32.toInt ≤ 127 := by
  rw [Int8.toInt_toInt32]
  have h1 := Int8.le_toInt x.toInt8
  have h2 := Int8.toInt_lt x.toInt8
  omega
theorem ixm_56 {j : Nat} (p : j < 12) : ((56 + j, 160, (-128), 127) : Nat × Nat × Int × Int) ∈ IVA := (show ∀ m : Nat, m < 12 → ((56 + m, 160, (-128), 127) : Nat × Nat × Int × Int) ∈ IVA by decide +kernel) j p
theorem ixr_56 {σ : ST} {j : Nat} (h : IV σ) (p : j < 12) : ∀ i : Nat, i < 160 → (-128) ≤ (σ.2 (56 + j) i).toInt ∧ (σ.2 (56 + j) i).toInt ≤ 127 := h.2 (56 + j, 160, (-128), 127) (ixm_56 p)
theorem ixu_56 {σ : ST} {j i : Nat} {v : Int32} (h : IV σ) (p : j < 12) (hv : (-128) ≤ v.toInt ∧ v.toInt ≤ 127) : IV (setA σ (56 + j) i v) := IV_setA_t (56 + j, 160, (-128), 127) (ixm_56 p) h hv
theorem ixm_92 {j : Nat} (p : j < 4) : ((92 + j, 60, (-128), 127) : Nat × Nat × Int × Int) ∈ IVA := (show ∀ m : Nat, m < 4 → ((92 + m, 60, (-128), 127) : Nat × Nat × Int × Int) ∈ IVA by decide +kernel) j p
theorem ixr_92 {σ : ST} {j : Nat} (h : IV σ) (p : j < 4) : ∀ i : Nat, i < 60 → (-128) ≤ (σ.2 (92 + j) i).toInt ∧ (σ.2 (92 + j) i).toInt ≤ 127 := h.2 (92 + j, 60, (-128), 127) (ixm_92 p)
theorem ixu_92 {σ : ST} {j i : Nat} {v : Int32} (h : IV σ) (p : j < 4) (hv : (-128) ≤ v.toInt ∧ v.toInt ≤ 127) : IV (setA σ (92 + j) i v) := IV_setA_t (92 + j, 60, (-128), 127) (ixm_92 p) h hv
theorem ixs_2 {σ : ST} {v : Int32} (h : IV σ) (h1 : 0 ≤ v.toInt) (h2 : v.toInt ≤ 10) : IV (setI σ 2 v) := IV_setI_t (2, 0, 10) (by decide) h ⟨h1, h2⟩
theorem ixs_3 {σ : ST} {v : Int32} (h : IV σ) (h1 : 0 ≤ v.toInt) (h2 : v.toInt ≤ 12) : IV (setI σ 3 v) := IV_setI_t (3, 0, 12) (by decide) h ⟨h1, h2⟩
theorem ixs_4 {σ : ST} {v : Int32} (h : IV σ) (h1 : 0 ≤ v.toInt) (h2 : v.toInt ≤ 20) : IV (setI σ 4 v) := IV_setI_t (4, 0, 20) (by decide) h ⟨h1, h2⟩
theorem ixs_5 {σ : ST} {v : Int32} (h : IV σ) (h1 : 0 ≤ v.toInt) (h2 : v.toInt ≤ 10) : IV (setI σ 5 v) := IV_setI_t (5, 0, 10) (by decide) h ⟨h1, h2⟩
theorem ixs_6 {σ : ST} {v : Int32} (h : IV σ) (h1 : 0 ≤ v.toInt) (h2 : v.toInt ≤ 160) : IV (setI σ 6 v) := IV_setI_t (6, 0, 160) (by decide) h ⟨h1, h2⟩
theorem ixs_7 {σ : ST} {v : Int32} (h : IV σ) (h1 : 0 ≤ v.toInt) (h2 : v.toInt ≤ 4) : IV (setI σ 7 v) := IV_setI_t (7, 0, 4) (by decide) h ⟨h1, h2⟩
theorem ixs_14 {σ : ST} {v : Int32} (h : IV σ) (h1 : 0 ≤ v.toInt) (h2 : v.toInt ≤ 160) : IV (setI σ 14 v) := IV_setI_t (14, 0, 160) (by decide) h ⟨h1, h2⟩
theorem ixs_15 {σ : ST} {v : Int32} (h : IV σ) (h1 : 0 ≤ v.toInt) (h2 : v.toInt ≤ 80) : IV (setI σ 15 v) := IV_setI_t (15, 0, 80) (by decide) h ⟨h1, h2⟩
theorem ixs_16 {σ : ST} {v : Int32} (h : IV σ) (h1 : 0 ≤ v.toInt) (h2 : v.toInt ≤ 80) : IV (setI σ 16 v) := IV_setI_t (16, 0, 80) (by decide) h ⟨h1, h2⟩
theorem ixs_18 {σ : ST} {v : Int32} (h : IV σ) (h1 : 0 ≤ v.toInt) (h2 : v.toInt ≤ 8) : IV (setI σ 18 v) := IV_setI_t (18, 0, 8) (by decide) h ⟨h1, h2⟩
theorem ixs_19 {σ : ST} {v : Int32} (h : IV σ) (h1 : 0 ≤ v.toInt) (h2 : v.toInt ≤ 10) : IV (setI σ 19 v) := IV_setI_t (19, 0, 10) (by decide) h ⟨h1, h2⟩
theorem ixs_20 {σ : ST} {v : Int32} (h : IV σ) (h1 : 0 ≤ v.toInt) (h2 : v.toInt ≤ 12) : IV (setI σ 20 v) := IV_setI_t (20, 0, 12) (by decide) h ⟨h1, h2⟩
theorem ixs_21 {σ : ST} {v : Int32} (h : IV σ) (h1 : 0 ≤ v.toInt) (h2 : v.toInt ≤ 20) : IV (setI σ 21 v) := IV_setI_t (21, 0, 20) (by decide) h ⟨h1, h2⟩
theorem ixs_22 {σ : ST} {v : Int32} (h : IV σ) (h1 : 0 ≤ v.toInt) (h2 : v.toInt ≤ 10) : IV (setI σ 22 v) := IV_setI_t (22, 0, 10) (by decide) h ⟨h1, h2⟩
theorem ixs_23 {σ : ST} {v : Int32} (h : IV σ) (h1 : 0 ≤ v.toInt) (h2 : v.toInt ≤ 160) : IV (setI σ 23 v) := IV_setI_t (23, 0, 160) (by decide) h ⟨h1, h2⟩
theorem ixs_28 {σ : ST} {v : Int32} (h : IV σ) (h1 : 0 ≤ v.toInt) (h2 : v.toInt ≤ 4) : IV (setI σ 28 v) := IV_setI_t (28, 0, 4) (by decide) h ⟨h1, h2⟩
theorem ixs_29 {σ : ST} {v : Int32} (h : IV σ) (h1 : 0 ≤ v.toInt) (h2 : v.toInt ≤ 320) : IV (setI σ 29 v) := IV_setI_t (29, 0, 320) (by decide) h ⟨h1, h2⟩
theorem ixs_30 {σ : ST} {v : Int32} (h : IV σ) (h1 : 0 ≤ v.toInt) (h2 : v.toInt ≤ 8) : IV (setI σ 30 v) := IV_setI_t (30, 0, 8) (by decide) h ⟨h1, h2⟩
theorem ixt_20 {σ : ST} {j : Nat} {v : Int32} (h : IV σ) (h1 : 0 ≤ v.toInt) (h2 : v.toInt ≤ 5) : IV (setA σ 20 j v) := IV_setA_t (20, 10, 0, 5) (by decide) h ⟨h1, h2⟩
theorem ixt_24 {σ : ST} {j : Nat} {v : Int32} (h : IV σ) (h1 : 0 ≤ v.toInt) (h2 : v.toInt ≤ 5) : IV (setA σ 24 j v) := IV_setA_t (24, 12, 0, 5) (by decide) h ⟨h1, h2⟩
theorem ixt_25 {σ : ST} {j : Nat} {v : Int32} (h : IV σ) (h1 : 0 ≤ v.toInt) (h2 : v.toInt ≤ 9) : IV (setA σ 25 j v) := IV_setA_t (25, 12, 0, 9) (by decide) h ⟨h1, h2⟩
theorem ixt_26 {σ : ST} {j : Nat} {v : Int32} (h : IV σ) (h1 : 0 ≤ v.toInt) (h2 : v.toInt ≤ 9) : IV (setA σ 26 j v) := IV_setA_t (26, 12, 0, 9) (by decide) h ⟨h1, h2⟩
theorem ixt_27 {σ : ST} {j : Nat} {v : Int32} (h : IV σ) (h1 : 0 ≤ v.toInt) (h2 : v.toInt ≤ 5) : IV (setA σ 27 j v) := IV_setA_t (27, 12, 0, 5) (by decide) h ⟨h1, h2⟩
theorem ixt_28 {σ : ST} {j : Nat} {v : Int32} (h : IV σ) (h1 : 0 ≤ v.toInt) (h2 : v.toInt ≤ 9999) : IV (setA σ 28 j v) := IV_setA_t (28, 12, 0, 9999) (by decide) h ⟨h1, h2⟩
theorem ixt_29 {σ : ST} {j : Nat} {v : Int32} (h : IV σ) (h1 : 0 ≤ v.toInt) (h2 : v.toInt ≤ 9999) : IV (setA σ 29 j v) := IV_setA_t (29, 12, 0, 9999) (by decide) h ⟨h1, h2⟩
theorem ixt_30 {σ : ST} {j : Nat} {v : Int32} (h : IV σ) (h1 : (-1) ≤ v.toInt) (h2 : v.toInt ≤ 6) : IV (setA σ 30 j v) := IV_setA_t (30, 12, (-1), 6) (by decide) h ⟨h1, h2⟩
theorem ixt_31 {σ : ST} {j : Nat} {v : Int32} (h : IV σ) (h1 : (-1) ≤ v.toInt) (h2 : v.toInt ≤ 11) : IV (setA σ 31 j v) := IV_setA_t (31, 12, (-1), 11) (by decide) h ⟨h1, h2⟩
theorem ixt_32 {σ : ST} {j : Nat} {v : Int32} (h : IV σ) (h1 : 0 ≤ v.toInt) (h2 : v.toInt ≤ 160) : IV (setA σ 32 j v) := IV_setA_t (32, 12, 0, 160) (by decide) h ⟨h1, h2⟩
theorem ixt_35 {σ : ST} {j : Nat} {v : Int32} (h : IV σ) (h1 : 0 ≤ v.toInt) (h2 : v.toInt ≤ 11) : IV (setA σ 35 j v) := IV_setA_t (35, 20, 0, 11) (by decide) h ⟨h1, h2⟩
theorem ixt_36 {σ : ST} {j : Nat} {v : Int32} (h : IV σ) (h1 : 0 ≤ v.toInt) (h2 : v.toInt ≤ 11) : IV (setA σ 36 j v) := IV_setA_t (36, 20, 0, 11) (by decide) h ⟨h1, h2⟩
theorem ixt_37 {σ : ST} {j : Nat} {v : Int32} (h : IV σ) (h1 : (-500) ≤ v.toInt) (h2 : v.toInt ≤ 500) : IV (setA σ 37 j v) := IV_setA_t (37, 20, (-500), 500) (by decide) h ⟨h1, h2⟩
theorem ixt_38 {σ : ST} {j : Nat} {v : Int32} (h : IV σ) (h1 : 0 ≤ v.toInt) (h2 : v.toInt ≤ 11) : IV (setA σ 38 j v) := IV_setA_t (38, 12, 0, 11) (by decide) h ⟨h1, h2⟩
theorem ixt_40 {σ : ST} {j : Nat} {v : Int32} (h : IV σ) (h1 : 0 ≤ v.toInt) (h2 : v.toInt ≤ 9) : IV (setA σ 40 j v) := IV_setA_t (40, 10, 0, 9) (by decide) h ⟨h1, h2⟩
theorem ixt_43 {σ : ST} {j : Nat} {v : Int32} (h : IV σ) (h1 : (-128) ≤ v.toInt) (h2 : v.toInt ≤ 127) : IV (setA σ 43 j v) := IV_setA_t (43, 160, (-128), 127) (by decide) h ⟨h1, h2⟩
theorem ixt_45 {σ : ST} {j : Nat} {v : Int32} (h : IV σ) (h1 : (-128) ≤ v.toInt) (h2 : v.toInt ≤ 127) : IV (setA σ 45 j v) := IV_setA_t (45, 160, (-128), 127) (by decide) h ⟨h1, h2⟩
theorem ixt_46 {σ : ST} {j : Nat} {v : Int32} (h : IV σ) (h1 : (-128) ≤ v.toInt) (h2 : v.toInt ≤ 127) : IV (setA σ 46 j v) := IV_setA_t (46, 160, (-128), 127) (by decide) h ⟨h1, h2⟩
theorem ixt_47 {σ : ST} {j : Nat} {v : Int32} (h : IV σ) (h1 : 0 ≤ v.toInt) (h2 : v.toInt ≤ 160) : IV (setA σ 47 j v) := IV_setA_t (47, 80, 0, 160) (by decide) h ⟨h1, h2⟩
theorem ixt_48 {σ : ST} {j : Nat} {v : Int32} (h : IV σ) (h1 : 0 ≤ v.toInt) (h2 : v.toInt ≤ 160) : IV (setA σ 48 j v) := IV_setA_t (48, 80, 0, 160) (by decide) h ⟨h1, h2⟩
theorem ixt_50 {σ : ST} {j : Nat} {v : Int32} (h : IV σ) (h1 : (-128) ≤ v.toInt) (h2 : v.toInt ≤ 127) : IV (setA σ 50 j v) := IV_setA_t (50, 160, (-128), 127) (by decide) h ⟨h1, h2⟩
theorem ixt_51 {σ : ST} {j : Nat} {v : Int32} (h : IV σ) (h1 : 0 ≤ v.toInt) (h2 : v.toInt ≤ 160) : IV (setA σ 51 j v) := IV_setA_t (51, 80, 0, 160) (by decide) h ⟨h1, h2⟩
theorem ixt_52 {σ : ST} {j : Nat} {v : Int32} (h : IV σ) (h1 : 0 ≤ v.toInt) (h2 : v.toInt ≤ 160) : IV (setA σ 52 j v) := IV_setA_t (52, 80, 0, 160) (by decide) h ⟨h1, h2⟩
theorem ixt_54 {σ : ST} {j : Nat} {v : Int32} (h : IV σ) (h1 : 0 ≤ v.toInt) (h2 : v.toInt ≤ 11) : IV (setA σ 54 j v) := IV_setA_t (54, 8, 0, 11) (by decide) h ⟨h1, h2⟩
theorem ixt_55 {σ : ST} {j : Nat} {v : Int32} (h : IV σ) (h1 : (-1) ≤ v.toInt) (h2 : v.toInt ≤ 60) : IV (setA σ 55 j v) := IV_setA_t (55, 4, (-1), 60) (by decide) h ⟨h1, h2⟩
theorem ixt_56 {σ : ST} {j : Nat} {v : Int32} (h : IV σ) (h1 : (-128) ≤ v.toInt) (h2 : v.toInt ≤ 127) : IV (setA σ 56 j v) := IV_setA_t (56, 160, (-128), 127) (by decide) h ⟨h1, h2⟩
theorem ixt_57 {σ : ST} {j : Nat} {v : Int32} (h : IV σ) (h1 : (-128) ≤ v.toInt) (h2 : v.toInt ≤ 127) : IV (setA σ 57 j v) := IV_setA_t (57, 160, (-128), 127) (by decide) h ⟨h1, h2⟩
theorem ixt_58 {σ : ST} {j : Nat} {v : Int32} (h : IV σ) (h1 : (-128) ≤ v.toInt) (h2 : v.toInt ≤ 127) : IV (setA σ 58 j v) := IV_setA_t (58, 160, (-128), 127) (by decide) h ⟨h1, h2⟩
theorem ixt_59 {σ : ST} {j : Nat} {v : Int32} (h : IV σ) (h1 : (-128) ≤ v.toInt) (h2 : v.toInt ≤ 127) : IV (setA σ 59 j v) := IV_setA_t (59, 160, (-128), 127) (by decide) h ⟨h1, h2⟩
theorem ixt_60 {σ : ST} {j : Nat} {v : Int32} (h : IV σ) (h1 : (-128) ≤ v.toInt) (h2 : v.toInt ≤ 127) : IV (setA σ 60 j v) := IV_setA_t (60, 160, (-128), 127) (by decide) h ⟨h1, h2⟩
theorem ixt_61 {σ : ST} {j : Nat} {v : Int32} (h : IV σ) (h1 : (-128) ≤ v.toInt) (h2 : v.toInt ≤ 127) : IV (setA σ 61 j v) := IV_setA_t (61, 160, (-128), 127) (by decide) h ⟨h1, h2⟩
theorem ixt_62 {σ : ST} {j : Nat} {v : Int32} (h : IV σ) (h1 : (-128) ≤ v.toInt) (h2 : v.toInt ≤ 127) : IV (setA σ 62 j v) := IV_setA_t (62, 160, (-128), 127) (by decide) h ⟨h1, h2⟩
theorem ixt_63 {σ : ST} {j : Nat} {v : Int32} (h : IV σ) (h1 : (-128) ≤ v.toInt) (h2 : v.toInt ≤ 127) : IV (setA σ 63 j v) := IV_setA_t (63, 160, (-128), 127) (by decide) h ⟨h1, h2⟩
theorem ixt_64 {σ : ST} {j : Nat} {v : Int32} (h : IV σ) (h1 : (-128) ≤ v.toInt) (h2 : v.toInt ≤ 127) : IV (setA σ 64 j v) := IV_setA_t (64, 160, (-128), 127) (by decide) h ⟨h1, h2⟩
theorem ixt_65 {σ : ST} {j : Nat} {v : Int32} (h : IV σ) (h1 : (-128) ≤ v.toInt) (h2 : v.toInt ≤ 127) : IV (setA σ 65 j v) := IV_setA_t (65, 160, (-128), 127) (by decide) h ⟨h1, h2⟩
theorem ixt_66 {σ : ST} {j : Nat} {v : Int32} (h : IV σ) (h1 : (-128) ≤ v.toInt) (h2 : v.toInt ≤ 127) : IV (setA σ 66 j v) := IV_setA_t (66, 160, (-128), 127) (by decide) h ⟨h1, h2⟩
theorem ixt_67 {σ : ST} {j : Nat} {v : Int32} (h : IV σ) (h1 : (-128) ≤ v.toInt) (h2 : v.toInt ≤ 127) : IV (setA σ 67 j v) := IV_setA_t (67, 160, (-128), 127) (by decide) h ⟨h1, h2⟩
theorem ixt_92 {σ : ST} {j : Nat} {v : Int32} (h : IV σ) (h1 : (-128) ≤ v.toInt) (h2 : v.toInt ≤ 127) : IV (setA σ 92 j v) := IV_setA_t (92, 60, (-128), 127) (by decide) h ⟨h1, h2⟩
theorem ixt_93 {σ : ST} {j : Nat} {v : Int32} (h : IV σ) (h1 : (-128) ≤ v.toInt) (h2 : v.toInt ≤ 127) : IV (setA σ 93 j v) := IV_setA_t (93, 60, (-128), 127) (by decide) h ⟨h1, h2⟩
theorem ixt_94 {σ : ST} {j : Nat} {v : Int32} (h : IV σ) (h1 : (-128) ≤ v.toInt) (h2 : v.toInt ≤ 127) : IV (setA σ 94 j v) := IV_setA_t (94, 60, (-128), 127) (by decide) h ⟨h1, h2⟩
theorem ixt_95 {σ : ST} {j : Nat} {v : Int32} (h : IV σ) (h1 : (-128) ≤ v.toInt) (h2 : v.toInt ≤ 127) : IV (setA σ 95 j v) := IV_setA_t (95, 60, (-128), 127) (by decide) h ⟨h1, h2⟩
theorem ixt_97 {σ : ST} {j : Nat} {v : Int32} (h : IV σ) (h1 : 0 ≤ v.toInt) (h2 : v.toInt ≤ 5) : IV (setA σ 97 j v) := IV_setA_t (97, 10, 0, 5) (by decide) h ⟨h1, h2⟩
theorem ixt_100 {σ : ST} {j : Nat} {v : Int32} (h : IV σ) (h1 : 0 ≤ v.toInt) (h2 : v.toInt ≤ 1) : IV (setA σ 100 j v) := IV_setA_t (100, 100, 0, 1) (by decide) h ⟨h1, h2⟩
theorem ixt_101 {σ : ST} {j : Nat} {v : Int32} (h : IV σ) (h1 : 0 ≤ v.toInt) (h2 : v.toInt ≤ 5) : IV (setA σ 101 j v) := IV_setA_t (101, 12, 0, 5) (by decide) h ⟨h1, h2⟩
theorem ixt_102 {σ : ST} {j : Nat} {v : Int32} (h : IV σ) (h1 : 0 ≤ v.toInt) (h2 : v.toInt ≤ 9) : IV (setA σ 102 j v) := IV_setA_t (102, 12, 0, 9) (by decide) h ⟨h1, h2⟩
theorem ixt_103 {σ : ST} {j : Nat} {v : Int32} (h : IV σ) (h1 : 0 ≤ v.toInt) (h2 : v.toInt ≤ 9) : IV (setA σ 103 j v) := IV_setA_t (103, 12, 0, 9) (by decide) h ⟨h1, h2⟩
theorem ixt_104 {σ : ST} {j : Nat} {v : Int32} (h : IV σ) (h1 : 0 ≤ v.toInt) (h2 : v.toInt ≤ 5) : IV (setA σ 104 j v) := IV_setA_t (104, 12, 0, 5) (by decide) h ⟨h1, h2⟩
theorem ixt_105 {σ : ST} {j : Nat} {v : Int32} (h : IV σ) (h1 : 0 ≤ v.toInt) (h2 : v.toInt ≤ 9999) : IV (setA σ 105 j v) := IV_setA_t (105, 12, 0, 9999) (by decide) h ⟨h1, h2⟩
theorem ixt_106 {σ : ST} {j : Nat} {v : Int32} (h : IV σ) (h1 : 0 ≤ v.toInt) (h2 : v.toInt ≤ 9999) : IV (setA σ 106 j v) := IV_setA_t (106, 12, 0, 9999) (by decide) h ⟨h1, h2⟩
theorem ixt_107 {σ : ST} {j : Nat} {v : Int32} (h : IV σ) (h1 : (-1) ≤ v.toInt) (h2 : v.toInt ≤ 6) : IV (setA σ 107 j v) := IV_setA_t (107, 12, (-1), 6) (by decide) h ⟨h1, h2⟩
theorem ixt_108 {σ : ST} {j : Nat} {v : Int32} (h : IV σ) (h1 : (-1) ≤ v.toInt) (h2 : v.toInt ≤ 11) : IV (setA σ 108 j v) := IV_setA_t (108, 12, (-1), 11) (by decide) h ⟨h1, h2⟩
theorem ixt_109 {σ : ST} {j : Nat} {v : Int32} (h : IV σ) (h1 : 0 ≤ v.toInt) (h2 : v.toInt ≤ 160) : IV (setA σ 109 j v) := IV_setA_t (109, 12, 0, 160) (by decide) h ⟨h1, h2⟩
theorem ixt_110 {σ : ST} {j : Nat} {v : Int32} (h : IV σ) (h1 : 0 ≤ v.toInt) (h2 : v.toInt ≤ 255) : IV (setA σ 110 j v) := IV_setA_t (110, 1920, 0, 255) (by decide) h ⟨h1, h2⟩
theorem ixt_111 {σ : ST} {j : Nat} {v : Int32} (h : IV σ) (h1 : 0 ≤ v.toInt) (h2 : v.toInt ≤ 11) : IV (setA σ 111 j v) := IV_setA_t (111, 20, 0, 11) (by decide) h ⟨h1, h2⟩
theorem ixt_112 {σ : ST} {j : Nat} {v : Int32} (h : IV σ) (h1 : 0 ≤ v.toInt) (h2 : v.toInt ≤ 11) : IV (setA σ 112 j v) := IV_setA_t (112, 20, 0, 11) (by decide) h ⟨h1, h2⟩
theorem ixt_113 {σ : ST} {j : Nat} {v : Int32} (h : IV σ) (h1 : (-500) ≤ v.toInt) (h2 : v.toInt ≤ 500) : IV (setA σ 113 j v) := IV_setA_t (113, 20, (-500), 500) (by decide) h ⟨h1, h2⟩
theorem ixt_118 {σ : ST} {j : Nat} {v : Int32} (h : IV σ) (h1 : 0 ≤ v.toInt) (h2 : v.toInt ≤ 9) : IV (setA σ 118 j v) := IV_setA_t (118, 10, 0, 9) (by decide) h ⟨h1, h2⟩
theorem ixt_119 {σ : ST} {j : Nat} {v : Int32} (h : IV σ) (h1 : 0 ≤ v.toInt) (h2 : v.toInt ≤ 255) : IV (setA σ 119 j v) := IV_setA_t (119, 160, 0, 255) (by decide) h ⟨h1, h2⟩
theorem ixt_120 {σ : ST} {j : Nat} {v : Int32} (h : IV σ) (h1 : (-1) ≤ v.toInt) (h2 : v.toInt ≤ 32000) : IV (setA σ 120 j v) := IV_setA_t (120, 12, (-1), 32000) (by decide) h ⟨h1, h2⟩
theorem ixt_121 {σ : ST} {j : Nat} {v : Int32} (h : IV σ) (h1 : (-32000) ≤ v.toInt) (h2 : v.toInt ≤ 10000) : IV (setA σ 121 j v) := IV_setA_t (121, 12, (-32000), 10000) (by decide) h ⟨h1, h2⟩
theorem ixt_127 {σ : ST} {j : Nat} {v : Int32} (h : IV σ) (h1 : 0 ≤ v.toInt) (h2 : v.toInt ≤ 160) : IV (setA σ 127 j v) := IV_setA_t (127, 320, 0, 160) (by decide) h ⟨h1, h2⟩
theorem ixt_128 {σ : ST} {j : Nat} {v : Int32} (h : IV σ) (h1 : 0 ≤ v.toInt) (h2 : v.toInt ≤ 160) : IV (setA σ 128 j v) := IV_setA_t (128, 320, 0, 160) (by decide) h ⟨h1, h2⟩
theorem ixt_129 {σ : ST} {j : Nat} {v : Int32} (h : IV σ) (h1 : 0 ≤ v.toInt) (h2 : v.toInt ≤ 160) : IV (setA σ 129 j v) := IV_setA_t (129, 2, 0, 160) (by decide) h ⟨h1, h2⟩
theorem ixt_132 {σ : ST} {j : Nat} {v : Int32} (h : IV σ) (h1 : 0 ≤ v.toInt) (h2 : v.toInt ≤ 11) : IV (setA σ 132 j v) := IV_setA_t (132, 8, 0, 11) (by decide) h ⟨h1, h2⟩
theorem ixt_133 {σ : ST} {j : Nat} {v : Int32} (h : IV σ) (h1 : 0 ≤ v.toInt) (h2 : v.toInt ≤ 100000000) : IV (setA σ 133 j v) := IV_setA_t (133, 2048, 0, 100000000) (by decide) h ⟨h1, h2⟩
theorem ixt_134 {σ : ST} {j : Nat} {v : Int32} (h : IV σ) (h1 : (-1) ≤ v.toInt) (h2 : v.toInt ≤ 60) : IV (setA σ 134 j v) := IV_setA_t (134, 4, (-1), 60) (by decide) h ⟨h1, h2⟩
theorem ixt_135 {σ : ST} {j : Nat} {v : Int32} (h : IV σ) (h1 : 0 ≤ v.toInt) (h2 : v.toInt ≤ 255) : IV (setA σ 135 j v) := IV_setA_t (135, 240, 0, 255) (by decide) h ⟨h1, h2⟩
/-! ===== only scratch has changed: of the class (QX), of the reference (QM) ===== -/
abbrev sxI (i : Nat) : Prop := 7 ≤ i ∧ i < 19
abbrev sxA (k : Nat) : Prop := k = 33 ∨ k = 34 ∨ k = 38 ∨ k = 39 ∨ (44 ≤ k ∧ k < 55) ∨ (68 ≤ k ∧ k < 80)
abbrev smI (i : Nat) : Prop := i = 24 ∨ i = 25 ∨ 28 ≤ i
abbrev smA (k : Nat) : Prop := 120 ≤ k ∧ k < 134
def Ag (sI sA : Nat → Prop) (σ σ2 : ST) : Prop := (∀ i : Nat, ¬ sI i → σ2.1 i = σ.1 i) ∧ ∀ k : Nat, ¬ sA k → σ2.2 k = σ.2 k
def QX : ST → ST → Prop := Ag sxI sxA
def QM : ST → ST → Prop := Ag smI smA
theorem Ag_rfl {sI sA : Nat → Prop} (σ : ST) : Ag sI sA σ σ := ⟨fun _ _ => rfl, fun _ _ => rfl⟩
theorem Ag_trans {sI sA : Nat → Prop} {σ σ2 σ3 : ST} (h : Ag sI sA σ σ2) (h2 : Ag sI sA σ2 σ3) : Ag sI sA σ σ3 := ⟨fun i hi => (h2.1 i hi).trans (h.1 i hi), fun k hk => (h2.2 k hk).trans (h.2 k hk)⟩
theorem Ag_setI {sI sA : Nat → Prop} {σ σ2 : ST} {i : Nat} {v : Int32} (h : Ag sI sA σ σ2) (hi : sI i) : Ag sI sA σ (setI σ2 i v) := ⟨fun a ha => (setI_ne σ2 i v (fun e => ha (by rw [e]; exact hi))).trans (h.1 a ha), fun k hk => h.2 k hk⟩
theorem Ag_setA {sI sA : Nat → Prop} {σ σ2 : ST} {k j : Nat} {v : Int32} (h : Ag sI sA σ σ2) (hk : sA k) : Ag sI sA σ (setA σ2 k j v) := ⟨fun i hi => h.1 i hi, fun a ha => (setA_ne σ2 k j v (fun e => ha (by rw [e]; exact hk))).trans (h.2 a ha)⟩
theorem QX_path {n : Nat} (h : n < 12) : sxA (68 + n) := by
  unfold sxA
  omega
/-- the state of a query: the ranges hold, only scratch has changed -/
def WX (σ σ2 : ST) : Prop := IV σ2 ∧ QX σ σ2
def WM (σ σ2 : ST) : Prop := IV σ2 ∧ QM σ σ2
theorem WX_rfl {σ : ST} (h : IV σ) : WX σ σ := ⟨h, Ag_rfl σ⟩
theorem WM_rfl {σ : ST} (h : IV σ) : WM σ σ := ⟨h, Ag_rfl σ⟩
theorem WX_trans {σ σ2 σ3 : ST} (h : WX σ σ2) (h2 : WX σ2 σ3) : WX σ σ3 := ⟨h2.1, Ag_trans h.2 h2.2⟩
theorem WM_trans {σ σ2 σ3 : ST} (h : WM σ σ2) (h2 : WM σ2 σ3) : WM σ σ3 := ⟨h2.1, Ag_trans h.2 h2.2⟩
