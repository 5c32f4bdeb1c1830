/-! ===== constructors: a growing world ===== -/
theorem vr_flat {N : Nat} {r : Nat → Nat} {f : Nat → va_E} {e : va_E} : va_pl ([] ++ (List.range N).map r) (vr_up f ((List.range N).map r) e) = (List.range N).map (fun i => (r i, e)) := by
  unfold va_pl
  rw [List.nil_append, List.map_map]
  apply List.map_congr_left
  intro i hi
  show (r i, vr_up f _ e (r i)) = (r i, e)
  rw [vr_up_in (List.mem_map.mpr ⟨i, hi, rfl⟩)]
/-- what a constructor knows of its place -/
def OKc (F : FX) (own : String) (cc : ByteArray) (nL : Nat) (ret : Option FieldType) : Prop :=
  F.1.tables.exec = Jvm.exec ∧ F.2.2.2.2.2.2.2.2.1.code = cc ∧ F.2.2.2.2.2.2.2.2.1.maxLocals = nL ∧ F.2.2.2.1.vm.findClass own = some F.2.2.2.2.1.cls ∧ (∀ w ∈ WD, w.before F.2.2.2.2.2.1 F.2.2.2.1 = true) ∧ F.2.2.2.2.2.2.2.1.sig.returnType = ret ∧ F.2.2.2.2.2.2.2.1.locks = false ∧ (∀ q, F.2.2.2.1.heap.size ≤ q → F.2.2.2.2.2.2.2.2.2.1 q) ∧ (own ≠ "LetterDrawerLaw" → F.2.2.2.2.2.2.2.1.name = "<init>")
def Gc (F : FX) (D : va_G) (own : String) (cc : ByteArray) (nL : Nat) (R : Room) (ret : Option FieldType) (Q : State → Prop) (tys : List (ClassId × FieldType)) (ws : va_W) (ce sl : Nat) (pc : Nat) (lv : List (Nat × Value)) (st : List Value) : Prop :=
  OKc F own cc nL ret → ∀ (H : Heap) (locs : List Loc) (ls : Array Slot), va_K D vwCl tys F.2.2.2.1 → va_P D vwCl ws H → va_D F.2.2.2.2.2.2.2.2.2.1 ws → va_S F.2.2.2.2.2.2.2.2.2.1 F.2.2.2.1.heap H locs → lv_has ls nL lv →
    W F.1 F.2.1 F.2.2.1 R F.2.2.2.1 F.2.2.2.2.1 F.2.2.2.2.2.1 F.2.2.2.2.2.2.1 F.2.2.2.2.2.2.2.1 F.2.2.2.2.2.2.2.2.1 H locs ce sl Q (F0 F.2.2.2.2.1 pc ls st)
section GCR
variable {F : FX} {D : va_G} {own : String} {cc : ByteArray} {nL : Nat} {R : Room} {ret : Option FieldType} {Q : State → Prop} {tys : List (ClassId × FieldType)} {ws : va_W} {ce sl : Nat} {pc pc' : Nat} {lv : List (Nat × Value)} {st : List Value}
theorem gc_lv {lv' : List (Nat × Value)} (h : lv'.map (fun q => lvg lv q.1) = lv'.map (fun q => some q.2)) (k : Gc F D own cc nL R ret Q tys ws ce sl pc lv' st) : Gc F D own cc nL R ret Q tys ws ce sl pc lv st := by
  intro hok H locs ls hK hP hD hS hl
  refine k hok H locs ls hK hP hD hS ⟨hl.1, hl.2.1, fun q hq => ?_⟩
  obtain ⟨i, hi⟩ := List.getElem?_of_mem hq
  have h2 := congrArg (fun l => l[i]?) h
  simp only [List.getElem?_map, hi, Option.map_some] at h2
  exact lvg_at hl (Option.some.inj h2)
theorem gc_ws {ws' : va_W} (h : ws = ws') (k : Gc F D own cc nL R ret Q tys ws' ce sl pc lv st) : Gc F D own cc nL R ret Q tys ws ce sl pc lv st := h ▸ k
theorem gc_tys {tys' : List (ClassId × FieldType)} (h : tys = tys') (k : Gc F D own cc nL R ret Q tys' ws ce sl pc lv st) : Gc F D own cc nL R ret Q tys ws ce sl pc lv st := h ▸ k
theorem gc_num {ce' sl' : Nat} (h : ce = ce') (h2 : sl = sl') (k : Gc F D own cc nL R ret Q tys ws ce' sl' pc lv st) : Gc F D own cc nL R ret Q tys ws ce sl pc lv st := by
  subst h
  subst h2
  exact k
theorem gc_iconst {n : Int} {v : Int32} (hdg : decode cc pc = .ok (.iconst n, 1)) (hp : pc + 1 = pc') (hv : Int32.ofInt n = v) (k : Gc F D own cc nL R ret Q tys ws ce sl pc' lv (.int v :: st)) : Gc F D own cc nL R ret Q tys ws ce sl pc lv (st) := by
  subst hp
  intro hok H locs ls hK hP hD hS hl
  exact lv_iconst hok.1 hok.2.1 hdg hv (k hok H locs ls hK hP hD hS hl)
theorem gc_bipush {n : Int} {v : Int32} (hdg : decode cc pc = .ok (.bipush n, 2)) (hp : pc + 2 = pc') (hv : (Int8.ofInt n).toInt32 = v) (k : Gc F D own cc nL R ret Q tys ws ce sl pc' lv (.int v :: st)) : Gc F D own cc nL R ret Q tys ws ce sl pc lv (st) := by
  subst hp
  intro hok H locs ls hK hP hD hS hl
  exact lv_bipush hok.1 hok.2.1 hdg hv (k hok H locs ls hK hP hD hS hl)
theorem gc_sipush {n : Int} {v : Int32} (hdg : decode cc pc = .ok (.sipush n, 3)) (hp : pc + 3 = pc') (hv : (Int16.ofInt n).toInt32 = v) (k : Gc F D own cc nL R ret Q tys ws ce sl pc' lv (.int v :: st)) : Gc F D own cc nL R ret Q tys ws ce sl pc lv (st) := by
  subst hp
  intro hok H locs ls hK hP hD hS hl
  exact lv_sipush hok.1 hok.2.1 hdg hv (k hok H locs ls hK hP hD hS hl)
theorem gc_iload_n {n : Fin 4} {x : Int32} (hdg : decode cc pc = .ok (.iload_n n, 1)) (hp : pc + 1 = pc') {i : Nat} (hi : (n : Nat) = i) (hv : lvg lv i = some (.int x)) (k : Gc F D own cc nL R ret Q tys ws ce sl pc' lv (.int x :: st)) : Gc F D own cc nL R ret Q tys ws ce sl pc lv (st) := by
  subst hp
  intro hok H locs ls hK hP hD hS hl
  exact lv_iload_n hok.1 hok.2.1 hdg hi (lvg_at hl hv) (k hok H locs ls hK hP hD hS hl)
theorem gc_aload_n {n : Fin 4} {x : Nat} (hdg : decode cc pc = .ok (.aload_n n, 1)) (hp : pc + 1 = pc') {i : Nat} (hi : (n : Nat) = i) (hv : lvg lv i = some (.ref x)) (k : Gc F D own cc nL R ret Q tys ws ce sl pc' lv (.ref x :: st)) : Gc F D own cc nL R ret Q tys ws ce sl pc lv (st) := by
  subst hp
  intro hok H locs ls hK hP hD hS hl
  exact lv_aload_n hok.1 hok.2.1 hdg hi (lvg_at hl hv) (k hok H locs ls hK hP hD hS hl)
theorem gc_istore_n {n : Fin 4} {x : Int32} (hdg : decode cc pc = .ok (.istore_n n, 1)) (hp : pc + 1 = pc') {i : Nat} (hi : (n : Nat) = i) (hn : i < nL) (k : Gc F D own cc nL R ret Q tys ws ce sl pc' (lvs lv i (.int x)) (st)) : Gc F D own cc nL R ret Q tys ws ce sl pc lv (.int x :: st) := by
  subst hp
  intro hok H locs ls hK hP hD hS hl
  exact lv_istore_n hok.1 hok.2.1 hdg hi hl hn rfl (fun ls2 hl2 => k hok H locs ls2 hK hP hD hS hl2)
theorem gc_astore_n {n : Fin 4} {x : Nat} (hdg : decode cc pc = .ok (.astore_n n, 1)) (hp : pc + 1 = pc') {i : Nat} (hi : (n : Nat) = i) (hn : i < nL) (k : Gc F D own cc nL R ret Q tys ws ce sl pc' (lvs lv i (.ref x)) (st)) : Gc F D own cc nL R ret Q tys ws ce sl pc lv (.ref x :: st) := by
  subst hp
  intro hok H locs ls hK hP hD hS hl
  exact lv_astore_n hok.1 hok.2.1 hdg hi hl hn rfl (fun ls2 hl2 => k hok H locs ls2 hK hP hD hS hl2)
theorem gc_iinc {n : Nat} {d : Int} {x c : Int32} (hdg : decode cc pc = .ok (.iinc n d, 3)) (hp : pc + 3 = pc') (hv : lvg lv n = some (.int x)) (hc : Int32.ofInt d = c) (hn : n < nL) (k : Gc F D own cc nL R ret Q tys ws ce sl pc' (lvs lv n (.int (x + c))) st) : Gc F D own cc nL R ret Q tys ws ce sl pc lv st := by
  subst hp
  intro hok H locs ls hK hP hD hS hl
  obtain ⟨j, hj⟩ := lvg_idx hv
  exact lv_iinc hok.1 hok.2.1 hdg hl hj (by rw [hc]) hn rfl (fun ls2 hl2 => k hok H locs ls2 hK hP hD hS hl2)
theorem gc_iadd {x y : Int32} (hdg : decode cc pc = .ok (.iadd, 1)) (hp : pc + 1 = pc') (k : Gc F D own cc nL R ret Q tys ws ce sl pc' lv (.int (x + y) :: st)) : Gc F D own cc nL R ret Q tys ws ce sl pc lv (.int y :: .int x :: st) := by
  subst hp
  intro hok H locs ls hK hP hD hS hl
  exact lv_iadd hok.1 hok.2.1 hdg (k hok H locs ls hK hP hD hS hl)
theorem gc_irem {x y : Int32} (hdg : decode cc pc = .ok (.irem, 1)) (hp : pc + 1 = pc') (hne : ¬ y = 0) (k : Gc F D own cc nL R ret Q tys ws ce sl pc' lv (.int (x - x / y * y) :: st)) : Gc F D own cc nL R ret Q tys ws ce sl pc lv (.int y :: .int x :: st) := by
  subst hp
  intro hok H locs ls hK hP hD hS hl
  exact lv_irem hok.1 hok.2.1 hdg hne (k hok H locs ls hK hP hD hS hl)
theorem gc_dup {v : Value} (hdg : decode cc pc = .ok (.dup, 1)) (hp : pc + 1 = pc') (hv : v.category = 1) (k : Gc F D own cc nL R ret Q tys ws ce sl pc' lv (v :: v :: st)) : Gc F D own cc nL R ret Q tys ws ce sl pc lv (v :: st) := by
  subst hp
  intro hok H locs ls hK hP hD hS hl
  exact lv_dup hok.1 hok.2.1 hdg hv (k hok H locs ls hK hP hD hS hl)
theorem gc_if_eq {x : Int32} {off : Int} {tgt : Nat} (hdg : decode cc pc = .ok (.ifCond .eq off, 3)) (hp : pc + 3 = pc') (ht : (pc : Int) + off = (tgt : Int)) (k1 : x = 0 → Gc F D own cc nL R ret Q tys ws ce sl tgt lv st) (k2 : ¬ (x = 0) → Gc F D own cc nL R ret Q tys ws ce sl pc' lv st) : Gc F D own cc nL R ret Q tys ws ce sl pc lv (.int x :: st) := by
  subst hp
  intro hok H locs ls hK hP hD hS hl
  exact lv_if_eq hok.1 hok.2.1 hdg ht (fun h => k1 h hok H locs ls hK hP hD hS hl) (fun h => k2 h hok H locs ls hK hP hD hS hl)
theorem gc_icmp_eq {x y : Int32} {off : Int} {tgt : Nat} (hdg : decode cc pc = .ok (.if_icmp .eq off, 3)) (hp : pc + 3 = pc') (ht : (pc : Int) + off = (tgt : Int)) (k1 : x = y → Gc F D own cc nL R ret Q tys ws ce sl tgt lv st) (k2 : ¬ (x = y) → Gc F D own cc nL R ret Q tys ws ce sl pc' lv st) : Gc F D own cc nL R ret Q tys ws ce sl pc lv (.int y :: .int x :: st) := by
  subst hp
  intro hok H locs ls hK hP hD hS hl
  exact lv_icmp_eq hok.1 hok.2.1 hdg ht (fun h => k1 h hok H locs ls hK hP hD hS hl) (fun h => k2 h hok H locs ls hK hP hD hS hl)
theorem gc_if_ne {x : Int32} {off : Int} {tgt : Nat} (hdg : decode cc pc = .ok (.ifCond .ne off, 3)) (hp : pc + 3 = pc') (ht : (pc : Int) + off = (tgt : Int)) (k1 : x ≠ 0 → Gc F D own cc nL R ret Q tys ws ce sl tgt lv st) (k2 : x = 0 → Gc F D own cc nL R ret Q tys ws ce sl pc' lv st) : Gc F D own cc nL R ret Q tys ws ce sl pc lv (.int x :: st) := by
  subst hp
  intro hok H locs ls hK hP hD hS hl
  exact lv_if_ne hok.1 hok.2.1 hdg ht (fun h => k1 h hok H locs ls hK hP hD hS hl) (fun h => k2 h hok H locs ls hK hP hD hS hl)
theorem gc_icmp_ne {x y : Int32} {off : Int} {tgt : Nat} (hdg : decode cc pc = .ok (.if_icmp .ne off, 3)) (hp : pc + 3 = pc') (ht : (pc : Int) + off = (tgt : Int)) (k1 : x ≠ y → Gc F D own cc nL R ret Q tys ws ce sl tgt lv st) (k2 : x = y → Gc F D own cc nL R ret Q tys ws ce sl pc' lv st) : Gc F D own cc nL R ret Q tys ws ce sl pc lv (.int y :: .int x :: st) := by
  subst hp
  intro hok H locs ls hK hP hD hS hl
  exact lv_icmp_ne hok.1 hok.2.1 hdg ht (fun h => k1 h hok H locs ls hK hP hD hS hl) (fun h => k2 h hok H locs ls hK hP hD hS hl)
theorem gc_if_ge {x : Int32} {off : Int} {tgt : Nat} (hdg : decode cc pc = .ok (.ifCond .ge off, 3)) (hp : pc + 3 = pc') (ht : (pc : Int) + off = (tgt : Int)) (k1 : x ≥ 0 → Gc F D own cc nL R ret Q tys ws ce sl tgt lv st) (k2 : ¬ (x ≥ 0) → Gc F D own cc nL R ret Q tys ws ce sl pc' lv st) : Gc F D own cc nL R ret Q tys ws ce sl pc lv (.int x :: st) := by
  subst hp
  intro hok H locs ls hK hP hD hS hl
  exact lv_if_ge hok.1 hok.2.1 hdg ht (fun h => k1 h hok H locs ls hK hP hD hS hl) (fun h => k2 h hok H locs ls hK hP hD hS hl)
theorem gc_icmp_ge {x y : Int32} {off : Int} {tgt : Nat} (hdg : decode cc pc = .ok (.if_icmp .ge off, 3)) (hp : pc + 3 = pc') (ht : (pc : Int) + off = (tgt : Int)) (k1 : x ≥ y → Gc F D own cc nL R ret Q tys ws ce sl tgt lv st) (k2 : ¬ (x ≥ y) → Gc F D own cc nL R ret Q tys ws ce sl pc' lv st) : Gc F D own cc nL R ret Q tys ws ce sl pc lv (.int y :: .int x :: st) := by
  subst hp
  intro hok H locs ls hK hP hD hS hl
  exact lv_icmp_ge hok.1 hok.2.1 hdg ht (fun h => k1 h hok H locs ls hK hP hD hS hl) (fun h => k2 h hok H locs ls hK hP hD hS hl)
theorem gc_goto {off : Int} {tgt : Nat} (hdg : decode cc pc = .ok (.goto off, 3)) (ht : (pc : Int) + off = (tgt : Int)) (k : Gc F D own cc nL R ret Q tys ws ce sl tgt lv st) : Gc F D own cc nL R ret Q tys ws ce sl pc lv st := by
  intro hok H locs ls hK hP hD hS hl
  exact lv_goto hok.1 hok.2.1 hdg ht (k hok H locs ls hK hP hD hS hl)
theorem gc_objInit {idx : Nat} {a : Nat} (hdg : decode cc pc = .ok (.invokespecial idx, 3)) (hp : pc + 3 = pc') (hlk : Cond.methodLink own idx objectInit ∈ WD) (hf : 1 ≤ R.frames) (hw : 2 * 0 + (st.map fun v => v.category).sum + 12 ≤ R.locals) (k : Gc F D own cc nL R ret Q tys ws ce sl pc' lv st) : Gc F D own cc nL R ret Q tys ws ce sl pc lv (.ref a :: st) := by
  subst hp
  intro hok H locs ls hK hP hD hS hl
  exact W.objInit hok.1 hok.2.1 hok.2.2.2.1 (hok.2.2.2.2.1 _ hlk) (hok.2.2.2.2.1 _ im_objectInit) (hok.2.2.2.2.1 _ co_objectInit) rfl (hl.1.trans hok.2.2.1.symm) rfl hdg hf hw (k hok H locs ls hK hP hD hS hl)
theorem gc_newa {at9 : ArrayType} {ty : FieldType} {n : Int32} {N : Nat} {a0 : vp_A} (hdg : decode cc pc = .ok (.newarray at9, 2)) (hp : pc + 2 = pc') (hac : Cond.arrayClass (newarray.typeOf at9) ∈ WD) (hty : newarray.typeOf at9 = ty) (ha : ∀ cA : ClassId, vp_cell cA a0 = arrV cA N (fun _ => defaultValue ty)) (hn : ¬ n < 0) (hN : n.toNatClampNeg = N) (hb : N * componentBytes ty ≤ 536870912) (hc : ce + 1 ≤ R.cells) (hs : sl + N ≤ R.slots)
    (k : ∀ (q : Nat) (cA : ClassId), Gc F D own cc nL R ret Q (tys ++ [(cA, ty)]) (ws ++ [(q, .inl (cA, a0))]) (ce + 1) (sl + N) pc' lv (.ref q :: st)) : Gc F D own cc nL R ret Q tys ws ce sl pc lv (.int n :: st) := by
  subst hp
  intro hok H locs ls hK hP hD hS hl
  exact va_newa hok.1 hok.2.1 (hok.2.2.2.2.1 _ hac) hty hK hP hD hS hok.2.2.2.2.2.2.2.1 ha hn hN hb hc hs hdg (fun q cA H1 hK1 hP1 hD1 hS1 => k q cA hok H1 locs ls hK1 hP1 hD1 hS1 hl)
theorem gc_new {C : String} {T : u_T} {N ci idx : Nat} {fs : List Value} (hin : ∀ w ∈ u_ws C T N, w ∈ WD) (ty : Nat → FieldType) (hty : ∀ k, k < N → parseFieldDescriptor (T k).2.2.1 = some (ty k)) (hcv : vwCl[ci]? = some (C, T, N)) (hdg : decode cc pc = .ok (.new idx, 3)) (hp : pc + 3 = pc') (hcl : Cond.classLink own idx C ∈ WD) (hinst : Cond.instantiable C N ∈ WD) (hini : Cond.initialized C ∈ WD) (hfs : ∀ j, j < N → defaultValue (ty j) = vp_V fs j) (hc : ce + 1 ≤ R.cells) (hs : sl + N ≤ R.slots)
    (k : ∀ (q : Nat), Gc F D own cc nL R ret Q tys (ws ++ [(q, .inr (ci, fs))]) (ce + 1) (sl + N) pc' lv (.ref q :: st)) : Gc F D own cc nL R ret Q tys ws ce sl pc lv st := by
  subst hp
  intro hok H locs ls hK hP hD hS hl
  exact va_new hok.1 hok.2.1 hok.2.2.2.2.1 hin ty hty hok.2.2.2.1 (hok.2.2.2.2.1 _ hcl) (hok.2.2.2.2.1 _ hinst) (hok.2.2.2.2.1 _ hini) hK hP hD hS hok.2.2.2.2.2.2.2.1 hcv hfs hc hs hdg (fun q H1 hP1 hD1 hS1 => k q hok H1 locs ls hK hP1 hD1 hS1 hl)
/-- a field of the object at place q0: a final one -/
theorem gc_putF {C ref nm ds : String} {T : u_T} {N ci idx kf q0 a : Nat} {fs : List Value} {v : Value} {ty : FieldType} (hin : ∀ w ∈ u_ws C T N, w ∈ WD) (ty0 : Nat → FieldType) (hty : ∀ k, k < N → parseFieldDescriptor (T k).2.2.1 = some (ty0 k)) (hnm : ∀ a, a < N → ∀ b, b < N → a ≠ b → (T a).2.1 ≠ (T b).2.1) (hcv : vwCl[ci]? = some (C, T, N)) (hdg : decode cc pc = .ok (.putfield idx, 3)) (hp : pc + 3 = pc') (hlk : Cond.fieldLink own idx ref nm ds ∈ WD) (he : ws[q0]? = some (a, .inr (ci, fs))) (hk : kf < N) (hT : T kf = (ref, nm, ds, true)) (hro : ref = own) (hnl : own ≠ "LetterDrawerLaw") (hd : ty0 kf = ty) (hn : narrow ty v = v) (hf : fits ty v = true) (hl9 : kf < fs.length)
    (k : Gc F D own cc nL R ret Q tys (ws.set q0 (a, .inr (ci, fs.set kf v))) ce sl pc' lv st) : Gc F D own cc nL R ret Q tys ws ce sl pc lv (v :: .ref a :: st) := by
  subst hp
  intro hok H locs ls hK hP hD hS hl
  have e1 : (T kf).1 = ref := by rw [hT]
  have e2 : (T kf).2.1 = nm := by rw [hT]
  have e3 : (T kf).2.2.1 = ds := by rw [hT]
  have e4 : (T kf).2.2.2 = true := by rw [hT]
  exact va_putF (ref := ref) (C := C) (T := T) (N := N) (ci := ci) (index := idx) (ty := ty) hok.1 hok.2.1 hok.2.2.2.2.1 hin ty0 hty hnm hok.2.2.2.1 hK hP hD hS q0 he hcv kf hk (by rw [e2, e3]; exact hok.2.2.2.2.1 _ hlk) (fun _ h9 => by rw [e1] at h9; exact h9) e4 (hok.2.2.2.2.2.2.2.2 hnl) (by rw [e1, hro]) (by rw [hty kf hk, hd]) hn hf hl9 hdg (fun H1 locs1 hP1 hD1 hS1 => k hok H1 locs1 ls hK hP1 hD1 hS1 hl)
theorem gc_put {C ref nm ds : String} {T : u_T} {N ci idx kf q0 a : Nat} {fs : List Value} {v : Value} {ty : FieldType} (hin : ∀ w ∈ u_ws C T N, w ∈ WD) (ty0 : Nat → FieldType) (hty : ∀ k, k < N → parseFieldDescriptor (T k).2.2.1 = some (ty0 k)) (hnm : ∀ a, a < N → ∀ b, b < N → a ≠ b → (T a).2.1 ≠ (T b).2.1) (hcv : vwCl[ci]? = some (C, T, N)) (hdg : decode cc pc = .ok (.putfield idx, 3)) (hp : pc + 3 = pc') (hlk : Cond.fieldLink own idx ref nm ds ∈ WD) (he : ws[q0]? = some (a, .inr (ci, fs))) (hk : kf < N) (hT : T kf = (ref, nm, ds, false)) (hd : ty0 kf = ty) (hn : narrow ty v = v) (hf : fits ty v = true) (hl9 : kf < fs.length)
    (k : Gc F D own cc nL R ret Q tys (ws.set q0 (a, .inr (ci, fs.set kf v))) ce sl pc' lv st) : Gc F D own cc nL R ret Q tys ws ce sl pc lv (v :: .ref a :: st) := by
  subst hp
  intro hok H locs ls hK hP hD hS hl
  have e1 : (T kf).1 = ref := by rw [hT]
  have e2 : (T kf).2.1 = nm := by rw [hT]
  have e3 : (T kf).2.2.1 = ds := by rw [hT]
  have e4 : (T kf).2.2.2 = false := by rw [hT]
  exact va_put (ref := ref) (C := C) (T := T) (N := N) (ci := ci) (index := idx) (ty := ty) hok.1 hok.2.1 hok.2.2.2.2.1 hin ty0 hty hnm hok.2.2.2.1 hK hP hD hS q0 he hcv kf hk (by rw [e2, e3]; exact hok.2.2.2.2.1 _ hlk) (fun _ h9 => by rw [e1] at h9; exact h9) e4 (by rw [hty kf hk, hd]) hn hf hl9 hdg (fun H1 locs1 hP1 hD1 hS1 => k hok H1 locs1 ls hK hP1 hD1 hS1 hl)
theorem gc_get {C ref nm ds : String} {T : u_T} {N ci idx kf q0 a : Nat} {fs : List Value} {v : Value} (hin : ∀ w ∈ u_ws C T N, w ∈ WD) (hcv : vwCl[ci]? = some (C, T, N)) (hdg : decode cc pc = .ok (.getfield idx, 3)) (hp : pc + 3 = pc') (hlk : Cond.fieldLink own idx ref nm ds ∈ WD) (he : ws[q0]? = some (a, .inr (ci, fs))) (hk : kf < N) (hT : T kf = (ref, nm, ds, (T kf).2.2.2)) (hv : fs[kf]? = some v)
    (k : Gc F D own cc nL R ret Q tys ws ce sl pc' lv (v :: st)) : Gc F D own cc nL R ret Q tys ws ce sl pc lv (.ref a :: st) := by
  subst hp
  intro hok H locs ls hK hP hD hS hl
  have e1 : (T kf).1 = ref := by rw [hT]
  have e2 : (T kf).2.1 = nm := by rw [hT]
  have e3 : (T kf).2.2.1 = ds := by rw [hT]
  exact va_get (ref := ref) (C := C) (T := T) (N := N) (ci := ci) (index := idx) hok.1 hok.2.1 hok.2.2.2.2.1 hin hok.2.2.2.1 hK hP q0 he hcv kf hk (by rw [e2, e3]; exact hok.2.2.2.2.1 _ hlk) (fun _ h9 => by rw [e1] at h9; exact h9) hv hdg (k hok H locs ls hK hP hD hS hl)
/-- a place of an array of ints at place q0 of the world -/
theorem gc_iast {q0 t0 a n : Nat} {cA : ClassId} {f : Nat → Int32} {j x : Int32} (hdg : decode cc pc = .ok (.iastore, 1)) (hp : pc + 1 = pc') (he : ws[q0]? = some (a, .inl (cA, n, .inl f))) (ht : tys[t0]? = some (cA, .int)) (hin : vp_in j n)
    (k : Gc F D own cc nL R ret Q tys (ws.set q0 (a, .inl (cA, n, .inl (upd f j.toNatClampNeg x)))) ce sl pc' lv st) : Gc F D own cc nL R ret Q tys ws ce sl pc lv (.int x :: .int j :: .ref a :: st) := by
  subst hp
  intro hok H locs ls hK hP hD hS hl
  exact va_iast hok.1 hok.2.1 hK hP hD hS q0 t0 he ht hin hdg (fun H1 locs1 hP1 hD1 hS1 => k hok H1 locs1 ls hK hP1 hD1 hS1 hl)
/-- a row of an array of arrays at place q0 -/
theorem gc_aald {q0 t0 a n b : Nat} {cA : ClassId} {g : Nat → Option Nat} {t : FieldType} {j : Int32} (hdg : decode cc pc = .ok (.aaload, 1)) (hp : pc + 1 = pc') (he : ws[q0]? = some (a, .inl (cA, n, .inr (.inr (.inr (.inr g)))))) (ht : tys[t0]? = some (cA, .array t)) (hin : vp_in j n) (hb : g j.toNatClampNeg = some b)
    (k : Gc F D own cc nL R ret Q tys ws ce sl pc' lv (.ref b :: st)) : Gc F D own cc nL R ret Q tys ws ce sl pc lv (.int j :: .ref a :: st) := by
  subst hp
  intro hok H locs ls hK hP hD hS hl
  have hlt : j.toNatClampNeg < n := Nat.not_le.mp fun q => hin (Or.inr q)
  refine W.aald (v := .ref b) (ty := .array t) hok.1 hok.2.1 (hP q0 _ he) ((hK.2 _ _ ht).1 n (fun i => va_rf (g i))) rfl (fun q => by cases q) (by show ¬ (j < 0 ∨ (arrV _ _ _).slots.size ≤ _); rw [arrV_size]; exact hin) (by show (arrV _ _ _).slots[_]? = _; rw [arrV_read _ _ hlt]; show some (va_rf (g j.toNatClampNeg)) = _; rw [hb]; rfl) rfl rfl hdg (k hok H locs ls hK hP hD hS hl)
/-- new T[N][K] -/
theorem gc_mna {idx : Nat} {ty : FieldType} {n k9 : Int32} {N K : Nat} {z : vp_A} (hdg : decode cc pc = .ok (.multianewarray idx 2, 4)) (hp : pc + 4 = pc') (hcl : Cond.classLink own idx ("[" ++ (FieldType.array ty).toString) ∈ WD) (hov : va_AOA ty F.2.2.2.1) (hac : Cond.arrayClass ty ∈ WD) (hRA : ∀ (U : State) (cA : ClassId), U.vm.findClass ("[" ++ ty.toString) = some cA → va_RA U cA ty) (hn : ¬ n < 0) (hk : ¬ k9 < 0) (hN : n.toNatClampNeg = N) (hM : k9.toNatClampNeg = K) (hb1 : N * 4 ≤ 536870912) (hb2 : K * componentBytes ty ≤ 536870912) (hb3 : K ≤ 536870912) (hdf : fits ty (defaultValue ty) = true) (hdd : (defaultValue ty).isDefault = true) (hc : ce + (1 + N) ≤ R.cells) (hs : sl + (N + N * K) ≤ R.slots) (hz : ∀ c : ClassId, Jvm.Free.Multi.innerC c K (defaultValue ty) = vp_cell c z)
    (k : ∀ (q : Nat) (r : Nat → Nat) (cA cy : ClassId), Gc F D own cc nL R ret Q (tys ++ [(cy, ty)] ++ [(cA, .array ty)]) ((ws ++ [(q, .inl (cA, N, .inr (.inr (.inr (.inr (fun i => if i < N then some (r i) else none))))))]) ++ (List.range N).map (fun i => (r i, .inl (cy, z)))) (ce + 1 + N) (sl + N + N * K) pc' lv (.ref q :: st)) : Gc F D own cc nL R ret Q tys ws ce sl pc lv (.int k9 :: .int n :: st) := by
  subst hp
  intro hok H locs ls hK hP hD hS hl
  obtain ⟨cy, ky, comp, hcy, hky, hkind⟩ := Cond.arrayClass_spec (hok.2.2.2.2.1 _ hac)
  have hK2 : va_K D vwCl (tys ++ [(cy, ty)]) F.2.2.2.1 := hK.app ⟨hK.1, fun i q hq => by
    have h0 : i < 1 := (List.getElem?_eq_some_iff.mp hq).1
    rw [show i = 0 by omega] at hq
    cases hq
    exact ⟨fun N9 z9 => ⟨(fun q hq => by cases hq), ky, hky, comp, hkind⟩, hRA _ _ hcy⟩⟩
  refine va_mna (X := ws) (L := []) (f := fun _ => .inr (0, [])) (cy := cy) (z := z) hok.1 hok.2.1 hok.2.2.2.1 (hok.2.2.2.2.1 _ hcl) hov (hok.2.2.2.2.1 _ hac) hcy hK2 (by show va_P D vwCl (ws ++ []) H; rw [List.append_nil]; exact hP) (by show va_D _ (ws ++ []); rw [List.append_nil]; exact hD) hS hok.2.2.2.2.2.2.2.1 hn hk hN hM hb1 hb2 hb3 hdf hdd hc hs hz hdg (fun q r cA H1 _ _ hK1 hP1 hD1 hS1 => ?_)
  rw [vr_flat] at hP1 hD1
  exact k q r cA cy hok H1 locs ls hK1 hP1 hD1 hS1 hl
/-- the object first: a field of it; a new array into a field; a new grid into a field -/
theorem gc_put0 {C ref nm ds : String} {T : u_T} {N ci idx kf h0 : Nat} {fs : List Value} {seg : va_W} {v : Value} {ty : FieldType} (hin : ∀ w ∈ u_ws C T N, w ∈ WD) (ty0 : Nat → FieldType) (hty : ∀ k, k < N → parseFieldDescriptor (T k).2.2.1 = some (ty0 k)) (hnm : ∀ a, a < N → ∀ b, b < N → a ≠ b → (T a).2.1 ≠ (T b).2.1) (hcv : vwCl[ci]? = some (C, T, N)) (hdg : decode cc pc = .ok (.putfield idx, 3)) (hp : pc + 3 = pc') (hlk : Cond.fieldLink own idx ref nm ds ∈ WD) (hk : kf < N) (hT : T kf = (ref, nm, ds, false)) (hd : ty0 kf = ty) (hn : narrow ty v = v) (hf : fits ty v = true) (hl9 : kf < fs.length)
    (k : Gc F D own cc nL R ret Q tys ((h0, .inr (ci, fs.set kf v)) :: seg) ce sl pc' lv st) : Gc F D own cc nL R ret Q tys ((h0, .inr (ci, fs)) :: seg) ce sl pc lv (v :: .ref h0 :: st) :=
  gc_put (q0 := 0) hin ty0 hty hnm hcv hdg hp hlk rfl hk hT hd hn hf hl9 k
theorem gc_putF0 {C ref nm ds : String} {T : u_T} {N ci idx kf h0 : Nat} {fs : List Value} {seg : va_W} {v : Value} {ty : FieldType} (hin : ∀ w ∈ u_ws C T N, w ∈ WD) (ty0 : Nat → FieldType) (hty : ∀ k, k < N → parseFieldDescriptor (T k).2.2.1 = some (ty0 k)) (hnm : ∀ a, a < N → ∀ b, b < N → a ≠ b → (T a).2.1 ≠ (T b).2.1) (hcv : vwCl[ci]? = some (C, T, N)) (hdg : decode cc pc = .ok (.putfield idx, 3)) (hp : pc + 3 = pc') (hlk : Cond.fieldLink own idx ref nm ds ∈ WD) (hk : kf < N) (hT : T kf = (ref, nm, ds, true)) (hro : ref = own) (hnl : own ≠ "LetterDrawerLaw") (hd : ty0 kf = ty) (hn : narrow ty v = v) (hf : fits ty v = true) (hl9 : kf < fs.length)
    (k : Gc F D own cc nL R ret Q tys ((h0, .inr (ci, fs.set kf v)) :: seg) ce sl pc' lv st) : Gc F D own cc nL R ret Q tys ((h0, .inr (ci, fs)) :: seg) ce sl pc lv (v :: .ref h0 :: st) :=
  gc_putF (q0 := 0) hin ty0 hty hnm hcv hdg hp hlk rfl hk hT hro hnl hd hn hf hl9 k
theorem gc_newF {at9 : ArrayType} {ty : FieldType} {n : Int32} {N9 : Nat} {a0 : vp_A} {C ref nm ds : String} {T : u_T} {N ci idx kf h0 pc2 : Nat} {fs : List Value} {seg : va_W} (hdg : decode cc pc = .ok (.newarray at9, 2)) (hp : pc + 2 = pc') (hac : Cond.arrayClass (newarray.typeOf at9) ∈ WD) (hty9 : newarray.typeOf at9 = ty) (ha : ∀ cA : ClassId, vp_cell cA a0 = arrV cA N9 (fun _ => defaultValue ty)) (hn9 : ¬ n < 0) (hN9 : n.toNatClampNeg = N9) (hb : N9 * componentBytes ty ≤ 536870912) (hc : ce + 1 ≤ R.cells) (hs : sl + N9 ≤ R.slots)
    (hin : ∀ w ∈ u_ws C T N, w ∈ WD) (ty0 : Nat → FieldType) (hty : ∀ k, k < N → parseFieldDescriptor (T k).2.2.1 = some (ty0 k)) (hnm : ∀ a, a < N → ∀ b, b < N → a ≠ b → (T a).2.1 ≠ (T b).2.1) (hcv : vwCl[ci]? = some (C, T, N)) (hdg2 : decode cc pc' = .ok (.putfield idx, 3)) (hp2 : pc' + 3 = pc2) (hlk : Cond.fieldLink own idx ref nm ds ∈ WD) (hk : kf < N) (hT : T kf = (ref, nm, ds, true)) (hro : ref = own) (hnl : own ≠ "LetterDrawerLaw") (hd : ty0 kf = .array ty) (hl9 : kf < fs.length)
    (k : ∀ (q : Nat) (cA : ClassId), Gc F D own cc nL R ret Q (tys ++ [(cA, ty)]) ((h0, .inr (ci, fs.set kf (.ref q))) :: (seg ++ [(q, .inl (cA, a0))])) (ce + 1) (sl + N9) pc2 lv st) : Gc F D own cc nL R ret Q tys ((h0, .inr (ci, fs)) :: seg) ce sl pc lv (.int n :: .ref h0 :: st) :=
  gc_newa hdg hp hac hty9 ha hn9 hN9 hb hc hs (fun q cA => gc_putF (q0 := 0) hin ty0 hty hnm hcv hdg2 hp2 hlk rfl hk hT hro hnl hd rfl rfl hl9 (k q cA))
theorem gc_mnaF {idx : Nat} {ty : FieldType} {n k9 : Int32} {N9 K : Nat} {z : vp_A} {C ref nm ds : String} {T : u_T} {N ci idx2 kf h0 pc2 : Nat} {fs : List Value} {seg : va_W} (hdg : decode cc pc = .ok (.multianewarray idx 2, 4)) (hp : pc + 4 = pc') (hcl : Cond.classLink own idx ("[" ++ (FieldType.array ty).toString) ∈ WD) (hov : va_AOA ty F.2.2.2.1) (hac : Cond.arrayClass ty ∈ WD) (hRA : ∀ (U : State) (cA : ClassId), U.vm.findClass ("[" ++ ty.toString) = some cA → va_RA U cA ty) (hn : ¬ n < 0) (hk9 : ¬ k9 < 0) (hN : n.toNatClampNeg = N9) (hM : k9.toNatClampNeg = K) (hb1 : N9 * 4 ≤ 536870912) (hb2 : K * componentBytes ty ≤ 536870912) (hb3 : K ≤ 536870912) (hdf : fits ty (defaultValue ty) = true) (hdd : (defaultValue ty).isDefault = true) (hc : ce + (1 + N9) ≤ R.cells) (hs : sl + (N9 + N9 * K) ≤ R.slots) (hz : ∀ c : ClassId, Jvm.Free.Multi.innerC c K (defaultValue ty) = vp_cell c z)
    (hin : ∀ w ∈ u_ws C T N, w ∈ WD) (ty0 : Nat → FieldType) (hty : ∀ k, k < N → parseFieldDescriptor (T k).2.2.1 = some (ty0 k)) (hnm : ∀ a, a < N → ∀ b, b < N → a ≠ b → (T a).2.1 ≠ (T b).2.1) (hcv : vwCl[ci]? = some (C, T, N)) (hdg2 : decode cc pc' = .ok (.putfield idx2, 3)) (hp2 : pc' + 3 = pc2) (hlk : Cond.fieldLink own idx2 ref nm ds ∈ WD) (hk : kf < N) (hT : T kf = (ref, nm, ds, true)) (hro : ref = own) (hnl : own ≠ "LetterDrawerLaw") (hd : ty0 kf = .array (.array ty)) (hl9 : kf < fs.length)
    (k : ∀ (q : Nat) (r : Nat → Nat) (cA cy : ClassId), Gc F D own cc nL R ret Q (tys ++ [(cy, ty)] ++ [(cA, .array ty)]) ((h0, .inr (ci, fs.set kf (.ref q))) :: ((seg ++ [(q, .inl (cA, N9, .inr (.inr (.inr (.inr (fun i => if i < N9 then some (r i) else none))))))]) ++ (List.range N9).map (fun i => (r i, .inl (cy, z))))) (ce + 1 + N9) (sl + N9 + N9 * K) pc2 lv st) : Gc F D own cc nL R ret Q tys ((h0, .inr (ci, fs)) :: seg) ce sl pc lv (.int k9 :: .int n :: .ref h0 :: st) :=
  gc_mna hdg hp hcl hov hac hRA hn hk9 hN hM hb1 hb2 hb3 hdf hdd hc hs hz (fun q r cA cy => gc_putF (q0 := 0) hin ty0 hty hnm hcv hdg2 hp2 hlk rfl hk hT hro hnl hd rfl rfl hl9 (k q r cA cy))
theorem ra_int (U : State) (cA : ClassId) (h : U.vm.findClass ("[" ++ FieldType.int.toString) = some cA) : va_RA U cA .int := h
theorem ra_byte (U : State) (cA : ClassId) (h : U.vm.findClass ("[" ++ FieldType.byte.toString) = some cA) : va_RA U cA .byte := h
/-- behind a call whose world was the last cells -/
theorem join_last {A0 : Nat → Prop} {cl : List vw_C} {wa wc w1 : va_W} {H H1 : Heap} (hP : va_P D cl (wa ++ wc) H) (hD : va_D A0 (wa ++ wc)) (hk : ∀ q : Nat, q < H.size → ¬ va_A wc H.size q → H1[q]? = H[q]?) (hF : ∀ q, va_A wc H.size q → A0 q) (hP1 : va_P D cl w1 H1) (hD1 : va_D (va_A wc H.size) w1) : va_P D cl (wa ++ w1) H1 ∧ va_D A0 (wa ++ w1) := by
  have hl : ∀ (k : Nat) (q : Nat × va_E), wa[k]? = some q → (wa ++ wc)[k]? = some q := fun k q h => by
    rw [List.getElem?_append_left (List.getElem?_eq_some_iff.mp h).1]
    exact h
  have hr : ∀ (k : Nat) (q : Nat × va_E), wc[k]? = some q → (wa ++ wc)[wa.length + k]? = some q := fun k q h => by
    rw [List.getElem?_append_right (by omega), Nat.add_sub_cancel_left]
    exact h
  have apart : ∀ (k : Nat) (q : Nat × va_E), wa[k]? = some q → q.1 < H.size ∧ ¬ va_A wc H.size q.1 := fun k q h => by
    have hlt := (hP k q (hl k q h)).lt
    refine ⟨hlt, fun z => ?_⟩
    rcases z with ⟨k2, e, hz⟩ | hz
    · have := hD.1 k (wa.length + k2) q (q.1, e) (hl k q h) (hr k2 _ hz) rfl
      have := (List.getElem?_eq_some_iff.mp h).1
      omega
    · omega
  refine ⟨va_P.app (fun k q hq => (hP k q (hl k q hq)).kept (hk q.1 (apart k q hq).1 (apart k q hq).2)) hP1, va_D.app ⟨fun i j x y hi hj e => hD.1 i j x y (hl i x hi) (hl j y hj) e, fun k q hq => hD.2 k q (hl k q hq)⟩ (hD1.weaken (fun k q _ h => hF q.1 h)) (fun i j x y hx hy hxy => (apart i x hx).2 (by rw [hxy]; exact hD1.2 j y hy))⟩
/-- a constructor's contract: of an object with fields fs, as it was born, it makes the world wf u, with the array kinds tf u -/
def CtC (l : Launch) (D : va_G) (y : MethodName) (cc : ByteArray) (nL : Nat) (rm : Room) (mc ms : Nat) (extra : State → Prop) (h0 ci : Nat) (fs : List Value) {S9 : Type} (wf : S9 → va_W) (tf : S9 → List (ClassId × FieldType)) : Prop :=
  ∀ sz : Nat, Met l y (Cond.code y cc nL none :: WD) rm (va_Pc [.ref h0] (fun U => U.heap.size = sz ∧ va_P D vwCl [(h0, .inr (ci, fs))] U.heap ∧ va_K D vwCl [] U ∧ va_D (fun _ => True) [(h0, .inr (ci, fs))] ∧ extra U)) (va_Qv (fun _ : S9 => True) (fun u t => va_P D vwCl (wf u) t.heap ∧ va_K D vwCl (tf u) t ∧ va_D (va_A [(h0, .inr (ci, fs))] sz) (wf u)) (va_A [(h0, .inr (ci, fs))] sz)) mc ms (va_A [(h0, .inr (ci, fs))] sz)
/-- the end of a constructor -/
def RC (F : FX) (D : va_G) (mc ms : Nat) {S9 : Type} (wf : S9 → va_W) (tf : S9 → List (ClassId × FieldType)) : State → Prop := MQ F.2.2.2.2.2.2.1 (va_Qv (fun _ : S9 => True) (fun u t => va_P D vwCl (wf u) t.heap ∧ va_K D vwCl (tf u) t ∧ va_D F.2.2.2.2.2.2.2.2.2.1 (wf u)) F.2.2.2.2.2.2.2.2.2.1) F.2.2.2.2.2.1 F.2.2.2.1 mc ms F.2.2.2.2.2.2.2.2.2.1
theorem gc_vret {mc ms : Nat} {S9 : Type} {wf : S9 → va_W} {tf : S9 → List (ClassId × FieldType)} (u : S9) (hdg : decode cc pc = .ok (.return_, 1)) (hr : ret = none) (h : ws = wf u) (h2 : ∃ is : List Nat, is.filterMap (fun i => tys[i]?) = tf u) (hc : ce = mc) (hs : sl = ms) : Gc F D own cc nL R ret (RC F D mc ms wf tf) tys ws ce sl pc lv [] := by
  subst hr
  subst h
  subst hc
  subst hs
  obtain ⟨is, h2⟩ := h2
  intro hok H locs ls hK hP hD hS hl
  exact W.vret hok.1 hok.2.1 hok.2.2.2.2.2.1 (fun t ht hW => ⟨⟨u, rfl, trivial, by rw [ht]; exact hP, va_K.moved hW.alike (hK.sub is h2), hD⟩, hS.F ht⟩) hS.2.2 hdg hok.2.2.2.2.2.2.1
end GCR
theorem ctC_go {l : Launch} {D : va_G} {y : MethodName} {cc : ByteArray} {nL : Nat} {rm : Room} {mc ms : Nat} {extra : State → Prop} {h0 ci : Nat} {fs : List Value} {S9 : Type} {wf : S9 → va_W} {tf : S9 → List (ClassId × FieldType)} {own : String} (hy : plainName y.cls = true) (ho : y.cls = own) (hyn : y.name = "<init>") (hn : (lg_sl [.ref h0]).length ≤ nL)
    (body : ∀ F : FX, F.2.1 = l → extra F.2.2.2.1 → Gc F D own cc nL rm none (RC F D mc ms wf tf) [] [(h0, .inr (ci, fs))] 0 0 0 (lv_args 0 [.ref h0]) []) : CtC l D y cc nL rm mc ms extra h0 ci fs wf tf := by
  subst ho
  intro sz
  refine Met.ofW (cc := cc) (maxL := nL) (ret := none) hy rfl ?_
  intro p e s m args below meth c s₁ B hml hv
  obtain ⟨rfl, hsz, hP, hK, hD0, hex⟩ := hv
  subst hsz
  have hts := atoms_spec (ws := Cond.code y cc nL none :: WD) B.pre
  have hown : s.vm.findClass y.cls = some m.cls := findClass_of_methodNamed B.named
  have hl := lv_entry [.ref h0] (n := nL) hn
  rw [lg_entry_eq]
  exact body (p, l, e, s, m, #[.ref h0], below, meth, c, va_A [(h0, .inr (ci, fs))] s.heap.size, 0, 0) rfl hex ⟨B.exec, B.bytes, hml, hown, fun w h => hts w (List.mem_cons_of_mem _ h), B.returns, B.notSynchronized, fun q h => Or.inr h, fun _ => (name_of_methodNamed B.named B.method).1.trans hyn⟩ s.heap [] _ hK hP (hD0.self (sz := s.heap.size)) va_S.rf hl
section GCK
variable {F : FX} {D : va_G} {own : String} {cc : ByteArray} {nL : Nat} {R : Room} {ret : Option FieldType} {Q : State → Prop} {tys : List (ClassId × FieldType)} {ws : va_W} {ce sl : Nat} {pc pc' : Nat} {lv : List (Nat × Value)} {st : List Value}
variable {y : MethodName} {b2 : ByteArray} {n2 idx : Nat} {rm : Room} {mc ms h0 ci : Nat} {fs : List Value} {extra : State → Prop} {S9 : Type} {wf : S9 → va_W} {tf : S9 → List (ClassId × FieldType)}
theorem gc_pre (hexs : ∀ {u U : State}, u.vm = U.vm → extra u → extra U) (hexw : ∀ {u U : State}, u.WarmedH U.vm → extra u → extra U) (hex : extra F.2.2.2.1) {H : Heap} (hK : va_K D vwCl tys F.2.2.2.1) (hP : va_P D vwCl (ws ++ [(h0, .inr (ci, fs))]) H) : FrameBlind (va_Pc [.ref h0] (fun U => U.heap.size = H.size ∧ va_P D vwCl [(h0, .inr (ci, fs))] U.heap ∧ va_K D vwCl [] U ∧ va_D (fun _ => True) [(h0, .inr (ci, fs))] ∧ extra U)) ∧ ∀ U : State, U.heap = H → F.2.2.2.1.WarmedH U.vm → va_Pc [.ref h0] (fun U => U.heap.size = H.size ∧ va_P D vwCl [(h0, .inr (ci, fs))] U.heap ∧ va_K D vwCl [] U ∧ va_D (fun _ => True) [(h0, .inr (ci, fs))] ∧ extra U) (Value.ref h0 :: ([] : List Value)).toArray U := by
  refine ⟨fun a U g mk q => ?_, fun U hU hW => ⟨rfl, by rw [hU], fun k q hq => ?_, va_K.moved hW.alike (hK.sub [] rfl), ⟨fun i j p q hi hj _ => ?_, fun _ _ _ => trivial⟩, hexw hW hex⟩⟩
  · obtain ⟨q0, q1, qP, qK, qD, qe⟩ := q
    exact ⟨q0, q1, qP, va_K.moved (u := U) (U := U.calling g mk a) (Vm.Alike.refl U.vm) qK, qD, hexs (u := U) (U := U.calling g mk a) rfl qe⟩
  · rw [hU]
    have h0 : k < 1 := (List.getElem?_eq_some_iff.mp hq).1
    rw [show k = 0 by omega] at hq
    exact hP ws.length q (by rw [List.getElem?_append_right (Nat.le_refl _), Nat.sub_self]; exact hq)
  · have h1 : i < 1 := (List.getElem?_eq_some_iff.mp hi).1
    have h2 : j < 1 := (List.getElem?_eq_some_iff.mp hj).1
    omega
theorem gc_join {A0 : Nat → Prop} {H0 H : Heap} {locs : List Loc} (hD : va_D A0 (ws ++ [(h0, .inr (ci, fs))])) (hS : va_S A0 H0 H locs) (hA : ∀ q, H0.size ≤ q → A0 q) : ∀ q, va_A [(h0, .inr (ci, fs))] H.size q → A0 q := fun q h => by
  rcases h with ⟨k, e, h⟩ | h
  · have h1 : k < 1 := (List.getElem?_eq_some_iff.mp h).1
    rw [show k = 0 by omega] at h
    exact hD.2 ws.length (q, e) (by rw [List.getElem?_append_right (Nat.le_refl _), Nat.sub_self]; exact h)
  · exact hA q (Nat.le_trans hS.1 h)
/-- a constructor's call by the link of the tables -/
theorem gc_ctor (hc : CtC F.2.1 D y b2 n2 rm mc ms extra h0 ci fs wf tf) (hexs : ∀ {u U : State}, u.vm = U.vm → extra u → extra U) (hexw : ∀ {u U : State}, u.WarmedH U.vm → extra u → extra U) (hex : extra F.2.2.2.1) (hm : Cond.methodLink own idx y ∈ WD) (him : Cond.instanceMethod y ∈ WD) (hcl : Cond.initialized y.cls ∈ WD) (hco : Cond.code y b2 n2 none ∈ WD) (hyn : y.name = "<init>") (hd : y.cls ≠ "java/lang/invoke/MethodHandle" ∧ y.cls ≠ "java/lang/invoke/VarHandle" ∧ (parseMethodDescriptor y.desc).map (fun d => d.parameters.length) = some 0) (hR : rm.frames + 1 ≤ R.frames ∧ 8 + (n2 + 11) + rm.locals ≤ R.locals) (h00 : rm.cells = mc ∧ rm.slots = ms) (hrest : (st.map fun v => v.category).sum ≤ 8) (hf : ce + mc ≤ R.cells ∧ sl + ms ≤ R.slots) (hdg : decode cc pc = .ok (.invokespecial idx, 3)) (hp : pc + 3 = pc')
    (k : ∀ u : S9, Gc F D own cc nL R ret Q (tys ++ tf u) (ws ++ wf u) (ce + mc) (sl + ms) pc' lv st) : Gc F D own cc nL R ret Q tys (ws ++ [(h0, .inr (ci, fs))]) ce sl pc lv (.ref h0 :: st) := by
  subst hp
  intro hok H locs ls hK hP hD hS hl
  have hF := gc_join hD hS hok.2.2.2.2.2.2.2.1
  refine va_callv (va_runI (As := []) (rest := st) ⟨hok.1, hok.2.1, hok.2.2.1, hok.2.2.2.1, hok.2.2.2.2.1⟩ (hc H.size) ⟨callB_of 0 hok.2.2.2.2.1 (wd_goodIn y b2 n2 none hco) rfl h00.1 h00.2 (hok.2.2.2.2.1 _ hcl) (hok.2.2.2.2.1 _ hm) hd hR, hyn, hok.2.2.2.2.1 _ him⟩ (gc_pre hexs hexw hex hK hP) rfl rfl hl.1 rfl (lv_room hrest) hdg hf) hS (fun q _ h => hF q h) hF (fun u t H1 locs1 ht hvm hw hB hz1 hk1 hS1 => ?_)
  obtain ⟨hP1, hK1, hD1⟩ := hB
  rw [ht] at hP1
  obtain ⟨hP2, hD2⟩ := join_last hP hD hk1 hF hP1 hD1
  exact k u hok H1 locs1 ls (hK.app (va_K.moved hvm.symm hK1)) hP2 hD2 hS1 hl
/-- .. and by a nest mate's link -/
theorem gc_ctorN {host : String} (hc : CtC F.2.1 D y b2 n2 rm mc ms extra h0 ci fs wf tf) (hexs : ∀ {u U : State}, u.vm = U.vm → extra u → extra U) (hexw : ∀ {u U : State}, u.WarmedH U.vm → extra u → extra U) (hex : extra F.2.2.2.1) (hm : va_Nw (.methodLinkNest own idx y host) F.2.2.2.1) (him : Cond.instanceMethod y ∈ WD) (hcl : Cond.initialized y.cls ∈ WD) (hco : Cond.code y b2 n2 none ∈ WD) (hyn : y.name = "<init>") (hd : y.cls ≠ "java/lang/invoke/MethodHandle" ∧ y.cls ≠ "java/lang/invoke/VarHandle" ∧ (parseMethodDescriptor y.desc).map (fun d => d.parameters.length) = some 0) (hR : rm.frames + 1 ≤ R.frames ∧ 8 + (n2 + 11) + rm.locals ≤ R.locals) (h00 : rm.cells = mc ∧ rm.slots = ms) (hrest : (st.map fun v => v.category).sum ≤ 8) (hf : ce + mc ≤ R.cells ∧ sl + ms ≤ R.slots) (hdg : decode cc pc = .ok (.invokespecial idx, 3)) (hp : pc + 3 = pc')
    (k : ∀ u : S9, Gc F D own cc nL R ret Q (tys ++ tf u) (ws ++ wf u) (ce + mc) (sl + ms) pc' lv st) : Gc F D own cc nL R ret Q tys (ws ++ [(h0, .inr (ci, fs))]) ce sl pc lv (.ref h0 :: st) := by
  subst hp
  intro hok H locs ls hK hP hD hS hl
  have hF := gc_join hD hS hok.2.2.2.2.2.2.2.1
  refine va_callv (va_runIN (As := []) (rest := st) ⟨hok.1, hok.2.1, hok.2.2.1, hok.2.2.2.1, hok.2.2.2.2.1⟩ (hc H.size) ⟨va_cnB 0 hok.2.2.2.2.1 (wd_goodIn y b2 n2 none hco) rfl h00.1 h00.2 hm (hok.2.2.2.2.1 _ hcl) hd hR, hyn, hok.2.2.2.2.1 _ him⟩ (gc_pre hexs hexw hex hK hP) rfl rfl hl.1 rfl (lv_room hrest) hdg hf) hS (fun q _ h => hF q h) hF (fun u t H1 locs1 ht hvm hw hB hz1 hk1 hS1 => ?_)
  obtain ⟨hP1, hK1, hD1⟩ := hB
  rw [ht] at hP1
  obtain ⟨hP2, hD2⟩ := join_last hP hD hk1 hF hP1 hD1
  exact k u hok H1 locs1 ls (hK.app (va_K.moved hvm.symm hK1)) hP2 hD2 hS1 hl
end GCK
theorem exT_s {u U : State} (_ : u.vm = U.vm) (h : (fun _ : State => True) u) : (fun _ : State => True) U := h
theorem exT_w {u U : State} (_ : u.WarmedH U.vm) (h : (fun _ : State => True) u) : (fun _ : State => True) U := h
theorem exA_s {ty : FieldType} {u U : State} (e : u.vm = U.vm) (h : va_AOA ty u) : va_AOA ty U := h.moved (e ▸ Vm.Alike.refl u.vm)
theorem exA_w {ty : FieldType} {u U : State} (e : u.WarmedH U.vm) (h : va_AOA ty u) : va_AOA ty U := h.moved e.alike
