/-- so many first values, as a list -/
def outL (g : Nat → Int32) (m : Nat) : List Int := (List.range m).map (fun j => (g j).toInt)
theorem outL_len (g : Nat → Int32) (m : Nat) : (outL g m).length = m := by simp [outL]
theorem outL_congr {g g2 : Nat → Int32} {m : Nat} (h : ∀ j : Nat, j < m → g j = g2 j) : outL g m = outL g2 m := by
  unfold outL
  refine List.map_congr_left (fun j hj => ?_)
  rw [h j (List.mem_range.mp hj)]
theorem outL_add {g : Nat → Int32} {m m2 : Nat} {v : Int32} {w : Int} (e : m2 = m + 1) (ev : v.toInt = w) : outL (upd g m v) m2 = outL g m ++ [w] := by
  subst e
  subst ev
  unfold outL
  rw [List.range_succ, List.map_append, List.map_cons, List.map_nil, upd_eq]
  congr 1
  refine List.map_congr_left (fun j hj => ?_)
  rw [upd_ne (Nat.ne_of_lt (List.mem_range.mp hj))]
theorem outL_get {g : Nat → Int32} {m j : Nat} (h : j < m) : (outL g m)[j]? = some (g j).toInt := by
  unfold outL
  rw [List.getElem?_map, List.getElem?_range h]
  rfl
/-- a number as it is printed -/
def digL (v : Int) : List Int := (if 1000 ≤ v then [48 + v / 1000 % 10] else []) ++ ((if 100 ≤ v then [48 + v / 100 % 10] else []) ++ ((if 10 ≤ v then [48 + v / 10 % 10] else []) ++ [48 + v % 10]))
def clsL (s : Int) : List Int := if s = 115 then [] else [if s = 100 then 62 else if s = 97 then 47 else if s = 117 then 93 else 39]
def opnL (s : Int) : List Int := if s = 115 then [] else [if s = 100 then 60 else if s = 97 then 47 else if s = 117 then 91 else 39]
def ntL (v : Int) : List Int := 40 :: (digL v ++ [41])
abbrev hidP (dy wy s v : Int) : Prop := (s = 115 ∧ dy < v) ∨ (s = 100 ∧ wy = 0)
def opF (dy wy s v : Int) (k : Nat) : List Int := if k = 0 then (if hidP dy wy s v then (if wy = 1 then [95] else []) else if wy = 1 then opnL s else []) else []
def hF (dy wy s v : Int) (k d : Nat) : Nat := if k = 0 then (if hidP dy wy s v then d + 1 else 0) else k
/-- what a TEXT prints from place p on: d MARKS are open (stk: their sorts), k: from which one on it is hidden (0: it is not) -/
def prF (t : Nat → Int) (n : Nat) (dy wy : Int) : Nat → Nat → Nat → (Nat → Int) → Nat → List Int
  | 0, _, _, _, _ => []
  | f + 1, p, d, stk, k =>
    if n ≤ p then []
    else if t p = 125 then (if d - 1 < k then [] else if k = 0 ∧ wy = 1 then clsL (stk (d - 1)) else []) ++ prF t n dy wy f (p + 1) (d - 1) stk (if d - 1 < k then 0 else k)
    else if t p ≠ 123 then (if k = 0 then [t p] else []) ++ prF t n dy wy f (p + 1) d stk k
    else if t (p + 1) = 110 then (if k = 0 ∧ wy = 1 then ntL (nval t (p + 2) (dcnt t n 4 (p + 2))) else []) ++ prF t n dy wy f (p + 3 + dcnt t n 4 (p + 2)) d stk k
    else opF dy wy (t (p + 1)) (nval t (p + 2) (dcnt t n 4 (p + 2))) k ++ prF t n dy wy f (if t (p + 1) = 115 then p + 3 + dcnt t n 4 (p + 2) else p + 2) (d + 1) (fun i => if i = d then t (p + 1) else stk i) (hF dy wy (t (p + 1)) (nval t (p + 2) (dcnt t n 4 (p + 2))) k d)
abbrev sortQ (c : Int) : Prop := c = 100 ∨ c = 97 ∨ c = 117 ∨ c = 104 ∨ c = 115
/-- L is printed, and the rest comes from p on -/
def PO (t : Nat → Int) (n : Nat) (dy wy : Int) (L : List Int) (p d : Nat) (O : Nat → Int32) (k : Nat) : Prop := ∃ (f : Nat) (stk : Nat → Int), prF t n dy wy 200 0 0 (fun _ => 0) 0 = L ++ prF t n dy wy f p d stk k ∧ n + 1 ≤ f + p ∧ (∀ i : Nat, i < d → stk i = (O i).toInt) ∧ ∀ i : Nat, i < d → sortQ (O i).toInt
theorem PO_sq {t : Nat → Int} {n p d k i : Nat} {dy wy : Int} {L : List Int} {O : Nat → Int32} (h : PO t n dy wy L p d O k) (hi : i < d) : sortQ (O i).toInt := by
  obtain ⟨f, stk, -, -, -, hq⟩ := h
  exact hq i hi
theorem PO_0 {t : Nat → Int} {n : Nat} {dy wy : Int} {O : Nat → Int32} (h : n ≤ 160) : PO t n dy wy [] 0 0 O 0 := ⟨200, _, (List.nil_append _).symm, by omega, fun i hi => absurd hi (Nat.not_lt_zero _), fun i hi => absurd hi (Nat.not_lt_zero _)⟩
theorem PO_end {t : Nat → Int} {n p d k : Nat} {dy wy : Int} {L : List Int} {O : Nat → Int32} (h : PO t n dy wy L p d O k) (hp : n ≤ p) (hp2 : p ≤ n) : L = prF t n dy wy 200 0 0 (fun _ => 0) 0 := by
  obtain ⟨f, stk, e, hf, -, -⟩ := h
  obtain ⟨g, rfl⟩ : ∃ g, f = g + 1 := ⟨f - 1, by omega⟩
  rw [e]
  have z : prF t n dy wy (g + 1) p d stk k = [] := by
    unfold prF
    exact if_pos hp
  rw [z, List.append_nil]
theorem PO_cl {t : Nat → Int} {n p p2 d d2 k : Nat} {dy wy : Int} {L : List Int} {O : Nat → Int32} (h : PO t n dy wy L p d O k) (hp : p < n) (c : t p = 125) (hd : d = d2 + 1) (e2 : p2 = p + 1) : PO t n dy wy (L ++ if d2 < k then [] else if k = 0 ∧ wy = 1 then clsL (O d2).toInt else []) p2 d2 O (if d2 < k then 0 else k) := by
  obtain ⟨f, stk, e, hf, hs, hq⟩ := h
  obtain ⟨g, rfl⟩ : ∃ g, f = g + 1 := ⟨f - 1, by omega⟩
  refine ⟨g, stk, ?_, by omega, fun i hi => hs i (by omega), fun i hi => hq i (by omega)⟩
  have z : prF t n dy wy (g + 1) p d stk k = (if d2 < k then [] else if k = 0 ∧ wy = 1 then clsL (O d2).toInt else []) ++ prF t n dy wy g p2 d2 stk (if d2 < k then 0 else k) := by
    conv => lhs; unfold prF
    rw [if_neg (by omega), if_pos c, e2, show d - 1 = d2 by omega, hs d2 (by omega)]
  rw [e, z, List.append_assoc]
theorem PO_pl {t : Nat → Int} {n p p2 d k : Nat} {dy wy : Int} {L : List Int} {O : Nat → Int32} (h : PO t n dy wy L p d O k) (hp : p < n) (c1 : t p ≠ 125) (c2 : t p ≠ 123) (e2 : p2 = p + 1) : PO t n dy wy (L ++ if k = 0 then [t p] else []) p2 d O k := by
  obtain ⟨f, stk, e, hf, hs, hq⟩ := h
  obtain ⟨g, rfl⟩ : ∃ g, f = g + 1 := ⟨f - 1, by omega⟩
  refine ⟨g, stk, ?_, by omega, hs, hq⟩
  have z : prF t n dy wy (g + 1) p d stk k = (if k = 0 then [t p] else []) ++ prF t n dy wy g p2 d stk k := by
    conv => lhs; unfold prF
    rw [if_neg (by omega), if_neg c1, if_pos c2, e2]
  rw [e, z, List.append_assoc]
theorem PO_nt {t : Nat → Int} {n p p2 d k : Nat} {dy wy : Int} {L : List Int} {O : Nat → Int32} (h : PO t n dy wy L p d O k) (hp : p < n) (c : t p = 123) (c2 : t (p + 1) = 110) (e2 : p2 = p + 3 + dcnt t n 4 (p + 2)) : PO t n dy wy (L ++ if k = 0 ∧ wy = 1 then ntL (nval t (p + 2) (dcnt t n 4 (p + 2))) else []) p2 d O k := by
  obtain ⟨f, stk, e, hf, hs, hq⟩ := h
  obtain ⟨g, rfl⟩ : ∃ g, f = g + 1 := ⟨f - 1, by omega⟩
  refine ⟨g, stk, ?_, by omega, hs, hq⟩
  have z : prF t n dy wy (g + 1) p d stk k = (if k = 0 ∧ wy = 1 then ntL (nval t (p + 2) (dcnt t n 4 (p + 2))) else []) ++ prF t n dy wy g p2 d stk k := by
    conv => lhs; unfold prF
    rw [if_neg (by omega), if_neg (by omega), if_neg (by omega), if_pos c2, e2]
  rw [e, z, List.append_assoc]
theorem PO_op {t : Nat → Int} {n p p2 d k : Nat} {dy wy : Int} {L : List Int} {O : Nat → Int32} {w : Int32} (h : PO t n dy wy L p d O k) (hp : p < n) (c : t p = 123) (c2 : t (p + 1) ≠ 110) (hw : w.toInt = t (p + 1)) (hz : sortQ (t (p + 1))) (e2 : p2 = if t (p + 1) = 115 then p + 3 + dcnt t n 4 (p + 2) else p + 2) : PO t n dy wy (L ++ opF dy wy (t (p + 1)) (nval t (p + 2) (dcnt t n 4 (p + 2))) k) p2 (d + 1) (upd O d w) (hF dy wy (t (p + 1)) (nval t (p + 2) (dcnt t n 4 (p + 2))) k d) := by
  obtain ⟨f, stk, e, hf, hs, hq⟩ := h
  obtain ⟨g, rfl⟩ : ∃ g, f = g + 1 := ⟨f - 1, by omega⟩
  have h2 : p + 1 ≤ p2 := by
    rw [e2]
    split <;> omega
  refine ⟨g, (fun i => if i = d then t (p + 1) else stk i), ?_, by omega, fun i hi => ?_, fun i hi => ?_⟩
  · have z : prF t n dy wy (g + 1) p d stk k = opF dy wy (t (p + 1)) (nval t (p + 2) (dcnt t n 4 (p + 2))) k ++ prF t n dy wy g p2 (d + 1) (fun i => if i = d then t (p + 1) else stk i) (hF dy wy (t (p + 1)) (nval t (p + 2) (dcnt t n 4 (p + 2))) k d) := by
      conv => lhs; unfold prF
      rw [if_neg (by omega), if_neg (by omega), if_neg (by omega), if_neg c2, e2]
    rw [e, z, List.append_assoc]
  · show (if i = d then t (p + 1) else stk i) = (upd O d w i).toInt
    by_cases y : i = d
    · rw [if_pos y, y, upd_eq, hw]
    · rw [if_neg y, upd_ne y]
      exact hs i (by omega)
  · by_cases y : i = d
    · rw [y, upd_eq, hw]
      exact hz
    · rw [upd_ne y]
      exact hq i (by omega)
theorem PO_e {t : Nat → Int} {n p p2 d d2 k k2 : Nat} {dy wy : Int} {L L2 : List Int} {O O2 : Nat → Int32} (h : PO t n dy wy L p d O k) (h1 : L2 = L) (h2 : p2 = p) (h3 : d2 = d) (h4 : O2 = O) (h5 : k2 = k) : PO t n dy wy L2 p2 d2 O2 k2 := by
  subst h1
  subst h2
  subst h3
  subst h4
  subst h5
  exact h
theorem opF_v {dy wy s v v2 : Int} {k : Nat} (h : s = 115 → v = v2) : opF dy wy s v k = opF dy wy s v2 k := by
  by_cases z : s = 115
  · rw [h z]
  · unfold opF hidP
    simp only [z, false_and]
theorem hF_v {dy wy s v v2 : Int} {k d : Nat} (h : s = 115 → v = v2) : hF dy wy s v k d = hF dy wy s v2 k d := by
  by_cases z : s = 115
  · rw [h z]
  · unfold hF hidP
    simp only [z, false_and]
theorem opF_len (dy wy s v : Int) (k : Nat) : (opF dy wy s v k).length ≤ 1 := by
  unfold opF opnL
  repeat' split
  all_goals simp
theorem clsL_len (s : Int) : (clsL s).length ≤ 1 := by
  unfold clsL
  split <;> simp
theorem digL_len (v : Int) : (digL v).length = (if 1000 ≤ v then 1 else 0) + ((if 100 ≤ v then 1 else 0) + ((if 10 ≤ v then 1 else 0) + 1)) := by
  unfold digL
  repeat' split
  all_goals rfl
theorem nt_len {t : Nat → Int} {p j : Nat} (hd : ∀ i : Nat, i < j → digP (t (p + i))) (h1 : 1 ≤ j) (hj : j ≤ 4) : (ntL (nval t p j)).length ≤ j + 2 := by
  have g := nval_rng hd hj
  have e : (ntL (nval t p j)).length = (digL (nval t p j)).length + 2 := by simp [ntL]
  rw [e, digL_len]
  repeat' split
  all_goals omega
/-- what comes by an event of the class's reader (r; c: the byte, so: the sort, nu: the number, d2: so many are open then) -/
def evL (dy wy c r so nu : Int) (k d2 : Nat) : List Int := if r = 0 then (if k = 0 then [c] else []) else if r = 2 then opF dy wy so nu k else if r = 3 then (if d2 < k then [] else if k = 0 ∧ wy = 1 then clsL so else []) else if r = 4 then (if k = 0 ∧ wy = 1 then ntL nu else []) else []
def evH (dy wy r so nu : Int) (k d2 : Nat) : Nat := if r = 2 then hF dy wy so nu k (d2 - 1) else if r = 3 then (if d2 < k then 0 else k) else k
/-- the class's printer at i -/
def INVR (t : Nat → Int) (n : Nat) (dy wy : Int) (i k : Nat) (s : ST) : Prop := ∃ q : Nat, q ≤ i ∧ AUT t n i q s ∧ PO t n dy wy (outL (s.2 45) (s.1 14).toNatClampNeg) q (s.1 7).toNatClampNeg (s.2 44) k ∧ (s.1 14).toInt ≤ (q : Int) ∧ k ≤ (s.1 7).toNatClampNeg
/-- behind a byte: what is to be printed for it -/
def RTK (t : Nat → Int) (n : Nat) (dy wy : Int) (i k : Nat) (s s2 : ST) (r : Int) : Prop := 0 ≤ r ∧ r ≤ 4 ∧ s2.2 45 = s.2 45 ∧ s2.1 14 = s.1 14 ∧ (r = 0 → plainP (t i)) ∧ (r = 4 → 0 ≤ (s2.1 9).toInt ∧ (s2.1 9).toInt ≤ 9999) ∧ (r = 2 ∨ r = 3 → sortQ (s2.1 8).toInt) ∧ ∃ q2 : Nat, q2 ≤ i + 1 ∧ AUT t n (i + 1) q2 s2 ∧ PO t n dy wy (outL (s.2 45) (s.1 14).toNatClampNeg ++ evL dy wy (t i) r (s2.1 8).toInt (s2.1 9).toInt k (s2.1 7).toNatClampNeg) q2 (s2.1 7).toNatClampNeg (s2.2 44) (evH dy wy r (s2.1 8).toInt (s2.1 9).toInt k (s2.1 7).toNatClampNeg) ∧ (s.1 14).toInt + ((evL dy wy (t i) r (s2.1 8).toInt (s2.1 9).toInt k (s2.1 7).toNatClampNeg).length : Int) ≤ (q2 : Int) ∧ evH dy wy r (s2.1 8).toInt (s2.1 9).toInt k (s2.1 7).toNatClampNeg ≤ (s2.1 7).toNatClampNeg
theorem AUT_q {t : Nat → Int} {n i q : Nat} {s : ST} (h : AUT t n i q s) : (s.1 12 = 0 → q = i) ∧ (s.1 12 = 1 → i = q + 1) ∧ (s.1 12 = 2 → (i : Int) = q + 2 + (s.1 13).toInt) := by
  obtain ⟨-, ⟨m0, e⟩ | ⟨-, ⟨m1, e⟩ | ⟨m2, -, -, -, -, -, g, g1, -, e, -⟩⟩⟩ := h
  · exact ⟨fun _ => e, fun z => absurd (m0.symm.trans z) (by decide), fun z => absurd (m0.symm.trans z) (by decide)⟩
  · exact ⟨fun z => absurd (m1.symm.trans z) (by decide), fun _ => e, fun z => absurd (m1.symm.trans z) (by decide)⟩
  · exact ⟨fun z => absurd (m2.symm.trans z) (by decide), fun z => absurd (m2.symm.trans z) (by decide), fun _ => by omega⟩
theorem ev1 (dy wy c so nu : Int) (k d2 : Nat) : evL dy wy c 1 so nu k d2 = [] ∧ evH dy wy 1 so nu k d2 = k := ⟨rfl, rfl⟩
theorem hF_le {dy wy s v : Int} {k d : Nat} (h : k ≤ d) : hF dy wy s v k d ≤ d + 1 := by
  unfold hF
  repeat' split
  all_goals omega
set_option maxHeartbeats 2000000 in
theorem R_take {t : Nat → Int} {n i k : Nat} {dy wy : Int} {s s2 : ST} {sg p r : Int32} (iv : IV s) (h : INVR t n dy wy i k s) (hv : VT t n) (hi : i < n) (hs : sg.toInt = t i) (hp : p.toInt = (i : Int)) (ht : sX_take s sg p r s2) : RTK t n dy wy i k s s2 r.toInt := by
  have v0 : (0 : Int32).toInt = 0 := by decide
  have v1 : (1 : Int32).toInt = 1 := by decide
  have v2 : (2 : Int32).toInt = 2 := by decide
  have v3 : (3 : Int32).toInt = 3 := by decide
  have v4 : (4 : Int32).toInt = 4 := by decide
  have v5 : (5 : Int32).toInt = 5 := by decide
  have u7 := ixi_7 iv
  have c7 := cnat (x := s.1 7) u7.1
  obtain ⟨q, hq, ha, hpo, hsz, hkd⟩ := h
  have tA := (AUT_take iv ha hi hs hp ht).resolve_left (fun z => by
    have e : tk t n 200 0 0 (fun _ => 0) = -1 := hv
    omega)
  obtain ⟨hr5, q2, hq2, ha2, -⟩ := tA
  have aq := AUT_q ha
  have aq2 := AUT_q ha2
  have hle2 := AUT_le ha2
  obtain ⟨-, hm⟩ := ha
  rcases hm with ⟨m0, rfl⟩ | ⟨⟨tq, qn, dl, mk⟩, ⟨m1, e1⟩ | ⟨m2, qn1, so, no, sq, sk, g, g1, g2, g3, g4, g5⟩⟩
  · have ht : sX_tText s sg p r s2 := by
      rcases ht with ⟨z, -⟩ | ⟨z, -⟩ | ⟨-, -, z⟩
      · rw [m0] at z
        exact absurd z (by decide)
      · rw [m0] at z
        exact absurd z (by decide)
      · exact z
    rcases ht with ⟨c, e, f⟩ | ⟨c, e, f⟩ | ⟨c, e, f⟩ | ⟨c, e, f⟩
    · subst f
      subst e
      rw [hs] at c
      have eq2 := aq2.1 m0
      rw [v0]
      refine ⟨by decide, by decide, rfl, rfl, fun _ => c, fun z => absurd z (by decide), fun z => absurd z (by decide), q2, hle2, ha2, PO_e (PO_pl hpo hi (by omega) (by omega) rfl) rfl (by omega) rfl rfl rfl, ?_, hkd⟩
      have : (evL dy wy (t q) 0 (s2.1 8).toInt (s2.1 9).toInt k (s2.1 7).toNatClampNeg).length ≤ 1 := by
        show (if k = 0 then [t q] else []).length ≤ 1
        split <;> simp
      omega
    · have d1 := dec1 (x := s.1 7) (by omega)
      have cd := cnat (x := s.1 7 - 1) (by omega)
      subst f
      subst e
      have eq2 := aq2.1 m0
      rw [v3]
      refine ⟨by decide, by decide, rfl, rfl, fun z => absurd z (by decide), fun z => absurd z (by decide), fun _ => (show sortQ (s.2 44 (s.1 7 - 1).toNatClampNeg).toInt from PO_sq (O := s.2 44) hpo (show (s.1 7 - 1).toNatClampNeg < (s.1 7).toNatClampNeg by omega)), q2, hle2, ha2, PO_e (PO_cl hpo hi (by omega) (show (s.1 7).toNatClampNeg = (s.1 7 - 1).toNatClampNeg + 1 by omega) rfl) rfl (by omega) rfl rfl rfl, ?_, ?_⟩
      · have : (if (s.1 7 - 1).toNatClampNeg < k then [] else if k = 0 ∧ wy = 1 then clsL (s.2 44 (s.1 7 - 1).toNatClampNeg).toInt else []).length ≤ 1 := by
          have := clsL_len (s.2 44 (s.1 7 - 1).toNatClampNeg).toInt
          split
          · simp
          · split
            · exact this
            · simp
        show (s.1 14).toInt + (((if (s.1 7 - 1).toNatClampNeg < k then [] else if k = 0 ∧ wy = 1 then clsL (s.2 44 (s.1 7 - 1).toNatClampNeg).toInt else []).length : Nat) : Int) ≤ (q2 : Int)
        omega
      · show (if (s.1 7 - 1).toNatClampNeg < k then 0 else k) ≤ (s.1 7 - 1).toNatClampNeg
        split <;> omega
    · subst f
      subst e
      have eq2 := aq2.2.1 rfl
      rw [v1]
      exact ⟨by decide, by decide, rfl, rfl, fun z => absurd z (by decide), fun z => absurd z (by decide), fun z => absurd z (by decide), q2, hle2, ha2, PO_e hpo (List.append_nil _) (by omega) rfl rfl rfl, by show (s.1 14).toInt + ((0 : Nat) : Int) ≤ _; omega, hkd⟩
    · subst e
      omega
  · have ht : sX_tSort s sg p r s2 := by
      rcases ht with ⟨-, z⟩ | ⟨z, -⟩ | ⟨z, -⟩
      · exact z
      · rw [m1] at z
        exact absurd z (by decide)
      · exact absurd m1 z
    rcases ht with ⟨c, e, f⟩ | ⟨c, o, e, f⟩ | ⟨c, o, sn, e, f⟩ | ⟨c, o, sn, z⟩
    · subst e
      omega
    · subst e
      omega
    · subst f
      subst e
      have eq2 : ((i + 1 : Nat) : Int) = (q2 : Int) + 2 + (0 : Int32).toInt := aq2.2.2 rfl
      rw [v1]
      exact ⟨by decide, by decide, rfl, rfl, fun z => absurd z (by decide), fun z => absurd z (by decide), fun z => absurd z (by decide), q2, hle2, ha2, PO_e hpo (List.append_nil _) (by omega) rfl rfl rfl, by show (s.1 14).toInt + ((0 : Nat) : Int) ≤ _; omega, hkd⟩
    · rcases z with ⟨c4, -, -⟩ | ⟨c4, e, f⟩
      · exfalso
        have c4' : 4 ≤ (s.1 7).toInt := c4
        omega
      · have i1 := inc1 (x := s.1 7) (by omega)
        have ci := cnat (x := s.1 7 + 1) (by omega)
        subst f
        subst e
        have eq2 := aq2.1 rfl
        rw [hs, e1] at c sn
        have hw : sg.toInt = t (q + 1) := by rw [hs, e1]
        have n115 : t (q + 1) ≠ 115 := by omega
        rw [v2]
        have ol := opF_len dy wy sg.toInt (s.1 9).toInt k
        refine ⟨by decide, by decide, rfl, rfl, fun z => absurd z (by decide), fun z => absurd z (by decide), fun _ => by show sortQ sg.toInt; omega, q2, hle2, ha2, PO_e (PO_op (w := sg) hpo qn tq (by omega) hw (by omega) rfl) ?_ ?_ (show (s.1 7 + 1).toNatClampNeg = (s.1 7).toNatClampNeg + 1 by omega) rfl ?_, ?_, ?_⟩
        · show _ ++ opF dy wy sg.toInt (s.1 9).toInt k = _
          rw [hw, opF_v (v2 := nval t (q + 2) (dcnt t n 4 (q + 2))) (fun z => absurd z n115)]
        · rw [if_neg n115]
          omega
        · show hF dy wy sg.toInt (s.1 9).toInt k ((s.1 7 + 1).toNatClampNeg - 1) = _
          rw [hw, hF_v (v2 := nval t (q + 2) (dcnt t n 4 (q + 2))) (fun z => absurd z n115), show (s.1 7 + 1).toNatClampNeg - 1 = (s.1 7).toNatClampNeg by omega]
        · show (s.1 14).toInt + (((opF dy wy sg.toInt (s.1 9).toInt k).length : Nat) : Int) ≤ _
          omega
        · show hF dy wy sg.toInt (s.1 9).toInt k ((s.1 7 + 1).toNatClampNeg - 1) ≤ (s.1 7 + 1).toNatClampNeg
          rw [show (s.1 7 + 1).toNatClampNeg = (s.1 7).toNatClampNeg + 1 by omega]
          exact hF_le hkd
  · have ht : sX_tNum s sg p r s2 := by
      rcases ht with ⟨z, -⟩ | ⟨-, z⟩ | ⟨-, z, -⟩
      · rw [m2] at z
        exact absurd z (by decide)
      · exact z
      · exact absurd m2 z
    have rg := nval_rng (t := t) (p := q + 2) (j := g) (fun k hk0 => (g4 k hk0).2) g2
    rcases ht with ⟨c, e, f⟩ | ⟨c, o, e, f⟩ | ⟨c, o, s5, s8, z⟩ | ⟨c, o, s5, s8, e, f⟩
    · have w4 := inc1 (x := s.1 13) (by omega)
      subst f
      subst e
      have eq2 : ((i + 1 : Nat) : Int) = (q2 : Int) + 2 + (s.1 13 + 1).toInt := aq2.2.2 m2
      rw [v1]
      exact ⟨by decide, by decide, rfl, rfl, fun z => absurd z (by decide), fun z => absurd z (by decide), fun z => absurd z (by decide), q2, hle2, ha2, PO_e hpo (List.append_nil _) (by omega) rfl rfl rfl, by show (s.1 14).toInt + ((0 : Nat) : Int) ≤ _; omega, hkd⟩
    · subst e
      omega
    · have hcn := nx_num (n := n) (e := 58) (Or.inl ⟨by omega, rfl⟩) g2 g4 (by rw [← g3, ← hs]; omega)
      rcases z with ⟨c4, -, -⟩ | ⟨c4, e, f⟩
      · exfalso
        omega
      · have i1 := inc1 (x := s.1 7) (by omega)
        have ci := cnat (x := s.1 7 + 1) (by omega)
        subst f
        subst e
        have eq2 := aq2.1 rfl
        rw [v2]
        have ol := opF_len dy wy (s.1 8).toInt (s.1 9).toInt k
        have e9 : (s.1 9).toInt = nval t (q + 2) (dcnt t n 4 (q + 2)) := by rw [hcn.1]; exact g5
        refine ⟨by decide, by decide, rfl, rfl, fun z => absurd z (by decide), fun z => absurd z (by decide), fun _ => by show sortQ (s.1 8).toInt; omega, q2, hle2, ha2, PO_e (PO_op (w := s.1 8) hpo qn tq (by omega) sq (by omega) rfl) ?_ ?_ (show (s.1 7 + 1).toNatClampNeg = (s.1 7).toNatClampNeg + 1 by omega) rfl ?_, ?_, ?_⟩
        · show _ ++ opF dy wy (s.1 8).toInt (s.1 9).toInt k = _
          rw [sq, e9]
        · rw [if_pos (by omega), hcn.1]
          omega
        · show hF dy wy (s.1 8).toInt (s.1 9).toInt k ((s.1 7 + 1).toNatClampNeg - 1) = _
          rw [sq, e9, show (s.1 7 + 1).toNatClampNeg - 1 = (s.1 7).toNatClampNeg by omega]
        · show (s.1 14).toInt + (((opF dy wy (s.1 8).toInt (s.1 9).toInt k).length : Nat) : Int) ≤ _
          omega
        · show hF dy wy (s.1 8).toInt (s.1 9).toInt k ((s.1 7 + 1).toNatClampNeg - 1) ≤ (s.1 7 + 1).toNatClampNeg
          rw [show (s.1 7 + 1).toNatClampNeg = (s.1 7).toNatClampNeg + 1 by omega]
          exact hF_le hkd
    · have hcn := nx_num (n := n) (e := 125) (Or.inr ⟨by omega, rfl⟩) g2 g4 (by rw [← g3, ← hs]; omega)
      subst f
      subst e
      have eq2 := aq2.1 rfl
      have nl := nt_len (t := t) (p := q + 2) (j := g) (fun k hk0 => (g4 k hk0).2) (by omega) g2
      rw [v4]
      have e9 : (s.1 9).toInt = nval t (q + 2) (dcnt t n 4 (q + 2)) := by rw [hcn.1]; exact g5
      refine ⟨by decide, by decide, rfl, rfl, fun z => absurd z (by decide), fun _ => by show 0 ≤ (s.1 9).toInt ∧ (s.1 9).toInt ≤ 9999; omega, fun z => absurd z (by decide), q2, hle2, ha2, PO_e (PO_nt hpo qn tq (by omega) rfl) ?_ (by rw [hcn.1]; omega) rfl rfl rfl, ?_, hkd⟩
      · show _ ++ (if k = 0 ∧ wy = 1 then ntL (s.1 9).toInt else []) = _
        rw [e9]
      · have : (if k = 0 ∧ wy = 1 then ntL (s.1 9).toInt else []).length ≤ g + 2 := by
          split
          · rw [g5]
            exact nl
          · simp
        show (s.1 14).toInt + (((if k = 0 ∧ wy = 1 then ntL (s.1 9).toInt else []).length : Nat) : Int) ≤ _
        omega
/-- L has come to what is printed; the reader is as it was -/
def PD (s s2 : ST) (L : List Int) : Prop := RK s s2 ∧ outL (s2.2 45) (s2.1 14).toNatClampNeg = outL (s.2 45) (s.1 14).toNatClampNeg ++ L ∧ (s2.1 14).toInt = (s.1 14).toInt + (L.length : Int)
theorem RK_rfl (s : ST) : RK s s := ⟨rfl, rfl, rfl, rfl, rfl, rfl, rfl, rfl⟩
theorem RK_trans {s s2 s3 : ST} (h : RK s s2) (g : RK s2 s3) : RK s s3 := ⟨g.1.trans h.1, g.2.1.trans h.2.1, g.2.2.1.trans h.2.2.1, g.2.2.2.1.trans h.2.2.2.1, g.2.2.2.2.1.trans h.2.2.2.2.1, g.2.2.2.2.2.1.trans h.2.2.2.2.2.1, g.2.2.2.2.2.2.1.trans h.2.2.2.2.2.2.1, g.2.2.2.2.2.2.2.trans h.2.2.2.2.2.2.2⟩
theorem PD_rfl (s : ST) : PD s s [] := ⟨RK_rfl s, (List.append_nil _).symm, by simp⟩
theorem PD_trans {s s2 s3 : ST} {L L2 L3 : List Int} (h : PD s s2 L) (g : PD s2 s3 L2) (e : L3 = L ++ L2) : PD s s3 L3 := ⟨RK_trans h.1 g.1, by rw [g.2.1, h.2.1, e, List.append_assoc], by
  have h3 := h.2.2
  have g3 := g.2.2
  rw [e, List.length_append]
  omega⟩
theorem PD_e {s s2 : ST} {L L2 : List Int} (h : PD s s2 L) (e : L2 = L) : PD s s2 L2 := e ▸ h
theorem R_back {t : Nat → Int} {n i i2 k k2 : Nat} {dy wy r : Int} {s s2 s3 : ST} {L : List Int} (h : RTK t n dy wy i k s s2 r) (pd : PD s2 s3 L) (eL : evL dy wy (t i) r (s2.1 8).toInt (s2.1 9).toInt k (s2.1 7).toNatClampNeg = L) (eH : evH dy wy r (s2.1 8).toInt (s2.1 9).toInt k (s2.1 7).toNatClampNeg = k2) (ei : i2 = i + 1) : INVR t n dy wy i2 k2 s3 := by
  subst ei
  obtain ⟨-, -, e45, e14, -, -, -, q2, h1, h2, h3, h4, h5⟩ := h
  rw [eL] at h3 h4
  rw [eH] at h3 h5
  obtain ⟨rk, po, pl⟩ := pd
  refine ⟨q2, h1, AUT_e rk h2, ?_, by rw [pl, e14]; exact h4, by rw [rk.1]; exact h5⟩
  rw [po, e45, e14, rk.1, rk.2.2.2.2.2.2.2]
  exact h3
theorem evA {dy wy c r so nu : Int} {k d2 : Nat} (h : r = 3) (h2 : d2 < k) : evL dy wy c r so nu k d2 = [] ∧ evH dy wy r so nu k d2 = 0 := by
  subst h
  exact ⟨if_pos h2, if_pos h2⟩
theorem evB {dy wy c r so nu : Int} {k d2 : Nat} (hk : k ≠ 0) (h : ¬ (r = 3 ∧ d2 < k)) : evL dy wy c r so nu k d2 = [] ∧ evH dy wy r so nu k d2 = k := by
  unfold evL evH opF hF
  refine ⟨?_, ?_⟩
  · repeat' split
    all_goals first | rfl | (exfalso; omega)
  · repeat' split
    all_goals first | rfl | (exfalso; omega)
theorem evC {dy wy c so nu r : Int} {k d2 : Nat} (hr : r = 0) (hk : k = 0) : evL dy wy c r so nu k d2 = [c] ∧ evH dy wy r so nu k d2 = k := by
  subst hr
  exact ⟨if_pos hk, rfl⟩
theorem evD {dy wy c so nu r : Int} {k d2 : Nat} (hr : r = 2) (hk : k = 0) (h : hidP dy wy so nu) (hd : 1 ≤ d2) : evL dy wy c r so nu k d2 = (if wy = 1 then [95] else []) ∧ evH dy wy r so nu k d2 = d2 := by
  subst hr
  subst hk
  refine ⟨?_, ?_⟩
  · show opF dy wy so nu 0 = _
    unfold opF
    rw [if_pos rfl, if_pos h]
  · show hF dy wy so nu 0 (d2 - 1) = _
    unfold hF
    rw [if_pos rfl, if_pos h]
    omega
theorem evD0 {dy wy so nu r : Int} {k d2 : Nat} (hr : r = 2) (hk : k = 0) (h : hidP dy wy so nu) : evH dy wy r so nu k d2 = d2 - 1 + 1 := by
  subst hr
  subst hk
  show hF dy wy so nu 0 (d2 - 1) = _
  unfold hF
  rw [if_pos rfl, if_pos h]
theorem INVR_0 {t : Nat → Int} {n : Nat} {dy wy : Int} {s s2 : ST} (hn : n ≤ 160) (h14 : s.1 14 = 0) (h : s2 = setI (setI s 7 0) 12 0) : INVR t n dy wy 0 0 s2 := by
  subst h
  have e7 : ((setI (setI s 7 0) 12 0).1 7).toNatClampNeg = 0 := rfl
  refine ⟨0, Nat.le_refl 0, ⟨by rw [e7]; exact HK_0 hn, Or.inl ⟨rfl, rfl⟩⟩, ?_, ?_, Nat.zero_le _⟩
  · rw [e7]
    refine PO_e (PO_0 (O := s.2 44) hn) ?_ rfl rfl rfl rfl
    show outL (s.2 45) (s.1 14).toNatClampNeg = []
    rw [h14]
    rfl
  · show (s.1 14).toInt ≤ ((0 : Nat) : Int)
    rw [h14]
    decide
theorem INVR_end {t : Nat → Int} {n i k : Nat} {dy wy : Int} {s : ST} (hv : VT t n) (h : INVR t n dy wy i k s) (e : i = n) : outL (s.2 45) (s.1 14).toNatClampNeg = prF t n dy wy 200 0 0 (fun _ => 0) 0 := by
  subst e
  obtain ⟨q, hq, ha, hpo, -⟩ := h
  by_cases m : s.1 12 = 0
  · have e := (AUT_q ha).1 m
    subst e
    exact PO_end hpo (Nat.le_refl _) (Nat.le_refl _)
  · exfalso
    have z := (AUT_end ha).2 m
    have v : tk t i 200 0 0 (fun _ => 0) = -1 := hv
    omega
/-- the signs of a MARK: of an opened (2), a closed one (3), a note (4) -/
def mkL (r so nu : Int) : List Int := if r = 4 then ntL nu else if r = 2 then opnL so else if r = 3 then clsL so else []
theorem evE {dy wy c so nu r : Int} {k d2 : Nat} (h0 : r ≠ 0) (hk : k = 0) (h : ¬ (r = 2 ∧ hidP dy wy so nu)) : evL dy wy c r so nu k d2 = (if wy = 1 then mkL r so nu else []) ∧ evH dy wy r so nu k d2 = k := by
  subst hk
  by_cases z2 : r = 2
  · subst z2
    have hn : ¬ hidP dy wy so nu := fun z => h ⟨rfl, z⟩
    have e1 : evL dy wy c 2 so nu 0 d2 = opF dy wy so nu 0 := rfl
    have e2 : evH dy wy 2 so nu 0 d2 = hF dy wy so nu 0 (d2 - 1) := rfl
    have e3 : mkL 2 so nu = opnL so := rfl
    rw [e1, e2, e3]
    unfold opF hF
    rw [if_pos rfl, if_pos rfl, if_neg hn, if_neg hn]
    exact ⟨rfl, rfl⟩
  · by_cases z3 : r = 3
    · subst z3
      have e1 : evL dy wy c 3 so nu 0 d2 = (if d2 < 0 then [] else if 0 = 0 ∧ wy = 1 then clsL so else []) := rfl
      have e2 : evH dy wy 3 so nu 0 d2 = (if d2 < 0 then 0 else 0) := rfl
      have e3 : mkL 3 so nu = clsL so := rfl
      rw [e1, e2, e3, if_neg (Nat.not_lt_zero _), if_neg (Nat.not_lt_zero _)]
      refine ⟨?_, rfl⟩
      by_cases w : wy = 1
      · rw [if_pos ⟨rfl, w⟩, if_pos w]
      · rw [if_neg (fun q => w q.2), if_neg w]
    · by_cases z4 : r = 4
      · subst z4
        have e1 : evL dy wy c 4 so nu 0 d2 = (if 0 = 0 ∧ wy = 1 then ntL nu else []) := rfl
        have e2 : evH dy wy 4 so nu 0 d2 = 0 := rfl
        have e3 : mkL 4 so nu = ntL nu := rfl
        rw [e1, e2, e3]
        refine ⟨?_, rfl⟩
        by_cases w : wy = 1
        · rw [if_pos ⟨rfl, w⟩, if_pos w]
        · rw [if_neg (fun q => w q.2), if_neg w]
      · have e1 : evL dy wy c r so nu 0 d2 = [] := by
          unfold evL
          rw [if_neg h0, if_neg z2, if_neg z3, if_neg z4]
        have e2 : evH dy wy r so nu 0 d2 = 0 := by
          unfold evH
          rw [if_neg z2, if_neg z3]
        have e3 : mkL r so nu = [] := by
          unfold mkL
          rw [if_neg z4, if_neg z2, if_neg z3]
        rw [e1, e2, e3]
        refine ⟨?_, rfl⟩
        split <;> rfl
theorem mkL_len {r so nu : Int} (h : 0 ≤ nu) (h2 : nu ≤ 9999) : (mkL r so nu).length ≤ 6 := by
  unfold mkL ntL opnL clsL
  have := digL_len nu
  repeat' split
  all_goals simp
  all_goals (rw [this]; repeat' split)
  all_goals omega
theorem b8_id {x : Int32} (h : -128 ≤ x.toInt ∧ x.toInt ≤ 127) : x.toInt8.toInt32.toInt = x.toInt := by
  rw [Int8.toInt_toInt32, Int32.toInt_toInt8]
  exact Int.bmod_eq_of_le (by omega) (by omega)
set_option maxHeartbeats 4000000 in
set_option maxRecDepth 100000 in
theorem e_X6_add (l : Launch) (L : WL) (σ : ST) (b : Int32) (hs : (σ.1 14).toInt < 160) (ix : IV σ) : CtV l L yX6_add cX6_add 2 none rm_X6_add [.ref (L.2.1 8), .int b] σ (fun σ2 => σ2 = setI (setA σ 45 (σ.1 14).toNatClampNeg (b.toInt8.toInt32).toInt8.toInt32) 14 (σ.1 14 + 1)) := by
  refine ctV_go (own := RX6) (by decide) rfl (Nat.le_of_ble_eq_true rfl) (fun F hF => ?_)
  subst hF
  have n1 : (1 : Int32).toInt = 1 := by decide
  have n160 : (160 : Int32).toInt = 160 := by decide
  have w0 : WX σ σ := WX_rfl ix
  refine go_aload_n (i := 0) (pc' := 1) dX6_add_0 rfl rfl rfl ?_
  refine gf_8_size (pc' := 4) dX6_add_1 rfl fl_X6_15 ?_
  have g1 := ixi_14 ix
  refine go_sipush (v := 160) (pc' := 7) dX6_add_4 rfl (by decide) ?_
  refine gz_icmp_ge (tgt := 31) (pc' := 10) dX6_add_7 rfl (by decide) (fun c2 => (by exfalso; omega)) (fun c2 => ?_)
  refine go_aload_n (i := 0) (pc' := 11) dX6_add_10 rfl rfl rfl ?_
  refine gf_8_bytes (pc' := 14) dX6_add_11 rfl fl_X6_9 ?_
  refine go_aload_n (i := 0) (pc' := 15) dX6_add_14 rfl rfl rfl ?_
  refine gf_8_size (pc' := 18) dX6_add_15 rfl fl_X6_15 ?_
  have g3 := ixi_14 ix
  refine go_iload_n (i := 1) (pc' := 19) dX6_add_18 rfl rfl rfl ?_
  refine go_i2b (pc' := 20) dX6_add_19 rfl ?_
  refine go_bast (pc' := 21) dX6_add_20 rfl (by decide) (by decide) rfl (vin_of (n := 160) (by omega) (by omega)) ?_
  refine go_aload_n (i := 0) (pc' := 22) dX6_add_21 rfl rfl rfl ?_
  refine go_dup (pc' := 23) dX6_add_22 rfl rfl ?_
  refine gf_8_size (pc' := 26) dX6_add_23 rfl fl_X6_15 ?_
  refine go_topq (y := (σ.1 14)) rfl ?_
  have g4 := ixi_14 ix
  refine go_iconst (v := 1) (pc' := 27) dX6_add_26 rfl (by decide) ?_
  refine go_iadd (pc' := 28) dX6_add_27 rfl ?_
  refine pf_8_size (pc' := 31) dX6_add_28 rfl fl_X6_15 ?_
  exact go_vret dX6_add_31 rfl (rfl)
/-- only the reader and the printer have changed -/
abbrev soI (i : Nat) : Prop := 7 ≤ i ∧ i ≤ 14
abbrev soA (k : Nat) : Prop := k = 44 ∨ k = 45
def WXo (σ σ2 : ST) : Prop := IV σ2 ∧ Ag soI soA σ σ2
theorem WXo_rfl {σ : ST} (h : IV σ) : WXo σ σ := ⟨h, Ag_rfl σ⟩
theorem WXo_trans {σ σ2 σ3 : ST} (h : WXo σ σ2) (h2 : WXo σ2 σ3) : WXo σ σ3 := ⟨h2.1, Ag_trans h.2 h2.2⟩
theorem WX_of_o {σ σ2 : ST} (h : WXo σ σ2) : WX σ σ2 := ⟨h.1, ⟨fun i hi => h.2.1 i (fun q => hi (by unfold sxI; unfold soI at q; omega)), fun k hk => h.2.2 k (fun q => hk (by unfold sxA; unfold soA at q; omega))⟩⟩
theorem row_so {q : Nat} (h : q < 12) : ¬ soA (56 + q) := fun z => by
  have : 56 + q = 44 ∨ 56 + q = 45 := z
  omega
theorem open_WXo {s s2 : ST} {r : Int32} (iv : IV s) (h : sX_open s r s2) : WXo s s2 := by
  have u7 := ixi_7 iv
  rcases h with ⟨c, -, f⟩ | ⟨c, -, f⟩
  · rw [f]
    exact ⟨ixs_n iv (by decide), Ag_setI (Ag_rfl s) (by decide)⟩
  · have p := inc1 (x := s.1 7) (by omega)
    rw [f]
    exact ⟨ixs_n (ixs_7 (ixt_n iv (by decide)) (by omega) (by omega)) (by decide), Ag_setI (Ag_setI (Ag_setA (Ag_rfl s) (by decide)) (by decide)) (by decide)⟩
theorem take_WXo {s s2 : ST} {g p r : Int32} (iv : IV s) (h : sX_take s g p r s2) : WXo s s2 := by
  have u7 := ixi_7 iv
  rcases h with ⟨-, h⟩ | ⟨-, h⟩ | ⟨-, -, h⟩
  · rcases h with ⟨-, -, f⟩ | ⟨-, -, -, f⟩ | ⟨-, -, -, -, f⟩ | ⟨-, -, -, z⟩
    · rw [f]
      exact ⟨ixs_n iv (by decide), Ag_setI (Ag_rfl s) (by decide)⟩
    · rw [f]
      exact ⟨ixs_n iv (by decide), Ag_setI (Ag_rfl s) (by decide)⟩
    · rw [f]
      exact ⟨ixs_n (ixs_n (ixs_n (ixs_n iv (by decide)) (by decide)) (by decide)) (by decide), Ag_setI (Ag_setI (Ag_setI (Ag_setI (Ag_rfl s) (by decide)) (by decide)) (by decide)) (by decide)⟩
    · exact WXo_trans (σ2 := setI s 8 g) ⟨ixs_n iv (by decide), Ag_setI (Ag_rfl s) (by decide)⟩ (open_WXo (ixs_n iv (by decide)) z)
  · rcases h with ⟨-, -, f⟩ | ⟨-, -, -, f⟩ | ⟨-, -, -, -, z⟩ | ⟨-, -, -, -, -, f⟩
    · rw [f]
      exact ⟨ixs_n (ixs_n iv (by decide)) (by decide), Ag_setI (Ag_setI (Ag_rfl s) (by decide)) (by decide)⟩
    · rw [f]
      exact ⟨ixs_n iv (by decide), Ag_setI (Ag_rfl s) (by decide)⟩
    · exact open_WXo iv z
    · rw [f]
      exact ⟨ixs_n iv (by decide), Ag_setI (Ag_rfl s) (by decide)⟩
  · rcases h with ⟨-, -, f⟩ | ⟨c, -, f⟩ | ⟨-, -, f⟩ | ⟨-, -, f⟩
    · rw [f]
      exact WXo_rfl iv
    · have p := dec1 (x := s.1 7) (by omega)
      rw [f]
      exact ⟨ixs_n (ixs_7 iv (by omega) (by omega)) (by decide), Ag_setI (Ag_setI (Ag_rfl s) (by decide)) (by decide)⟩
    · rw [f]
      exact ⟨ixs_n (ixs_n iv (by decide)) (by decide), Ag_setI (Ag_setI (Ag_rfl s) (by decide)) (by decide)⟩
    · rw [f]
      exact ⟨ixs_n iv (by decide), Ag_setI (Ag_rfl s) (by decide)⟩
theorem begin_WXo {s s2 : ST} (iv : IV s) (h : s2 = setI (setI s 7 0) 12 0) : WXo s s2 := by
  have v0 : (0 : Int32).toInt = 0 := by decide
  rw [h]
  exact ⟨ixs_n (ixs_7 iv (by omega) (by omega)) (by decide), Ag_setI (Ag_setI (Ag_rfl s) (by decide)) (by decide)⟩
theorem add_PD {s s2 : ST} {b : Int32} (iv : IV s) (hs : (s.1 14).toInt < 160) (hb : -128 ≤ b.toInt ∧ b.toInt ≤ 127) (e : s2 = setI (setA s 45 (s.1 14).toNatClampNeg (b.toInt8.toInt32).toInt8.toInt32) 14 (s.1 14 + 1)) : WXo s s2 ∧ PD s s2 [b.toInt] := by
  have g := ixi_14 iv
  have p := inc1 (x := s.1 14) (by omega)
  have c := cnat (x := s.1 14) (by omega)
  have c2 := cnat (x := s.1 14 + 1) (by omega)
  have i1 := b8_id hb
  have i2 := b8_id (x := b.toInt8.toInt32) (by omega)
  subst e
  refine ⟨⟨ixs_14 (ixt_45 iv (b8 _).1 (b8 _).2) (by omega) (by omega), Ag_setI (Ag_setA (Ag_rfl s) (by decide)) (by decide)⟩, ⟨rfl, rfl, rfl, rfl, rfl, rfl, rfl, rfl⟩, ?_, ?_⟩
  · show outL (upd (s.2 45) (s.1 14).toNatClampNeg _) (s.1 14 + 1).toNatClampNeg = _
    exact outL_add (by omega) (by omega)
  · show (s.1 14 + 1).toInt = _
    rw [p]
    rfl
theorem mkL_2 {r so nu : Int} (h : r = 2) : mkL r so nu = opnL so := by
  subst h
  rfl
theorem mkL_3 {r so nu : Int} (h : r = 3) : mkL r so nu = clsL so := by
  subst h
  rfl
/-- the digits above a unit -/
def dgU (v u : Int) : List Int := if u = 1000 then [] else (if 1000 ≤ v then [48 + v / 1000 % 10] else []) ++ (if u = 100 then [] else (if 100 ≤ v then [48 + v / 100 % 10] else []) ++ (if u = 10 then [] else (if 10 ≤ v then [48 + v / 10 % 10] else []) ++ (if u = 1 then [] else [48 + v % 10])))
abbrev unitP (u : Int) : Prop := u = 1000 ∨ u = 100 ∨ u = 10 ∨ u = 1
theorem dgU_0 (v : Int) : dgU v 0 = digL v := rfl
theorem dgU_step {v u u2 : Int} (h : unitP u) (e : u2 = u / 10) (hv : u ≤ v ∨ u = 1) : dgU v u2 = dgU v u ++ [48 + v / u % 10] := by
  subst e
  rcases h with rfl | rfl | rfl | rfl
  · have z : (1000 : Int) ≤ v := by omega
    simp [dgU, z]
  · have z : (100 : Int) ≤ v := by omega
    simp [dgU, z]
  · have z : (10 : Int) ≤ v := by omega
    simp [dgU, z]
  · simp [dgU]
theorem dgU_skip {v u u2 : Int} (h : unitP u) (e : u2 = u / 10) (h1 : v < u) (h2 : u ≠ 1) : dgU v u2 = dgU v u := by
  subst e
  rcases h with rfl | rfl | rfl | rfl
  · have z : ¬ (1000 : Int) ≤ v := by omega
    simp [dgU, z]
  · have z : ¬ (100 : Int) ≤ v := by omega
    simp [dgU, z]
  · have z : ¬ (10 : Int) ≤ v := by omega
    simp [dgU, z]
  · omega
theorem len_if (c : Prop) [Decidable c] (x : Int) : (if c then [x] else []).length = if c then 1 else 0 := by
  split <;> rfl
theorem dgU_len {v u : Int} (h : unitP u) (hv : u ≤ v ∨ u = 1) : (dgU v u).length + 1 ≤ (digL v).length := by
  rw [digL_len]
  rcases h with rfl | rfl | rfl | rfl
  · have e : dgU v 1000 = [] := rfl
    rw [e, List.length_nil]
    omega
  · have e : dgU v 100 = (if 1000 ≤ v then [48 + v / 1000 % 10] else []) ++ [] := rfl
    rw [e, List.append_nil, len_if, if_pos (show (100 : Int) ≤ v by omega), if_pos (show (10 : Int) ≤ v by omega)]
    omega
  · have e : dgU v 10 = (if 1000 ≤ v then [48 + v / 1000 % 10] else []) ++ ((if 100 ≤ v then [48 + v / 100 % 10] else []) ++ []) := rfl
    rw [e, List.append_nil, List.length_append, len_if, len_if, if_pos (show (10 : Int) ≤ v by omega)]
    omega
  · have e : dgU v 1 = (if 1000 ≤ v then [48 + v / 1000 % 10] else []) ++ ((if 100 ≤ v then [48 + v / 100 % 10] else []) ++ ((if 10 ≤ v then [48 + v / 10 % 10] else []) ++ [])) := rfl
    rw [e, List.append_nil, List.length_append, List.length_append, len_if, len_if, len_if]
    omega
theorem dig_v {x u : Int32} (h : 0 ≤ x.toInt ∧ x.toInt ≤ 9999) (hu : 1 ≤ u.toInt) : (48 + (x / u - x / u / 10 * 10)).toInt = 48 + x.toInt / u.toInt % 10 := by
  have n48 : (48 : Int32).toInt = 48 := by decide
  have n10 : (10 : Int32).toInt = 10 := by decide
  have q := i32_divp (x := x) (y := u) (by omega) (by omega)
  have q0 : 0 ≤ x.toInt / u.toInt := Int.ediv_nonneg (by omega) (by omega)
  have q1 : x.toInt / u.toInt ≤ x.toInt := Int.ediv_le_self _ (by omega)
  have d := i32_div10 (x / u) (by omega)
  have m : (x / u / 10 * 10).toInt = x.toInt / u.toInt / 10 * 10 := by
    rw [i32_mul (by rw [d, n10]; omega) (by rw [d, n10]; omega), d, n10, q]
  have s : (x / u - x / u / 10 * 10).toInt = x.toInt / u.toInt - x.toInt / u.toInt / 10 * 10 := by
    rw [i32_sub (by rw [m, q]; omega) (by rw [m, q]; omega), m, q]
  rw [i32_add (by rw [s, n48]; omega) (by rw [s, n48]; omega), s, n48]
  omega
/-- a LETTER's TEXT in the class, as signs -/
def txX (σ : ST) (l : Nat) : Nat → Int := fun j => (σ.2 (56 + l) j &&& 255).toInt
def TVX (σ : ST) : Prop := ∀ l : Nat, l < 12 → VT (txX σ l) (σ.2 32 l).toNatClampNeg
def FUX (σ : ST) (l : Nat) (dy wy : Int) : List Int := prF (txX σ l) (σ.2 32 l).toNatClampNeg dy wy 200 0 0 (fun _ => 0) 0
def tX_print (σ : ST) (a d y r : Int32) (σ2 : ST) : Prop := WX σ σ2 ∧ ((¬ ((0 ≤ a.toInt ∧ a.toInt < (σ.1 3).toInt) ∧ (0 ≤ d.toInt ∧ d.toInt ≤ 9999) ∧ (y.toInt = 0 ∨ y.toInt = 1)) ∧ r = -2) ∨ (((0 ≤ a.toInt ∧ a.toInt < (σ.1 3).toInt) ∧ (0 ≤ d.toInt ∧ d.toInt ≤ 9999) ∧ (y.toInt = 0 ∨ y.toInt = 1)) ∧ r.toInt = ((FUX σ a.toNatClampNeg d.toInt y.toInt).length : Int)))
/-- the i-th of a list, or NONE -/
def atP (L : List Int) (i r : Int32) : Prop := ((0 ≤ i.toInt ∧ i.toInt < (L.length : Int)) ∧ L[i.toNatClampNeg]? = some r.toInt) ∨ (¬ (0 ≤ i.toInt ∧ i.toInt < (L.length : Int)) ∧ r = -1)
theorem atP_one {L : List Int} {i r r2 : Int32} (h : atP L i r) (g : atP L i r2) : r = r2 := by
  rcases h with ⟨a, b⟩ | ⟨a, b⟩ <;> rcases g with ⟨c, d⟩ | ⟨c, d⟩
  · rw [b] at d
    exact Int32.toInt_inj.mp (Option.some.inj d)
  · exact absurd a c
  · exact absurd c a
  · exact b.trans d.symm
def tX_printed (σ : ST) (a d y i r : Int32) (σ2 : ST) : Prop := WX σ σ2 ∧ ((¬ ((0 ≤ a.toInt ∧ a.toInt < (σ.1 3).toInt) ∧ (0 ≤ d.toInt ∧ d.toInt ≤ 9999) ∧ (y.toInt = 0 ∨ y.toInt = 1)) ∧ r = -2) ∨ (((0 ≤ a.toInt ∧ a.toInt < (σ.1 3).toInt) ∧ (0 ≤ d.toInt ∧ d.toInt ≤ 9999) ∧ (y.toInt = 0 ∨ y.toInt = 1)) ∧ atP (FUX σ a.toNatClampNeg d.toInt y.toInt) i r))
theorem nn_app {L M : List Int} (h : ∀ x ∈ L, 0 ≤ x) (g : ∀ x ∈ M, 0 ≤ x) : ∀ x ∈ L ++ M, 0 ≤ x := fun x hx => by
  rcases List.mem_append.mp hx with q | q
  · exact h x q
  · exact g x q
theorem nn_if {c : Prop} [Decidable c] {L M : List Int} (h : ∀ x ∈ L, 0 ≤ x) (g : ∀ x ∈ M, 0 ≤ x) : ∀ x ∈ (if c then L else M), 0 ≤ x := by
  split
  · exact h
  · exact g
theorem nn_0 : ∀ x ∈ ([] : List Int), 0 ≤ x := fun x hx => absurd hx (List.not_mem_nil)
theorem nn_1 {v : Int} (h : 0 ≤ v) : ∀ x ∈ [v], 0 ≤ x := fun x hx => by
  rw [List.mem_singleton.mp hx]
  exact h
theorem nn_dig (v : Int) : ∀ x ∈ digL v, 0 ≤ x := by
  unfold digL
  exact nn_app (nn_if (nn_1 (by omega)) nn_0) (nn_app (nn_if (nn_1 (by omega)) nn_0) (nn_app (nn_if (nn_1 (by omega)) nn_0) (nn_1 (by omega))))
theorem nn_nt (v : Int) : ∀ x ∈ ntL v, 0 ≤ x := by
  unfold ntL
  exact nn_app (L := [40]) (nn_1 (by decide)) (nn_app (nn_dig v) (nn_1 (by decide)))
theorem nn_s {c1 c2 c3 : Prop} [Decidable c1] [Decidable c2] [Decidable c3] {a b c d : Int} (h1 : 0 ≤ a) (h2 : 0 ≤ b) (h3 : 0 ≤ c) (h4 : 0 ≤ d) : 0 ≤ (if c1 then a else if c2 then b else if c3 then c else d) := by
  repeat' split
  all_goals assumption
theorem nn_cls (s : Int) : ∀ x ∈ clsL s, 0 ≤ x := by
  unfold clsL
  exact nn_if nn_0 (nn_1 (nn_s (by decide) (by decide) (by decide) (by decide)))
theorem nn_opn (s : Int) : ∀ x ∈ opnL s, 0 ≤ x := by
  unfold opnL
  exact nn_if nn_0 (nn_1 (nn_s (by decide) (by decide) (by decide) (by decide)))
theorem nn_op (dy wy s v : Int) (k : Nat) : ∀ x ∈ opF dy wy s v k, 0 ≤ x := by
  unfold opF
  exact nn_if (nn_if (nn_if (nn_1 (by decide)) nn_0) (nn_if (nn_opn s) nn_0)) nn_0
theorem prF_nn {t : Nat → Int} (ht : ∀ j : Nat, 0 ≤ t j) {n : Nat} {dy wy : Int} : ∀ (f p d : Nat) (stk : Nat → Int) (k : Nat), ∀ x ∈ prF t n dy wy f p d stk k, 0 ≤ x
  | 0, _, _, _, _ => nn_0
  | f + 1, p, d, stk, k => by
    unfold prF
    exact nn_if nn_0 (nn_if (nn_app (nn_if nn_0 (nn_if (nn_cls _) nn_0)) (prF_nn ht f _ _ _ _)) (nn_if (nn_app (nn_if (nn_1 (ht p)) nn_0) (prF_nn ht f _ _ _ _)) (nn_if (nn_app (nn_if (nn_nt _) nn_0) (prF_nn ht f _ _ _ _)) (nn_app (nn_op _ _ _ _ _) (prF_nn ht f _ _ _ _)))))
theorem txX_nn (σ : ST) (l j : Nat) : 0 ≤ txX σ l j := by
  unfold txX
  rw [and255_mod]
  omega
theorem FUX_nn (σ : ST) (l : Nat) (dy wy : Int) : ∀ x ∈ FUX σ l dy wy, 0 ≤ x := prF_nn (txX_nn σ l) _ _ _ _ _
/-- a printed byte of the class, as it is answered -/
theorem prb {L : List Int} {g : Nat → Int32} {m j : Nat} (e : outL g m = L) (nn : ∀ x ∈ L, 0 ≤ x) (hj : j < m) (hb : -128 ≤ (g j).toInt ∧ (g j).toInt ≤ 127) : L[j]? = some (g j &&& 255).toInt := by
  have q := outL_get (g := g) hj
  rw [e] at q
  have z := nn _ (List.mem_of_getElem? q)
  rw [q, and255_mod]
  congr 1
  omega
