theorem sI_A {s : ST} {k j i : Nat} {v w : Int32} : (setI (setA s k j v) i w).2 k = upd (s.2 k) j v := setA_same s k j v
theorem sI_N {s : ST} {k j i q : Nat} {v w : Int32} (h : q ≠ k) : (setI (setA s k j v) i w).2 q = s.2 q := setA_ne s k j v h
/-- the greatest day up to z of a weekday w -/
def uwn (w z : Int) : Int := if 0 ≤ w then z - (z - w) % 7 else z
theorem uwn_le (w z : Int) : uwn w z ≤ z ∧ z - 6 ≤ uwn w z := by
  unfold uwn
  split <;> omega
theorem uwn_w {w z : Int} (h : 0 ≤ w) (h7 : w < 7) : uwn w z % 7 = w := by
  unfold uwn
  rw [if_pos h]
  omega
theorem uwn_ge {w z x : Int} (h7 : w < 7) (hz : x ≤ z) (hw : 0 ≤ w → x % 7 = w) : x ≤ uwn w z := by
  unfold uwn
  split
  · rename_i h
    have := hw h
    omega
  · exact hz
/-- a choice of DAYS that keeps all: least and greatest, weekdays, FOUND, the BOUNDS of kp -/
def FS (lo hi wk fo ba bb bd : Nat → Int32) (N K : Int) (kp : Nat → Prop) (x : Nat → Int) : Prop := (∀ i : Nat, (i : Int) < N → (lo i).toInt ≤ x i ∧ x i ≤ (hi i).toInt ∧ (0 ≤ (wk i).toInt → x i % 7 = (wk i).toInt) ∧ (0 ≤ (fo i).toInt → x i = x (fo i).toNatClampNeg)) ∧ ∀ k : Nat, (k : Int) < K → kp k → x (ba k).toNatClampNeg + (bd k).toInt ≤ x (bb k).toNatClampNeg
/-- that BOUND k is in a set (bits) -/
def kpF (set : Int32) (k : Nat) : Prop := ((set >>> (Int32.ofNat k &&& 31)) &&& 1).toInt ≠ 0
def FSM (σ : ST) (kp : Nat → Prop) (x : Nat → Int) : Prop := FS (σ.2 105) (σ.2 106) (σ.2 107) (σ.2 108) (σ.2 111) (σ.2 112) (σ.2 113) (σ.1 20).toInt (σ.1 21).toInt kp x
theorem FSM_e {σ σ2 : ST} {kp : Nat → Prop} {x : Nat → Int} (h : WM σ σ2) : FSM σ2 kp x ↔ FSM σ kp x := by
  unfold FSM
  rw [h.2.1 20 (by decide), h.2.1 21 (by decide), h.2.2 105 (by decide), h.2.2 106 (by decide), h.2.2 107 (by decide), h.2.2 108 (by decide), h.2.2 111 (by decide), h.2.2 112 (by decide), h.2.2 113 (by decide)]
def lowM (s : ST) : Nat → Int := fun j => (s.2 120 j).toInt
def higM (s : ST) : Nat → Int := fun j => (s.2 121 j).toInt
/-- raise and sink, to the day -/
def PRe (σ : ST) (a t : Int32) (σ2 : ST) : Prop := (σ2 = σ ∧ dwn (σ.2 107 a.toNatClampNeg).toInt t.toInt ≤ (σ.2 120 a.toNatClampNeg).toInt) ∨ ((σ.2 120 a.toNatClampNeg).toInt < dwn (σ.2 107 a.toNatClampNeg).toInt t.toInt ∧ ∃ v : Int32, v.toInt = dwn (σ.2 107 a.toNatClampNeg).toInt t.toInt ∧ σ2 = setI (setA σ 120 a.toNatClampNeg v) 24 1)
def PSe (σ : ST) (a t : Int32) (σ2 : ST) : Prop := (σ2 = σ ∧ (σ.2 121 a.toNatClampNeg).toInt ≤ uwn (σ.2 107 a.toNatClampNeg).toInt t.toInt) ∨ (uwn (σ.2 107 a.toNatClampNeg).toInt t.toInt < (σ.2 121 a.toNatClampNeg).toInt ∧ ∃ v : Int32, v.toInt = uwn (σ.2 107 a.toNatClampNeg).toInt t.toInt ∧ σ2 = setI (setA σ 121 a.toNatClampNeg v) 24 1)
theorem PR_of {σ σ2 : ST} {a t : Int32} (h : PRe σ a t σ2) : PR σ a t σ2 := by
  have g := dwn_ge (σ.2 107 a.toNatClampNeg).toInt t.toInt
  rcases h with ⟨e, h⟩ | ⟨h, v, ev, e⟩
  · exact Or.inl ⟨e, by omega⟩
  · exact Or.inr ⟨v, by omega, by omega, by omega, e⟩
theorem PS_of {σ σ2 : ST} {a t : Int32} (h : PSe σ a t σ2) : PS σ a t σ2 := by
  have g := uwn_le (σ.2 107 a.toNatClampNeg).toInt t.toInt
  rcases h with ⟨e, h⟩ | ⟨h, v, ev, e⟩
  · exact Or.inl ⟨e, by omega⟩
  · exact Or.inr ⟨v, by omega, by omega, by omega, e⟩
/-- lows and highs are such as every choice keeps, within what was told, and of the weekdays -/
def MB (σ : ST) (kp : Nat → Prop) (s : ST) : Prop := ∀ j : Nat, (j : Int) < (σ.1 20).toInt → ((σ.2 105 j).toInt ≤ lowM s j ∧ higM s j ≤ (σ.2 106 j).toInt) ∧ ((0 ≤ (σ.2 107 j).toInt → lowM s j % 7 = (σ.2 107 j).toInt ∧ higM s j % 7 = (σ.2 107 j).toInt)) ∧ ∀ x : Nat → Int, FSM σ kp x → lowM s j ≤ x j ∧ x j ≤ higM s j
theorem MB_raise {σ s s2 : ST} {kp : Nat → Prop} {a t : Int32} (h : MB σ kp s) (q : PRe s a t s2) (e7 : s.2 107 = σ.2 107) (w7 : (σ.2 107 a.toNatClampNeg).toInt < 7) (ht : ∀ x : Nat → Int, FSM σ kp x → t.toInt ≤ x a.toNatClampNeg) (ha : (a.toNatClampNeg : Int) < (σ.1 20).toInt) : MB σ kp s2 := by
  rcases q with ⟨e, -⟩ | ⟨lt, v, ev, e⟩
  · rw [e]
    exact h
  · intro j hj
    have b := h j hj
    have e1 : s2.2 120 = upd (s.2 120) a.toNatClampNeg v := by
      rw [e]
      exact sI_A
    have e2 : s2.2 121 = s.2 121 := by
      rw [e]
      exact sI_N (by decide)
    unfold lowM higM at b ⊢
    rw [e1, e2]
    by_cases z : j = a.toNatClampNeg
    · subst z
      rw [upd_eq, ev, e7]
      rw [e7] at lt
      refine ⟨⟨by omega, b.1.2⟩, fun w => ⟨dwn_w w w7, (b.2.1 w).2⟩, fun x hx => ⟨dwn_le w7 (ht x hx) (fun w => (hx.1 _ hj).2.2.1 w), (b.2.2 x hx).2⟩⟩
    · rw [upd_ne z]
      exact b
theorem MB_sink {σ s s2 : ST} {kp : Nat → Prop} {a t : Int32} (h : MB σ kp s) (q : PSe s a t s2) (e7 : s.2 107 = σ.2 107) (w7 : (σ.2 107 a.toNatClampNeg).toInt < 7) (ht : ∀ x : Nat → Int, FSM σ kp x → x a.toNatClampNeg ≤ t.toInt) (ha : (a.toNatClampNeg : Int) < (σ.1 20).toInt) : MB σ kp s2 := by
  rcases q with ⟨e, -⟩ | ⟨lt, v, ev, e⟩
  · rw [e]
    exact h
  · intro j hj
    have b := h j hj
    have e1 : s2.2 121 = upd (s.2 121) a.toNatClampNeg v := by
      rw [e]
      exact sI_A
    have e2 : s2.2 120 = s.2 120 := by
      rw [e]
      exact sI_N (by decide)
    unfold lowM higM at b ⊢
    rw [e1, e2]
    by_cases z : j = a.toNatClampNeg
    · subst z
      rw [upd_eq, ev, e7]
      rw [e7] at lt
      refine ⟨⟨b.1.1, by omega⟩, fun w => ⟨(b.2.1 w).1, uwn_w w w7⟩, fun x hx => ⟨(b.2.2 x hx).1, uwn_ge w7 (ht x hx) (fun w => (hx.1 _ hj).2.2.1 w)⟩⟩
    · rw [upd_ne z]
      exact b
/-- nothing has moved: the state is as it was -/
theorem PRe_0 {s s2 : ST} {a t : Int32} (h : PRe s a t s2) (z : (s2.1 24).toInt = 0) : s2 = s ∧ t.toInt ≤ (s.2 120 a.toNatClampNeg).toInt := by
  rcases h with ⟨e, h⟩ | ⟨-, v, -, e⟩
  · have := dwn_ge (s.2 107 a.toNatClampNeg).toInt t.toInt
    exact ⟨e, by omega⟩
  · have e1 : s2.1 24 = 1 := by
      rw [e]
      exact setI_same _ _ _
    rw [e1] at z
    exact absurd z (by decide)
theorem PSe_0 {s s2 : ST} {a t : Int32} (h : PSe s a t s2) (z : (s2.1 24).toInt = 0) : s2 = s ∧ (s.2 121 a.toNatClampNeg).toInt ≤ t.toInt := by
  rcases h with ⟨e, h⟩ | ⟨-, v, -, e⟩
  · have := uwn_le (s.2 107 a.toNatClampNeg).toInt t.toInt
    exact ⟨e, by omega⟩
  · have e1 : s2.1 24 = 1 := by
      rw [e]
      exact setI_same _ _ _
    rw [e1] at z
    exact absurd z (by decide)
/-- what holds of LETTER j, of BOUND k, where nothing moves -/
def OKL (σ s : ST) (j : Nat) : Prop := (lowM s j ≤ (σ.2 106 j).toInt ∧ (σ.2 105 j).toInt ≤ higM s j) ∧ (0 ≤ (σ.2 108 j).toInt → lowM s j = lowM s (σ.2 108 j).toNatClampNeg ∧ higM s j = higM s (σ.2 108 j).toNatClampNeg)
def OKB (σ s : ST) (kp : Nat → Prop) (k : Nat) : Prop := kp k → lowM s (σ.2 111 k).toNatClampNeg + (σ.2 113 k).toInt ≤ lowM s (σ.2 112 k).toNatClampNeg ∧ higM s (σ.2 111 k).toNatClampNeg ≤ higM s (σ.2 112 k).toNatClampNeg - (σ.2 113 k).toInt
theorem OK_FS {σ s : ST} {kp : Nat → Prop} (b : MB σ kp s) (hL : ∀ j : Nat, (j : Int) < (σ.1 20).toInt → OKL σ s j) (hB : ∀ k : Nat, (k : Int) < (σ.1 21).toInt → OKB σ s kp k) : FSM σ kp (lowM s) ∧ FSM σ kp (higM s) := by
  refine ⟨⟨fun i hi => ⟨(b i hi).1.1, (hL i hi).1.1, fun w => ((b i hi).2.1 w).1, fun f => ((hL i hi).2 f).1⟩, fun k hk q => (hB k hk q).1⟩, ⟨fun i hi => ⟨(hL i hi).1.2, (b i hi).1.2, fun w => ((b i hi).2.1 w).2, fun f => ((hL i hi).2 f).2⟩, fun k hk q => ?_⟩⟩
  have := (hB k hk q).2
  omega
/-- least and greatest choice of DAYS; or there is none (r = 1) -/
def LGM (σ : ST) (kp : Nat → Prop) (s : ST) (r : Int32) : Prop := (r = 1 ∧ ∀ x : Nat → Int, ¬ FSM σ kp x) ∨ (r = 0 ∧ FSM σ kp (lowM s) ∧ FSM σ kp (higM s) ∧ ∀ x : Nat → Int, FSM σ kp x → ∀ j : Nat, (j : Int) < (σ.1 20).toInt → lowM s j ≤ x j ∧ x j ≤ higM s j)
set_option maxHeartbeats 4000000 in
set_option maxRecDepth 100000 in
theorem f_X12_raise (l : Launch) (L : WL) (σ : ST) (a t : Int32) (ha : 0 ≤ a.toInt ∧ a.toInt < 12) (ht : 0 ≤ t.toInt ∧ t.toInt ≤ 31900) (ix : IV σ) : CtV l L yX12_raise cX12_raise 4 none rm_X12_raise [.ref (L.2.1 13), .int a, .int t] σ (fun σ2 => PRe σ a t σ2) := by
  refine ctV_go (own := RX12) (by decide) rfl (Nat.le_of_ble_eq_true rfl) (fun F hF => ?_)
  subst hF
  have n1 : (1 : Int32).toInt = 1 := by decide
  have n7 : (7 : Int32).toInt = 7 := by decide
  have w0 : WM σ σ := WM_rfl ix
  have g7 := ixa_107 ix (a).toNatClampNeg (vinlt (vin_of (n := 12) (by omega) (by omega)))
  have dg := dwn_ge (σ.2 107 (a).toNatClampNeg).toInt t.toInt
  have dw : 0 ≤ (σ.2 107 (a).toNatClampNeg).toInt → dwn (σ.2 107 (a).toNatClampNeg).toInt t.toInt % 7 = (σ.2 107 (a).toNatClampNeg).toInt := fun q => dwn_w q (by omega)
  refine go_iload_n (i := 2) (pc' := 1) dX12_raise_0 rfl rfl rfl ?_
  refine go_istore_n (i := 3) (pc' := 2) dX12_raise_1 rfl rfl (by decide) ?_
  refine go_aload_n (i := 0) (pc' := 3) dX12_raise_2 rfl rfl rfl ?_
  refine gf_13_week (pc' := 6) dX12_raise_3 rfl fl_X12_44 ?_
  refine go_iload_n (i := 1) (pc' := 7) dX12_raise_6 rfl rfl rfl ?_
  refine go_iald (pc' := 8) dX12_raise_7 rfl (by decide) (by decide) rfl (vin_of (n := 12) (by omega) (by omega)) ?_
  have g1 := ixa_107 ix (a).toNatClampNeg (vinlt (show vp_in a 12 from (vin_of (n := 12) (by omega) (by omega))))
  refine gz_if_lt (tgt := 30) (pc' := 11) dX12_raise_8 rfl (by decide) (fun c2 => ?_) (fun c2 => ?_)
  · have e30 : (t).toInt = dwn (σ.2 107 (a).toNatClampNeg).toInt t.toInt := by
      first
      | exact (dwn_no (by omega)).symm
      | (have ed : dwn (σ.2 107 (a).toNatClampNeg).toInt t.toInt = t.toInt + ((σ.2 107 (a).toNatClampNeg).toInt - t.toInt) % 7 := if_pos (by omega)
         omega)
    refine go_iload_n (i := 3) (pc' := 31) dX12_raise_30 rfl rfl rfl ?_
    refine go_aload_n (i := 0) (pc' := 32) dX12_raise_31 rfl rfl rfl ?_
    refine gf_13_low (pc' := 35) dX12_raise_32 rfl fl_X12_83 ?_
    refine go_iload_n (i := 1) (pc' := 36) dX12_raise_35 rfl rfl rfl ?_
    refine go_iald (pc' := 37) dX12_raise_36 rfl (by decide) (by decide) rfl (vin_of (n := 12) (by omega) (by omega)) ?_
    have g3 := ixa_120 ix (a).toNatClampNeg (vinlt (show vp_in a 12 from (vin_of (n := 12) (by omega) (by omega))))
    refine gz_icmp_gt (tgt := 41) (pc' := 40) dX12_raise_37 rfl (by decide) (fun c4 => ?_) (fun c4 => ?_)
    · refine go_aload_n (i := 0) (pc' := 42) dX12_raise_41 rfl rfl rfl ?_
      refine gf_13_low (pc' := 45) dX12_raise_42 rfl fl_X12_83 ?_
      refine go_iload_n (i := 1) (pc' := 46) dX12_raise_45 rfl rfl rfl ?_
      refine go_iload_n (i := 3) (pc' := 47) dX12_raise_46 rfl rfl rfl ?_
      refine go_iast (pc' := 48) dX12_raise_47 rfl (by decide) (by decide) rfl (vin_of (n := 12) (by omega) (by omega)) ?_
      refine go_aload_n (i := 0) (pc' := 49) dX12_raise_48 rfl rfl rfl ?_
      refine go_iconst (v := 1) (pc' := 50) dX12_raise_49 rfl (by decide) ?_
      refine pf_13_moved (pc' := 53) dX12_raise_50 rfl fl_X12_158 rfl rfl ?_
      exact go_vret dX12_raise_53 rfl (Or.inr ⟨by omega, _, by omega, rfl⟩)
    exact go_vret dX12_raise_40 rfl (Or.inl ⟨rfl, by omega⟩)
  have loop11_5 : ∀ (dd5 : Nat) (x3_5 : Int32), (t.toInt ≤ (x3_5).toInt ∧ (x3_5).toInt ≤ dwn (σ.2 107 (a).toNatClampNeg).toInt t.toInt) → (dwn (σ.2 107 (a).toNatClampNeg).toInt t.toInt + 1 - (x3_5).toInt).toNat = dd5 → Go F L RX12 cX12_raise 4 rm_X12_raise none (RV F L (fun σ2 => PRe σ a t σ2)) σ 11 [(0, .ref (L.2.1 13)), (1, .int a), (2, .int t), (3, .int x3_5)] [] := by
    intro dd5
    induction dd5 using Nat.strongRecOn with
    | _ dd5 ih5 =>
      intro x3_5 h_5 hm_5
      have dw2 := dw (by omega)
      refine go_iload_n (i := 3) (pc' := 12) dX12_raise_11 rfl rfl rfl ?_
      refine go_bipush (v := 7) (pc' := 14) dX12_raise_12 rfl (by decide) ?_
      refine go_irem (pc' := 15) dX12_raise_14 rfl (by decide) ?_
      have q15 := i32_rem7 x3_5
      rw [if_pos (Or.inl (by omega))] at q15
      refine go_aload_n (i := 0) (pc' := 16) dX12_raise_15 rfl rfl rfl ?_
      refine gf_13_week (pc' := 19) dX12_raise_16 rfl fl_X12_44 ?_
      refine go_iload_n (i := 1) (pc' := 20) dX12_raise_19 rfl rfl rfl ?_
      refine go_iald (pc' := 21) dX12_raise_20 rfl (by decide) (by decide) rfl (vin_of (n := 12) (by omega) (by omega)) ?_
      have g6 := ixa_107 ix (a).toNatClampNeg (vinlt (show vp_in a 12 from (vin_of (n := 12) (by omega) (by omega))))
      refine gz_icmp_eq (tgt := 30) (pc' := 24) dX12_raise_21 rfl (by decide) (fun c7 => ?_) (fun c7 => ?_)
      · have e30 : (x3_5).toInt = dwn (σ.2 107 (a).toNatClampNeg).toInt t.toInt := by
          first
          | exact (dwn_no (by omega)).symm
          | (have ed : dwn (σ.2 107 (a).toNatClampNeg).toInt t.toInt = t.toInt + ((σ.2 107 (a).toNatClampNeg).toInt - t.toInt) % 7 := if_pos (by omega)
             omega)
        refine go_iload_n (i := 3) (pc' := 31) dX12_raise_30 rfl rfl rfl ?_
        refine go_aload_n (i := 0) (pc' := 32) dX12_raise_31 rfl rfl rfl ?_
        refine gf_13_low (pc' := 35) dX12_raise_32 rfl fl_X12_83 ?_
        refine go_iload_n (i := 1) (pc' := 36) dX12_raise_35 rfl rfl rfl ?_
        refine go_iald (pc' := 37) dX12_raise_36 rfl (by decide) (by decide) rfl (vin_of (n := 12) (by omega) (by omega)) ?_
        have g8 := ixa_120 ix (a).toNatClampNeg (vinlt (show vp_in a 12 from (vin_of (n := 12) (by omega) (by omega))))
        refine gz_icmp_gt (tgt := 41) (pc' := 40) dX12_raise_37 rfl (by decide) (fun c9 => ?_) (fun c9 => ?_)
        · refine go_aload_n (i := 0) (pc' := 42) dX12_raise_41 rfl rfl rfl ?_
          refine gf_13_low (pc' := 45) dX12_raise_42 rfl fl_X12_83 ?_
          refine go_iload_n (i := 1) (pc' := 46) dX12_raise_45 rfl rfl rfl ?_
          refine go_iload_n (i := 3) (pc' := 47) dX12_raise_46 rfl rfl rfl ?_
          refine go_iast (pc' := 48) dX12_raise_47 rfl (by decide) (by decide) rfl (vin_of (n := 12) (by omega) (by omega)) ?_
          refine go_aload_n (i := 0) (pc' := 49) dX12_raise_48 rfl rfl rfl ?_
          refine go_iconst (v := 1) (pc' := 50) dX12_raise_49 rfl (by decide) ?_
          refine pf_13_moved (pc' := 53) dX12_raise_50 rfl fl_X12_158 rfl rfl ?_
          exact go_vret dX12_raise_53 rfl (Or.inr ⟨by omega, _, by omega, rfl⟩)
        exact go_vret dX12_raise_40 rfl (Or.inl ⟨rfl, by omega⟩)
      refine gz_iinc (c := 1) (pc' := 27) dX12_raise_24 rfl rfl (by decide) (by decide) (by decide) (by omega) (fun v10 h10 e10 => ?_)
      refine go_goto (tgt := 11) dX12_raise_27 (by decide) ?_
      exact go_lv (lv' := [(0, .ref (L.2.1 13)), (1, .int a), (2, .int t), (3, .int v10)]) rfl (ih5 _ (by omega)  v10 (by omega) rfl)
  exact go_lv (lv' := [(0, .ref (L.2.1 13)), (1, .int a), (2, .int t), (3, .int t)]) rfl (loop11_5 _  t (by omega) rfl)
set_option maxHeartbeats 4000000 in
set_option maxRecDepth 100000 in
theorem f_X12_sink (l : Launch) (L : WL) (σ : ST) (a t : Int32) (ha : 0 ≤ a.toInt ∧ a.toInt < 12) (ht : -31900 ≤ t.toInt ∧ t.toInt ≤ 31900) (ix : IV σ) : CtV l L yX12_sink cX12_sink 4 none rm_X12_sink [.ref (L.2.1 13), .int a, .int t] σ (fun σ2 => PSe σ a t σ2) := by
  refine ctV_go (own := RX12) (by decide) rfl (Nat.le_of_ble_eq_true rfl) (fun F hF => ?_)
  subst hF
  have n1 : (1 : Int32).toInt = 1 := by decide
  have n7 : (7 : Int32).toInt = 7 := by decide
  have w0 : WM σ σ := WM_rfl ix
  have g7 := ixa_107 ix (a).toNatClampNeg (vinlt (vin_of (n := 12) (by omega) (by omega)))
  have dg := uwn_le (σ.2 107 (a).toNatClampNeg).toInt t.toInt
  have dw : 0 ≤ (σ.2 107 (a).toNatClampNeg).toInt → uwn (σ.2 107 (a).toNatClampNeg).toInt t.toInt % 7 = (σ.2 107 (a).toNatClampNeg).toInt := fun q => uwn_w q (by omega)
  refine go_iload_n (i := 2) (pc' := 1) dX12_sink_0 rfl rfl rfl ?_
  refine go_istore_n (i := 3) (pc' := 2) dX12_sink_1 rfl rfl (by decide) ?_
  refine go_aload_n (i := 0) (pc' := 3) dX12_sink_2 rfl rfl rfl ?_
  refine gf_13_week (pc' := 6) dX12_sink_3 rfl fl_X12_44 ?_
  refine go_iload_n (i := 1) (pc' := 7) dX12_sink_6 rfl rfl rfl ?_
  refine go_iald (pc' := 8) dX12_sink_7 rfl (by decide) (by decide) rfl (vin_of (n := 12) (by omega) (by omega)) ?_
  have g1 := ixa_107 ix (a).toNatClampNeg (vinlt (show vp_in a 12 from (vin_of (n := 12) (by omega) (by omega))))
  refine gz_if_lt (tgt := 32) (pc' := 11) dX12_sink_8 rfl (by decide) (fun c2 => ?_) (fun c2 => ?_)
  · have e30 : (t).toInt = uwn (σ.2 107 (a).toNatClampNeg).toInt t.toInt := by
      first
      | (unfold uwn; rw [if_neg (by omega)]; done)
      | (have ed : uwn (σ.2 107 (a).toNatClampNeg).toInt t.toInt = t.toInt - (t.toInt - (σ.2 107 (a).toNatClampNeg).toInt) % 7 := if_pos (by omega)
         omega)
    refine go_iload_n (i := 3) (pc' := 33) dX12_sink_32 rfl rfl rfl ?_
    refine go_aload_n (i := 0) (pc' := 34) dX12_sink_33 rfl rfl rfl ?_
    refine gf_13_high (pc' := 37) dX12_sink_34 rfl fl_X12_86 ?_
    refine go_iload_n (i := 1) (pc' := 38) dX12_sink_37 rfl rfl rfl ?_
    refine go_iald (pc' := 39) dX12_sink_38 rfl (by decide) (by decide) rfl (vin_of (n := 12) (by omega) (by omega)) ?_
    have g3 := ixa_121 ix (a).toNatClampNeg (vinlt (show vp_in a 12 from (vin_of (n := 12) (by omega) (by omega))))
    refine gz_icmp_lt (tgt := 43) (pc' := 42) dX12_sink_39 rfl (by decide) (fun c4 => ?_) (fun c4 => ?_)
    · refine go_aload_n (i := 0) (pc' := 44) dX12_sink_43 rfl rfl rfl ?_
      refine gf_13_high (pc' := 47) dX12_sink_44 rfl fl_X12_86 ?_
      refine go_iload_n (i := 1) (pc' := 48) dX12_sink_47 rfl rfl rfl ?_
      refine go_iload_n (i := 3) (pc' := 49) dX12_sink_48 rfl rfl rfl ?_
      refine go_iast (pc' := 50) dX12_sink_49 rfl (by decide) (by decide) rfl (vin_of (n := 12) (by omega) (by omega)) ?_
      refine go_aload_n (i := 0) (pc' := 51) dX12_sink_50 rfl rfl rfl ?_
      refine go_iconst (v := 1) (pc' := 52) dX12_sink_51 rfl (by decide) ?_
      refine pf_13_moved (pc' := 55) dX12_sink_52 rfl fl_X12_158 rfl rfl ?_
      exact go_vret dX12_sink_55 rfl (Or.inr ⟨by omega, _, by omega, rfl⟩)
    exact go_vret dX12_sink_42 rfl (Or.inl ⟨rfl, by omega⟩)
  have loop11_5 : ∀ (dd5 : Nat) (x3_5 : Int32), ((x3_5).toInt ≤ t.toInt ∧ uwn (σ.2 107 (a).toNatClampNeg).toInt t.toInt ≤ (x3_5).toInt) → ((x3_5).toInt - uwn (σ.2 107 (a).toNatClampNeg).toInt t.toInt + 1).toNat = dd5 → Go F L RX12 cX12_sink 4 rm_X12_sink none (RV F L (fun σ2 => PSe σ a t σ2)) σ 11 [(0, .ref (L.2.1 13)), (1, .int a), (2, .int t), (3, .int x3_5)] [] := by
    intro dd5
    induction dd5 using Nat.strongRecOn with
    | _ dd5 ih5 =>
      intro x3_5 h_5 hm_5
      have dw2 := dw (by omega)
      refine go_iload_n (i := 3) (pc' := 12) dX12_sink_11 rfl rfl rfl ?_
      refine go_bipush (v := 7) (pc' := 14) dX12_sink_12 rfl (by decide) ?_
      refine go_csi (pc' := 17) ls_X12_162 (f_floorMod7 _ _ _ _) rfl rfl (Nat.le_of_ble_eq_true rfl) ⟨Nat.le_of_ble_eq_true rfl, Nat.le_of_ble_eq_true rfl⟩ ⟨rfl, rfl⟩ dX12_sink_14 rfl (fun r6 σ6 h6 => ?_)
      obtain ⟨e6, h6⟩ := h6
      have e6 := e6.symm
      subst e6
      refine go_aload_n (i := 0) (pc' := 18) dX12_sink_17 rfl rfl rfl ?_
      refine gf_13_week (pc' := 21) dX12_sink_18 rfl fl_X12_44 ?_
      refine go_iload_n (i := 1) (pc' := 22) dX12_sink_21 rfl rfl rfl ?_
      refine go_iald (pc' := 23) dX12_sink_22 rfl (by decide) (by decide) rfl (vin_of (n := 12) (by omega) (by omega)) ?_
      have g7 := ixa_107 ix (a).toNatClampNeg (vinlt (show vp_in a 12 from (vin_of (n := 12) (by omega) (by omega))))
      refine gz_icmp_eq (tgt := 32) (pc' := 26) dX12_sink_23 rfl (by decide) (fun c8 => ?_) (fun c8 => ?_)
      · have e30 : (x3_5).toInt = uwn (σ.2 107 (a).toNatClampNeg).toInt t.toInt := by
          first
          | (unfold uwn; rw [if_neg (by omega)]; done)
          | (have ed : uwn (σ.2 107 (a).toNatClampNeg).toInt t.toInt = t.toInt - (t.toInt - (σ.2 107 (a).toNatClampNeg).toInt) % 7 := if_pos (by omega)
             omega)
        refine go_iload_n (i := 3) (pc' := 33) dX12_sink_32 rfl rfl rfl ?_
        refine go_aload_n (i := 0) (pc' := 34) dX12_sink_33 rfl rfl rfl ?_
        refine gf_13_high (pc' := 37) dX12_sink_34 rfl fl_X12_86 ?_
        refine go_iload_n (i := 1) (pc' := 38) dX12_sink_37 rfl rfl rfl ?_
        refine go_iald (pc' := 39) dX12_sink_38 rfl (by decide) (by decide) rfl (vin_of (n := 12) (by omega) (by omega)) ?_
        have g9 := ixa_121 ix (a).toNatClampNeg (vinlt (show vp_in a 12 from (vin_of (n := 12) (by omega) (by omega))))
        refine gz_icmp_lt (tgt := 43) (pc' := 42) dX12_sink_39 rfl (by decide) (fun c10 => ?_) (fun c10 => ?_)
        · refine go_aload_n (i := 0) (pc' := 44) dX12_sink_43 rfl rfl rfl ?_
          refine gf_13_high (pc' := 47) dX12_sink_44 rfl fl_X12_86 ?_
          refine go_iload_n (i := 1) (pc' := 48) dX12_sink_47 rfl rfl rfl ?_
          refine go_iload_n (i := 3) (pc' := 49) dX12_sink_48 rfl rfl rfl ?_
          refine go_iast (pc' := 50) dX12_sink_49 rfl (by decide) (by decide) rfl (vin_of (n := 12) (by omega) (by omega)) ?_
          refine go_aload_n (i := 0) (pc' := 51) dX12_sink_50 rfl rfl rfl ?_
          refine go_iconst (v := 1) (pc' := 52) dX12_sink_51 rfl (by decide) ?_
          refine pf_13_moved (pc' := 55) dX12_sink_52 rfl fl_X12_158 rfl rfl ?_
          exact go_vret dX12_sink_55 rfl (Or.inr ⟨by omega, _, by omega, rfl⟩)
        exact go_vret dX12_sink_42 rfl (Or.inl ⟨rfl, by omega⟩)
      refine gz_iinc (c := (-1)) (pc' := 29) dX12_sink_26 rfl rfl (by decide) (by decide) (by decide) (by omega) (fun v11 h11 e11 => ?_)
      refine go_goto (tgt := 11) dX12_sink_29 (by decide) ?_
      exact go_lv (lv' := [(0, .ref (L.2.1 13)), (1, .int a), (2, .int t), (3, .int v11)]) rfl (ih5 _ (by omega)  v11 (by omega) rfl)
  exact go_lv (lv' := [(0, .ref (L.2.1 13)), (1, .int a), (2, .int t), (3, .int t)]) rfl (loop11_5 _  t (by omega) rfl)
/-- only the least and greatest days have changed -/
abbrev WMlI (i : Nat) : Prop := i = 24
abbrev WMlA (k : Nat) : Prop := k = 120 ∨ k = 121
def WMl (σ σ2 : ST) : Prop := IV σ2 ∧ Ag WMlI WMlA σ σ2
theorem WMl_rfl {σ : ST} (h : IV σ) : WMl σ σ := ⟨h, Ag_rfl σ⟩
theorem WMl_trans {σ σ2 σ3 : ST} (h : WMl σ σ2) (h2 : WMl σ2 σ3) : WMl σ σ3 := ⟨h2.1, Ag_trans h.2 h2.2⟩
theorem WM_of_l {σ σ2 : ST} (h : WMl σ σ2) : WM σ σ2 := ⟨h.1, ⟨fun i hi => h.2.1 i (fun q => hi (by unfold smI; unfold WMlI at q; omega)), fun k hk => h.2.2 k (fun q => hk (by unfold smA; unfold WMlA at q; omega))⟩⟩
theorem PR_WMl {σ σ2 : ST} {a t : Int32} (h : IV σ) (h1 : t.toInt ≤ 31900) (ha : 0 ≤ a.toInt ∧ a.toInt < 12) (hp : PR σ a t σ2) : WMl σ σ2 := by
  rcases hp with ⟨rfl, -⟩ | ⟨v, h2, h3, h4, rfl⟩
  · exact WMl_rfl h
  · have g := ixa_120 h a.toNatClampNeg (by rw [show a.toNatClampNeg = a.toInt.toNat from rfl]; omega)
    exact ⟨ixs_n (ixt_120 h (by omega) (by omega)) (by decide), Ag_setI (Ag_setA (Ag_rfl σ) (by decide)) (by decide)⟩
theorem PS_WMl {σ σ2 : ST} {a t : Int32} (h : IV σ) (h1 : -31900 ≤ t.toInt) (ha : 0 ≤ a.toInt ∧ a.toInt < 12) (hp : PS σ a t σ2) : WMl σ σ2 := by
  rcases hp with ⟨rfl, -⟩ | ⟨v, h2, h3, h4, rfl⟩
  · exact WMl_rfl h
  · have g := ixa_121 h a.toNatClampNeg (by rw [show a.toNatClampNeg = a.toInt.toNat from rfl]; omega)
    exact ⟨ixs_n (ixt_121 h (by omega) (by omega)) (by decide), Ag_setI (Ag_setA (Ag_rfl σ) (by decide)) (by decide)⟩
/-- lows and highs as told -/
def INI (σ s : ST) (j : Nat) : Prop := lowM s j = dwn (σ.2 107 j).toInt (σ.2 105 j).toInt ∧ higM s j = uwn (σ.2 107 j).toInt (σ.2 106 j).toInt
theorem INI_step {σ s s1 s2 s3 s4 : ST} {l t1 t2 v : Int32} (h : ∀ j : Nat, (j : Int) < l.toInt → INI σ s j) (h0 : 0 ≤ l.toInt) (e1 : s1 = setA s 120 l.toNatClampNeg (-1)) (e2 : s2 = setA s1 121 l.toNatClampNeg 10000) (hr : PRe s2 l t1 s3) (hs : PSe s3 l t2 s4) (b1 : 0 ≤ t1.toInt ∧ t1.toInt ≤ 9999) (b2 : 0 ≤ t2.toInt ∧ t2.toInt ≤ 9999) (f1 : t1 = σ.2 105 l.toNatClampNeg) (f2 : t2 = σ.2 106 l.toNatClampNeg) (e7 : s.2 107 = σ.2 107) (hv : v.toInt = l.toInt + 1) : ∀ j : Nat, (j : Int) < v.toInt → INI σ s4 j := by
  have ea := cnat h0
  have m1 : (-1 : Int32).toInt = -1 := by decide
  have m10 : (10000 : Int32).toInt = 10000 := by decide
  have q7 : s2.2 107 = σ.2 107 := by
    rw [e2, e1]
    exact (setA_ne (a := 107) _ 121 _ _ (by decide)).trans ((setA_ne (a := 107) _ 120 _ _ (by decide)).trans e7)
  have q120 : s2.2 120 = upd (s.2 120) l.toNatClampNeg (-1) := by
    rw [e2, e1]
    exact (setA_ne (a := 120) _ 121 _ _ (by decide)).trans (setA_same _ _ _ _)
  have q121 : s2.2 121 = upd (s.2 121) l.toNatClampNeg 10000 := by
    rw [e2, e1]
    exact (setA_same _ _ _ _).trans (by rw [setA_ne (a := 121) _ 120 _ _ (by decide)])
  have d1 := dwn_ge (σ.2 107 l.toNatClampNeg).toInt t1.toInt
  have d2 := uwn_le (σ.2 107 l.toNatClampNeg).toInt t2.toInt
  rcases hr with ⟨-, g⟩ | ⟨-, w, g1, e3⟩
  · rw [q120, upd_eq, m1, q7] at g
    omega
  · have r120 : s3.2 120 = upd (s2.2 120) l.toNatClampNeg w := by
      rw [e3]
      exact sI_A
    have r121 : s3.2 121 = s2.2 121 := by
      rw [e3]
      exact sI_N (by decide)
    have r7 : s3.2 107 = s2.2 107 := by
      rw [e3]
      exact sI_N (by decide)
    rw [q7] at g1
    rcases hs with ⟨-, g⟩ | ⟨-, u, g2, e4⟩
    · rw [r121, q121, upd_eq, m10, r7, q7] at g
      omega
    · have p121 : s4.2 121 = upd (s3.2 121) l.toNatClampNeg u := by
        rw [e4]
        exact sI_A
      have p120 : s4.2 120 = s3.2 120 := by
        rw [e4]
        exact sI_N (by decide)
      rw [r7, q7] at g2
      intro j hj
      unfold INI lowM higM
      rw [p120, p121, r120, r121, q120, q121]
      by_cases z : j = l.toNatClampNeg
      · rw [z, upd_eq, upd_eq, g1, g2, f1, f2]
        exact ⟨rfl, rfl⟩
      · rw [upd_ne z, upd_ne z, upd_ne z, upd_ne z]
        exact h j (by omega)
theorem INI_MB {σ s : ST} {kp : Nat → Prop} (iv : IV σ) (h20 : (σ.1 20).toInt ≤ 12) (h : ∀ j : Nat, (j : Int) < (σ.1 20).toInt → INI σ s j) : MB σ kp s := fun j hj => by
  obtain ⟨h1, h2⟩ := h j hj
  have g7 := ixa_107 iv j (by omega)
  have d1 := dwn_ge (σ.2 107 j).toInt (σ.2 105 j).toInt
  have d2 := uwn_le (σ.2 107 j).toInt (σ.2 106 j).toInt
  rw [h1, h2]
  exact ⟨⟨d1.1, d2.1⟩, fun w => ⟨dwn_w w (by omega), uwn_w w (by omega)⟩, fun x hx => ⟨dwn_le (by omega) (hx.1 j hj).1 (hx.1 j hj).2.2.1, uwn_ge (by omega) (hx.1 j hj).2.1 (hx.1 j hj).2.2.1⟩⟩
theorem OKL_new {s s1 s2 s3 s4 : ST} {l m : Int32} (a1 : PRe s l (s.2 120 m.toNatClampNeg) s1) (a2 : PRe s1 m (s1.2 120 l.toNatClampNeg) s2) (a3 : PSe s2 l (s2.2 121 m.toNatClampNeg) s3) (a4 : PSe s3 m (s3.2 121 l.toNatClampNeg) s4) (z : (s4.1 24).toInt = 0) : s4 = s ∧ (s.2 120 l.toNatClampNeg).toInt = (s.2 120 m.toNatClampNeg).toInt ∧ (s.2 121 l.toNatClampNeg).toInt = (s.2 121 m.toNatClampNeg).toInt := by
  obtain ⟨e4, b4⟩ := PSe_0 a4 z
  subst e4
  obtain ⟨e3, b3⟩ := PSe_0 a3 z
  subst e3
  obtain ⟨e2, b2⟩ := PRe_0 a2 z
  subst e2
  obtain ⟨e1, b1⟩ := PRe_0 a1 z
  subst e1
  exact ⟨rfl, by omega, by omega⟩
theorem OKB_new {s s1 s2 : ST} {a b t1 t2 : Int32} (a1 : PRe s b t1 s1) (a2 : PSe s1 a t2 s2) (z : (s2.1 24).toInt = 0) : s2 = s ∧ s1 = s ∧ t1.toInt ≤ (s.2 120 b.toNatClampNeg).toInt ∧ (s.2 121 a.toNatClampNeg).toInt ≤ t2.toInt := by
  obtain ⟨e2, b2⟩ := PSe_0 a2 z
  subst e2
  obtain ⟨e1, b1⟩ := PRe_0 a1 z
  subst e1
  exact ⟨rfl, rfl, b1, b2⟩
theorem OKL_e {σ s s2 : ST} {j : Nat} (h : OKL σ s j) (e1 : s2.2 120 = s.2 120) (e2 : s2.2 121 = s.2 121) : OKL σ s2 j := by
  unfold OKL lowM higM at h ⊢
  rw [e1, e2]
  exact h
theorem OKB_e {σ s s2 : ST} {kp : Nat → Prop} {k : Nat} (h : OKB σ s kp k) (e1 : s2.2 120 = s.2 120) (e2 : s2.2 121 = s.2 121) : OKB σ s2 kp k := by
  unfold OKB lowM higM at h ⊢
  rw [e1, e2]
  exact h
set_option maxHeartbeats 4000000 in
set_option maxRecDepth 100000 in
theorem f_X12_clashes (l : Launch) (L : WL) (σ : ST) (kk : Int32) (ix : IV σ) (im : IM σ) : CtI l L yX12_clashes cX12_clashes 3 (some .boolean) rm_X12_clashes [.ref (L.2.1 13), .int kk] σ (fun r σ2 => WMl σ σ2 ∧ LGM σ (kpF kk) σ2 r) := by
  refine ctI_go (own := RX12) (by decide) rfl (Nat.le_of_ble_eq_true rfl) (fun F hF => ?_)
  subst hF
  have nm1 : (-1 : Int32).toInt = -1 := by decide
  have n0 : (0 : Int32).toInt = 0 := by decide
  have n1 : (1 : Int32).toInt = 1 := by decide
  have n9999 : (9999 : Int32).toInt = 9999 := by decide
  have n10000 : (10000 : Int32).toInt = 10000 := by decide
  have w0 : WMl σ σ := WMl_rfl ix
  have u20 := ixi_20 ix
  have u21 := ixi_21 ix
  refine go_iconst (v := 0) (pc' := 1) dX12_clashes_0 rfl (by decide) ?_
  refine go_istore_n (i := 2) (pc' := 2) dX12_clashes_1 rfl rfl (by decide) ?_
  have loop2_1 : ∀ (dd1 : Nat) (σ1 : ST) (x2_1 : Int32), WMl σ σ1 → (0 ≤ (x2_1).toInt ∧ (x2_1).toInt ≤ (σ.1 20).toInt) → (∀ j : Nat, (j : Int) < (x2_1).toInt → LB σ1 j) → (∀ j : Nat, (j : Int) < (x2_1).toInt → INI σ σ1 j) → (12 - (x2_1).toInt).toNat = dd1 → Go F L RX12 cX12_clashes 3 rm_X12_clashes (some .boolean) (RI F L (fun r σ2 => WMl σ σ2 ∧ LGM σ (kpF kk) σ2 r)) σ1 2 [(0, .ref (L.2.1 13)), (1, .int kk), (2, .int x2_1)] [] := by
    intro dd1
    induction dd1 using Nat.strongRecOn with
    | _ dd1 ih1 =>
      intro σ1 x2_1 w1 h_1 hL_1 hj2_1 hm_1
      refine go_iload_n (i := 2) (pc' := 3) dX12_clashes_2 rfl rfl rfl ?_
      refine go_aload_n (i := 0) (pc' := 4) dX12_clashes_3 rfl rfl rfl ?_
      refine gf_13_letters (pc' := 7) dX12_clashes_4 rfl fl_X12_142 ?_
      refine go_topq (y := σ.1 20) (w1.2.1 20 (by decide)) ?_
      have g2 := ixi_20 ix
      refine gz_icmp_ge (tgt := 54) (pc' := 10) dX12_clashes_7 rfl (by decide) (fun c3 => ?_) (fun c3 => ?_)
      · refine go_aload_n (i := 0) (pc' := 55) dX12_clashes_54 rfl rfl rfl ?_
        refine go_iconst (v := 1) (pc' := 56) dX12_clashes_55 rfl (by decide) ?_
        refine pf_13_moved (pc' := 59) dX12_clashes_56 rfl fl_X12_158 rfl rfl ?_
        refine go_gen (P := fun s => WMl σ s ∧ s = setI σ1 24 (1 : Int32)) ⟨⟨ixs_n w1.1 (by decide), Ag_setI w1.2 (by decide)⟩, rfl⟩ (fun σ4 z4 => ?_)
        obtain ⟨w4, g4⟩ := z4
        have gy := g4
        have hB54 := fun (j : Nat) (hj : (j : Int) < (σ.1 20).toInt) => hB_of gy (hL_1 j (by omega))
        have hm54 : MB σ (kpF kk) σ4 := by rw [gy]; exact INI_MB ix (by omega) (fun j hj => hj2_1 j (by omega))
        have loop59_5 : ∀ (dd5 : Nat) (σ5 : ST) (x2_5 : Int32), WMl σ σ5 → (∀ j : Nat, (j : Int) < (σ.1 20).toInt → ((σ5.2 120 j).toInt ≤ 31000 ∧ -31000 ≤ (σ5.2 121 j).toInt) ∧ 0 ≤ (σ5.2 120 j).toInt) → (MB σ (kpF kk) σ5) → ((σ5.1 24).toInt = 0 → (∀ j : Nat, (j : Int) < (σ.1 20).toInt → OKL σ σ5 j) ∧ ∀ k : Nat, (k : Int) < (σ.1 21).toInt → OKB σ σ5 (kpF kk) k) → 2 * msr σ5 + mvd σ5 = dd5 → Go F L RX12 cX12_clashes 3 rm_X12_clashes (some .boolean) (RI F L (fun r σ2 => WMl σ σ2 ∧ LGM σ (kpF kk) σ2 r)) σ5 59 [(0, .ref (L.2.1 13)), (1, .int kk), (2, .int x2_5)] [] := by
          intro dd5
          induction dd5 using Nat.strongRecOn with
          | _ dd5 ih5 =>
            intro σ5 x2_5 w5 hB_5 hM_5 hE_5 hm_5
            refine go_aload_n (i := 0) (pc' := 60) dX12_clashes_59 rfl rfl rfl ?_
            refine gf_13_moved (pc' := 63) dX12_clashes_60 rfl fl_X12_158 ?_
            refine gz_if_eq (tgt := 291) (pc' := 66) dX12_clashes_63 rfl (by decide) (fun c6 => ?_) (fun c6 => ?_)
            · refine go_iconst (v := 0) (pc' := 292) dX12_clashes_291 rfl (by decide) ?_
              exact go_zret dX12_clashes_292 rfl rfl (⟨w5, Or.inr ⟨rfl, (OK_FS hM_5 (hE_5 (by omega)).1 (hE_5 (by omega)).2).1, (OK_FS hM_5 (hE_5 (by omega)).1 (hE_5 (by omega)).2).2, fun x hx j hj => (hM_5 j hj).2.2 x hx⟩⟩)
            have c63 := c6
            refine go_aload_n (i := 0) (pc' := 67) dX12_clashes_66 rfl rfl rfl ?_
            refine go_iconst (v := 0) (pc' := 68) dX12_clashes_67 rfl (by decide) ?_
            refine pf_13_moved (pc' := 71) dX12_clashes_68 rfl fl_X12_158 rfl rfl ?_
            refine go_gen (P := fun s => WMl σ s ∧ s = setI σ5 24 (0 : Int32)) ⟨⟨ixs_n w5.1 (by decide), Ag_setI w5.2 (by decide)⟩, rfl⟩ (fun σ7 z7 => ?_)
            obtain ⟨w7, g7⟩ := z7
            have gz := g7
            have hB0 : ∀ j : Nat, (j : Int) < (σ.1 20).toInt → ((σ7.2 120 j).toInt ≤ 31000 ∧ -31000 ≤ (σ7.2 121 j).toInt) ∧ 0 ≤ (σ7.2 120 j).toInt := fun j hj => by
              rw [gz]
              exact hB_5 j hj
            have hmz : MB σ (kpF kk) σ7 := by rw [gz]; exact hM_5
            refine go_iconst (v := 0) (pc' := 72) dX12_clashes_71 rfl (by decide) ?_
            refine go_istore_n (i := 2) (pc' := 73) dX12_clashes_72 rfl rfl (by decide) ?_
            have loop73_8 : ∀ (dd8 : Nat) (σ8 : ST) (x2_8 : Int32), WMl σ σ8 → (0 ≤ (x2_8).toInt ∧ (x2_8).toInt ≤ (σ.1 20).toInt) → (CL (σ.1 20).toInt σ7 σ8 (24 * (x2_8).toInt)) → (∀ j : Nat, (j : Int) < (x2_8).toInt → (σ7.2 120 j).toInt ≤ 9999 ∧ 0 ≤ (σ7.2 121 j).toInt) → (MB σ (kpF kk) σ8) → ((σ8.1 24).toInt = 0 → σ8.2 120 = σ7.2 120 ∧ σ8.2 121 = σ7.2 121 ∧ ∀ j : Nat, (j : Int) < (x2_8).toInt → OKL σ σ7 j) → (12 - (x2_8).toInt).toNat = dd8 → Go F L RX12 cX12_clashes 3 rm_X12_clashes (some .boolean) (RI F L (fun r σ2 => WMl σ σ2 ∧ LGM σ (kpF kk) σ2 r)) σ8 73 [(0, .ref (L.2.1 13)), (1, .int kk), (2, .int x2_8)] [] := by
              intro dd8
              induction dd8 using Nat.strongRecOn with
              | _ dd8 ih8 =>
                intro σ8 x2_8 w8 h_8 hc_8 h9_8 hN_8 hz_8 hm_8
                refine go_iload_n (i := 2) (pc' := 74) dX12_clashes_73 rfl rfl rfl ?_
                refine go_aload_n (i := 0) (pc' := 75) dX12_clashes_74 rfl rfl rfl ?_
                refine gf_13_letters (pc' := 78) dX12_clashes_75 rfl fl_X12_142 ?_
                refine go_topq (y := σ.1 20) (w8.2.1 20 (by decide)) ?_
                have g9 := ixi_20 ix
                refine gz_icmp_ge (tgt := 195) (pc' := 81) dX12_clashes_78 rfl (by decide) (fun c10 => ?_) (fun c10 => ?_)
                · have h9z := h9_8
                  have hcz := hc_8
                  refine go_iconst (v := 0) (pc' := 196) dX12_clashes_195 rfl (by decide) ?_
                  refine go_istore_n (i := 2) (pc' := 197) dX12_clashes_196 rfl rfl (by decide) ?_
                  have loop197_11 : ∀ (dd11 : Nat) (σ11 : ST) (x2_11 : Int32), WMl σ σ11 → (0 ≤ (x2_11).toInt ∧ (x2_11).toInt ≤ (σ.1 21).toInt) → (CL (σ.1 20).toInt σ7 σ11 (288 + 1012 * (x2_11).toInt)) → (MB σ (kpF kk) σ11) → ((σ11.1 24).toInt = 0 → σ11.2 120 = σ7.2 120 ∧ σ11.2 121 = σ7.2 121 ∧ (∀ j : Nat, (j : Int) < (σ.1 20).toInt → OKL σ σ7 j) ∧ ∀ k : Nat, (k : Int) < (x2_11).toInt → OKB σ σ7 (kpF kk) k) → (20 - (x2_11).toInt).toNat = dd11 → Go F L RX12 cX12_clashes 3 rm_X12_clashes (some .boolean) (RI F L (fun r σ2 => WMl σ σ2 ∧ LGM σ (kpF kk) σ2 r)) σ11 197 [(0, .ref (L.2.1 13)), (1, .int kk), (2, .int x2_11)] [] := by
                    intro dd11
                    induction dd11 using Nat.strongRecOn with
                    | _ dd11 ih11 =>
                      intro σ11 x2_11 w11 h_11 hc_11 hm2_11 hz_11 hm_11
                      refine go_iload_n (i := 2) (pc' := 198) dX12_clashes_197 rfl rfl rfl ?_
                      refine go_aload_n (i := 0) (pc' := 199) dX12_clashes_198 rfl rfl rfl ?_
                      refine gf_13_bounds (pc' := 202) dX12_clashes_199 rfl fl_X12_155 ?_
                      refine go_topq (y := σ.1 21) (w11.2.1 21 (by decide)) ?_
                      have g12 := ixi_21 ix
                      refine gz_icmp_ge (tgt := 288) (pc' := 205) dX12_clashes_202 rfl (by decide) (fun c13 => ?_) (fun c13 => ?_)
                      · refine go_goto (tgt := 59) dX12_clashes_288 (by decide) ?_
                        exact go_lv (lv' := [(0, .ref (L.2.1 13)), (1, .int kk), (2, .int x2_11)]) rfl (ih5 _ (by rw [← hm_5]; exact CL_dec gz c63 hc_11) σ11 x2_11 w11 (fun j hj => by have z1 := hc_11.2.2.1 9999 (fun j hj => (h9z j (by omega)).1) j hj; have z2 := hc_11.2.2.2 0 (fun j hj => (h9z j (by omega)).2) j hj; have z3 := hc_11.2.1 j hj; omega) hm2_11 (fun z => by have h0 := hz_11 z; exact ⟨fun j hj => OKL_e (h0.2.2.1 j hj) h0.1 h0.2.1, fun k hk => OKB_e (h0.2.2.2 k (by omega)) h0.1 h0.2.1⟩) rfl)
                      refine go_iload_n (i := 1) (pc' := 206) dX12_clashes_205 rfl rfl rfl ?_
                      refine go_iload_n (i := 2) (pc' := 207) dX12_clashes_206 rfl rfl rfl ?_
                      refine go_ishr (pc' := 208) dX12_clashes_207 rfl ?_
                      refine go_iconst (v := 1) (pc' := 209) dX12_clashes_208 rfl (by decide) ?_
                      refine go_iand (pc' := 210) dX12_clashes_209 rfl ?_
                      refine gz_if_ne (tgt := 216) (pc' := 213) dX12_clashes_210 rfl (by decide) (fun c14 => ?_) (fun c14 => ?_)
                      · have ck := cnat (x := x2_11) (by omega)
                        have m1 := im.2 (x2_11).toNatClampNeg (by omega)
                        have ga := ixa_111 ix (x2_11).toNatClampNeg (by omega)
                        have gb := ixa_112 ix (x2_11).toNatClampNeg (by omega)
                        have ca := cnat (x := (σ.2 111 (x2_11).toNatClampNeg)) (by omega)
                        have cb := cnat (x := (σ.2 112 (x2_11).toNatClampNeg)) (by omega)
                        have bE1 := hc_11.2.2.1 9999 (fun j hj => (h9z j (by omega)).1) (σ.2 111 (x2_11).toNatClampNeg).toNatClampNeg (by omega)
                        have bE2 := hc_11.2.2.2 (0) (fun j hj => (h9z j (by omega)).2) (σ.2 111 (x2_11).toNatClampNeg).toNatClampNeg (by omega)
                        have bE3 := hc_11.2.1 (σ.2 111 (x2_11).toNatClampNeg).toNatClampNeg (by omega)
                        have e7 : σ11.2 107 = σ.2 107 := w11.2.2 107 (by decide)
                        have g7a := ixa_107 ix (σ.2 111 (x2_11).toNatClampNeg).toNatClampNeg (by omega)
                        have g7b := ixa_107 ix (σ.2 112 (x2_11).toNatClampNeg).toNatClampNeg (by omega)
                        have hm := hm2_11
                        have hkp : kpF kk (x2_11).toNatClampNeg := by unfold kpF; rw [of_nat (by omega)]; exact c14
                        refine go_aload_n (i := 0) (pc' := 217) dX12_clashes_216 rfl rfl rfl ?_
                        refine go_aload_n (i := 0) (pc' := 218) dX12_clashes_217 rfl rfl rfl ?_
                        refine gf_13_boundB (pc' := 221) dX12_clashes_218 rfl fl_X12_59 ?_
                        refine go_iload_n (i := 2) (pc' := 222) dX12_clashes_221 rfl rfl rfl ?_
                        refine go_iald (pc' := 223) dX12_clashes_222 rfl (by decide) (by decide) rfl (vin_of (n := 20) (by omega) (by omega)) ?_
                        refine go_topq (y := (σ.2 112 (x2_11).toNatClampNeg)) (congrFun (w11.2.2 112 (by decide)) _) ?_
                        have g15 := ixa_112 ix (x2_11).toNatClampNeg (vinlt (vin_of (n := 20) (by omega) (by omega)))
                        refine go_iconst (v := 0) (pc' := 224) dX12_clashes_223 rfl (by decide) ?_
                        refine go_aload_n (i := 0) (pc' := 225) dX12_clashes_224 rfl rfl rfl ?_
                        refine gf_13_low (pc' := 228) dX12_clashes_225 rfl fl_X12_83 ?_
                        refine go_aload_n (i := 0) (pc' := 229) dX12_clashes_228 rfl rfl rfl ?_
                        refine gf_13_boundA (pc' := 232) dX12_clashes_229 rfl fl_X12_56 ?_
                        refine go_iload_n (i := 2) (pc' := 233) dX12_clashes_232 rfl rfl rfl ?_
                        refine go_iald (pc' := 234) dX12_clashes_233 rfl (by decide) (by decide) rfl (vin_of (n := 20) (by omega) (by omega)) ?_
                        refine go_topq (y := (σ.2 111 (x2_11).toNatClampNeg)) (congrFun (w11.2.2 111 (by decide)) _) ?_
                        have g16 := ixa_111 ix (x2_11).toNatClampNeg (vinlt (vin_of (n := 20) (by omega) (by omega)))
                        refine go_iald (pc' := 235) dX12_clashes_234 rfl (by decide) (by decide) rfl (vin_of (n := 12) (by omega) (by omega)) ?_
                        refine go_rngA (ixa_120 w11.1) (vinlt (vin_of (n := 12) (by omega) (by omega))) (fun g17 => ?_)
                        refine go_aload_n (i := 0) (pc' := 236) dX12_clashes_235 rfl rfl rfl ?_
                        refine gf_13_boundBy (pc' := 239) dX12_clashes_236 rfl fl_X12_62 ?_
                        refine go_iload_n (i := 2) (pc' := 240) dX12_clashes_239 rfl rfl rfl ?_
                        refine go_iald (pc' := 241) dX12_clashes_240 rfl (by decide) (by decide) rfl (vin_of (n := 20) (by omega) (by omega)) ?_
                        refine go_topq (y := (σ.2 113 (x2_11).toNatClampNeg)) (congrFun (w11.2.2 113 (by decide)) _) ?_
                        have g18 := ixa_113 ix (x2_11).toNatClampNeg (vinlt (vin_of (n := 20) (by omega) (by omega)))
                        refine gz_iadd (pc' := 242) dX12_clashes_241 rfl (by omega) (fun v19 h19 e19 => ?_)
                        refine gz_max (pc' := 245) dX12_clashes_242 rfl ml_X12_175 (Nat.le_of_ble_eq_true rfl) (Nat.le_of_ble_eq_true rfl) (fun v20 h20 e20 => ?_)
                        refine go_cvv (pc' := 248) lk_X12_168 (f_X12_raise _ _ _ _ _ (by omega) (by omega) w11.1) rfl rfl (Nat.le_of_ble_eq_true rfl) (by decide) rfl rfl rfl ⟨Nat.le_of_ble_eq_true rfl, Nat.le_of_ble_eq_true rfl⟩ ⟨rfl, rfl⟩ dX12_clashes_245 rfl (fun σ21 h21 => ?_)
                        have w21 := WMl_trans w11 ((fun z => PR_WMl w11.1 (by omega) (by omega) (PR_of z)) h21)
                        have pe245 := h21
                        have hm := MB_raise hm pe245 (by assumption) (by omega) (fun x hx => by have f := hx.2 (x2_11).toNatClampNeg (by omega) hkp; have f2 := (hx.1 (σ.2 112 (x2_11).toNatClampNeg).toNatClampNeg (by omega)).1; have g5 := ixa_105 ix (σ.2 112 (x2_11).toNatClampNeg).toNatClampNeg (by omega); have b := ((hm (σ.2 111 (x2_11).toNatClampNeg).toNatClampNeg (by omega)).2.2 x hx).1; unfold lowM at b; omega) (by omega)
                        have e7 : σ21.2 107 = σ.2 107 := w21.2.2 107 (by decide)
                        have hcE := CL_raise hc_11 (PR_of h21) w21.1 (by omega) (by omega) (σ.2 111 (x2_11).toNatClampNeg).toNatClampNeg (by omega) (by omega) (e := 500) (by omega) (by omega) (d2 := 288 + 1012 * (x2_11).toInt + 506) (by omega)
                        have bF1 := hcE.2.2.1 9999 (fun j hj => (h9z j (by omega)).1) (σ.2 112 (x2_11).toNatClampNeg).toNatClampNeg (by omega)
                        have bF2 := hcE.2.2.2 (0) (fun j hj => (h9z j (by omega)).2) (σ.2 112 (x2_11).toNatClampNeg).toNatClampNeg (by omega)
                        have bF3 := hcE.2.1 (σ.2 112 (x2_11).toNatClampNeg).toNatClampNeg (by omega)
                        refine go_aload_n (i := 0) (pc' := 249) dX12_clashes_248 rfl rfl rfl ?_
                        refine go_aload_n (i := 0) (pc' := 250) dX12_clashes_249 rfl rfl rfl ?_
                        refine gf_13_boundA (pc' := 253) dX12_clashes_250 rfl fl_X12_56 ?_
                        refine go_iload_n (i := 2) (pc' := 254) dX12_clashes_253 rfl rfl rfl ?_
                        refine go_iald (pc' := 255) dX12_clashes_254 rfl (by decide) (by decide) rfl (vin_of (n := 20) (by omega) (by omega)) ?_
                        refine go_topq (y := (σ.2 111 (x2_11).toNatClampNeg)) (congrFun (w21.2.2 111 (by decide)) _) ?_
                        have g22 := ixa_111 ix (x2_11).toNatClampNeg (vinlt (vin_of (n := 20) (by omega) (by omega)))
                        refine go_sipush (v := 9999) (pc' := 258) dX12_clashes_255 rfl (by decide) ?_
                        refine go_aload_n (i := 0) (pc' := 259) dX12_clashes_258 rfl rfl rfl ?_
                        refine gf_13_high (pc' := 262) dX12_clashes_259 rfl fl_X12_86 ?_
                        refine go_aload_n (i := 0) (pc' := 263) dX12_clashes_262 rfl rfl rfl ?_
                        refine gf_13_boundB (pc' := 266) dX12_clashes_263 rfl fl_X12_59 ?_
                        refine go_iload_n (i := 2) (pc' := 267) dX12_clashes_266 rfl rfl rfl ?_
                        refine go_iald (pc' := 268) dX12_clashes_267 rfl (by decide) (by decide) rfl (vin_of (n := 20) (by omega) (by omega)) ?_
                        refine go_topq (y := (σ.2 112 (x2_11).toNatClampNeg)) (congrFun (w21.2.2 112 (by decide)) _) ?_
                        have g23 := ixa_112 ix (x2_11).toNatClampNeg (vinlt (vin_of (n := 20) (by omega) (by omega)))
                        refine go_iald (pc' := 269) dX12_clashes_268 rfl (by decide) (by decide) rfl (vin_of (n := 12) (by omega) (by omega)) ?_
                        refine go_rngA (ixa_121 w21.1) (vinlt (vin_of (n := 12) (by omega) (by omega))) (fun g24 => ?_)
                        refine go_aload_n (i := 0) (pc' := 270) dX12_clashes_269 rfl rfl rfl ?_
                        refine gf_13_boundBy (pc' := 273) dX12_clashes_270 rfl fl_X12_62 ?_
                        refine go_iload_n (i := 2) (pc' := 274) dX12_clashes_273 rfl rfl rfl ?_
                        refine go_iald (pc' := 275) dX12_clashes_274 rfl (by decide) (by decide) rfl (vin_of (n := 20) (by omega) (by omega)) ?_
                        refine go_topq (y := (σ.2 113 (x2_11).toNatClampNeg)) (congrFun (w21.2.2 113 (by decide)) _) ?_
                        have g25 := ixa_113 ix (x2_11).toNatClampNeg (vinlt (vin_of (n := 20) (by omega) (by omega)))
                        refine gz_isub (pc' := 276) dX12_clashes_275 rfl (by omega) (fun v26 h26 e26 => ?_)
                        refine gz_min (pc' := 279) dX12_clashes_276 rfl ml_X12_178 (Nat.le_of_ble_eq_true rfl) (Nat.le_of_ble_eq_true rfl) (fun v27 h27 e27 => ?_)
                        have qmin : (v27).toInt ≤ (σ21.2 121 (σ.2 112 (x2_11).toNatClampNeg).toNatClampNeg).toInt - (σ.2 113 (x2_11).toNatClampNeg).toInt := by omega
                        refine go_cvv (pc' := 282) lk_X12_172 (f_X12_sink _ _ _ _ _ (by omega) (by omega) w21.1) rfl rfl (Nat.le_of_ble_eq_true rfl) (by decide) rfl rfl rfl ⟨Nat.le_of_ble_eq_true rfl, Nat.le_of_ble_eq_true rfl⟩ ⟨rfl, rfl⟩ dX12_clashes_279 rfl (fun σ28 h28 => ?_)
                        have w28 := WMl_trans w21 ((fun z => PS_WMl w21.1 (by omega) (by omega) (PS_of z)) h28)
                        have pe279 := h28
                        have hm := MB_sink hm pe279 (by assumption) (by omega) (fun x hx => by have f := hx.2 (x2_11).toNatClampNeg (by omega) hkp; have f2 := (hx.1 (σ.2 111 (x2_11).toNatClampNeg).toNatClampNeg (by omega)).2.1; have g6 := ixa_106 ix (σ.2 111 (x2_11).toNatClampNeg).toNatClampNeg (by omega); have b := ((hm (σ.2 112 (x2_11).toNatClampNeg).toNatClampNeg (by omega)).2.2 x hx).2; unfold higM at b; omega) (by omega)
                        have e7 : σ28.2 107 = σ.2 107 := w28.2.2 107 (by decide)
                        have hcF := CL_sink hcE (PS_of h28) w28.1 (by omega) (by omega) (σ.2 112 (x2_11).toNatClampNeg).toNatClampNeg (by omega) (e := 500) (by omega) (by omega) (d2 := 288 + 1012 * (x2_11).toInt + 1012) (by omega)
                        refine gz_iinc (c := 1) (pc' := 285) dX12_clashes_282 rfl rfl (by decide) (by decide) (by decide) (by omega) (fun v29 h29 e29 => ?_)
                        refine go_goto (tgt := 197) dX12_clashes_285 (by decide) ?_
                        exact go_lv (lv' := [(0, .ref (L.2.1 13)), (1, .int kk), (2, .int v29)]) rfl (ih11 _ (by omega) σ28 v29 w28 (by omega) (by first | exact CL_mono hcF (by omega) | exact CL_mono hc_11 (by omega)) (by first | exact hm | exact hm2_11) (by first
                              | exact (fun z => by
                                  have q := OKB_new pe245 pe279 z
                                  have z2 := z
                                  rw [q.1] at z2
                                  have h0 := hz_11 z2
                                  have i1 := q.2.2.1
                                  have i2 := q.2.2.2
                                  rw [q.2.1] at qmin
                                  rw [q.1]
                                  refine ⟨h0.1, h0.2.1, h0.2.2.1, all_step h0.2.2.2 (by omega) (by omega) (fun _ => ?_)⟩
                                  unfold lowM higM
                                  rw [← h0.1, ← h0.2.1]
                                  omega)
                              | exact (fun z => by
                                  have h0 := hz_11 z
                                  exact ⟨h0.1, h0.2.1, h0.2.2.1, all_step h0.2.2.2 (by omega) (by omega) (fun q => absurd q hkn)⟩)) rfl)
                      have hkn : ¬ kpF kk (x2_11).toNatClampNeg := by unfold kpF; rw [of_nat (by omega)]; exact fun q => q c14
                      refine go_goto (tgt := 282) dX12_clashes_213 (by decide) ?_
                      refine gz_iinc (c := 1) (pc' := 285) dX12_clashes_282 rfl rfl (by decide) (by decide) (by decide) (by omega) (fun v30 h30 e30 => ?_)
                      refine go_goto (tgt := 197) dX12_clashes_285 (by decide) ?_
                      exact go_lv (lv' := [(0, .ref (L.2.1 13)), (1, .int kk), (2, .int v30)]) rfl (ih11 _ (by omega) σ11 v30 w11 (by omega) (by first | exact CL_mono hcF (by omega) | exact CL_mono hc_11 (by omega)) (by first | exact hm | exact hm2_11) (by first
                            | exact (fun z => by
                                have q := OKB_new pe245 pe279 z
                                have z2 := z
                                rw [q.1] at z2
                                have h0 := hz_11 z2
                                have i1 := q.2.2.1
                                have i2 := q.2.2.2
                                rw [q.2.1] at qmin
                                rw [q.1]
                                refine ⟨h0.1, h0.2.1, h0.2.2.1, all_step h0.2.2.2 (by omega) (by omega) (fun _ => ?_)⟩
                                unfold lowM higM
                                rw [← h0.1, ← h0.2.1]
                                omega)
                            | exact (fun z => by
                                have h0 := hz_11 z
                                exact ⟨h0.1, h0.2.1, h0.2.2.1, all_step h0.2.2.2 (by omega) (by omega) (fun q => absurd q hkn)⟩)) rfl)
                  exact go_lv (lv' := [(0, .ref (L.2.1 13)), (1, .int kk), (2, .int (0 : Int32))]) rfl (loop197_11 _ σ8 (0 : Int32) w8 (by omega) (CL_mono hcz (by omega)) hN_8 (fun z => by have h0 := hz_8 z; exact ⟨h0.1, h0.2.1, fun j hj => h0.2.2 j (by omega), fun k hk => by exfalso; omega⟩) rfl)
                refine go_aload_n (i := 0) (pc' := 82) dX12_clashes_81 rfl rfl rfl ?_
                refine gf_13_low (pc' := 85) dX12_clashes_82 rfl fl_X12_83 ?_
                refine go_iload_n (i := 2) (pc' := 86) dX12_clashes_85 rfl rfl rfl ?_
                refine go_iald (pc' := 87) dX12_clashes_86 rfl (by decide) (by decide) rfl (vin_of (n := 12) (by omega) (by omega)) ?_
                refine go_rngA (ixa_120 w8.1) (vinlt (vin_of (n := 12) (by omega) (by omega))) (fun g31 => ?_)
                refine go_aload_n (i := 0) (pc' := 88) dX12_clashes_87 rfl rfl rfl ?_
                refine gf_13_most (pc' := 91) dX12_clashes_88 rfl fl_X12_41 ?_
                refine go_iload_n (i := 2) (pc' := 92) dX12_clashes_91 rfl rfl rfl ?_
                refine go_iald (pc' := 93) dX12_clashes_92 rfl (by decide) (by decide) rfl (vin_of (n := 12) (by omega) (by omega)) ?_
                refine go_topq (y := (σ.2 106 (x2_8).toNatClampNeg)) (congrFun (w8.2.2 106 (by decide)) _) ?_
                have g32 := ixa_106 ix (x2_8).toNatClampNeg (vinlt (vin_of (n := 12) (by omega) (by omega)))
                refine gz_icmp_gt (tgt := 111) (pc' := 96) dX12_clashes_93 rfl (by decide) (fun c33 => ?_) (fun c33 => ?_)
                · refine go_iconst (v := 1) (pc' := 112) dX12_clashes_111 rfl (by decide) ?_
                  exact go_zret dX12_clashes_112 rfl rfl (⟨w8, Or.inl ⟨rfl, fun x hx => by have c2n := cnat (x := x2_8) (by omega); have b := (hN_8 (x2_8).toNatClampNeg (by omega)).2.2 x hx; have f := hx.1 (x2_8).toNatClampNeg (by omega); unfold lowM higM at b; omega⟩⟩)
                refine go_aload_n (i := 0) (pc' := 97) dX12_clashes_96 rfl rfl rfl ?_
                refine gf_13_high (pc' := 100) dX12_clashes_97 rfl fl_X12_86 ?_
                refine go_iload_n (i := 2) (pc' := 101) dX12_clashes_100 rfl rfl rfl ?_
                refine go_iald (pc' := 102) dX12_clashes_101 rfl (by decide) (by decide) rfl (vin_of (n := 12) (by omega) (by omega)) ?_
                refine go_rngA (ixa_121 w8.1) (vinlt (vin_of (n := 12) (by omega) (by omega))) (fun g34 => ?_)
                refine go_aload_n (i := 0) (pc' := 103) dX12_clashes_102 rfl rfl rfl ?_
                refine gf_13_least (pc' := 106) dX12_clashes_103 rfl fl_X12_38 ?_
                refine go_iload_n (i := 2) (pc' := 107) dX12_clashes_106 rfl rfl rfl ?_
                refine go_iald (pc' := 108) dX12_clashes_107 rfl (by decide) (by decide) rfl (vin_of (n := 12) (by omega) (by omega)) ?_
                refine go_topq (y := (σ.2 105 (x2_8).toNatClampNeg)) (congrFun (w8.2.2 105 (by decide)) _) ?_
                have g35 := ixa_105 ix (x2_8).toNatClampNeg (vinlt (vin_of (n := 12) (by omega) (by omega)))
                refine gz_icmp_ge (tgt := 113) (pc' := 111) dX12_clashes_108 rfl (by decide) (fun c36 => ?_) (fun c36 => ?_)
                · have h9l : (σ7.2 120 (x2_8).toNatClampNeg).toInt ≤ 9999 ∧ 0 ≤ (σ7.2 121 (x2_8).toNatClampNeg).toInt := by
                    have z1 := hc_8.1.1 (x2_8).toNatClampNeg
                    have z2 := hc_8.1.2.1 (x2_8).toNatClampNeg
                    omega
                  have ok1 : (σ8.2 120 (x2_8).toNatClampNeg).toInt ≤ (σ.2 106 (x2_8).toNatClampNeg).toInt ∧ (σ.2 105 (x2_8).toNatClampNeg).toInt ≤ (σ8.2 121 (x2_8).toNatClampNeg).toInt := by omega
                  have hm := hN_8
                  refine go_aload_n (i := 0) (pc' := 114) dX12_clashes_113 rfl rfl rfl ?_
                  refine gf_13_is (pc' := 117) dX12_clashes_114 rfl fl_X12_47 ?_
                  refine go_iload_n (i := 2) (pc' := 118) dX12_clashes_117 rfl rfl rfl ?_
                  refine go_iald (pc' := 119) dX12_clashes_118 rfl (by decide) (by decide) rfl (vin_of (n := 12) (by omega) (by omega)) ?_
                  refine go_topq (y := (σ.2 108 (x2_8).toNatClampNeg)) (congrFun (w8.2.2 108 (by decide)) _) ?_
                  have g37 := ixa_108 ix (x2_8).toNatClampNeg (vinlt (vin_of (n := 12) (by omega) (by omega)))
                  refine gz_if_ge (tgt := 125) (pc' := 122) dX12_clashes_119 rfl (by decide) (fun c38 => ?_) (fun c38 => ?_)
                  · have cl := cnat (x := x2_8) (by omega)
                    have m0 := im.1 (x2_8).toNatClampNeg (by omega)
                    have cm := cnat (x := (σ.2 108 (x2_8).toNatClampNeg)) (by omega)
                    have bA1 := hc_8.2.2.1 31000 (fun j hj => (hB0 j hj).1.1) (σ.2 108 (x2_8).toNatClampNeg).toNatClampNeg (by omega)
                    have bA2 := hc_8.2.2.2 (-31000) (fun j hj => (hB0 j hj).1.2) (σ.2 108 (x2_8).toNatClampNeg).toNatClampNeg (by omega)
                    have bA3 := hc_8.2.1 (σ.2 108 (x2_8).toNatClampNeg).toNatClampNeg (by omega)
                    have e7 : σ8.2 107 = σ.2 107 := w8.2.2 107 (by decide)
                    have g7l := ixa_107 ix (x2_8).toNatClampNeg (by omega)
                    have g7m := ixa_107 ix (σ.2 108 (x2_8).toNatClampNeg).toNatClampNeg (by omega)
                    refine go_aload_n (i := 0) (pc' := 126) dX12_clashes_125 rfl rfl rfl ?_
                    refine go_iload_n (i := 2) (pc' := 127) dX12_clashes_126 rfl rfl rfl ?_
                    refine go_aload_n (i := 0) (pc' := 128) dX12_clashes_127 rfl rfl rfl ?_
                    refine gf_13_low (pc' := 131) dX12_clashes_128 rfl fl_X12_83 ?_
                    refine go_aload_n (i := 0) (pc' := 132) dX12_clashes_131 rfl rfl rfl ?_
                    refine gf_13_is (pc' := 135) dX12_clashes_132 rfl fl_X12_47 ?_
                    refine go_iload_n (i := 2) (pc' := 136) dX12_clashes_135 rfl rfl rfl ?_
                    refine go_iald (pc' := 137) dX12_clashes_136 rfl (by decide) (by decide) rfl (vin_of (n := 12) (by omega) (by omega)) ?_
                    refine go_topq (y := (σ.2 108 (x2_8).toNatClampNeg)) (congrFun (w8.2.2 108 (by decide)) _) ?_
                    have g39 := ixa_108 ix (x2_8).toNatClampNeg (vinlt (vin_of (n := 12) (by omega) (by omega)))
                    refine go_iald (pc' := 138) dX12_clashes_137 rfl (by decide) (by decide) rfl (vin_of (n := 12) (by omega) (by omega)) ?_
                    refine go_rngA (ixa_120 w8.1) (vinlt (vin_of (n := 12) (by omega) (by omega))) (fun g40 => ?_)
                    refine go_cvv (pc' := 141) lk_X12_168 (f_X12_raise _ _ _ _ _ (by omega) (by omega) w8.1) rfl rfl (Nat.le_of_ble_eq_true rfl) (by decide) rfl rfl rfl ⟨Nat.le_of_ble_eq_true rfl, Nat.le_of_ble_eq_true rfl⟩ ⟨rfl, rfl⟩ dX12_clashes_138 rfl (fun σ41 h41 => ?_)
                    have w41 := WMl_trans w8 ((fun z => PR_WMl w8.1 (by omega) (by omega) (PR_of z)) h41)
                    have pe138 := h41
                    have hm := MB_raise hm pe138 (by assumption) (by omega) (fun x hx => by have f := (hx.1 (x2_8).toNatClampNeg (by omega)).2.2.2 (by omega); have b := ((hm (σ.2 108 (x2_8).toNatClampNeg).toNatClampNeg (by omega)).2.2 x hx).1; unfold lowM at b; omega) (by omega)
                    have e7 : σ41.2 107 = σ.2 107 := w41.2.2 107 (by decide)
                    have hcA := CL_raise hc_8 (PR_of h41) w41.1 (by omega) (by omega) (σ.2 108 (x2_8).toNatClampNeg).toNatClampNeg (by omega) (by omega) (e := 0) (by omega) (by omega) (d2 := 24 * (x2_8).toInt + 6) (by omega)
                    have bB1 := hcA.2.2.1 31000 (fun j hj => (hB0 j hj).1.1) (x2_8).toNatClampNeg (by omega)
                    have bB2 := hcA.2.2.2 (-31000) (fun j hj => (hB0 j hj).1.2) (x2_8).toNatClampNeg (by omega)
                    have bB3 := hcA.2.1 (x2_8).toNatClampNeg (by omega)
                    refine go_aload_n (i := 0) (pc' := 142) dX12_clashes_141 rfl rfl rfl ?_
                    refine go_aload_n (i := 0) (pc' := 143) dX12_clashes_142 rfl rfl rfl ?_
                    refine gf_13_is (pc' := 146) dX12_clashes_143 rfl fl_X12_47 ?_
                    refine go_iload_n (i := 2) (pc' := 147) dX12_clashes_146 rfl rfl rfl ?_
                    refine go_iald (pc' := 148) dX12_clashes_147 rfl (by decide) (by decide) rfl (vin_of (n := 12) (by omega) (by omega)) ?_
                    refine go_topq (y := (σ.2 108 (x2_8).toNatClampNeg)) (congrFun (w41.2.2 108 (by decide)) _) ?_
                    have g42 := ixa_108 ix (x2_8).toNatClampNeg (vinlt (vin_of (n := 12) (by omega) (by omega)))
                    refine go_aload_n (i := 0) (pc' := 149) dX12_clashes_148 rfl rfl rfl ?_
                    refine gf_13_low (pc' := 152) dX12_clashes_149 rfl fl_X12_83 ?_
                    refine go_iload_n (i := 2) (pc' := 153) dX12_clashes_152 rfl rfl rfl ?_
                    refine go_iald (pc' := 154) dX12_clashes_153 rfl (by decide) (by decide) rfl (vin_of (n := 12) (by omega) (by omega)) ?_
                    refine go_rngA (ixa_120 w41.1) (vinlt (vin_of (n := 12) (by omega) (by omega))) (fun g43 => ?_)
                    refine go_cvv (pc' := 157) lk_X12_168 (f_X12_raise _ _ _ _ _ (by omega) (by omega) w41.1) rfl rfl (Nat.le_of_ble_eq_true rfl) (by decide) rfl rfl rfl ⟨Nat.le_of_ble_eq_true rfl, Nat.le_of_ble_eq_true rfl⟩ ⟨rfl, rfl⟩ dX12_clashes_154 rfl (fun σ44 h44 => ?_)
                    have w44 := WMl_trans w41 ((fun z => PR_WMl w41.1 (by omega) (by omega) (PR_of z)) h44)
                    have pe154 := h44
                    have hm := MB_raise hm pe154 (by assumption) (by omega) (fun x hx => by have f := (hx.1 (x2_8).toNatClampNeg (by omega)).2.2.2 (by omega); have b := ((hm (x2_8).toNatClampNeg (by omega)).2.2 x hx).1; unfold lowM at b; omega) (by omega)
                    have e7 : σ44.2 107 = σ.2 107 := w44.2.2 107 (by decide)
                    have hcB := CL_raise hcA (PR_of h44) w44.1 (by omega) (by omega) (x2_8).toNatClampNeg (by omega) (by omega) (e := 0) (by omega) (by omega) (d2 := 24 * (x2_8).toInt + 12) (by omega)
                    have bC1 := hcB.2.2.1 31000 (fun j hj => (hB0 j hj).1.1) (σ.2 108 (x2_8).toNatClampNeg).toNatClampNeg (by omega)
                    have bC2 := hcB.2.2.2 (-31000) (fun j hj => (hB0 j hj).1.2) (σ.2 108 (x2_8).toNatClampNeg).toNatClampNeg (by omega)
                    have bC3 := hcB.2.1 (σ.2 108 (x2_8).toNatClampNeg).toNatClampNeg (by omega)
                    refine go_aload_n (i := 0) (pc' := 158) dX12_clashes_157 rfl rfl rfl ?_
                    refine go_iload_n (i := 2) (pc' := 159) dX12_clashes_158 rfl rfl rfl ?_
                    refine go_aload_n (i := 0) (pc' := 160) dX12_clashes_159 rfl rfl rfl ?_
                    refine gf_13_high (pc' := 163) dX12_clashes_160 rfl fl_X12_86 ?_
                    refine go_aload_n (i := 0) (pc' := 164) dX12_clashes_163 rfl rfl rfl ?_
                    refine gf_13_is (pc' := 167) dX12_clashes_164 rfl fl_X12_47 ?_
                    refine go_iload_n (i := 2) (pc' := 168) dX12_clashes_167 rfl rfl rfl ?_
                    refine go_iald (pc' := 169) dX12_clashes_168 rfl (by decide) (by decide) rfl (vin_of (n := 12) (by omega) (by omega)) ?_
                    refine go_topq (y := (σ.2 108 (x2_8).toNatClampNeg)) (congrFun (w44.2.2 108 (by decide)) _) ?_
                    have g45 := ixa_108 ix (x2_8).toNatClampNeg (vinlt (vin_of (n := 12) (by omega) (by omega)))
                    refine go_iald (pc' := 170) dX12_clashes_169 rfl (by decide) (by decide) rfl (vin_of (n := 12) (by omega) (by omega)) ?_
                    refine go_rngA (ixa_121 w44.1) (vinlt (vin_of (n := 12) (by omega) (by omega))) (fun g46 => ?_)
                    refine go_cvv (pc' := 173) lk_X12_172 (f_X12_sink _ _ _ _ _ (by omega) (by omega) w44.1) rfl rfl (Nat.le_of_ble_eq_true rfl) (by decide) rfl rfl rfl ⟨Nat.le_of_ble_eq_true rfl, Nat.le_of_ble_eq_true rfl⟩ ⟨rfl, rfl⟩ dX12_clashes_170 rfl (fun σ47 h47 => ?_)
                    have w47 := WMl_trans w44 ((fun z => PS_WMl w44.1 (by omega) (by omega) (PS_of z)) h47)
                    have pe170 := h47
                    have hm := MB_sink hm pe170 (by assumption) (by omega) (fun x hx => by have f := (hx.1 (x2_8).toNatClampNeg (by omega)).2.2.2 (by omega); have b := ((hm (σ.2 108 (x2_8).toNatClampNeg).toNatClampNeg (by omega)).2.2 x hx).2; unfold higM at b; omega) (by omega)
                    have e7 : σ47.2 107 = σ.2 107 := w47.2.2 107 (by decide)
                    have hcC := CL_sink hcB (PS_of h47) w47.1 (by omega) (by omega) (σ.2 108 (x2_8).toNatClampNeg).toNatClampNeg (by omega) (e := 0) (by omega) (by omega) (d2 := 24 * (x2_8).toInt + 18) (by omega)
                    have bD1 := hcC.2.2.1 31000 (fun j hj => (hB0 j hj).1.1) (x2_8).toNatClampNeg (by omega)
                    have bD2 := hcC.2.2.2 (-31000) (fun j hj => (hB0 j hj).1.2) (x2_8).toNatClampNeg (by omega)
                    have bD3 := hcC.2.1 (x2_8).toNatClampNeg (by omega)
                    refine go_aload_n (i := 0) (pc' := 174) dX12_clashes_173 rfl rfl rfl ?_
                    refine go_aload_n (i := 0) (pc' := 175) dX12_clashes_174 rfl rfl rfl ?_
                    refine gf_13_is (pc' := 178) dX12_clashes_175 rfl fl_X12_47 ?_
                    refine go_iload_n (i := 2) (pc' := 179) dX12_clashes_178 rfl rfl rfl ?_
                    refine go_iald (pc' := 180) dX12_clashes_179 rfl (by decide) (by decide) rfl (vin_of (n := 12) (by omega) (by omega)) ?_
                    refine go_topq (y := (σ.2 108 (x2_8).toNatClampNeg)) (congrFun (w47.2.2 108 (by decide)) _) ?_
                    have g48 := ixa_108 ix (x2_8).toNatClampNeg (vinlt (vin_of (n := 12) (by omega) (by omega)))
                    refine go_aload_n (i := 0) (pc' := 181) dX12_clashes_180 rfl rfl rfl ?_
                    refine gf_13_high (pc' := 184) dX12_clashes_181 rfl fl_X12_86 ?_
                    refine go_iload_n (i := 2) (pc' := 185) dX12_clashes_184 rfl rfl rfl ?_
                    refine go_iald (pc' := 186) dX12_clashes_185 rfl (by decide) (by decide) rfl (vin_of (n := 12) (by omega) (by omega)) ?_
                    refine go_rngA (ixa_121 w47.1) (vinlt (vin_of (n := 12) (by omega) (by omega))) (fun g49 => ?_)
                    refine go_cvv (pc' := 189) lk_X12_172 (f_X12_sink _ _ _ _ _ (by omega) (by omega) w47.1) rfl rfl (Nat.le_of_ble_eq_true rfl) (by decide) rfl rfl rfl ⟨Nat.le_of_ble_eq_true rfl, Nat.le_of_ble_eq_true rfl⟩ ⟨rfl, rfl⟩ dX12_clashes_186 rfl (fun σ50 h50 => ?_)
                    have w50 := WMl_trans w47 ((fun z => PS_WMl w47.1 (by omega) (by omega) (PS_of z)) h50)
                    have pe186 := h50
                    have hm := MB_sink hm pe186 (by assumption) (by omega) (fun x hx => by have f := (hx.1 (x2_8).toNatClampNeg (by omega)).2.2.2 (by omega); have b := ((hm (x2_8).toNatClampNeg (by omega)).2.2 x hx).2; unfold higM at b; omega) (by omega)
                    have e7 : σ50.2 107 = σ.2 107 := w50.2.2 107 (by decide)
                    have hcD := CL_sink hcC (PS_of h50) w50.1 (by omega) (by omega) (x2_8).toNatClampNeg (by omega) (e := 0) (by omega) (by omega) (d2 := 24 * (x2_8).toInt + 24) (by omega)
                    refine gz_iinc (c := 1) (pc' := 192) dX12_clashes_189 rfl rfl (by decide) (by decide) (by decide) (by omega) (fun v51 h51 e51 => ?_)
                    refine go_goto (tgt := 73) dX12_clashes_192 (by decide) ?_
                    exact go_lv (lv' := [(0, .ref (L.2.1 13)), (1, .int kk), (2, .int v51)]) rfl (ih8 _ (by omega) σ50 v51 w50 (by omega) (by first | exact CL_mono hcD (by omega) | exact CL_mono hc_8 (by omega)) (all_step h9_8 (by omega) (by omega) h9l) hm (by first
                          | exact (fun z => by
                              have q := OKL_new pe138 pe154 pe170 pe186 z
                              have z2 := z
                              rw [q.1] at z2
                              have h0 := hz_8 z2
                              rw [q.1]
                              refine ⟨h0.1, h0.2.1, all_step h0.2.2 (by omega) (by omega) ⟨?_, fun _ => ?_⟩⟩
                              · unfold lowM higM
                                rw [← h0.1, ← h0.2.1]
                                exact ok1
                              · unfold lowM higM
                                rw [← h0.1, ← h0.2.1]
                                exact q.2)
                          | exact (fun z => by
                              have h0 := hz_8 z
                              refine ⟨h0.1, h0.2.1, all_step h0.2.2 (by omega) (by omega) ⟨?_, fun q => by exfalso; omega⟩⟩
                              unfold lowM higM
                              rw [← h0.1, ← h0.2.1]
                              exact ok1)) rfl)
                  refine go_goto (tgt := 189) dX12_clashes_122 (by decide) ?_
                  refine gz_iinc (c := 1) (pc' := 192) dX12_clashes_189 rfl rfl (by decide) (by decide) (by decide) (by omega) (fun v52 h52 e52 => ?_)
                  refine go_goto (tgt := 73) dX12_clashes_192 (by decide) ?_
                  exact go_lv (lv' := [(0, .ref (L.2.1 13)), (1, .int kk), (2, .int v52)]) rfl (ih8 _ (by omega) σ8 v52 w8 (by omega) (by first | exact CL_mono hcD (by omega) | exact CL_mono hc_8 (by omega)) (all_step h9_8 (by omega) (by omega) h9l) hm (by first
                        | exact (fun z => by
                            have q := OKL_new pe138 pe154 pe170 pe186 z
                            have z2 := z
                            rw [q.1] at z2
                            have h0 := hz_8 z2
                            rw [q.1]
                            refine ⟨h0.1, h0.2.1, all_step h0.2.2 (by omega) (by omega) ⟨?_, fun _ => ?_⟩⟩
                            · unfold lowM higM
                              rw [← h0.1, ← h0.2.1]
                              exact ok1
                            · unfold lowM higM
                              rw [← h0.1, ← h0.2.1]
                              exact q.2)
                        | exact (fun z => by
                            have h0 := hz_8 z
                            refine ⟨h0.1, h0.2.1, all_step h0.2.2 (by omega) (by omega) ⟨?_, fun q => by exfalso; omega⟩⟩
                            unfold lowM higM
                            rw [← h0.1, ← h0.2.1]
                            exact ok1)) rfl)
                refine go_iconst (v := 1) (pc' := 112) dX12_clashes_111 rfl (by decide) ?_
                exact go_zret dX12_clashes_112 rfl rfl (⟨w8, Or.inl ⟨rfl, fun x hx => by have c2n := cnat (x := x2_8) (by omega); have b := (hN_8 (x2_8).toNatClampNeg (by omega)).2.2 x hx; have f := hx.1 (x2_8).toNatClampNeg (by omega); unfold lowM higM at b; omega⟩⟩)
            exact go_lv (lv' := [(0, .ref (L.2.1 13)), (1, .int kk), (2, .int (0 : Int32))]) rfl (loop73_8 _ σ7 (0 : Int32) w7 (by omega) (CL_mono (CL_rfl (fun j hj => (hB0 j hj).2)) (by omega)) (fun j hj => by exfalso; omega) hmz (fun _ => ⟨rfl, rfl, fun j hj => by exfalso; omega⟩) rfl)
        exact go_lv (lv' := [(0, .ref (L.2.1 13)), (1, .int kk), (2, .int x2_1)]) rfl (loop59_5 _ σ4 x2_1 w4 hB54 hm54 (fun z => by have e1 : σ4.1 24 = 1 := (by rw [gy]; exact setI_same _ _ _); rw [e1] at z; exact absurd z (by decide)) rfl)
      have e7 : σ1.2 107 = σ.2 107 := w1.2.2 107 (by decide)
      refine go_aload_n (i := 0) (pc' := 11) dX12_clashes_10 rfl rfl rfl ?_
      refine gf_13_low (pc' := 14) dX12_clashes_11 rfl fl_X12_83 ?_
      refine go_iload_n (i := 2) (pc' := 15) dX12_clashes_14 rfl rfl rfl ?_
      refine go_iconst (v := (-1)) (pc' := 16) dX12_clashes_15 rfl (by decide) ?_
      refine go_iast (pc' := 17) dX12_clashes_16 rfl (by decide) (by decide) rfl (vin_of (n := 12) (by omega) (by omega)) ?_
      refine go_gen (P := fun s => WMl σ s ∧ s = setA σ1 120 (x2_1).toNatClampNeg (-1 : Int32)) ⟨⟨ixt_120 w1.1 (by omega) (by omega), Ag_setA w1.2 (by decide)⟩, rfl⟩ (fun σ53 z53 => ?_)
      obtain ⟨w53, g53⟩ := z53
      refine go_aload_n (i := 0) (pc' := 18) dX12_clashes_17 rfl rfl rfl ?_
      refine gf_13_high (pc' := 21) dX12_clashes_18 rfl fl_X12_86 ?_
      refine go_iload_n (i := 2) (pc' := 22) dX12_clashes_21 rfl rfl rfl ?_
      refine go_sipush (v := 10000) (pc' := 25) dX12_clashes_22 rfl (by decide) ?_
      refine go_iast (pc' := 26) dX12_clashes_25 rfl (by decide) (by decide) rfl (vin_of (n := 12) (by omega) (by omega)) ?_
      refine go_gen (P := fun s => WMl σ s ∧ s = setA σ53 121 (x2_1).toNatClampNeg (10000 : Int32)) ⟨⟨ixt_121 w53.1 (by omega) (by omega), Ag_setA w53.2 (by decide)⟩, rfl⟩ (fun σ54 z54 => ?_)
      obtain ⟨w54, g54⟩ := z54
      refine go_aload_n (i := 0) (pc' := 27) dX12_clashes_26 rfl rfl rfl ?_
      refine go_iload_n (i := 2) (pc' := 28) dX12_clashes_27 rfl rfl rfl ?_
      refine go_aload_n (i := 0) (pc' := 29) dX12_clashes_28 rfl rfl rfl ?_
      refine gf_13_least (pc' := 32) dX12_clashes_29 rfl fl_X12_38 ?_
      refine go_iload_n (i := 2) (pc' := 33) dX12_clashes_32 rfl rfl rfl ?_
      refine go_iald (pc' := 34) dX12_clashes_33 rfl (by decide) (by decide) rfl (vin_of (n := 12) (by omega) (by omega)) ?_
      refine go_topq (y := (σ.2 105 (x2_1).toNatClampNeg)) (congrFun (w54.2.2 105 (by decide)) _) ?_
      have g55 := ixa_105 ix (x2_1).toNatClampNeg (vinlt (vin_of (n := 12) (by omega) (by omega)))
      refine go_cvv (pc' := 37) lk_X12_168 (f_X12_raise _ _ _ _ _ (by omega) (by omega) w54.1) rfl rfl (Nat.le_of_ble_eq_true rfl) (by decide) rfl rfl rfl ⟨Nat.le_of_ble_eq_true rfl, Nat.le_of_ble_eq_true rfl⟩ ⟨rfl, rfl⟩ dX12_clashes_34 rfl (fun σ56 h56 => ?_)
      have w56 := WMl_trans w54 ((fun z => PR_WMl w54.1 (by omega) (by omega) (PR_of z)) h56)
      have pe34 := h56
      have pr34 := (PR_of h56)
      refine go_aload_n (i := 0) (pc' := 38) dX12_clashes_37 rfl rfl rfl ?_
      refine go_iload_n (i := 2) (pc' := 39) dX12_clashes_38 rfl rfl rfl ?_
      refine go_aload_n (i := 0) (pc' := 40) dX12_clashes_39 rfl rfl rfl ?_
      refine gf_13_most (pc' := 43) dX12_clashes_40 rfl fl_X12_41 ?_
      refine go_iload_n (i := 2) (pc' := 44) dX12_clashes_43 rfl rfl rfl ?_
      refine go_iald (pc' := 45) dX12_clashes_44 rfl (by decide) (by decide) rfl (vin_of (n := 12) (by omega) (by omega)) ?_
      refine go_topq (y := (σ.2 106 (x2_1).toNatClampNeg)) (congrFun (w56.2.2 106 (by decide)) _) ?_
      have g57 := ixa_106 ix (x2_1).toNatClampNeg (vinlt (vin_of (n := 12) (by omega) (by omega)))
      refine go_cvv (pc' := 48) lk_X12_172 (f_X12_sink _ _ _ _ _ (by omega) (by omega) w56.1) rfl rfl (Nat.le_of_ble_eq_true rfl) (by decide) rfl rfl rfl ⟨Nat.le_of_ble_eq_true rfl, Nat.le_of_ble_eq_true rfl⟩ ⟨rfl, rfl⟩ dX12_clashes_45 rfl (fun σ58 h58 => ?_)
      have w58 := WMl_trans w56 ((fun z => PS_WMl w56.1 (by omega) (by omega) (PS_of z)) h58)
      have pe45 := h58
      have ps45 := (PS_of h58)
      refine gz_iinc (c := 1) (pc' := 51) dX12_clashes_48 rfl rfl (by decide) (by decide) (by decide) (by omega) (fun v59 h59 e59 => ?_)
      refine go_goto (tgt := 2) dX12_clashes_51 (by decide) ?_
      exact go_lv (lv' := [(0, .ref (L.2.1 13)), (1, .int kk), (2, .int v59)]) rfl (ih1 _ (by omega) σ58 v59 w58 (by omega) (CL_init hL_1 (by omega) (by assumption) (by assumption) pr34 ps45 (by omega) (by omega) (by omega)) (INI_step hj2_1 (by omega) (by assumption) (by assumption) pe34 pe45 (by omega) (by omega) rfl rfl e7 (by omega)) rfl)
  exact go_lv (lv' := [(0, .ref (L.2.1 13)), (1, .int kk), (2, .int (0 : Int32))]) rfl (loop2_1 _ σ (0 : Int32) w0 (by omega) (fun j hj => by exfalso; omega) (fun j hj => by exfalso; omega) rfl)
