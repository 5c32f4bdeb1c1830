/-- what the reference's methods want -/
def MIN (σ : ST) : Prop := IV σ ∧ IM σ ∧ TV σ
/-- class and reference hold the same (of what is compared) -/
def RR (σ : ST) : Prop := σ.1 2 = σ.1 19 ∧ σ.1 3 = σ.1 20 ∧ σ.1 4 = σ.1 21 ∧ σ.1 5 = σ.1 22 ∧ σ.1 6 = σ.1 23 ∧ σ.2 24 = σ.2 101 ∧ σ.2 25 = σ.2 102 ∧ σ.2 31 = σ.2 108 ∧ σ.2 41 = σ.2 116 ∧ σ.2 42 = σ.2 117 ∧ ∀ j : Nat, j < 4 → σ.2 55 j = σ.2 134 j
def INV (σ : ST) : Prop := IV σ ∧ IM σ ∧ TV σ ∧ RR σ
theorem MIN_KM {σ σ1 : ST} (im : IM σ) (tv : TV σ) (iv1 : IV σ1) (k : KM σ σ1) : MIN σ1 := ⟨iv1, by
  unfold IM
  rw [k.1 20 (by decide), k.1 21 (by decide), k.2 108 (by decide), k.2 111 (by decide), k.2 112 (by decide)]
  exact im, TV_e (k.2 109 (by decide)) (k.2 110 (by decide)) tv⟩
theorem KM_Ag {sI sA : Nat → Prop} {σ σ1 : ST} (a : Ag sI sA σ σ1) (hI : ∀ i : Nat, sI i → i < 19) (hA : ∀ k : Nat, sA k → k < 96) : KM σ σ1 := ⟨fun i hi => a.1 i (fun q => by have := hI i q; omega), fun k hk => a.2 k (fun q => by have := hA k q; omega)⟩
theorem inc1 {x : Int32} (h : -1 ≤ x.toInt ∧ x.toInt < 1000) : (x + 1).toInt = x.toInt + 1 := by
  have h1 : (1 : Int32).toInt = 1 := by decide
  rw [i32_add (by rw [h1]; omega) (by rw [h1]; omega), h1]
theorem dec1 {x : Int32} (h : -1 ≤ x.toInt ∧ x.toInt < 1000) : (x - 1).toInt = x.toInt - 1 := by
  have h1 : (1 : Int32).toInt = 1 := by decide
  rw [i32_sub (by rw [h1]; omega) (by rw [h1]; omega), h1]
theorem upd_v (f : Nat → Int32) (i : Nat) (v : Int32) (j : Nat) : (upd f i v j = v ∧ j = i) ∨ (upd f i v j = f j ∧ j ≠ i) := by
  by_cases e : j = i
  · exact Or.inl ⟨if_pos e, e⟩
  · exact Or.inr ⟨if_neg e, e⟩
theorem INV_Ag {sI sA : Nat → Prop} {σ σ2 : ST} (h : INV σ) (iv : IV σ2) (a : Ag sI sA σ σ2) (hI : ∀ i : Nat, i ∈ [2, 3, 4, 5, 6, 19, 20, 21, 22, 23] → ¬ sI i) (hA : ∀ k : Nat, k ∈ [24, 25, 31, 41, 42, 55, 101, 102, 108, 109, 110, 111, 112, 116, 117, 134] → ¬ sA k) : INV σ2 := by
  obtain ⟨-, im, tv, rr⟩ := h
  refine ⟨iv, ?_, TV_e (a.2 109 (hA 109 (by decide))) (a.2 110 (hA 110 (by decide))) tv, ?_⟩
  · unfold IM
    rw [a.1 20 (hI 20 (by decide)), a.1 21 (hI 21 (by decide)), a.2 108 (hA 108 (by decide)), a.2 111 (hA 111 (by decide)), a.2 112 (hA 112 (by decide))]
    exact im
  · unfold RR
    rw [a.1 2 (hI 2 (by decide)), a.1 3 (hI 3 (by decide)), a.1 4 (hI 4 (by decide)), a.1 5 (hI 5 (by decide)), a.1 6 (hI 6 (by decide)), a.1 19 (hI 19 (by decide)), a.1 20 (hI 20 (by decide)), a.1 21 (hI 21 (by decide)), a.1 22 (hI 22 (by decide)), a.1 23 (hI 23 (by decide)), a.2 24 (hA 24 (by decide)), a.2 25 (hA 25 (by decide)), a.2 31 (hA 31 (by decide)), a.2 41 (hA 41 (by decide)), a.2 42 (hA 42 (by decide)), a.2 55 (hA 55 (by decide)), a.2 101 (hA 101 (by decide)), a.2 102 (hA 102 (by decide)), a.2 108 (hA 108 (by decide)), a.2 116 (hA 116 (by decide)), a.2 117 (hA 117 (by decide)), a.2 134 (hA 134 (by decide))]
    exact rr
theorem INV_WX {σ σ2 : ST} (h : INV σ) (q : WX σ σ2) : INV σ2 := INV_Ag h q.1 q.2 (by decide) (by decide)
theorem INV_WM {σ σ2 : ST} (h : INV σ) (q : WM σ σ2) : INV σ2 := INV_Ag h q.1 q.2 (by decide) (by decide)
theorem INV_min {σ : ST} (h : INV σ) : MIN σ := ⟨h.1, h.2.1, h.2.2.1⟩
theorem IVA_post (b : Nat) {j : Nat} (h : j < 6) (hb : b = 80 ∨ b = 86 := by decide) : IVA.all (fun q => !(q.1 == (b + j))) = true := by
  rcases hb with rfl | rfl
  · exact (show ∀ m : Nat, m < 6 → IVA.all (fun q => !(q.1 == (80 + m))) = true by decide +kernel) j h
  · exact (show ∀ m : Nat, m < 6 → IVA.all (fun q => !(q.1 == (86 + m))) = true by decide +kernel) j h
theorem IM_e {σ σ2 : ST} (h1 : σ2.1 20 = σ.1 20) (h2 : σ2.1 21 = σ.1 21) (h3 : σ2.2 108 = σ.2 108) (h4 : σ2.2 111 = σ.2 111) (h5 : σ2.2 112 = σ.2 112) (im : IM σ) : IM σ2 := by
  unfold IM
  rw [h1, h2, h3, h4, h5]
  exact im
theorem upd_id {f : Nat → Int32} {i : Nat} {v : Int32} (h : f i = v) : upd f i v = f := by
  funext j
  rcases upd_v f i v j with ⟨e, e2⟩ | ⟨e, -⟩
  · rw [e, e2, h]
  · exact e
theorem IM_letter {σ σ2 : ST} (im : IM σ) (g : 0 ≤ (σ.1 20).toInt ∧ (σ.1 20).toInt ≤ 12) (h1 : σ2.1 20 = σ.1 20 + 1) (h2 : σ2.1 21 = σ.1 21) (h3 : σ2.2 108 = upd (σ.2 108) (σ.1 20).toNatClampNeg (-1)) (h4 : σ2.2 111 = σ.2 111) (h5 : σ2.2 112 = σ.2 112) : IM σ2 := by
  have p := inc1 (x := σ.1 20) (by omega)
  have cn := cnat g.1
  have nm1 : (-1 : Int32).toInt = -1 := by decide
  unfold IM
  rw [h1, h2, h3, h4, h5]
  refine ⟨fun j hj => ?_, fun k hk => ?_⟩
  · rcases upd_v (σ.2 108) (σ.1 20).toNatClampNeg (-1) j with ⟨e, -⟩ | ⟨e, e2⟩
    · rw [e]
      omega
    · rw [e]
      have := im.1 j (by omega)
      omega
  · have := im.2 k hk
    omega
theorem IM_108 {σ σ2 : ST} {i : Nat} {v : Int32} (im : IM σ) (hv : v.toInt < (σ.1 20).toInt) (h1 : σ2.1 20 = σ.1 20) (h2 : σ2.1 21 = σ.1 21) (h3 : σ2.2 108 = upd (σ.2 108) i v) (h4 : σ2.2 111 = σ.2 111) (h5 : σ2.2 112 = σ.2 112) : IM σ2 := by
  unfold IM
  rw [h1, h2, h3, h4, h5]
  refine ⟨fun j hj => ?_, im.2⟩
  rcases upd_v (σ.2 108) i v j with ⟨e, -⟩ | ⟨e, e2⟩
  · rw [e]
    exact hv
  · rw [e]
    exact im.1 j hj
theorem IM_bound {σ σ2 : ST} {a b : Int32} (im : IM σ) (g : 0 ≤ (σ.1 21).toInt ∧ (σ.1 21).toInt ≤ 20) (ha : a.toInt < (σ.1 20).toInt) (hb : b.toInt < (σ.1 20).toInt) (h1 : σ2.1 20 = σ.1 20) (h2 : σ2.1 21 = σ.1 21 + 1) (h3 : σ2.2 108 = σ.2 108) (h4 : σ2.2 111 = upd (σ.2 111) (σ.1 21).toNatClampNeg a) (h5 : σ2.2 112 = upd (σ.2 112) (σ.1 21).toNatClampNeg b) : IM σ2 := by
  have p := inc1 (x := σ.1 21) (by omega)
  have cn := cnat g.1
  unfold IM
  rw [h1, h2, h3, h4, h5]
  refine ⟨im.1, fun k hk => ?_⟩
  rcases upd_v (σ.2 111) (σ.1 21).toNatClampNeg a k with ⟨e, e1⟩ | ⟨e, e1⟩ <;> rcases upd_v (σ.2 112) (σ.1 21).toNatClampNeg b k with ⟨e2, e3⟩ | ⟨e2, e3⟩ <;> rw [e, e2]
  · exact ⟨ha, hb⟩
  · exact absurd e1 e3
  · exact absurd e3 e1
  · exact im.2 k (by omega)
theorem IM_loose {σ σ2 : ST} (im : IM σ) (g : 0 < (σ.1 21).toInt ∧ (σ.1 21).toInt ≤ 20) (h1 : σ2.1 20 = σ.1 20) (h2 : σ2.1 21 = σ.1 21 - 1) (h3 : σ2.2 108 = σ.2 108) (h4 : σ2.2 111 = σ.2 111) (h5 : σ2.2 112 = σ.2 112) : IM σ2 := by
  have p := dec1 (x := σ.1 21) (by omega)
  unfold IM
  rw [h1, h2, h3, h4, h5]
  exact ⟨im.1, fun k hk => im.2 k (by omega)⟩
theorem x_person {σ σ1 : ST} {n q r : Int32} (h : INV σ) (s : sX_person σ n q r σ1) : MIN σ1 := by
  obtain ⟨iv, im, tv, rr⟩ := h
  have n0 : (0 : Int32).toInt = 0 := by decide
  have nm1 : (-1 : Int32).toInt = -1 := by decide
  have n9999 : (9999 : Int32).toInt = 9999 := by decide
  have g2 := ixi_2 iv
  have g3 := ixi_3 iv
  have g4 := ixi_4 iv
  have g5 := ixi_5 iv
  have g6 := ixi_6 iv
  rcases s with ⟨c1, ⟨c2, y1, z1⟩ | ⟨c2, y1, z1⟩⟩ | ⟨c1, y1, z1⟩
  · subst z1
    exact ⟨iv, im, tv⟩
  · subst z1
    have p2 := inc1 (x := σ.1 2) (by omega)
    exact MIN_KM im tv (ixs_2 (v := σ.1 2 + 1) (ixt_n (v := 0) (ixt_n (v := 9999) (ixt_n (v := 0) (ixt_20 (v := q) (ixt_n (v := n) iv (by decide)) (by omega) (by omega)) (by decide)) (by decide)) (by decide)) (by omega) (by omega)) (KM_setI (KM_setA (KM_setA (KM_setA (KM_setA (KM_setA (KM_rfl σ) (by decide)) (by decide)) (by decide)) (by decide)) (by decide)) (by decide))
  · subst z1
    exact ⟨iv, im, tv⟩
set_option maxRecDepth 10000 in
set_option maxHeartbeats 1000000 in
theorem b_person {σ σ1 σ2 : ST} {n q r1 r2 : Int32} (h : INV σ) (s : sX_person σ n q r1 σ1) (m : sM_person σ1 n q r2 σ2) : INV σ2 ∧ r1 = r2 := by
  obtain ⟨iv, im, tv, rr⟩ := h
  have n0 : (0 : Int32).toInt = 0 := by decide
  have nm1 : (-1 : Int32).toInt = -1 := by decide
  have n9999 : (9999 : Int32).toInt = 9999 := by decide
  have g2 := ixi_2 iv
  have g3 := ixi_3 iv
  have g4 := ixi_4 iv
  have g5 := ixi_5 iv
  have g6 := ixi_6 iv
  obtain ⟨r2, r3, r4, r5, r6, r24, r25, r31, r41, r42, r55⟩ := id rr
  have i2 := congrArg Int32.toInt r2
  have i3 := congrArg Int32.toInt r3
  have i4 := congrArg Int32.toInt r4
  have i5 := congrArg Int32.toInt r5
  have i6 := congrArg Int32.toInt r6
  rcases s with ⟨c1, ⟨c2, y1, z1⟩ | ⟨c2, y1, z1⟩⟩ | ⟨c1, y1, z1⟩
  · have km : KM σ σ1 := by
      rw [z1]
      exact KM_rfl σ
    have k19 := congrArg Int32.toInt (km.1 19 (by decide))
    have k20 := congrArg Int32.toInt (km.1 20 (by decide))
    have k21 := congrArg Int32.toInt (km.1 21 (by decide))
    have k22 := congrArg Int32.toInt (km.1 22 (by decide))
    have k23 := congrArg Int32.toInt (km.1 23 (by decide))
    rcases m with ⟨d1, y2, z2⟩ | ⟨⟨d1, d2⟩, y2, z2⟩ | ⟨⟨d1, d2⟩, y2, z2⟩
    · exfalso
      omega
    · subst z1
      subst z2
      exact ⟨⟨iv, im, tv, rr⟩, (y1.trans y2.symm)⟩
    · exfalso
      omega
  · have km : KM σ σ1 := by
      rw [z1]
      exact (KM_setI (KM_setA (KM_setA (KM_setA (KM_setA (KM_setA (KM_rfl σ) (by decide)) (by decide)) (by decide)) (by decide)) (by decide)) (by decide))
    have k19 := congrArg Int32.toInt (km.1 19 (by decide))
    have k20 := congrArg Int32.toInt (km.1 20 (by decide))
    have k21 := congrArg Int32.toInt (km.1 21 (by decide))
    have k22 := congrArg Int32.toInt (km.1 22 (by decide))
    have k23 := congrArg Int32.toInt (km.1 23 (by decide))
    rcases m with ⟨d1, y2, z2⟩ | ⟨⟨d1, d2⟩, y2, z2⟩ | ⟨⟨d1, d2⟩, y2, z2⟩
    · exfalso
      omega
    · exfalso
      omega
    · subst z1
      subst z2
      have p2 := inc1 (x := σ.1 2) (by omega)
      have p19 := inc1 (x := σ.1 19) (by omega)
      exact ⟨⟨(ixs_19 (v := σ.1 19 + 1) (ixt_n (v := 9999) (ixt_n (v := 0) (ixt_97 (v := q) (ixt_n (v := n) (ixs_2 (v := σ.1 2 + 1) (ixt_n (v := 0) (ixt_n (v := 9999) (ixt_n (v := 0) (ixt_20 (v := q) (ixt_n (v := n) iv (by decide)) (by omega) (by omega)) (by decide)) (by decide)) (by decide)) (by omega) (by omega)) (by decide)) (by omega) (by omega)) (by decide)) (by decide)) (by omega) (by omega)), im, TV_e rfl rfl tv, (show σ.1 2 + 1 = σ.1 19 + 1 by rw [r2]), r3, r4, r5, r6, r24, r25, r31, r41, r42, r55⟩, (y1.trans (r2.trans y2.symm))⟩
  · have km : KM σ σ1 := by
      rw [z1]
      exact KM_rfl σ
    have k19 := congrArg Int32.toInt (km.1 19 (by decide))
    have k20 := congrArg Int32.toInt (km.1 20 (by decide))
    have k21 := congrArg Int32.toInt (km.1 21 (by decide))
    have k22 := congrArg Int32.toInt (km.1 22 (by decide))
    have k23 := congrArg Int32.toInt (km.1 23 (by decide))
    rcases m with ⟨d1, y2, z2⟩ | ⟨⟨d1, d2⟩, y2, z2⟩ | ⟨⟨d1, d2⟩, y2, z2⟩
    · subst z1
      subst z2
      exact ⟨⟨iv, im, tv, rr⟩, (y1.trans y2.symm)⟩
    · exfalso
      omega
    · exfalso
      omega
theorem x_lived {σ σ1 : ST} {p a b r : Int32} (h : INV σ) (s : sX_lived σ p a b r σ1) : MIN σ1 := by
  obtain ⟨iv, im, tv, rr⟩ := h
  have n0 : (0 : Int32).toInt = 0 := by decide
  have nm1 : (-1 : Int32).toInt = -1 := by decide
  have n9999 : (9999 : Int32).toInt = 9999 := by decide
  have g2 := ixi_2 iv
  have g3 := ixi_3 iv
  have g4 := ixi_4 iv
  have g5 := ixi_5 iv
  have g6 := ixi_6 iv
  rcases s with ⟨c1, y1, z1⟩ | ⟨c1, y1, z1⟩
  · subst z1
    exact MIN_KM im tv (ixt_n (v := b) (ixt_n (v := a) iv (by decide)) (by decide)) (KM_setA (KM_setA (KM_rfl σ) (by decide)) (by decide))
  · subst z1
    exact ⟨iv, im, tv⟩
set_option maxRecDepth 10000 in
set_option maxHeartbeats 1000000 in
theorem b_lived {σ σ1 σ2 : ST} {p a b r1 r2 : Int32} (h : INV σ) (s : sX_lived σ p a b r1 σ1) (m : sM_lived σ1 p a b r2 σ2) : INV σ2 := by
  obtain ⟨iv, im, tv, rr⟩ := h
  have n0 : (0 : Int32).toInt = 0 := by decide
  have nm1 : (-1 : Int32).toInt = -1 := by decide
  have n9999 : (9999 : Int32).toInt = 9999 := by decide
  have g2 := ixi_2 iv
  have g3 := ixi_3 iv
  have g4 := ixi_4 iv
  have g5 := ixi_5 iv
  have g6 := ixi_6 iv
  obtain ⟨r2, r3, r4, r5, r6, r24, r25, r31, r41, r42, r55⟩ := id rr
  have i2 := congrArg Int32.toInt r2
  have i3 := congrArg Int32.toInt r3
  have i4 := congrArg Int32.toInt r4
  have i5 := congrArg Int32.toInt r5
  have i6 := congrArg Int32.toInt r6
  rcases s with ⟨c1, y1, z1⟩ | ⟨c1, y1, z1⟩
  · have km : KM σ σ1 := by
      rw [z1]
      exact (KM_setA (KM_setA (KM_rfl σ) (by decide)) (by decide))
    have k19 := congrArg Int32.toInt (km.1 19 (by decide))
    have k20 := congrArg Int32.toInt (km.1 20 (by decide))
    have k21 := congrArg Int32.toInt (km.1 21 (by decide))
    have k22 := congrArg Int32.toInt (km.1 22 (by decide))
    have k23 := congrArg Int32.toInt (km.1 23 (by decide))
    rcases m with ⟨d1, y2, z2⟩ | ⟨d1, y2, z2⟩
    · subst z1
      subst z2
      exact ⟨(ixt_n (v := b) (ixt_n (v := a) (ixt_n (v := b) (ixt_n (v := a) iv (by decide)) (by decide)) (by decide)) (by decide)), im, TV_e rfl rfl tv, r2, r3, r4, r5, r6, r24, r25, r31, r41, r42, r55⟩
    · subst z1
      subst z2
      exact ⟨(ixt_n (v := b) (ixt_n (v := a) iv (by decide)) (by decide)), im, TV_e rfl rfl tv, r2, r3, r4, r5, r6, r24, r25, r31, r41, r42, r55⟩
  · have km : KM σ σ1 := by
      rw [z1]
      exact KM_rfl σ
    have k19 := congrArg Int32.toInt (km.1 19 (by decide))
    have k20 := congrArg Int32.toInt (km.1 20 (by decide))
    have k21 := congrArg Int32.toInt (km.1 21 (by decide))
    have k22 := congrArg Int32.toInt (km.1 22 (by decide))
    have k23 := congrArg Int32.toInt (km.1 23 (by decide))
    rcases m with ⟨d1, y2, z2⟩ | ⟨d1, y2, z2⟩
    · exfalso
      omega
    · subst z1
      subst z2
      exact ⟨iv, im, tv, rr⟩
theorem x_knows {σ σ1 : ST} {a b d r : Int32} (h : INV σ) (s : sX_knows σ a b d r σ1) : MIN σ1 := by
  obtain ⟨iv, im, tv, rr⟩ := h
  have n0 : (0 : Int32).toInt = 0 := by decide
  have nm1 : (-1 : Int32).toInt = -1 := by decide
  have n9999 : (9999 : Int32).toInt = 9999 := by decide
  have g2 := ixi_2 iv
  have g3 := ixi_3 iv
  have g4 := ixi_4 iv
  have g5 := ixi_5 iv
  have g6 := ixi_6 iv
  rcases s with ⟨c1, y1, z1⟩ | ⟨c1, y1, z1⟩
  · subst z1
    exact MIN_KM im tv (ixt_n (v := toldX (σ.2 23 (a).toNatClampNeg) b d) iv (by decide)) (KM_setA (KM_rfl σ) (by decide))
  · subst z1
    exact ⟨iv, im, tv⟩
set_option maxRecDepth 10000 in
set_option maxHeartbeats 1000000 in
theorem b_knows {σ σ1 σ2 : ST} {a b d r1 r2 : Int32} (hd : d = 0 ∨ d = 1) (h : INV σ) (s : sX_knows σ a b d r1 σ1) (m : sM_knows σ1 a b d r2 σ2) : INV σ2 := by
  obtain ⟨iv, im, tv, rr⟩ := h
  have n0 : (0 : Int32).toInt = 0 := by decide
  have nm1 : (-1 : Int32).toInt = -1 := by decide
  have n9999 : (9999 : Int32).toInt = 9999 := by decide
  have g2 := ixi_2 iv
  have g3 := ixi_3 iv
  have g4 := ixi_4 iv
  have g5 := ixi_5 iv
  have g6 := ixi_6 iv
  obtain ⟨r2, r3, r4, r5, r6, r24, r25, r31, r41, r42, r55⟩ := id rr
  have i2 := congrArg Int32.toInt r2
  have i3 := congrArg Int32.toInt r3
  have i4 := congrArg Int32.toInt r4
  have i5 := congrArg Int32.toInt r5
  have i6 := congrArg Int32.toInt r6
  rcases s with ⟨c1, y1, z1⟩ | ⟨c1, y1, z1⟩
  · have km : KM σ σ1 := by
      rw [z1]
      exact (KM_setA (KM_rfl σ) (by decide))
    have k19 := congrArg Int32.toInt (km.1 19 (by decide))
    have k20 := congrArg Int32.toInt (km.1 20 (by decide))
    have k21 := congrArg Int32.toInt (km.1 21 (by decide))
    have k22 := congrArg Int32.toInt (km.1 22 (by decide))
    have k23 := congrArg Int32.toInt (km.1 23 (by decide))
    rcases m with ⟨d1, y2, z2⟩ | ⟨d1, y2, z2⟩
    · exfalso
      omega
    · subst z1
      subst z2
      have d01 : 0 ≤ d.toInt ∧ d.toInt ≤ 1 := by rcases hd with rfl | rfl <;> decide
      exact ⟨(ixt_100 (v := d) (ixt_n (v := toldX (σ.2 23 (a).toNatClampNeg) b d) iv (by decide)) (by omega) (by omega)), im, TV_e rfl rfl tv, r2, r3, r4, r5, r6, r24, r25, r31, r41, r42, r55⟩
  · have km : KM σ σ1 := by
      rw [z1]
      exact KM_rfl σ
    have k19 := congrArg Int32.toInt (km.1 19 (by decide))
    have k20 := congrArg Int32.toInt (km.1 20 (by decide))
    have k21 := congrArg Int32.toInt (km.1 21 (by decide))
    have k22 := congrArg Int32.toInt (km.1 22 (by decide))
    have k23 := congrArg Int32.toInt (km.1 23 (by decide))
    rcases m with ⟨d1, y2, z2⟩ | ⟨d1, y2, z2⟩
    · subst z1
      subst z2
      exact ⟨iv, im, tv, rr⟩
    · exfalso
      omega
theorem x_letter {σ σ1 : ST} {k a b q r : Int32} (h : INV σ) (s : sX_letter σ k a b q r σ1) : MIN σ1 := by
  obtain ⟨iv, im, tv, rr⟩ := h
  have n0 : (0 : Int32).toInt = 0 := by decide
  have nm1 : (-1 : Int32).toInt = -1 := by decide
  have n9999 : (9999 : Int32).toInt = 9999 := by decide
  have g2 := ixi_2 iv
  have g3 := ixi_3 iv
  have g4 := ixi_4 iv
  have g5 := ixi_5 iv
  have g6 := ixi_6 iv
  rcases s with ⟨c1, ⟨c2, y1, z1⟩ | ⟨c2, y1, z1⟩⟩ | ⟨c1, y1, z1⟩
  · subst z1
    exact ⟨iv, im, tv⟩
  · subst z1
    have p3 := inc1 (x := σ.1 3) (by omega)
    exact MIN_KM im tv (ixs_3 (v := σ.1 3 + 1) (ixt_32 (v := 0) (ixt_31 (v := -1) (ixt_30 (v := -1) (ixt_29 (v := 9999) (ixt_28 (v := 0) (ixt_27 (v := q) (ixt_26 (v := b) (ixt_25 (v := a) (ixt_24 (v := k) iv (by omega) (by omega)) (by omega) (by omega)) (by omega) (by omega)) (by omega) (by omega)) (by omega) (by omega)) (by omega) (by omega)) (by omega) (by omega)) (by omega) (by omega)) (by omega) (by omega)) (by omega) (by omega)) (KM_setI (KM_setA (KM_setA (KM_setA (KM_setA (KM_setA (KM_setA (KM_setA (KM_setA (KM_setA (KM_rfl σ) (by decide)) (by decide)) (by decide)) (by decide)) (by decide)) (by decide)) (by decide)) (by decide)) (by decide)) (by decide))
  · subst z1
    exact ⟨iv, im, tv⟩
set_option maxRecDepth 10000 in
set_option maxHeartbeats 1000000 in
theorem b_letter {σ σ1 σ2 : ST} {k a b q r1 r2 : Int32} (h : INV σ) (s : sX_letter σ k a b q r1 σ1) (m : sM_letter σ1 k a b q r2 σ2) : INV σ2 ∧ r1 = r2 := by
  obtain ⟨iv, im, tv, rr⟩ := h
  have n0 : (0 : Int32).toInt = 0 := by decide
  have nm1 : (-1 : Int32).toInt = -1 := by decide
  have n9999 : (9999 : Int32).toInt = 9999 := by decide
  have g2 := ixi_2 iv
  have g3 := ixi_3 iv
  have g4 := ixi_4 iv
  have g5 := ixi_5 iv
  have g6 := ixi_6 iv
  obtain ⟨r2, r3, r4, r5, r6, r24, r25, r31, r41, r42, r55⟩ := id rr
  have i2 := congrArg Int32.toInt r2
  have i3 := congrArg Int32.toInt r3
  have i4 := congrArg Int32.toInt r4
  have i5 := congrArg Int32.toInt r5
  have i6 := congrArg Int32.toInt r6
  rcases s with ⟨c1, ⟨c2, y1, z1⟩ | ⟨c2, y1, z1⟩⟩ | ⟨c1, y1, z1⟩
  · have km : KM σ σ1 := by
      rw [z1]
      exact KM_rfl σ
    have k19 := congrArg Int32.toInt (km.1 19 (by decide))
    have k20 := congrArg Int32.toInt (km.1 20 (by decide))
    have k21 := congrArg Int32.toInt (km.1 21 (by decide))
    have k22 := congrArg Int32.toInt (km.1 22 (by decide))
    have k23 := congrArg Int32.toInt (km.1 23 (by decide))
    rcases m with ⟨d1, y2, z2⟩ | ⟨⟨d1, d2⟩, y2, z2⟩ | ⟨⟨d1, d2⟩, y2, z2⟩
    · exfalso
      omega
    · subst z1
      subst z2
      exact ⟨⟨iv, im, tv, rr⟩, (y1.trans y2.symm)⟩
    · exfalso
      omega
  · have km : KM σ σ1 := by
      rw [z1]
      exact (KM_setI (KM_setA (KM_setA (KM_setA (KM_setA (KM_setA (KM_setA (KM_setA (KM_setA (KM_setA (KM_rfl σ) (by decide)) (by decide)) (by decide)) (by decide)) (by decide)) (by decide)) (by decide)) (by decide)) (by decide)) (by decide))
    have k19 := congrArg Int32.toInt (km.1 19 (by decide))
    have k20 := congrArg Int32.toInt (km.1 20 (by decide))
    have k21 := congrArg Int32.toInt (km.1 21 (by decide))
    have k22 := congrArg Int32.toInt (km.1 22 (by decide))
    have k23 := congrArg Int32.toInt (km.1 23 (by decide))
    rcases m with ⟨d1, y2, z2⟩ | ⟨⟨d1, d2⟩, y2, z2⟩ | ⟨⟨d1, d2⟩, y2, z2⟩
    · exfalso
      omega
    · exfalso
      omega
    · subst z1
      subst z2
      have p3 := inc1 (x := σ.1 3) (by omega)
      have p20 := inc1 (x := σ.1 20) (by omega)
      exact ⟨⟨(ixs_20 (v := σ.1 20 + 1) (ixt_108 (v := -1) (ixt_107 (v := -1) (ixt_106 (v := 9999) (ixt_105 (v := 0) (ixt_104 (v := q) (ixt_103 (v := b) (ixt_102 (v := a) (ixt_101 (v := k) (ixs_3 (v := σ.1 3 + 1) (ixt_32 (v := 0) (ixt_31 (v := -1) (ixt_30 (v := -1) (ixt_29 (v := 9999) (ixt_28 (v := 0) (ixt_27 (v := q) (ixt_26 (v := b) (ixt_25 (v := a) (ixt_24 (v := k) iv (by omega) (by omega)) (by omega) (by omega)) (by omega) (by omega)) (by omega) (by omega)) (by omega) (by omega)) (by omega) (by omega)) (by omega) (by omega)) (by omega) (by omega)) (by omega) (by omega)) (by omega) (by omega)) (by omega) (by omega)) (by omega) (by omega)) (by omega) (by omega)) (by omega) (by omega)) (by omega) (by omega)) (by omega) (by omega)) (by omega) (by omega)) (by omega) (by omega)) (by omega) (by omega)), (IM_letter im (by omega) rfl rfl rfl rfl rfl), TV_e rfl rfl tv, r2, (show σ.1 3 + 1 = σ.1 20 + 1 by rw [r3]), r4, r5, r6, (show upd (σ.2 24) (σ.1 3).toNatClampNeg k = upd (σ.2 101) (σ.1 20).toNatClampNeg k by rw [r24, r3]), (show upd (σ.2 25) (σ.1 3).toNatClampNeg a = upd (σ.2 102) (σ.1 20).toNatClampNeg a by rw [r25, r3]), (show upd (σ.2 31) (σ.1 3).toNatClampNeg (-1) = upd (σ.2 108) (σ.1 20).toNatClampNeg (-1) by rw [r31, r3]), r41, r42, r55⟩, (y1.trans (r3.trans y2.symm))⟩
  · have km : KM σ σ1 := by
      rw [z1]
      exact KM_rfl σ
    have k19 := congrArg Int32.toInt (km.1 19 (by decide))
    have k20 := congrArg Int32.toInt (km.1 20 (by decide))
    have k21 := congrArg Int32.toInt (km.1 21 (by decide))
    have k22 := congrArg Int32.toInt (km.1 22 (by decide))
    have k23 := congrArg Int32.toInt (km.1 23 (by decide))
    rcases m with ⟨d1, y2, z2⟩ | ⟨⟨d1, d2⟩, y2, z2⟩ | ⟨⟨d1, d2⟩, y2, z2⟩
    · subst z1
      subst z2
      exact ⟨⟨iv, im, tv, rr⟩, (y1.trans y2.symm)⟩
    · exfalso
      omega
    · exfalso
      omega
theorem x_days {σ σ1 : ST} {m a b r : Int32} (h : INV σ) (s : sX_days σ m a b r σ1) : MIN σ1 := by
  obtain ⟨iv, im, tv, rr⟩ := h
  have n0 : (0 : Int32).toInt = 0 := by decide
  have nm1 : (-1 : Int32).toInt = -1 := by decide
  have n9999 : (9999 : Int32).toInt = 9999 := by decide
  have g2 := ixi_2 iv
  have g3 := ixi_3 iv
  have g4 := ixi_4 iv
  have g5 := ixi_5 iv
  have g6 := ixi_6 iv
  rcases s with ⟨c1, y1, z1⟩ | ⟨c1, y1, z1⟩
  · subst z1
    exact MIN_KM im tv (ixt_29 (v := b) (ixt_28 (v := a) iv (by omega) (by omega)) (by omega) (by omega)) (KM_setA (KM_setA (KM_rfl σ) (by decide)) (by decide))
  · subst z1
    exact ⟨iv, im, tv⟩
set_option maxRecDepth 10000 in
set_option maxHeartbeats 1000000 in
theorem b_days {σ σ1 σ2 : ST} {x a b r1 r2 : Int32} (h : INV σ) (s : sX_days σ x a b r1 σ1) (m : sM_days σ1 x a b r2 σ2) : INV σ2 ∧ r1 = r2 := by
  obtain ⟨iv, im, tv, rr⟩ := h
  have n0 : (0 : Int32).toInt = 0 := by decide
  have nm1 : (-1 : Int32).toInt = -1 := by decide
  have n9999 : (9999 : Int32).toInt = 9999 := by decide
  have g2 := ixi_2 iv
  have g3 := ixi_3 iv
  have g4 := ixi_4 iv
  have g5 := ixi_5 iv
  have g6 := ixi_6 iv
  obtain ⟨r2, r3, r4, r5, r6, r24, r25, r31, r41, r42, r55⟩ := id rr
  have i2 := congrArg Int32.toInt r2
  have i3 := congrArg Int32.toInt r3
  have i4 := congrArg Int32.toInt r4
  have i5 := congrArg Int32.toInt r5
  have i6 := congrArg Int32.toInt r6
  rcases s with ⟨c1, y1, z1⟩ | ⟨c1, y1, z1⟩
  · have km : KM σ σ1 := by
      rw [z1]
      exact (KM_setA (KM_setA (KM_rfl σ) (by decide)) (by decide))
    have k19 := congrArg Int32.toInt (km.1 19 (by decide))
    have k20 := congrArg Int32.toInt (km.1 20 (by decide))
    have k21 := congrArg Int32.toInt (km.1 21 (by decide))
    have k22 := congrArg Int32.toInt (km.1 22 (by decide))
    have k23 := congrArg Int32.toInt (km.1 23 (by decide))
    rcases m with ⟨d1, y2, z2⟩ | ⟨d1, y2, z2⟩
    · subst z1
      subst z2
      exact ⟨⟨(ixt_106 (v := b) (ixt_105 (v := a) (ixt_29 (v := b) (ixt_28 (v := a) iv (by omega) (by omega)) (by omega) (by omega)) (by omega) (by omega)) (by omega) (by omega)), im, TV_e rfl rfl tv, r2, r3, r4, r5, r6, r24, r25, r31, r41, r42, r55⟩, (y1.trans y2.symm)⟩
    · exfalso
      omega
  · have km : KM σ σ1 := by
      rw [z1]
      exact KM_rfl σ
    have k19 := congrArg Int32.toInt (km.1 19 (by decide))
    have k20 := congrArg Int32.toInt (km.1 20 (by decide))
    have k21 := congrArg Int32.toInt (km.1 21 (by decide))
    have k22 := congrArg Int32.toInt (km.1 22 (by decide))
    have k23 := congrArg Int32.toInt (km.1 23 (by decide))
    rcases m with ⟨d1, y2, z2⟩ | ⟨d1, y2, z2⟩
    · exfalso
      omega
    · subst z1
      subst z2
      exact ⟨⟨iv, im, tv, rr⟩, (y1.trans y2.symm)⟩
theorem x_week {σ σ1 : ST} {m a r : Int32} (h : INV σ) (s : sX_week σ m a r σ1) : MIN σ1 := by
  obtain ⟨iv, im, tv, rr⟩ := h
  have n0 : (0 : Int32).toInt = 0 := by decide
  have nm1 : (-1 : Int32).toInt = -1 := by decide
  have n9999 : (9999 : Int32).toInt = 9999 := by decide
  have g2 := ixi_2 iv
  have g3 := ixi_3 iv
  have g4 := ixi_4 iv
  have g5 := ixi_5 iv
  have g6 := ixi_6 iv
  rcases s with ⟨c1, y1, z1⟩ | ⟨c1, y1, z1⟩
  · subst z1
    exact MIN_KM im tv (ixt_30 (v := a) iv (by omega) (by omega)) (KM_setA (KM_rfl σ) (by decide))
  · subst z1
    exact ⟨iv, im, tv⟩
set_option maxRecDepth 10000 in
set_option maxHeartbeats 1000000 in
theorem b_week {σ σ1 σ2 : ST} {x a r1 r2 : Int32} (h : INV σ) (s : sX_week σ x a r1 σ1) (m : sM_week σ1 x a r2 σ2) : INV σ2 ∧ r1 = r2 := by
  obtain ⟨iv, im, tv, rr⟩ := h
  have n0 : (0 : Int32).toInt = 0 := by decide
  have nm1 : (-1 : Int32).toInt = -1 := by decide
  have n9999 : (9999 : Int32).toInt = 9999 := by decide
  have g2 := ixi_2 iv
  have g3 := ixi_3 iv
  have g4 := ixi_4 iv
  have g5 := ixi_5 iv
  have g6 := ixi_6 iv
  obtain ⟨r2, r3, r4, r5, r6, r24, r25, r31, r41, r42, r55⟩ := id rr
  have i2 := congrArg Int32.toInt r2
  have i3 := congrArg Int32.toInt r3
  have i4 := congrArg Int32.toInt r4
  have i5 := congrArg Int32.toInt r5
  have i6 := congrArg Int32.toInt r6
  rcases s with ⟨c1, y1, z1⟩ | ⟨c1, y1, z1⟩
  · have km : KM σ σ1 := by
      rw [z1]
      exact (KM_setA (KM_rfl σ) (by decide))
    have k19 := congrArg Int32.toInt (km.1 19 (by decide))
    have k20 := congrArg Int32.toInt (km.1 20 (by decide))
    have k21 := congrArg Int32.toInt (km.1 21 (by decide))
    have k22 := congrArg Int32.toInt (km.1 22 (by decide))
    have k23 := congrArg Int32.toInt (km.1 23 (by decide))
    rcases m with ⟨d1, y2, z2⟩ | ⟨d1, y2, z2⟩
    · subst z1
      subst z2
      exact ⟨⟨(ixt_107 (v := a) (ixt_30 (v := a) iv (by omega) (by omega)) (by omega) (by omega)), im, TV_e rfl rfl tv, r2, r3, r4, r5, r6, r24, r25, r31, r41, r42, r55⟩, (y1.trans y2.symm)⟩
    · exfalso
      omega
  · have km : KM σ σ1 := by
      rw [z1]
      exact KM_rfl σ
    have k19 := congrArg Int32.toInt (km.1 19 (by decide))
    have k20 := congrArg Int32.toInt (km.1 20 (by decide))
    have k21 := congrArg Int32.toInt (km.1 21 (by decide))
    have k22 := congrArg Int32.toInt (km.1 22 (by decide))
    have k23 := congrArg Int32.toInt (km.1 23 (by decide))
    rcases m with ⟨d1, y2, z2⟩ | ⟨d1, y2, z2⟩
    · exfalso
      omega
    · subst z1
      subst z2
      exact ⟨⟨iv, im, tv, rr⟩, (y1.trans y2.symm)⟩
theorem x_bound {σ σ1 : ST} {a b d r : Int32} (h : INV σ) (s : sX_bound σ a b d r σ1) : MIN σ1 := by
  obtain ⟨iv, im, tv, rr⟩ := h
  have n0 : (0 : Int32).toInt = 0 := by decide
  have nm1 : (-1 : Int32).toInt = -1 := by decide
  have n9999 : (9999 : Int32).toInt = 9999 := by decide
  have g2 := ixi_2 iv
  have g3 := ixi_3 iv
  have g4 := ixi_4 iv
  have g5 := ixi_5 iv
  have g6 := ixi_6 iv
  rcases s with ⟨c1, ⟨c2, y1, z1⟩ | ⟨c2, y1, z1⟩⟩ | ⟨c1, y1, z1⟩
  · subst z1
    exact ⟨iv, im, tv⟩
  · subst z1
    have p4 := inc1 (x := σ.1 4) (by omega)
    exact MIN_KM im tv (ixs_4 (v := σ.1 4 + 1) (ixt_37 (v := d) (ixt_36 (v := b) (ixt_35 (v := a) iv (by omega) (by omega)) (by omega) (by omega)) (by omega) (by omega)) (by omega) (by omega)) (KM_setI (KM_setA (KM_setA (KM_setA (KM_rfl σ) (by decide)) (by decide)) (by decide)) (by decide))
  · subst z1
    exact ⟨iv, im, tv⟩
set_option maxRecDepth 10000 in
set_option maxHeartbeats 1000000 in
theorem b_bound {σ σ1 σ2 : ST} {a b d r1 r2 : Int32} (h : INV σ) (s : sX_bound σ a b d r1 σ1) (m : sM_bound σ1 a b d r2 σ2) : INV σ2 ∧ r1 = r2 := by
  obtain ⟨iv, im, tv, rr⟩ := h
  have n0 : (0 : Int32).toInt = 0 := by decide
  have nm1 : (-1 : Int32).toInt = -1 := by decide
  have n9999 : (9999 : Int32).toInt = 9999 := by decide
  have g2 := ixi_2 iv
  have g3 := ixi_3 iv
  have g4 := ixi_4 iv
  have g5 := ixi_5 iv
  have g6 := ixi_6 iv
  obtain ⟨r2, r3, r4, r5, r6, r24, r25, r31, r41, r42, r55⟩ := id rr
  have i2 := congrArg Int32.toInt r2
  have i3 := congrArg Int32.toInt r3
  have i4 := congrArg Int32.toInt r4
  have i5 := congrArg Int32.toInt r5
  have i6 := congrArg Int32.toInt r6
  rcases s with ⟨c1, ⟨c2, y1, z1⟩ | ⟨c2, y1, z1⟩⟩ | ⟨c1, y1, z1⟩
  · have km : KM σ σ1 := by
      rw [z1]
      exact KM_rfl σ
    have k19 := congrArg Int32.toInt (km.1 19 (by decide))
    have k20 := congrArg Int32.toInt (km.1 20 (by decide))
    have k21 := congrArg Int32.toInt (km.1 21 (by decide))
    have k22 := congrArg Int32.toInt (km.1 22 (by decide))
    have k23 := congrArg Int32.toInt (km.1 23 (by decide))
    rcases m with ⟨d1, y2, z2⟩ | ⟨⟨d1, d2⟩, y2, z2⟩ | ⟨⟨d1, d2⟩, y2, z2⟩
    · exfalso
      omega
    · subst z1
      subst z2
      exact ⟨⟨iv, im, tv, rr⟩, (y1.trans y2.symm)⟩
    · exfalso
      omega
  · have km : KM σ σ1 := by
      rw [z1]
      exact (KM_setI (KM_setA (KM_setA (KM_setA (KM_rfl σ) (by decide)) (by decide)) (by decide)) (by decide))
    have k19 := congrArg Int32.toInt (km.1 19 (by decide))
    have k20 := congrArg Int32.toInt (km.1 20 (by decide))
    have k21 := congrArg Int32.toInt (km.1 21 (by decide))
    have k22 := congrArg Int32.toInt (km.1 22 (by decide))
    have k23 := congrArg Int32.toInt (km.1 23 (by decide))
    rcases m with ⟨d1, y2, z2⟩ | ⟨⟨d1, d2⟩, y2, z2⟩ | ⟨⟨d1, d2⟩, y2, z2⟩
    · exfalso
      omega
    · exfalso
      omega
    · subst z1
      subst z2
      have p4 := inc1 (x := σ.1 4) (by omega)
      have p21 := inc1 (x := σ.1 21) (by omega)
      exact ⟨⟨(ixs_21 (v := σ.1 21 + 1) (ixt_113 (v := d) (ixt_112 (v := b) (ixt_111 (v := a) (ixs_4 (v := σ.1 4 + 1) (ixt_37 (v := d) (ixt_36 (v := b) (ixt_35 (v := a) iv (by omega) (by omega)) (by omega) (by omega)) (by omega) (by omega)) (by omega) (by omega)) (by omega) (by omega)) (by omega) (by omega)) (by omega) (by omega)) (by omega) (by omega)), (IM_bound (a := a) (b := b) im (by omega) (by omega) (by omega) rfl rfl rfl rfl rfl), TV_e rfl rfl tv, r2, r3, (show σ.1 4 + 1 = σ.1 21 + 1 by rw [r4]), r5, r6, r24, r25, r31, r41, r42, r55⟩, (y1.trans ((show σ.1 4 + 1 = σ.1 21 + 1 by rw [r4]).trans y2.symm))⟩
  · have km : KM σ σ1 := by
      rw [z1]
      exact KM_rfl σ
    have k19 := congrArg Int32.toInt (km.1 19 (by decide))
    have k20 := congrArg Int32.toInt (km.1 20 (by decide))
    have k21 := congrArg Int32.toInt (km.1 21 (by decide))
    have k22 := congrArg Int32.toInt (km.1 22 (by decide))
    have k23 := congrArg Int32.toInt (km.1 23 (by decide))
    rcases m with ⟨d1, y2, z2⟩ | ⟨⟨d1, d2⟩, y2, z2⟩ | ⟨⟨d1, d2⟩, y2, z2⟩
    · subst z1
      subst z2
      exact ⟨⟨iv, im, tv, rr⟩, (y1.trans y2.symm)⟩
    · exfalso
      omega
    · exfalso
      omega
theorem x_loose {σ σ1 : ST} {r : Int32} (h : INV σ) (s : sX_loose σ r σ1) : MIN σ1 := by
  obtain ⟨iv, im, tv, rr⟩ := h
  have n0 : (0 : Int32).toInt = 0 := by decide
  have nm1 : (-1 : Int32).toInt = -1 := by decide
  have n9999 : (9999 : Int32).toInt = 9999 := by decide
  have g2 := ixi_2 iv
  have g3 := ixi_3 iv
  have g4 := ixi_4 iv
  have g5 := ixi_5 iv
  have g6 := ixi_6 iv
  rcases s with ⟨c1, y1, z1⟩ | ⟨c1, y1, z1⟩
  · subst z1
    exact ⟨iv, im, tv⟩
  · subst z1
    have p4 := dec1 (x := σ.1 4) (by omega)
    exact MIN_KM im tv (ixs_4 (v := σ.1 4 - 1) iv (by omega) (by omega)) (KM_setI (KM_rfl σ) (by decide))
set_option maxRecDepth 10000 in
set_option maxHeartbeats 1000000 in
theorem b_loose {σ σ1 σ2 : ST} {r1 r2 : Int32} (h : INV σ) (s : sX_loose σ r1 σ1) (m : sM_loose σ1 r2 σ2) : INV σ2 ∧ r1 = r2 := by
  obtain ⟨iv, im, tv, rr⟩ := h
  have n0 : (0 : Int32).toInt = 0 := by decide
  have nm1 : (-1 : Int32).toInt = -1 := by decide
  have n9999 : (9999 : Int32).toInt = 9999 := by decide
  have g2 := ixi_2 iv
  have g3 := ixi_3 iv
  have g4 := ixi_4 iv
  have g5 := ixi_5 iv
  have g6 := ixi_6 iv
  obtain ⟨r2, r3, r4, r5, r6, r24, r25, r31, r41, r42, r55⟩ := id rr
  have i2 := congrArg Int32.toInt r2
  have i3 := congrArg Int32.toInt r3
  have i4 := congrArg Int32.toInt r4
  have i5 := congrArg Int32.toInt r5
  have i6 := congrArg Int32.toInt r6
  rcases s with ⟨c1, y1, z1⟩ | ⟨c1, y1, z1⟩
  · have km : KM σ σ1 := by
      rw [z1]
      exact KM_rfl σ
    have k19 := congrArg Int32.toInt (km.1 19 (by decide))
    have k20 := congrArg Int32.toInt (km.1 20 (by decide))
    have k21 := congrArg Int32.toInt (km.1 21 (by decide))
    have k22 := congrArg Int32.toInt (km.1 22 (by decide))
    have k23 := congrArg Int32.toInt (km.1 23 (by decide))
    rcases m with ⟨d1, y2, z2⟩ | ⟨d1, y2, z2⟩
    · subst z1
      subst z2
      exact ⟨⟨iv, im, tv, rr⟩, (y1.trans y2.symm)⟩
    · exfalso
      omega
  · have km : KM σ σ1 := by
      rw [z1]
      exact (KM_setI (KM_rfl σ) (by decide))
    have k19 := congrArg Int32.toInt (km.1 19 (by decide))
    have k20 := congrArg Int32.toInt (km.1 20 (by decide))
    have k21 := congrArg Int32.toInt (km.1 21 (by decide))
    have k22 := congrArg Int32.toInt (km.1 22 (by decide))
    have k23 := congrArg Int32.toInt (km.1 23 (by decide))
    rcases m with ⟨d1, y2, z2⟩ | ⟨d1, y2, z2⟩
    · exfalso
      omega
    · subst z1
      subst z2
      have p4 := dec1 (x := σ.1 4) (by omega)
      have p21 := dec1 (x := σ.1 21) (by omega)
      exact ⟨⟨(ixs_21 (v := σ.1 21 - 1) (ixs_4 (v := σ.1 4 - 1) iv (by omega) (by omega)) (by omega) (by omega)), (IM_loose im (by omega) rfl rfl rfl rfl rfl), TV_e rfl rfl tv, r2, r3, (show σ.1 4 - 1 = σ.1 21 - 1 by rw [r4]), r5, r6, r24, r25, r31, r41, r42, r55⟩, (y1.trans ((show σ.1 4 - 1 = σ.1 21 - 1 by rw [r4]).trans y2.symm))⟩
theorem x_found {σ σ1 : ST} {a b r : Int32} (h : INV σ) (s : sX_found σ a b r σ1) : MIN σ1 := by
  obtain ⟨iv, im, tv, rr⟩ := h
  have n0 : (0 : Int32).toInt = 0 := by decide
  have nm1 : (-1 : Int32).toInt = -1 := by decide
  have n9999 : (9999 : Int32).toInt = 9999 := by decide
  have g2 := ixi_2 iv
  have g3 := ixi_3 iv
  have g4 := ixi_4 iv
  have g5 := ixi_5 iv
  have g6 := ixi_6 iv
  rcases s with ⟨c1, y1, z1⟩ | ⟨⟨c1, c2⟩, y1, z1⟩ | ⟨⟨c1, c2⟩, y1, z1⟩
  · subst z1
    exact ⟨iv, im, tv⟩
  · subst z1
    exact ⟨iv, im, tv⟩
  · subst z1
    exact MIN_KM im tv (ixt_31 (v := b) iv (by omega) (by omega)) (KM_setA (KM_rfl σ) (by decide))
set_option maxRecDepth 10000 in
set_option maxHeartbeats 1000000 in
theorem b_found {σ σ1 σ2 : ST} {a b r1 r2 : Int32} (h : INV σ) (s : sX_found σ a b r1 σ1) (m : sM_found σ1 a b r2 σ2) : INV σ2 ∧ r1 = r2 := by
  obtain ⟨iv, im, tv, rr⟩ := h
  have n0 : (0 : Int32).toInt = 0 := by decide
  have nm1 : (-1 : Int32).toInt = -1 := by decide
  have n9999 : (9999 : Int32).toInt = 9999 := by decide
  have g2 := ixi_2 iv
  have g3 := ixi_3 iv
  have g4 := ixi_4 iv
  have g5 := ixi_5 iv
  have g6 := ixi_6 iv
  obtain ⟨r2, r3, r4, r5, r6, r24, r25, r31, r41, r42, r55⟩ := id rr
  have i2 := congrArg Int32.toInt r2
  have i3 := congrArg Int32.toInt r3
  have i4 := congrArg Int32.toInt r4
  have i5 := congrArg Int32.toInt r5
  have i6 := congrArg Int32.toInt r6
  rcases s with ⟨c1, y1, z1⟩ | ⟨⟨c1, c2⟩, y1, z1⟩ | ⟨⟨c1, c2⟩, y1, z1⟩
  · have km : KM σ σ1 := by
      rw [z1]
      exact KM_rfl σ
    have k19 := congrArg Int32.toInt (km.1 19 (by decide))
    have k20 := congrArg Int32.toInt (km.1 20 (by decide))
    have k21 := congrArg Int32.toInt (km.1 21 (by decide))
    have k22 := congrArg Int32.toInt (km.1 22 (by decide))
    have k23 := congrArg Int32.toInt (km.1 23 (by decide))
    have kb : (σ1.2 101 (b).toNatClampNeg).toInt = (σ.2 24 (b).toNatClampNeg).toInt := by rw [km.2 101 (by decide), r24]
    have ka : (σ1.2 101 (a).toNatClampNeg).toInt = (σ.2 24 (a).toNatClampNeg).toInt := by rw [km.2 101 (by decide), r24]
    have kf : (σ1.2 108 (a).toNatClampNeg).toInt = (σ.2 31 (a).toNatClampNeg).toInt := by rw [km.2 108 (by decide), r31]
    have gg : (0 ≤ a.toInt ∧ a.toInt < (σ.1 3).toInt) → -1 ≤ (σ.2 31 (a).toNatClampNeg).toInt := fun q => (ixa_31 iv _ (by have := cnat q.1; omega)).1
    rcases m with ⟨d1, y2, z2⟩ | ⟨⟨d1, d2⟩, y2, z2⟩ | ⟨⟨d1, d2⟩, y2, z2⟩
    · subst z1
      subst z2
      exact ⟨⟨iv, im, tv, rr⟩, (y1.trans y2.symm)⟩
    · exfalso
      omega
    · exfalso
      omega
  · have km : KM σ σ1 := by
      rw [z1]
      exact KM_rfl σ
    have k19 := congrArg Int32.toInt (km.1 19 (by decide))
    have k20 := congrArg Int32.toInt (km.1 20 (by decide))
    have k21 := congrArg Int32.toInt (km.1 21 (by decide))
    have k22 := congrArg Int32.toInt (km.1 22 (by decide))
    have k23 := congrArg Int32.toInt (km.1 23 (by decide))
    have kb : (σ1.2 101 (b).toNatClampNeg).toInt = (σ.2 24 (b).toNatClampNeg).toInt := by rw [km.2 101 (by decide), r24]
    have ka : (σ1.2 101 (a).toNatClampNeg).toInt = (σ.2 24 (a).toNatClampNeg).toInt := by rw [km.2 101 (by decide), r24]
    have kf : (σ1.2 108 (a).toNatClampNeg).toInt = (σ.2 31 (a).toNatClampNeg).toInt := by rw [km.2 108 (by decide), r31]
    have gg : (0 ≤ a.toInt ∧ a.toInt < (σ.1 3).toInt) → -1 ≤ (σ.2 31 (a).toNatClampNeg).toInt := fun q => (ixa_31 iv _ (by have := cnat q.1; omega)).1
    rcases m with ⟨d1, y2, z2⟩ | ⟨⟨d1, d2⟩, y2, z2⟩ | ⟨⟨d1, d2⟩, y2, z2⟩
    · exfalso
      omega
    · subst z1
      subst z2
      exact ⟨⟨iv, im, tv, rr⟩, (y1.trans y2.symm)⟩
    · exfalso
      omega
  · have km : KM σ σ1 := by
      rw [z1]
      exact (KM_setA (KM_rfl σ) (by decide))
    have k19 := congrArg Int32.toInt (km.1 19 (by decide))
    have k20 := congrArg Int32.toInt (km.1 20 (by decide))
    have k21 := congrArg Int32.toInt (km.1 21 (by decide))
    have k22 := congrArg Int32.toInt (km.1 22 (by decide))
    have k23 := congrArg Int32.toInt (km.1 23 (by decide))
    have kb : (σ1.2 101 (b).toNatClampNeg).toInt = (σ.2 24 (b).toNatClampNeg).toInt := by rw [km.2 101 (by decide), r24]
    have ka : (σ1.2 101 (a).toNatClampNeg).toInt = (σ.2 24 (a).toNatClampNeg).toInt := by rw [km.2 101 (by decide), r24]
    have kf : (σ1.2 108 (a).toNatClampNeg).toInt = (σ.2 31 (a).toNatClampNeg).toInt := by rw [km.2 108 (by decide), r31]
    have gg : (0 ≤ a.toInt ∧ a.toInt < (σ.1 3).toInt) → -1 ≤ (σ.2 31 (a).toNatClampNeg).toInt := fun q => (ixa_31 iv _ (by have := cnat q.1; omega)).1
    rcases m with ⟨d1, y2, z2⟩ | ⟨⟨d1, d2⟩, y2, z2⟩ | ⟨⟨d1, d2⟩, y2, z2⟩
    · exfalso
      omega
    · exfalso
      omega
    · subst z1
      subst z2
      exact ⟨⟨(ixt_108 (v := b) (ixt_31 (v := b) iv (by omega) (by omega)) (by omega) (by omega)), (IM_108 (v := b) im (by omega) rfl rfl rfl rfl rfl), TV_e rfl rfl tv, r2, r3, r4, r5, r6, r24, r25, (show upd (σ.2 31) (a).toNatClampNeg b = upd (σ.2 108) (a).toNatClampNeg b by rw [r31]), r41, r42, r55⟩, (y1.trans y2.symm)⟩
theorem x_lose {σ σ1 : ST} {a r : Int32} (h : INV σ) (s : sX_lose σ a r σ1) : MIN σ1 := by
  obtain ⟨iv, im, tv, rr⟩ := h
  have n0 : (0 : Int32).toInt = 0 := by decide
  have nm1 : (-1 : Int32).toInt = -1 := by decide
  have n9999 : (9999 : Int32).toInt = 9999 := by decide
  have g2 := ixi_2 iv
  have g3 := ixi_3 iv
  have g4 := ixi_4 iv
  have g5 := ixi_5 iv
  have g6 := ixi_6 iv
  rcases s with ⟨c1, y1, z1⟩ | ⟨⟨c1, c2⟩, y1, z1⟩ | ⟨⟨c1, c2⟩, y1, z1⟩
  · subst z1
    exact ⟨iv, im, tv⟩
  · subst z1
    exact ⟨iv, im, tv⟩
  · subst z1
    exact MIN_KM im tv (ixt_31 (v := -1) iv (by omega) (by omega)) (KM_setA (KM_rfl σ) (by decide))
set_option maxRecDepth 10000 in
set_option maxHeartbeats 1000000 in
theorem b_lose {σ σ1 σ2 : ST} {a r1 r2 : Int32} (h : INV σ) (s : sX_lose σ a r1 σ1) (m : sM_lose σ1 a r2 σ2) : INV σ2 ∧ r1 = r2 := by
  obtain ⟨iv, im, tv, rr⟩ := h
  have n0 : (0 : Int32).toInt = 0 := by decide
  have nm1 : (-1 : Int32).toInt = -1 := by decide
  have n9999 : (9999 : Int32).toInt = 9999 := by decide
  have g2 := ixi_2 iv
  have g3 := ixi_3 iv
  have g4 := ixi_4 iv
  have g5 := ixi_5 iv
  have g6 := ixi_6 iv
  obtain ⟨r2, r3, r4, r5, r6, r24, r25, r31, r41, r42, r55⟩ := id rr
  have i2 := congrArg Int32.toInt r2
  have i3 := congrArg Int32.toInt r3
  have i4 := congrArg Int32.toInt r4
  have i5 := congrArg Int32.toInt r5
  have i6 := congrArg Int32.toInt r6
  rcases s with ⟨c1, y1, z1⟩ | ⟨⟨c1, c2⟩, y1, z1⟩ | ⟨⟨c1, c2⟩, y1, z1⟩
  · have km : KM σ σ1 := by
      rw [z1]
      exact KM_rfl σ
    have k19 := congrArg Int32.toInt (km.1 19 (by decide))
    have k20 := congrArg Int32.toInt (km.1 20 (by decide))
    have k21 := congrArg Int32.toInt (km.1 21 (by decide))
    have k22 := congrArg Int32.toInt (km.1 22 (by decide))
    have k23 := congrArg Int32.toInt (km.1 23 (by decide))
    have kf : (σ1.2 108 (a).toNatClampNeg).toInt = (σ.2 31 (a).toNatClampNeg).toInt := by rw [km.2 108 (by decide), r31]
    have gg : (0 ≤ a.toInt ∧ a.toInt < (σ.1 3).toInt) → -1 ≤ (σ.2 31 (a).toNatClampNeg).toInt := fun q => (ixa_31 iv _ (by have := cnat q.1; omega)).1
    rcases m with ⟨d1, y2, z2⟩ | ⟨⟨d1, d2⟩, y2, z2⟩ | ⟨⟨d1, d2⟩, y2, z2⟩
    · subst z1
      subst z2
      exact ⟨⟨iv, im, tv, rr⟩, (y1.trans y2.symm)⟩
    · exfalso
      omega
    · exfalso
      omega
  · have km : KM σ σ1 := by
      rw [z1]
      exact KM_rfl σ
    have k19 := congrArg Int32.toInt (km.1 19 (by decide))
    have k20 := congrArg Int32.toInt (km.1 20 (by decide))
    have k21 := congrArg Int32.toInt (km.1 21 (by decide))
    have k22 := congrArg Int32.toInt (km.1 22 (by decide))
    have k23 := congrArg Int32.toInt (km.1 23 (by decide))
    have kf : (σ1.2 108 (a).toNatClampNeg).toInt = (σ.2 31 (a).toNatClampNeg).toInt := by rw [km.2 108 (by decide), r31]
    have gg : (0 ≤ a.toInt ∧ a.toInt < (σ.1 3).toInt) → -1 ≤ (σ.2 31 (a).toNatClampNeg).toInt := fun q => (ixa_31 iv _ (by have := cnat q.1; omega)).1
    rcases m with ⟨d1, y2, z2⟩ | ⟨⟨d1, d2⟩, y2, z2⟩ | ⟨⟨d1, d2⟩, y2, z2⟩
    · exfalso
      omega
    · subst z1
      subst z2
      exact ⟨⟨iv, im, tv, rr⟩, (y1.trans y2.symm)⟩
    · exfalso
      omega
  · have km : KM σ σ1 := by
      rw [z1]
      exact (KM_setA (KM_rfl σ) (by decide))
    have k19 := congrArg Int32.toInt (km.1 19 (by decide))
    have k20 := congrArg Int32.toInt (km.1 20 (by decide))
    have k21 := congrArg Int32.toInt (km.1 21 (by decide))
    have k22 := congrArg Int32.toInt (km.1 22 (by decide))
    have k23 := congrArg Int32.toInt (km.1 23 (by decide))
    have kf : (σ1.2 108 (a).toNatClampNeg).toInt = (σ.2 31 (a).toNatClampNeg).toInt := by rw [km.2 108 (by decide), r31]
    have gg : (0 ≤ a.toInt ∧ a.toInt < (σ.1 3).toInt) → -1 ≤ (σ.2 31 (a).toNatClampNeg).toInt := fun q => (ixa_31 iv _ (by have := cnat q.1; omega)).1
    rcases m with ⟨d1, y2, z2⟩ | ⟨⟨d1, d2⟩, y2, z2⟩ | ⟨⟨d1, d2⟩, y2, z2⟩
    · exfalso
      omega
    · exfalso
      omega
    · subst z1
      subst z2
      exact ⟨⟨(ixt_108 (v := -1) (ixt_31 (v := -1) iv (by omega) (by omega)) (by omega) (by omega)), (IM_108 (v := -1) im (by omega) rfl rfl rfl rfl rfl), TV_e rfl rfl tv, r2, r3, r4, r5, r6, r24, r25, (show upd (σ.2 31) (a).toNatClampNeg (-1) = upd (σ.2 108) (a).toNatClampNeg (-1) by rw [r31]), r41, r42, r55⟩, (y1.trans y2.symm)⟩
theorem x_hand {σ σ1 : ST} {a b p r : Int32} (h : INV σ) (s : sX_hand σ a b p r σ1) : MIN σ1 := by
  obtain ⟨iv, im, tv, rr⟩ := h
  have n0 : (0 : Int32).toInt = 0 := by decide
  have nm1 : (-1 : Int32).toInt = -1 := by decide
  have n9999 : (9999 : Int32).toInt = 9999 := by decide
  have g2 := ixi_2 iv
  have g3 := ixi_3 iv
  have g4 := ixi_4 iv
  have g5 := ixi_5 iv
  have g6 := ixi_6 iv
  rcases s with ⟨c1, f, hf, ⟨c2, y1, z1⟩ | ⟨c2, y1, z1⟩ | ⟨c2, y1, z1⟩⟩ | ⟨c1, y1, z1⟩
  · subst z1
    have p5 := inc1 (x := σ.1 5) (by omega)
    exact MIN_KM im tv (ixt_40 (v := p) iv (by omega) (by omega)) (KM_setA (KM_rfl σ) (by decide))
  · subst z1
    exact ⟨iv, im, tv⟩
  · subst z1
    have p5 := inc1 (x := σ.1 5) (by omega)
    exact MIN_KM im tv (ixs_5 (v := σ.1 5 + 1) (ixt_40 (v := p) (ixt_n (v := b) (ixt_n (v := a) iv (by decide)) (by decide)) (by omega) (by omega)) (by omega) (by omega)) (KM_setI (KM_setA (KM_setA (KM_setA (KM_rfl σ) (by decide)) (by decide)) (by decide)) (by decide))
  · subst z1
    exact ⟨iv, im, tv⟩
set_option maxRecDepth 10000 in
set_option maxHeartbeats 1000000 in
theorem b_hand {σ σ1 σ2 : ST} {a b p r1 r2 : Int32} (h : INV σ) (s : sX_hand σ a b p r1 σ1) (m : sM_hand σ1 a b p r2 σ2) : INV σ2 ∧ r1 = r2 := by
  obtain ⟨iv, im, tv, rr⟩ := h
  have n0 : (0 : Int32).toInt = 0 := by decide
  have nm1 : (-1 : Int32).toInt = -1 := by decide
  have n9999 : (9999 : Int32).toInt = 9999 := by decide
  have g2 := ixi_2 iv
  have g3 := ixi_3 iv
  have g4 := ixi_4 iv
  have g5 := ixi_5 iv
  have g6 := ixi_6 iv
  obtain ⟨r2, r3, r4, r5, r6, r24, r25, r31, r41, r42, r55⟩ := id rr
  have i2 := congrArg Int32.toInt r2
  have i3 := congrArg Int32.toInt r3
  have i4 := congrArg Int32.toInt r4
  have i5 := congrArg Int32.toInt r5
  have i6 := congrArg Int32.toInt r6
  rcases s with ⟨c1, f, hf, ⟨c2, y1, z1⟩ | ⟨c2, y1, z1⟩ | ⟨c2, y1, z1⟩⟩ | ⟨c1, y1, z1⟩
  · have km : KM σ σ1 := by
      rw [z1]
      exact (KM_setA (KM_rfl σ) (by decide))
    have k19 := congrArg Int32.toInt (km.1 19 (by decide))
    have k20 := congrArg Int32.toInt (km.1 20 (by decide))
    have k21 := congrArg Int32.toInt (km.1 21 (by decide))
    have k22 := congrArg Int32.toInt (km.1 22 (by decide))
    have k23 := congrArg Int32.toInt (km.1 23 (by decide))
    rcases m with ⟨d1, y2, z2⟩ | ⟨d1, f2, hf2, ⟨d2, y2, z2⟩ | ⟨d2, y2, z2⟩ | ⟨d2, y2, z2⟩⟩
    · exfalso
      omega
    · rw [km.2 116 (by decide), km.2 117 (by decide), km.1 22 (by decide), ← r41, ← r42, ← r5] at hf2
      have ef := congrArg Int32.toInt (fndP_one hf hf2 (fun _ _ => rfl) (fun _ _ => rfl))
      subst z1
      subst z2
      have hq : σ.2 41 (f2).toNatClampNeg = a ∧ σ.2 42 (f2).toNatClampNeg = b := by
        rcases hf2 with ⟨q, -⟩ | ⟨-, -, q, -⟩
        · exact absurd q d2
        · exact q
      exact ⟨⟨(ixt_118 (v := p) (ixt_n (v := b) (ixt_n (v := a) (ixt_40 (v := p) iv (by omega) (by omega)) (by decide)) (by decide)) (by omega) (by omega)), im, TV_e rfl rfl tv, r2, r3, r4, r5, r6, r24, r25, r31, (show σ.2 41 = upd (σ.2 116) (f2).toNatClampNeg a by rw [← r41, upd_id hq.1]), (show σ.2 42 = upd (σ.2 117) (f2).toNatClampNeg b by rw [← r42, upd_id hq.2]), r55⟩, (y1.trans (r5.trans y2.symm))⟩
    · rw [km.2 116 (by decide), km.2 117 (by decide), km.1 22 (by decide), ← r41, ← r42, ← r5] at hf2
      have ef := congrArg Int32.toInt (fndP_one hf hf2 (fun _ _ => rfl) (fun _ _ => rfl))
      exfalso
      omega
    · rw [km.2 116 (by decide), km.2 117 (by decide), km.1 22 (by decide), ← r41, ← r42, ← r5] at hf2
      have ef := congrArg Int32.toInt (fndP_one hf hf2 (fun _ _ => rfl) (fun _ _ => rfl))
      exfalso
      omega
  · have km : KM σ σ1 := by
      rw [z1]
      exact KM_rfl σ
    have k19 := congrArg Int32.toInt (km.1 19 (by decide))
    have k20 := congrArg Int32.toInt (km.1 20 (by decide))
    have k21 := congrArg Int32.toInt (km.1 21 (by decide))
    have k22 := congrArg Int32.toInt (km.1 22 (by decide))
    have k23 := congrArg Int32.toInt (km.1 23 (by decide))
    rcases m with ⟨d1, y2, z2⟩ | ⟨d1, f2, hf2, ⟨d2, y2, z2⟩ | ⟨d2, y2, z2⟩ | ⟨d2, y2, z2⟩⟩
    · exfalso
      omega
    · rw [km.2 116 (by decide), km.2 117 (by decide), km.1 22 (by decide), ← r41, ← r42, ← r5] at hf2
      have ef := congrArg Int32.toInt (fndP_one hf hf2 (fun _ _ => rfl) (fun _ _ => rfl))
      exfalso
      omega
    · subst z1
      subst z2
      exact ⟨⟨iv, im, tv, rr⟩, (y1.trans y2.symm)⟩
    · rw [km.2 116 (by decide), km.2 117 (by decide), km.1 22 (by decide), ← r41, ← r42, ← r5] at hf2
      have ef := congrArg Int32.toInt (fndP_one hf hf2 (fun _ _ => rfl) (fun _ _ => rfl))
      exfalso
      omega
  · have km : KM σ σ1 := by
      rw [z1]
      exact (KM_setI (KM_setA (KM_setA (KM_setA (KM_rfl σ) (by decide)) (by decide)) (by decide)) (by decide))
    have k19 := congrArg Int32.toInt (km.1 19 (by decide))
    have k20 := congrArg Int32.toInt (km.1 20 (by decide))
    have k21 := congrArg Int32.toInt (km.1 21 (by decide))
    have k22 := congrArg Int32.toInt (km.1 22 (by decide))
    have k23 := congrArg Int32.toInt (km.1 23 (by decide))
    rcases m with ⟨d1, y2, z2⟩ | ⟨d1, f2, hf2, ⟨d2, y2, z2⟩ | ⟨d2, y2, z2⟩ | ⟨d2, y2, z2⟩⟩
    · exfalso
      omega
    · rw [km.2 116 (by decide), km.2 117 (by decide), km.1 22 (by decide), ← r41, ← r42, ← r5] at hf2
      have ef := congrArg Int32.toInt (fndP_one hf hf2 (fun _ _ => rfl) (fun _ _ => rfl))
      exfalso
      omega
    · rw [km.2 116 (by decide), km.2 117 (by decide), km.1 22 (by decide), ← r41, ← r42, ← r5] at hf2
      have ef := congrArg Int32.toInt (fndP_one hf hf2 (fun _ _ => rfl) (fun _ _ => rfl))
      exfalso
      omega
    · rw [km.2 116 (by decide), km.2 117 (by decide), km.1 22 (by decide), ← r41, ← r42, ← r5] at hf2
      have ef := congrArg Int32.toInt (fndP_one hf hf2 (fun _ _ => rfl) (fun _ _ => rfl))
      subst z1
      subst z2
      have p5 := inc1 (x := σ.1 5) (by omega)
      have p22 := inc1 (x := σ.1 22) (by omega)
      exact ⟨⟨(ixt_118 (v := p) (ixt_n (v := b) (ixt_n (v := a) (ixs_22 (v := σ.1 22 + 1) (ixs_5 (v := σ.1 5 + 1) (ixt_40 (v := p) (ixt_n (v := b) (ixt_n (v := a) iv (by decide)) (by decide)) (by omega) (by omega)) (by omega) (by omega)) (by omega) (by omega)) (by decide)) (by decide)) (by omega) (by omega)), im, TV_e rfl rfl tv, r2, r3, r4, (show σ.1 5 + 1 = σ.1 22 + 1 by rw [r5]), r6, r24, r25, r31, (show upd (σ.2 41) (σ.1 5).toNatClampNeg a = upd (σ.2 116) (σ.1 22).toNatClampNeg a by rw [r41, r5]), (show upd (σ.2 42) (σ.1 5).toNatClampNeg b = upd (σ.2 117) (σ.1 22).toNatClampNeg b by rw [r42, r5]), r55⟩, (y1.trans ((show σ.1 5 + 1 = σ.1 22 + 1 by rw [r5]).trans y2.symm))⟩
  · have km : KM σ σ1 := by
      rw [z1]
      exact KM_rfl σ
    have k19 := congrArg Int32.toInt (km.1 19 (by decide))
    have k20 := congrArg Int32.toInt (km.1 20 (by decide))
    have k21 := congrArg Int32.toInt (km.1 21 (by decide))
    have k22 := congrArg Int32.toInt (km.1 22 (by decide))
    have k23 := congrArg Int32.toInt (km.1 23 (by decide))
    rcases m with ⟨d1, y2, z2⟩ | ⟨d1, f2, hf2, ⟨d2, y2, z2⟩ | ⟨d2, y2, z2⟩ | ⟨d2, y2, z2⟩⟩
    · subst z1
      subst z2
      exact ⟨⟨iv, im, tv, rr⟩, (y1.trans y2.symm)⟩
    · exfalso
      omega
    · exfalso
      omega
    · exfalso
      omega
theorem upd_cong {f g : Nat → Int32} {i j : Nat} {v : Int32} (h : f j = g j) : upd f i v j = upd g i v j := by
  rcases upd_v f i v j with ⟨e, e1⟩ | ⟨e, e1⟩ <;> rcases upd_v g i v j with ⟨e2, e3⟩ | ⟨e2, e3⟩
  · rw [e, e2]
  · exact absurd e1 e3
  · exact absurd e3 e1
  · rw [e, e2, h]
abbrev noI (_ : Nat) : Prop := False
abbrev rwA (k : Nat) : Prop := 92 ≤ k ∧ k < 96
abbrev poA (k : Nat) : Prop := 80 ≤ k ∧ k < 92
abbrev trA (k : Nat) : Prop := k = 135
abbrev mpA (k : Nat) : Prop := k = 114 ∨ k = 115
theorem x_feed {σ σ1 : ST} {n r : Int32} (h : INV σ) (s : sX_feed σ n r σ1) : MIN σ1 := by
  obtain ⟨iv, im, tv, rr⟩ := h
  rcases s with ⟨c1, y1, z1⟩ | ⟨c1, c2, y1, z1⟩ | ⟨c1, c2, w1, q1, y1⟩
  · subst z1
    exact ⟨iv, im, tv⟩
  · subst z1
    exact ⟨iv, im, tv⟩
  · exact MIN_KM im tv w1.1 (KM_Ag w1.2 (fun i hi => by have : i = 6 := hi; omega) (fun k hk => by have : k = 43 := hk; omega))
theorem x_text {σ σ1 : ST} {a : Int32} (h : INV σ) (s : sX_text σ a σ1) : MIN σ1 := by
  obtain ⟨iv, im, tv, rr⟩ := h
  rcases s with ⟨c1, z1⟩ | ⟨c1, w1, q1⟩
  · subst z1
    exact ⟨iv, im, tv⟩
  · exact MIN_KM im tv w1.1 (KM_Ag w1.2 (fun i hi => by have : i = 0 ∨ i = 1 ∨ i = 6 ∨ (7 ≤ i ∧ i < 19) := hi; omega) (fun k hk => by have : k = 32 ∨ (56 ≤ k ∧ k < 68) ∨ (k = 33 ∨ k = 34 ∨ k = 38 ∨ k = 39 ∨ (44 ≤ k ∧ k < 55) ∨ (68 ≤ k ∧ k < 80)) := hk; omega))
theorem x_tray {σ σ1 : ST} {t n r : Int32} (h : INV σ) (s : sX_tray σ t n r σ1) : MIN σ1 := by
  obtain ⟨iv, im, tv, rr⟩ := h
  rcases s with ⟨c1, y1, z1⟩ | ⟨c1, c2, y1, z1⟩ | ⟨c1, c2, y1, w1, q1⟩
  · subst z1
    exact ⟨iv, im, tv⟩
  · subst z1
    exact ⟨iv, im, tv⟩
  · exact MIN_KM im tv w1.1 (KM_Ag w1.2 (fun i hi => absurd hi id) (fun k hk => by have : k = 55 ∨ (92 ≤ k ∧ k < 96) := hk; omega))
theorem x_lay {σ σ1 : ST} {t f n r : Int32} (h : INV σ) (s : sX_lay σ t f n r σ1) : MIN σ1 := by
  obtain ⟨iv, im, tv, rr⟩ := h
  rcases s with ⟨c1, y1, z1⟩ | ⟨c1, c2, y1, z1⟩ | ⟨c1, c2, w1, q1⟩
  · subst z1
    exact ⟨iv, im, tv⟩
  · subst z1
    exact ⟨iv, im, tv⟩
  · exact MIN_KM im tv w1.1 (KM_Ag w1.2 (fun i hi => by have : i = 6 := hi; omega) (fun k hk => by have : k = 43 := hk; omega))
theorem a_post {σ σ1 : ST} {a b u v r : Int32} (iv : IV σ) (s : sX_post σ a b u v r σ1) : IV σ1 ∧ Ag noI poA σ σ1 := by
  rcases s with ⟨c1, y1, z1⟩ | ⟨c1, y1, z1⟩
  · have ca := cnat (x := a) (by omega)
    rw [z1]
    exact ⟨ixt_n (ixt_n iv (IVA_post 80 (by omega))) (IVA_post 86 (by omega)), Ag_setA (Ag_setA (Ag_rfl σ) (show 80 ≤ 80 + _ ∧ _ < 92 by omega)) (show 80 ≤ 86 + _ ∧ _ < 92 by omega)⟩
  · subst z1
    exact ⟨iv, Ag_rfl _⟩
theorem a_cell {σ σ1 : ST} {t i v r : Int32} (iv : IV σ) (s : sX_cell σ t i v r σ1) : IV σ1 ∧ Ag noI rwA σ σ1 := by
  rcases s with ⟨c1, y1, z1⟩ | ⟨c1, y1, z1⟩ | ⟨c1, y1, z1⟩ | ⟨c1, y1, z1⟩
  · subst z1
    exact ⟨iv, Ag_rfl _⟩
  · subst z1
    exact ⟨iv, Ag_rfl _⟩
  · subst z1
    exact ⟨iv, Ag_rfl _⟩
  · have ct := cnat (x := t) c1.1.1
    rw [z1]
    exact ⟨ixu_92 iv (by omega) (b8 _), Ag_setA (Ag_rfl σ) (show 92 ≤ 92 + _ ∧ _ < 96 by omega)⟩
theorem x_post {σ σ1 : ST} {a b u v r : Int32} (h : INV σ) (s : sX_post σ a b u v r σ1) : MIN σ1 := by
  obtain ⟨iv, im, tv, rr⟩ := h
  have q := a_post iv s
  exact MIN_KM im tv q.1 (KM_Ag q.2 (fun i hi => absurd hi id) (fun k hk => by have : 80 ≤ k ∧ k < 92 := hk; omega))
theorem x_cell {σ σ1 : ST} {t i v r : Int32} (h : INV σ) (s : sX_cell σ t i v r σ1) : MIN σ1 := by
  obtain ⟨iv, im, tv, rr⟩ := h
  have q := a_cell iv s
  exact MIN_KM im tv q.1 (KM_Ag q.2 (fun i hi => absurd hi id) (fun k hk => by have : 92 ≤ k ∧ k < 96 := hk; omega))
set_option maxRecDepth 10000 in
set_option maxHeartbeats 1000000 in
theorem b_feed {σ σ1 σ2 : ST} {n r1 r2 : Int32} (h : INV σ) (s : sX_feed σ n r1 σ1) (m : sM_feed σ1 n r2 σ2) : INV σ2 ∧ r1 = r2 := by
  obtain ⟨iv, im, tv, rr⟩ := h
  have n0 : (0 : Int32).toInt = 0 := by decide
  have nm1 : (-1 : Int32).toInt = -1 := by decide
  have n9999 : (9999 : Int32).toInt = 9999 := by decide
  have g2 := ixi_2 iv
  have g3 := ixi_3 iv
  have g4 := ixi_4 iv
  have g5 := ixi_5 iv
  have g6 := ixi_6 iv
  obtain ⟨r2, r3, r4, r5, r6, r24, r25, r31, r41, r42, r55⟩ := id rr
  have i3 := congrArg Int32.toInt r3
  have i6 := congrArg Int32.toInt r6
  rcases s with ⟨c1, y1, z1⟩ | ⟨c1, c2, y1, z1⟩ | ⟨c1, c2, w1, q1, y1⟩
  · subst z1
    rcases m with ⟨d1, y2, z2⟩ | ⟨d1, d2, y2, z2⟩ | ⟨d1, d2, w2, q2, y2⟩
    · subst z2
      exact ⟨⟨iv, im, tv, rr⟩, y1.trans y2.symm⟩
    · exfalso
      omega
    · exfalso
      omega
  · subst z1
    rcases m with ⟨d1, y2, z2⟩ | ⟨d1, d2, y2, z2⟩ | ⟨d1, d2, w2, q2, y2⟩
    · exfalso
      omega
    · subst z2
      exact ⟨⟨iv, im, tv, rr⟩, y1.trans y2.symm⟩
    · exfalso
      omega
  · have a1 := w1.2
    have k23 := congrArg Int32.toInt (a1.1 23 (by decide))
    rcases m with ⟨d1, y2, z2⟩ | ⟨d1, d2, y2, z2⟩ | ⟨d1, d2, w2, q2, y2⟩
    · exfalso
      omega
    · exfalso
      omega
    · have a2 := w2.2
      have z6 := a2.1 6 (by decide)
      have e6 : σ2.1 6 = σ2.1 23 := Int32.toInt_inj.mp (by have z := congrArg Int32.toInt z6; omega)
      exact ⟨⟨w2.1, (IM_e ((a2.1 20 (by decide)).trans (a1.1 20 (by decide))) ((a2.1 21 (by decide)).trans (a1.1 21 (by decide))) ((a2.2 108 (by decide)).trans (a1.2 108 (by decide))) ((a2.2 111 (by decide)).trans (a1.2 111 (by decide))) ((a2.2 112 (by decide)).trans (a1.2 112 (by decide))) im), (TV_e ((a2.2 109 (by decide)).trans (a1.2 109 (by decide))) ((a2.2 110 (by decide)).trans (a1.2 110 (by decide))) tv), (((a2.1 2 (by decide)).trans (a1.1 2 (by decide))).trans (r2.trans ((a2.1 19 (by decide)).trans (a1.1 19 (by decide))).symm)), (((a2.1 3 (by decide)).trans (a1.1 3 (by decide))).trans (r3.trans ((a2.1 20 (by decide)).trans (a1.1 20 (by decide))).symm)), (((a2.1 4 (by decide)).trans (a1.1 4 (by decide))).trans (r4.trans ((a2.1 21 (by decide)).trans (a1.1 21 (by decide))).symm)), (((a2.1 5 (by decide)).trans (a1.1 5 (by decide))).trans (r5.trans ((a2.1 22 (by decide)).trans (a1.1 22 (by decide))).symm)), e6, (((a2.2 24 (by decide)).trans (a1.2 24 (by decide))).trans (r24.trans ((a2.2 101 (by decide)).trans (a1.2 101 (by decide))).symm)), (((a2.2 25 (by decide)).trans (a1.2 25 (by decide))).trans (r25.trans ((a2.2 102 (by decide)).trans (a1.2 102 (by decide))).symm)), (((a2.2 31 (by decide)).trans (a1.2 31 (by decide))).trans (r31.trans ((a2.2 108 (by decide)).trans (a1.2 108 (by decide))).symm)), (((a2.2 41 (by decide)).trans (a1.2 41 (by decide))).trans (r41.trans ((a2.2 116 (by decide)).trans (a1.2 116 (by decide))).symm)), (((a2.2 42 (by decide)).trans (a1.2 42 (by decide))).trans (r42.trans ((a2.2 117 (by decide)).trans (a1.2 117 (by decide))).symm)), (fun j hj => by rw [((a2.2 55 (by decide)).trans (a1.2 55 (by decide))), ((a2.2 134 (by decide)).trans (a1.2 134 (by decide)))]; exact r55 j hj)⟩, by rw [y1, y2, ← z6]; exact e6⟩
set_option maxRecDepth 10000 in
set_option maxHeartbeats 1000000 in
theorem b_text {σ σ1 σ2 : ST} {a : Int32} (h : INV σ) (s : sX_text σ a σ1) (m : sM_text σ1 a σ2) : INV σ2 := by
  obtain ⟨iv, im, tv, rr⟩ := h
  have n0 : (0 : Int32).toInt = 0 := by decide
  have nm1 : (-1 : Int32).toInt = -1 := by decide
  have n9999 : (9999 : Int32).toInt = 9999 := by decide
  have g2 := ixi_2 iv
  have g3 := ixi_3 iv
  have g4 := ixi_4 iv
  have g5 := ixi_5 iv
  have g6 := ixi_6 iv
  obtain ⟨r2, r3, r4, r5, r6, r24, r25, r31, r41, r42, r55⟩ := id rr
  have i3 := congrArg Int32.toInt r3
  have i6 := congrArg Int32.toInt r6
  rcases s with ⟨c1, z1⟩ | ⟨c1, w1, q1⟩
  · subst z1
    rcases m with ⟨d1, z2⟩ | ⟨d1, w2, tv2, q2⟩
    · subst z2
      exact ⟨iv, im, tv, rr⟩
    · exfalso
      omega
  · have a1 := w1.2
    have k20 := congrArg Int32.toInt (a1.1 20 (by decide))
    rcases m with ⟨d1, z2⟩ | ⟨d1, w2, tv2, q2⟩
    · exfalso
      omega
    · have a2 := w2.2
      exact ⟨w2.1, (IM_e ((a2.1 20 (by decide)).trans (a1.1 20 (by decide))) ((a2.1 21 (by decide)).trans (a1.1 21 (by decide))) ((a2.2 108 (by decide)).trans (a1.2 108 (by decide))) ((a2.2 111 (by decide)).trans (a1.2 111 (by decide))) ((a2.2 112 (by decide)).trans (a1.2 112 (by decide))) im), tv2, (((a2.1 2 (by decide)).trans (a1.1 2 (by decide))).trans (r2.trans ((a2.1 19 (by decide)).trans (a1.1 19 (by decide))).symm)), (((a2.1 3 (by decide)).trans (a1.1 3 (by decide))).trans (r3.trans ((a2.1 20 (by decide)).trans (a1.1 20 (by decide))).symm)), (((a2.1 4 (by decide)).trans (a1.1 4 (by decide))).trans (r4.trans ((a2.1 21 (by decide)).trans (a1.1 21 (by decide))).symm)), (((a2.1 5 (by decide)).trans (a1.1 5 (by decide))).trans (r5.trans ((a2.1 22 (by decide)).trans (a1.1 22 (by decide))).symm)), ((a2.1 6 (by decide)).trans (q1.trans q2.symm)), (((a2.2 24 (by decide)).trans (a1.2 24 (by decide))).trans (r24.trans ((a2.2 101 (by decide)).trans (a1.2 101 (by decide))).symm)), (((a2.2 25 (by decide)).trans (a1.2 25 (by decide))).trans (r25.trans ((a2.2 102 (by decide)).trans (a1.2 102 (by decide))).symm)), (((a2.2 31 (by decide)).trans (a1.2 31 (by decide))).trans (r31.trans ((a2.2 108 (by decide)).trans (a1.2 108 (by decide))).symm)), (((a2.2 41 (by decide)).trans (a1.2 41 (by decide))).trans (r41.trans ((a2.2 116 (by decide)).trans (a1.2 116 (by decide))).symm)), (((a2.2 42 (by decide)).trans (a1.2 42 (by decide))).trans (r42.trans ((a2.2 117 (by decide)).trans (a1.2 117 (by decide))).symm)), (fun j hj => by rw [((a2.2 55 (by decide)).trans (a1.2 55 (by decide))), ((a2.2 134 (by decide)).trans (a1.2 134 (by decide)))]; exact r55 j hj)⟩
set_option maxRecDepth 10000 in
set_option maxHeartbeats 1000000 in
theorem b_tray {σ σ1 σ2 : ST} {t n r1 r2 : Int32} (h : INV σ) (s : sX_tray σ t n r1 σ1) (m : sM_tray σ1 t n r2 σ2) : INV σ2 ∧ r1 = r2 := by
  obtain ⟨iv, im, tv, rr⟩ := h
  have n0 : (0 : Int32).toInt = 0 := by decide
  have nm1 : (-1 : Int32).toInt = -1 := by decide
  have n9999 : (9999 : Int32).toInt = 9999 := by decide
  have g2 := ixi_2 iv
  have g3 := ixi_3 iv
  have g4 := ixi_4 iv
  have g5 := ixi_5 iv
  have g6 := ixi_6 iv
  obtain ⟨r2, r3, r4, r5, r6, r24, r25, r31, r41, r42, r55⟩ := id rr
  have i3 := congrArg Int32.toInt r3
  have i6 := congrArg Int32.toInt r6
  rcases s with ⟨c1, y1, z1⟩ | ⟨c1, c2, y1, z1⟩ | ⟨c1, c2, y1, w1, q1⟩
  · subst z1
    rcases m with ⟨d1, y2, z2⟩ | ⟨d1, d2, y2, z2⟩ | ⟨d1, d2, y2, w2, q2⟩
    · subst z2
      exact ⟨⟨iv, im, tv, rr⟩, y1.trans y2.symm⟩
    · exfalso
      omega
    · exfalso
      omega
  · subst z1
    rcases m with ⟨d1, y2, z2⟩ | ⟨d1, d2, y2, z2⟩ | ⟨d1, d2, y2, w2, q2⟩
    · exfalso
      omega
    · subst z2
      exact ⟨⟨iv, im, tv, rr⟩, y1.trans y2.symm⟩
    · exfalso
      omega
  · have a1 := w1.2
    rcases m with ⟨d1, y2, z2⟩ | ⟨d1, d2, y2, z2⟩ | ⟨d1, d2, y2, w2, q2⟩
    · exfalso
      omega
    · exfalso
      omega
    · have a2 := w2.2
      exact ⟨⟨w2.1, (IM_e ((a2.1 20 (by decide)).trans (a1.1 20 (by decide))) ((a2.1 21 (by decide)).trans (a1.1 21 (by decide))) ((a2.2 108 (by decide)).trans (a1.2 108 (by decide))) ((a2.2 111 (by decide)).trans (a1.2 111 (by decide))) ((a2.2 112 (by decide)).trans (a1.2 112 (by decide))) im), (TV_e ((a2.2 109 (by decide)).trans (a1.2 109 (by decide))) ((a2.2 110 (by decide)).trans (a1.2 110 (by decide))) tv), (((a2.1 2 (by decide)).trans (a1.1 2 (by decide))).trans (r2.trans ((a2.1 19 (by decide)).trans (a1.1 19 (by decide))).symm)), (((a2.1 3 (by decide)).trans (a1.1 3 (by decide))).trans (r3.trans ((a2.1 20 (by decide)).trans (a1.1 20 (by decide))).symm)), (((a2.1 4 (by decide)).trans (a1.1 4 (by decide))).trans (r4.trans ((a2.1 21 (by decide)).trans (a1.1 21 (by decide))).symm)), (((a2.1 5 (by decide)).trans (a1.1 5 (by decide))).trans (r5.trans ((a2.1 22 (by decide)).trans (a1.1 22 (by decide))).symm)), (((a2.1 6 (by decide)).trans (a1.1 6 (by decide))).trans (r6.trans ((a2.1 23 (by decide)).trans (a1.1 23 (by decide))).symm)), (((a2.2 24 (by decide)).trans (a1.2 24 (by decide))).trans (r24.trans ((a2.2 101 (by decide)).trans (a1.2 101 (by decide))).symm)), (((a2.2 25 (by decide)).trans (a1.2 25 (by decide))).trans (r25.trans ((a2.2 102 (by decide)).trans (a1.2 102 (by decide))).symm)), (((a2.2 31 (by decide)).trans (a1.2 31 (by decide))).trans (r31.trans ((a2.2 108 (by decide)).trans (a1.2 108 (by decide))).symm)), (((a2.2 41 (by decide)).trans (a1.2 41 (by decide))).trans (r41.trans ((a2.2 116 (by decide)).trans (a1.2 116 (by decide))).symm)), (((a2.2 42 (by decide)).trans (a1.2 42 (by decide))).trans (r42.trans ((a2.2 117 (by decide)).trans (a1.2 117 (by decide))).symm)), (fun j hj => by rw [a2.2 55 (by decide), q1, q2, a1.2 134 (by decide)]; exact upd_cong (r55 j hj))⟩, y1.trans y2.symm⟩
set_option maxRecDepth 10000 in
set_option maxHeartbeats 1000000 in
theorem b_lay {σ σ1 σ2 : ST} {t f n r1 r2 : Int32} (h : INV σ) (s : sX_lay σ t f n r1 σ1) (m : sM_lay σ1 t f n r2 σ2) : INV σ2 ∧ r1 = r2 := by
  obtain ⟨iv, im, tv, rr⟩ := h
  have n0 : (0 : Int32).toInt = 0 := by decide
  have nm1 : (-1 : Int32).toInt = -1 := by decide
  have n9999 : (9999 : Int32).toInt = 9999 := by decide
  have g2 := ixi_2 iv
  have g3 := ixi_3 iv
  have g4 := ixi_4 iv
  have g5 := ixi_5 iv
  have g6 := ixi_6 iv
  obtain ⟨r2, r3, r4, r5, r6, r24, r25, r31, r41, r42, r55⟩ := id rr
  have i3 := congrArg Int32.toInt r3
  have i6 := congrArg Int32.toInt r6
  rcases s with ⟨c1, y1, z1⟩ | ⟨c1, c2, y1, z1⟩ | ⟨c1, c2, w1, q1⟩
  · have k134 : σ1.2 134 = σ.2 134 := by rw [z1]
    have kt : (0 ≤ t.toInt ∧ t.toInt < 4) → (σ1.2 134 (t).toNatClampNeg).toInt = (σ.2 55 (t).toNatClampNeg).toInt := fun q => by rw [k134, r55 _ (by have := cnat q.1; omega)]
    have g55 : (0 ≤ t.toInt ∧ t.toInt < 4) → -1 ≤ (σ.2 55 (t).toNatClampNeg).toInt := fun q => (ixa_55 iv _ (by have := cnat q.1; omega)).1
    rcases m with ⟨d1, y2, z2⟩ | ⟨d1, d2, y2, z2⟩ | ⟨d1, d2, w2, q2⟩
    · subst z1
      subst z2
      exact ⟨⟨iv, im, tv, rr⟩, y1.trans y2.symm⟩
    · exfalso
      omega
    · exfalso
      omega
  · have k134 : σ1.2 134 = σ.2 134 := by rw [z1]
    have kt : (0 ≤ t.toInt ∧ t.toInt < 4) → (σ1.2 134 (t).toNatClampNeg).toInt = (σ.2 55 (t).toNatClampNeg).toInt := fun q => by rw [k134, r55 _ (by have := cnat q.1; omega)]
    have g55 : (0 ≤ t.toInt ∧ t.toInt < 4) → -1 ≤ (σ.2 55 (t).toNatClampNeg).toInt := fun q => (ixa_55 iv _ (by have := cnat q.1; omega)).1
    rcases m with ⟨d1, y2, z2⟩ | ⟨d1, d2, y2, z2⟩ | ⟨d1, d2, w2, q2⟩
    · exfalso
      omega
    · subst z1
      subst z2
      exact ⟨⟨iv, im, tv, rr⟩, y1.trans y2.symm⟩
    · exfalso
      omega
  · have a1 := w1.2
    have k23 := congrArg Int32.toInt (a1.1 23 (by decide))
    have k134 : σ1.2 134 = σ.2 134 := a1.2 134 (by decide)
    have kt : (0 ≤ t.toInt ∧ t.toInt < 4) → (σ1.2 134 (t).toNatClampNeg).toInt = (σ.2 55 (t).toNatClampNeg).toInt := fun q => by rw [k134, r55 _ (by have := cnat q.1; omega)]
    have g55 : (0 ≤ t.toInt ∧ t.toInt < 4) → -1 ≤ (σ.2 55 (t).toNatClampNeg).toInt := fun q => (ixa_55 iv _ (by have := cnat q.1; omega)).1
    rcases m with ⟨d1, y2, z2⟩ | ⟨d1, d2, y2, z2⟩ | ⟨d1, d2, w2, q2⟩
    · exfalso
      omega
    · exfalso
      omega
    · have a2 := w2.2
      rw [kt c1.1, k23, ← i6] at q2
      have e := Prod.mk.inj (q1.trans q2.symm)
      have z6 := a2.1 6 (by decide)
      have e6 : σ2.1 6 = σ2.1 23 := z6.trans (Int32.toInt_inj.mp e.2)
      exact ⟨⟨w2.1, (IM_e ((a2.1 20 (by decide)).trans (a1.1 20 (by decide))) ((a2.1 21 (by decide)).trans (a1.1 21 (by decide))) ((a2.2 108 (by decide)).trans (a1.2 108 (by decide))) ((a2.2 111 (by decide)).trans (a1.2 111 (by decide))) ((a2.2 112 (by decide)).trans (a1.2 112 (by decide))) im), (TV_e ((a2.2 109 (by decide)).trans (a1.2 109 (by decide))) ((a2.2 110 (by decide)).trans (a1.2 110 (by decide))) tv), (((a2.1 2 (by decide)).trans (a1.1 2 (by decide))).trans (r2.trans ((a2.1 19 (by decide)).trans (a1.1 19 (by decide))).symm)), (((a2.1 3 (by decide)).trans (a1.1 3 (by decide))).trans (r3.trans ((a2.1 20 (by decide)).trans (a1.1 20 (by decide))).symm)), (((a2.1 4 (by decide)).trans (a1.1 4 (by decide))).trans (r4.trans ((a2.1 21 (by decide)).trans (a1.1 21 (by decide))).symm)), (((a2.1 5 (by decide)).trans (a1.1 5 (by decide))).trans (r5.trans ((a2.1 22 (by decide)).trans (a1.1 22 (by decide))).symm)), e6, (((a2.2 24 (by decide)).trans (a1.2 24 (by decide))).trans (r24.trans ((a2.2 101 (by decide)).trans (a1.2 101 (by decide))).symm)), (((a2.2 25 (by decide)).trans (a1.2 25 (by decide))).trans (r25.trans ((a2.2 102 (by decide)).trans (a1.2 102 (by decide))).symm)), (((a2.2 31 (by decide)).trans (a1.2 31 (by decide))).trans (r31.trans ((a2.2 108 (by decide)).trans (a1.2 108 (by decide))).symm)), (((a2.2 41 (by decide)).trans (a1.2 41 (by decide))).trans (r41.trans ((a2.2 116 (by decide)).trans (a1.2 116 (by decide))).symm)), (((a2.2 42 (by decide)).trans (a1.2 42 (by decide))).trans (r42.trans ((a2.2 117 (by decide)).trans (a1.2 117 (by decide))).symm)), (fun j hj => by rw [((a2.2 55 (by decide)).trans (a1.2 55 (by decide))), ((a2.2 134 (by decide)).trans (a1.2 134 (by decide)))]; exact r55 j hj)⟩, Int32.toInt_inj.mp e.1⟩
set_option maxRecDepth 10000 in
set_option maxHeartbeats 1000000 in
theorem b_post {σ σ1 σ2 : ST} {a b u v r1 r2 : Int32} (h : INV σ) (s : sX_post σ a b u v r1 σ1) (m : sM_post σ1 a b u v r2 σ2) : INV σ2 ∧ r1 = r2 := by
  obtain ⟨iv, im, tv, rr⟩ := h
  have n0 : (0 : Int32).toInt = 0 := by decide
  have nm1 : (-1 : Int32).toInt = -1 := by decide
  have n9999 : (9999 : Int32).toInt = 9999 := by decide
  have g2 := ixi_2 iv
  have g3 := ixi_3 iv
  have g4 := ixi_4 iv
  have g5 := ixi_5 iv
  have g6 := ixi_6 iv
  obtain ⟨r2, r3, r4, r5, r6, r24, r25, r31, r41, r42, r55⟩ := id rr
  have i3 := congrArg Int32.toInt r3
  have i6 := congrArg Int32.toInt r6
  have qx := a_post iv s
  have a1 := qx.2
  have qm : IV σ2 ∧ Ag noI mpA σ1 σ2 := by
    rcases m with ⟨c1, y1, z1⟩ | ⟨c1, y1, z1⟩
    · rw [z1]
      exact ⟨ixt_n (ixt_n qx.1 (by decide)) (by decide), Ag_setA (Ag_setA (Ag_rfl _) (by decide)) (by decide)⟩
    · rw [z1]
      exact ⟨qx.1, Ag_rfl _⟩
  have a2 := qm.2
  refine ⟨⟨qm.1, (IM_e ((a2.1 20 (by decide)).trans (a1.1 20 (by decide))) ((a2.1 21 (by decide)).trans (a1.1 21 (by decide))) ((a2.2 108 (by decide)).trans (a1.2 108 (by decide))) ((a2.2 111 (by decide)).trans (a1.2 111 (by decide))) ((a2.2 112 (by decide)).trans (a1.2 112 (by decide))) im), (TV_e ((a2.2 109 (by decide)).trans (a1.2 109 (by decide))) ((a2.2 110 (by decide)).trans (a1.2 110 (by decide))) tv), (((a2.1 2 (by decide)).trans (a1.1 2 (by decide))).trans (r2.trans ((a2.1 19 (by decide)).trans (a1.1 19 (by decide))).symm)), (((a2.1 3 (by decide)).trans (a1.1 3 (by decide))).trans (r3.trans ((a2.1 20 (by decide)).trans (a1.1 20 (by decide))).symm)), (((a2.1 4 (by decide)).trans (a1.1 4 (by decide))).trans (r4.trans ((a2.1 21 (by decide)).trans (a1.1 21 (by decide))).symm)), (((a2.1 5 (by decide)).trans (a1.1 5 (by decide))).trans (r5.trans ((a2.1 22 (by decide)).trans (a1.1 22 (by decide))).symm)), (((a2.1 6 (by decide)).trans (a1.1 6 (by decide))).trans (r6.trans ((a2.1 23 (by decide)).trans (a1.1 23 (by decide))).symm)), (((a2.2 24 (by decide)).trans (a1.2 24 (by decide))).trans (r24.trans ((a2.2 101 (by decide)).trans (a1.2 101 (by decide))).symm)), (((a2.2 25 (by decide)).trans (a1.2 25 (by decide))).trans (r25.trans ((a2.2 102 (by decide)).trans (a1.2 102 (by decide))).symm)), (((a2.2 31 (by decide)).trans (a1.2 31 (by decide))).trans (r31.trans ((a2.2 108 (by decide)).trans (a1.2 108 (by decide))).symm)), (((a2.2 41 (by decide)).trans (a1.2 41 (by decide))).trans (r41.trans ((a2.2 116 (by decide)).trans (a1.2 116 (by decide))).symm)), (((a2.2 42 (by decide)).trans (a1.2 42 (by decide))).trans (r42.trans ((a2.2 117 (by decide)).trans (a1.2 117 (by decide))).symm)), (fun j hj => by rw [((a2.2 55 (by decide)).trans (a1.2 55 (by decide))), ((a2.2 134 (by decide)).trans (a1.2 134 (by decide)))]; exact r55 j hj)⟩, ?_⟩
  rcases s with ⟨c1, y1, -⟩ | ⟨c1, y1, -⟩ <;> rcases m with ⟨d1, y2, -⟩ | ⟨d1, y2, -⟩
  · exact y1.trans y2.symm
  · exact absurd c1 d1
  · exact absurd d1 c1
  · exact y1.trans y2.symm
set_option maxRecDepth 10000 in
set_option maxHeartbeats 1000000 in
theorem b_cell {σ σ1 σ2 : ST} {t i v r1 r2 : Int32} (h : INV σ) (s : sX_cell σ t i v r1 σ1) (m : sM_cell σ1 t i v r2 σ2) : INV σ2 ∧ r1 = r2 := by
  obtain ⟨iv, im, tv, rr⟩ := h
  have n0 : (0 : Int32).toInt = 0 := by decide
  have nm1 : (-1 : Int32).toInt = -1 := by decide
  have n9999 : (9999 : Int32).toInt = 9999 := by decide
  have g2 := ixi_2 iv
  have g3 := ixi_3 iv
  have g4 := ixi_4 iv
  have g5 := ixi_5 iv
  have g6 := ixi_6 iv
  obtain ⟨r2, r3, r4, r5, r6, r24, r25, r31, r41, r42, r55⟩ := id rr
  have i3 := congrArg Int32.toInt r3
  have i6 := congrArg Int32.toInt r6
  have qx := a_cell iv s
  have a1 := qx.2
  have qm : IV σ2 ∧ Ag noI trA σ1 σ2 := by
    rcases m with ⟨c1, y1, z1⟩ | ⟨c1, y1, z1⟩ | ⟨c1, y1, z1⟩ | ⟨c1, y1, z1⟩
    · rw [z1]
      exact ⟨qx.1, Ag_rfl _⟩
    · rw [z1]
      exact ⟨qx.1, Ag_rfl _⟩
    · rw [z1]
      exact ⟨qx.1, Ag_rfl _⟩
    · rw [z1]
      exact ⟨ixt_135 qx.1 (and255 _).1 (and255 _).2, Ag_setA (Ag_rfl _) (by decide)⟩
  have a2 := qm.2
  have k134 : σ1.2 134 = σ.2 134 := a1.2 134 (by decide)
  have kt : (0 ≤ t.toInt ∧ t.toInt < 4) → (σ1.2 134 (t).toNatClampNeg).toInt = (σ.2 55 (t).toNatClampNeg).toInt := fun q => by rw [k134, r55 _ (by have := cnat q.1; omega)]
  have g55 : (0 ≤ t.toInt ∧ t.toInt < 4) → -1 ≤ (σ.2 55 (t).toNatClampNeg).toInt := fun q => (ixa_55 iv _ (by have := cnat q.1; omega)).1
  refine ⟨⟨qm.1, (IM_e ((a2.1 20 (by decide)).trans (a1.1 20 (by decide))) ((a2.1 21 (by decide)).trans (a1.1 21 (by decide))) ((a2.2 108 (by decide)).trans (a1.2 108 (by decide))) ((a2.2 111 (by decide)).trans (a1.2 111 (by decide))) ((a2.2 112 (by decide)).trans (a1.2 112 (by decide))) im), (TV_e ((a2.2 109 (by decide)).trans (a1.2 109 (by decide))) ((a2.2 110 (by decide)).trans (a1.2 110 (by decide))) tv), (((a2.1 2 (by decide)).trans (a1.1 2 (by decide))).trans (r2.trans ((a2.1 19 (by decide)).trans (a1.1 19 (by decide))).symm)), (((a2.1 3 (by decide)).trans (a1.1 3 (by decide))).trans (r3.trans ((a2.1 20 (by decide)).trans (a1.1 20 (by decide))).symm)), (((a2.1 4 (by decide)).trans (a1.1 4 (by decide))).trans (r4.trans ((a2.1 21 (by decide)).trans (a1.1 21 (by decide))).symm)), (((a2.1 5 (by decide)).trans (a1.1 5 (by decide))).trans (r5.trans ((a2.1 22 (by decide)).trans (a1.1 22 (by decide))).symm)), (((a2.1 6 (by decide)).trans (a1.1 6 (by decide))).trans (r6.trans ((a2.1 23 (by decide)).trans (a1.1 23 (by decide))).symm)), (((a2.2 24 (by decide)).trans (a1.2 24 (by decide))).trans (r24.trans ((a2.2 101 (by decide)).trans (a1.2 101 (by decide))).symm)), (((a2.2 25 (by decide)).trans (a1.2 25 (by decide))).trans (r25.trans ((a2.2 102 (by decide)).trans (a1.2 102 (by decide))).symm)), (((a2.2 31 (by decide)).trans (a1.2 31 (by decide))).trans (r31.trans ((a2.2 108 (by decide)).trans (a1.2 108 (by decide))).symm)), (((a2.2 41 (by decide)).trans (a1.2 41 (by decide))).trans (r41.trans ((a2.2 116 (by decide)).trans (a1.2 116 (by decide))).symm)), (((a2.2 42 (by decide)).trans (a1.2 42 (by decide))).trans (r42.trans ((a2.2 117 (by decide)).trans (a1.2 117 (by decide))).symm)), (fun j hj => by rw [((a2.2 55 (by decide)).trans (a1.2 55 (by decide))), ((a2.2 134 (by decide)).trans (a1.2 134 (by decide)))]; exact r55 j hj)⟩, ?_⟩
  rcases s with ⟨c1, y1, -⟩ | ⟨⟨c1, c2⟩, y1, -⟩ | ⟨⟨c1, c2, c3⟩, y1, -⟩ | ⟨⟨c1, c2, c3⟩, y1, -⟩ <;> rcases m with ⟨d1, y2, -⟩ | ⟨⟨d1, d2⟩, y2, -⟩ | ⟨⟨d1, d2, d3⟩, y2, -⟩ | ⟨⟨d1, d2, d3⟩, y2, -⟩ <;> first | exact y1.trans y2.symm | (exfalso; omega)
theorem takP_one {L : Int} {K W : Nat → Int32} {a k r r2 : Int32} (h : takP L K W a k r) (h2 : takP L K W a k r2) : r = r2 := by
  rcases h with ⟨c1, y1⟩ | ⟨c1, c2, y1⟩ | ⟨c1, c2, c3, y1⟩ | ⟨c1, c2, c3, y1⟩ <;> rcases h2 with ⟨d1, y2⟩ | ⟨d1, d2, y2⟩ | ⟨d1, d2, d3, y2⟩ | ⟨d1, d2, d3, y2⟩ <;> first | exact y1.trans y2.symm | exact absurd c1 d1 | exact absurd d1 c1 | exact absurd c2 d2 | exact absurd d2 c2 | exact absurd c3 d3 | exact absurd d3 c3
theorem b_taken {σ σ1 σ2 : ST} {a k r1 r2 : Int32} (h : INV σ) (s : σ1 = σ ∧ takP (σ.1 3).toInt (σ.2 24) (σ.2 25) a k r1) (m : σ2 = σ1 ∧ takP (σ1.1 20).toInt (σ1.2 101) (σ1.2 102) a k r2) : INV σ2 ∧ r1 = r2 := by
  obtain ⟨rfl, s⟩ := s
  obtain ⟨rfl, m⟩ := m
  have rr := h.2.2.2
  rw [rr.2.1, rr.2.2.2.2.2.1, rr.2.2.2.2.2.2.1] at s
  exact ⟨h, takP_one s m⟩
theorem cntP_one {p l b t h : Int32} {lost : Int} {x r r2 : Int32} (h1 : cntP p l b t h lost x r) (h2 : cntP p l b t h lost x r2) : r = r2 := by
  have n0 : (0 : Int32).toInt = 0 := by decide
  have n1 : (1 : Int32).toInt = 1 := by decide
  have n2 : (2 : Int32).toInt = 2 := by decide
  have n3 : (3 : Int32).toInt = 3 := by decide
  have n4 : (4 : Int32).toInt = 4 := by decide
  have n5 : (5 : Int32).toInt = 5 := by decide
  rcases h1 with ⟨c1, y1⟩ | ⟨c1, y1⟩ | ⟨c1, y1⟩ | ⟨c1, y1⟩ | ⟨c1, y1⟩ | ⟨c1, y1⟩ | ⟨c1, y1⟩ <;> rcases h2 with ⟨d1, y2⟩ | ⟨d1, y2⟩ | ⟨d1, y2⟩ | ⟨d1, y2⟩ | ⟨d1, y2⟩ | ⟨d1, y2⟩ | ⟨d1, y2⟩ <;> first | exact y1.trans y2.symm | exact Int32.toInt_inj.mp (y1.trans y2.symm) | (exfalso; rw [c1] at d1; exact absurd d1 (by decide)) | (exfalso; rw [d1] at c1; omega) | (exfalso; rw [c1] at d1; omega)
theorem b_count {σ σ1 σ2 : ST} {x r1 r2 : Int32} (h : INV σ) (s : σ1 = σ ∧ cntP (σ.1 2) (σ.1 3) (σ.1 4) (σ.1 6) (σ.1 5) (lostN (σ.2 24) (σ.2 31) (σ.1 3).toNatClampNeg) x r1) (m : σ2 = σ1 ∧ cntP (σ1.1 19) (σ1.1 20) (σ1.1 21) (σ1.1 23) (σ1.1 22) (lostN (σ1.2 101) (σ1.2 108) (σ1.1 20).toNatClampNeg) x r2) : INV σ2 ∧ r1 = r2 := by
  obtain ⟨rfl, s⟩ := s
  obtain ⟨rfl, m⟩ := m
  obtain ⟨r2', r3, r4, r5, r6, r24, r25, r31, -⟩ := h.2.2.2
  rw [r2', r3, r4, r5, r6, r24, r31] at s
  exact ⟨h, cntP_one s m⟩
