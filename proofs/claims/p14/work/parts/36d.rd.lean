/-- class and reference hold the same, of what is told of PERSONS, LETTERS, BOUNDS, HANDS and POSTS (but the DAYS of PERSONS) -/
def RD (σ : ST) : Prop := σ.2 19 = σ.2 96 ∧ σ.2 20 = σ.2 97 ∧ σ.2 26 = σ.2 103 ∧ σ.2 27 = σ.2 104 ∧ σ.2 28 = σ.2 105 ∧ σ.2 29 = σ.2 106 ∧ σ.2 30 = σ.2 107 ∧ σ.2 35 = σ.2 111 ∧ σ.2 36 = σ.2 112 ∧ σ.2 37 = σ.2 113 ∧ σ.2 40 = σ.2 118
theorem RD_e {σ σ2 : ST} (h19 : σ2.2 19 = σ.2 19) (h96 : σ2.2 96 = σ.2 96) (h20 : σ2.2 20 = σ.2 20) (h97 : σ2.2 97 = σ.2 97) (h26 : σ2.2 26 = σ.2 26) (h103 : σ2.2 103 = σ.2 103) (h27 : σ2.2 27 = σ.2 27) (h104 : σ2.2 104 = σ.2 104) (h28 : σ2.2 28 = σ.2 28) (h105 : σ2.2 105 = σ.2 105) (h29 : σ2.2 29 = σ.2 29) (h106 : σ2.2 106 = σ.2 106) (h30 : σ2.2 30 = σ.2 30) (h107 : σ2.2 107 = σ.2 107) (h35 : σ2.2 35 = σ.2 35) (h111 : σ2.2 111 = σ.2 111) (h36 : σ2.2 36 = σ.2 36) (h112 : σ2.2 112 = σ.2 112) (h37 : σ2.2 37 = σ.2 37) (h113 : σ2.2 113 = σ.2 113) (h40 : σ2.2 40 = σ.2 40) (h118 : σ2.2 118 = σ.2 118) (h : RD σ) : RD σ2 := by
  unfold RD
  rw [h19, h96, h20, h97, h26, h103, h27, h104, h28, h105, h29, h106, h30, h107, h35, h111, h36, h112, h37, h113, h40, h118]
  exact h
theorem RD_Ag {sI sA : Nat → Prop} {σ σ2 : ST} (a : Ag sI sA σ σ2) (hA : ∀ k : Nat, k ∈ [19, 96, 20, 97, 26, 103, 27, 104, 28, 105, 29, 106, 30, 107, 35, 111, 36, 112, 37, 113, 40, 118] → ¬ sA k) (h : RD σ) : RD σ2 := RD_e (a.2 19 (hA 19 (by decide))) (a.2 96 (hA 96 (by decide))) (a.2 20 (hA 20 (by decide))) (a.2 97 (hA 97 (by decide))) (a.2 26 (hA 26 (by decide))) (a.2 103 (hA 103 (by decide))) (a.2 27 (hA 27 (by decide))) (a.2 104 (hA 104 (by decide))) (a.2 28 (hA 28 (by decide))) (a.2 105 (hA 105 (by decide))) (a.2 29 (hA 29 (by decide))) (a.2 106 (hA 106 (by decide))) (a.2 30 (hA 30 (by decide))) (a.2 107 (hA 107 (by decide))) (a.2 35 (hA 35 (by decide))) (a.2 111 (hA 111 (by decide))) (a.2 36 (hA 36 (by decide))) (a.2 112 (hA 112 (by decide))) (a.2 37 (hA 37 (by decide))) (a.2 113 (hA 113 (by decide))) (a.2 40 (hA 40 (by decide))) (a.2 118 (hA 118 (by decide))) h
theorem RD_WX {σ σ2 : ST} (q : WX σ σ2) (h : RD σ) : RD σ2 := RD_Ag q.2 (by decide) h
theorem RD_WM {σ σ2 : ST} (q : WM σ σ2) (h : RD σ) : RD σ2 := RD_Ag q.2 (by decide) h
set_option maxRecDepth 10000 in
set_option maxHeartbeats 1000000 in
theorem d_person {σ σ1 σ2 : ST} {n q r1 r2 : Int32} (h : INV σ) (rd : RD σ) (s : sX_person σ n q r1 σ1) (m : sM_person σ1 n q r2 σ2) : RD σ2 := by
  obtain ⟨iv, im, tv, rr⟩ := h
  have n0 : (0 : Int32).toInt = 0 := by decide
  have nm1 : (-1 : Int32).toInt = -1 := by decide
  have n9999 : (9999 : Int32).toInt = 9999 := by decide
  have g2 := ixi_2 iv
  have g3 := ixi_3 iv
  have g4 := ixi_4 iv
  have g5 := ixi_5 iv
  have g6 := ixi_6 iv
  obtain ⟨r2, r3, r4, r5, r6, r24, r25, r31, r41, r42, r55⟩ := id rr
  obtain ⟨d19, d20, d26, d27, d28, d29, d30, d35, d36, d37, d40⟩ := id rd
  have i2 := congrArg Int32.toInt r2
  have i3 := congrArg Int32.toInt r3
  have i4 := congrArg Int32.toInt r4
  have i5 := congrArg Int32.toInt r5
  have i6 := congrArg Int32.toInt r6
  rcases s with ⟨c1, ⟨c2, y1, z1⟩ | ⟨c2, y1, z1⟩⟩ | ⟨c1, y1, z1⟩
  · have km : KM σ σ1 := by
      rw [z1]
      exact KM_rfl σ
    have k19 := congrArg Int32.toInt (km.1 19 (by decide))
    have k20 := congrArg Int32.toInt (km.1 20 (by decide))
    have k21 := congrArg Int32.toInt (km.1 21 (by decide))
    have k22 := congrArg Int32.toInt (km.1 22 (by decide))
    have k23 := congrArg Int32.toInt (km.1 23 (by decide))
    rcases m with ⟨d1, y2, z2⟩ | ⟨⟨d1, d2⟩, y2, z2⟩ | ⟨⟨d1, d2⟩, y2, z2⟩
    · exfalso
      omega
    · subst z1
      subst z2
      exact rd
    · exfalso
      omega
  · have km : KM σ σ1 := by
      rw [z1]
      exact (KM_setI (KM_setA (KM_setA (KM_setA (KM_setA (KM_setA (KM_rfl σ) (by decide)) (by decide)) (by decide)) (by decide)) (by decide)) (by decide))
    have k19 := congrArg Int32.toInt (km.1 19 (by decide))
    have k20 := congrArg Int32.toInt (km.1 20 (by decide))
    have k21 := congrArg Int32.toInt (km.1 21 (by decide))
    have k22 := congrArg Int32.toInt (km.1 22 (by decide))
    have k23 := congrArg Int32.toInt (km.1 23 (by decide))
    rcases m with ⟨d1, y2, z2⟩ | ⟨⟨d1, d2⟩, y2, z2⟩ | ⟨⟨d1, d2⟩, y2, z2⟩
    · exfalso
      omega
    · exfalso
      omega
    · subst z1
      subst z2
      exact ⟨(show upd (σ.2 19) (σ.1 2).toNatClampNeg n = upd (σ.2 96) (σ.1 19).toNatClampNeg n by rw [d19, r2]), (show upd (σ.2 20) (σ.1 2).toNatClampNeg q = upd (σ.2 97) (σ.1 19).toNatClampNeg q by rw [d20, r2]), d26, d27, d28, d29, d30, d35, d36, d37, d40⟩
  · have km : KM σ σ1 := by
      rw [z1]
      exact KM_rfl σ
    have k19 := congrArg Int32.toInt (km.1 19 (by decide))
    have k20 := congrArg Int32.toInt (km.1 20 (by decide))
    have k21 := congrArg Int32.toInt (km.1 21 (by decide))
    have k22 := congrArg Int32.toInt (km.1 22 (by decide))
    have k23 := congrArg Int32.toInt (km.1 23 (by decide))
    rcases m with ⟨d1, y2, z2⟩ | ⟨⟨d1, d2⟩, y2, z2⟩ | ⟨⟨d1, d2⟩, y2, z2⟩
    · subst z1
      subst z2
      exact rd
    · exfalso
      omega
    · exfalso
      omega
set_option maxRecDepth 10000 in
set_option maxHeartbeats 1000000 in
theorem d_lived {σ σ1 σ2 : ST} {p a b r1 r2 : Int32} (h : INV σ) (rd : RD σ) (s : sX_lived σ p a b r1 σ1) (m : sM_lived σ1 p a b r2 σ2) : RD σ2 := by
  obtain ⟨iv, im, tv, rr⟩ := h
  have n0 : (0 : Int32).toInt = 0 := by decide
  have nm1 : (-1 : Int32).toInt = -1 := by decide
  have n9999 : (9999 : Int32).toInt = 9999 := by decide
  have g2 := ixi_2 iv
  have g3 := ixi_3 iv
  have g4 := ixi_4 iv
  have g5 := ixi_5 iv
  have g6 := ixi_6 iv
  obtain ⟨r2, r3, r4, r5, r6, r24, r25, r31, r41, r42, r55⟩ := id rr
  obtain ⟨d19, d20, d26, d27, d28, d29, d30, d35, d36, d37, d40⟩ := id rd
  have i2 := congrArg Int32.toInt r2
  have i3 := congrArg Int32.toInt r3
  have i4 := congrArg Int32.toInt r4
  have i5 := congrArg Int32.toInt r5
  have i6 := congrArg Int32.toInt r6
  rcases s with ⟨c1, y1, z1⟩ | ⟨c1, y1, z1⟩
  · have km : KM σ σ1 := by
      rw [z1]
      exact (KM_setA (KM_setA (KM_rfl σ) (by decide)) (by decide))
    have k19 := congrArg Int32.toInt (km.1 19 (by decide))
    have k20 := congrArg Int32.toInt (km.1 20 (by decide))
    have k21 := congrArg Int32.toInt (km.1 21 (by decide))
    have k22 := congrArg Int32.toInt (km.1 22 (by decide))
    have k23 := congrArg Int32.toInt (km.1 23 (by decide))
    rcases m with ⟨d1, y2, z2⟩ | ⟨d1, y2, z2⟩
    · subst z1
      subst z2
      exact ⟨d19, d20, d26, d27, d28, d29, d30, d35, d36, d37, d40⟩
    · subst z1
      subst z2
      exact ⟨d19, d20, d26, d27, d28, d29, d30, d35, d36, d37, d40⟩
  · have km : KM σ σ1 := by
      rw [z1]
      exact KM_rfl σ
    have k19 := congrArg Int32.toInt (km.1 19 (by decide))
    have k20 := congrArg Int32.toInt (km.1 20 (by decide))
    have k21 := congrArg Int32.toInt (km.1 21 (by decide))
    have k22 := congrArg Int32.toInt (km.1 22 (by decide))
    have k23 := congrArg Int32.toInt (km.1 23 (by decide))
    rcases m with ⟨d1, y2, z2⟩ | ⟨d1, y2, z2⟩
    · exfalso
      omega
    · subst z1
      subst z2
      exact rd
set_option maxRecDepth 10000 in
set_option maxHeartbeats 1000000 in
theorem d_knows {σ σ1 σ2 : ST} {a b d r1 r2 : Int32} (hd : d = 0 ∨ d = 1) (h : INV σ) (rd : RD σ) (s : sX_knows σ a b d r1 σ1) (m : sM_knows σ1 a b d r2 σ2) : RD σ2 := by
  obtain ⟨iv, im, tv, rr⟩ := h
  have n0 : (0 : Int32).toInt = 0 := by decide
  have nm1 : (-1 : Int32).toInt = -1 := by decide
  have n9999 : (9999 : Int32).toInt = 9999 := by decide
  have g2 := ixi_2 iv
  have g3 := ixi_3 iv
  have g4 := ixi_4 iv
  have g5 := ixi_5 iv
  have g6 := ixi_6 iv
  obtain ⟨r2, r3, r4, r5, r6, r24, r25, r31, r41, r42, r55⟩ := id rr
  obtain ⟨d19, d20, d26, d27, d28, d29, d30, d35, d36, d37, d40⟩ := id rd
  have i2 := congrArg Int32.toInt r2
  have i3 := congrArg Int32.toInt r3
  have i4 := congrArg Int32.toInt r4
  have i5 := congrArg Int32.toInt r5
  have i6 := congrArg Int32.toInt r6
  rcases s with ⟨c1, y1, z1⟩ | ⟨c1, y1, z1⟩
  · have km : KM σ σ1 := by
      rw [z1]
      exact (KM_setA (KM_rfl σ) (by decide))
    have k19 := congrArg Int32.toInt (km.1 19 (by decide))
    have k20 := congrArg Int32.toInt (km.1 20 (by decide))
    have k21 := congrArg Int32.toInt (km.1 21 (by decide))
    have k22 := congrArg Int32.toInt (km.1 22 (by decide))
    have k23 := congrArg Int32.toInt (km.1 23 (by decide))
    rcases m with ⟨d1, y2, z2⟩ | ⟨d1, y2, z2⟩
    · exfalso
      omega
    · subst z1
      subst z2
      exact ⟨d19, d20, d26, d27, d28, d29, d30, d35, d36, d37, d40⟩
  · have km : KM σ σ1 := by
      rw [z1]
      exact KM_rfl σ
    have k19 := congrArg Int32.toInt (km.1 19 (by decide))
    have k20 := congrArg Int32.toInt (km.1 20 (by decide))
    have k21 := congrArg Int32.toInt (km.1 21 (by decide))
    have k22 := congrArg Int32.toInt (km.1 22 (by decide))
    have k23 := congrArg Int32.toInt (km.1 23 (by decide))
    rcases m with ⟨d1, y2, z2⟩ | ⟨d1, y2, z2⟩
    · subst z1
      subst z2
      exact rd
    · exfalso
      omega
set_option maxRecDepth 10000 in
set_option maxHeartbeats 1000000 in
theorem d_letter {σ σ1 σ2 : ST} {k a b q r1 r2 : Int32} (h : INV σ) (rd : RD σ) (s : sX_letter σ k a b q r1 σ1) (m : sM_letter σ1 k a b q r2 σ2) : RD σ2 := by
  obtain ⟨iv, im, tv, rr⟩ := h
  have n0 : (0 : Int32).toInt = 0 := by decide
  have nm1 : (-1 : Int32).toInt = -1 := by decide
  have n9999 : (9999 : Int32).toInt = 9999 := by decide
  have g2 := ixi_2 iv
  have g3 := ixi_3 iv
  have g4 := ixi_4 iv
  have g5 := ixi_5 iv
  have g6 := ixi_6 iv
  obtain ⟨r2, r3, r4, r5, r6, r24, r25, r31, r41, r42, r55⟩ := id rr
  obtain ⟨d19, d20, d26, d27, d28, d29, d30, d35, d36, d37, d40⟩ := id rd
  have i2 := congrArg Int32.toInt r2
  have i3 := congrArg Int32.toInt r3
  have i4 := congrArg Int32.toInt r4
  have i5 := congrArg Int32.toInt r5
  have i6 := congrArg Int32.toInt r6
  rcases s with ⟨c1, ⟨c2, y1, z1⟩ | ⟨c2, y1, z1⟩⟩ | ⟨c1, y1, z1⟩
  · have km : KM σ σ1 := by
      rw [z1]
      exact KM_rfl σ
    have k19 := congrArg Int32.toInt (km.1 19 (by decide))
    have k20 := congrArg Int32.toInt (km.1 20 (by decide))
    have k21 := congrArg Int32.toInt (km.1 21 (by decide))
    have k22 := congrArg Int32.toInt (km.1 22 (by decide))
    have k23 := congrArg Int32.toInt (km.1 23 (by decide))
    rcases m with ⟨d1, y2, z2⟩ | ⟨⟨d1, d2⟩, y2, z2⟩ | ⟨⟨d1, d2⟩, y2, z2⟩
    · exfalso
      omega
    · subst z1
      subst z2
      exact rd
    · exfalso
      omega
  · have km : KM σ σ1 := by
      rw [z1]
      exact (KM_setI (KM_setA (KM_setA (KM_setA (KM_setA (KM_setA (KM_setA (KM_setA (KM_setA (KM_setA (KM_rfl σ) (by decide)) (by decide)) (by decide)) (by decide)) (by decide)) (by decide)) (by decide)) (by decide)) (by decide)) (by decide))
    have k19 := congrArg Int32.toInt (km.1 19 (by decide))
    have k20 := congrArg Int32.toInt (km.1 20 (by decide))
    have k21 := congrArg Int32.toInt (km.1 21 (by decide))
    have k22 := congrArg Int32.toInt (km.1 22 (by decide))
    have k23 := congrArg Int32.toInt (km.1 23 (by decide))
    rcases m with ⟨d1, y2, z2⟩ | ⟨⟨d1, d2⟩, y2, z2⟩ | ⟨⟨d1, d2⟩, y2, z2⟩
    · exfalso
      omega
    · exfalso
      omega
    · subst z1
      subst z2
      exact ⟨d19, d20, (show upd (σ.2 26) (σ.1 3).toNatClampNeg b = upd (σ.2 103) (σ.1 20).toNatClampNeg b by rw [d26, r3]), (show upd (σ.2 27) (σ.1 3).toNatClampNeg q = upd (σ.2 104) (σ.1 20).toNatClampNeg q by rw [d27, r3]), (show upd (σ.2 28) (σ.1 3).toNatClampNeg 0 = upd (σ.2 105) (σ.1 20).toNatClampNeg 0 by rw [d28, r3]), (show upd (σ.2 29) (σ.1 3).toNatClampNeg 9999 = upd (σ.2 106) (σ.1 20).toNatClampNeg 9999 by rw [d29, r3]), (show upd (σ.2 30) (σ.1 3).toNatClampNeg (-1) = upd (σ.2 107) (σ.1 20).toNatClampNeg (-1) by rw [d30, r3]), d35, d36, d37, d40⟩
  · have km : KM σ σ1 := by
      rw [z1]
      exact KM_rfl σ
    have k19 := congrArg Int32.toInt (km.1 19 (by decide))
    have k20 := congrArg Int32.toInt (km.1 20 (by decide))
    have k21 := congrArg Int32.toInt (km.1 21 (by decide))
    have k22 := congrArg Int32.toInt (km.1 22 (by decide))
    have k23 := congrArg Int32.toInt (km.1 23 (by decide))
    rcases m with ⟨d1, y2, z2⟩ | ⟨⟨d1, d2⟩, y2, z2⟩ | ⟨⟨d1, d2⟩, y2, z2⟩
    · subst z1
      subst z2
      exact rd
    · exfalso
      omega
    · exfalso
      omega
set_option maxRecDepth 10000 in
set_option maxHeartbeats 1000000 in
theorem d_days {σ σ1 σ2 : ST} {x a b r1 r2 : Int32} (h : INV σ) (rd : RD σ) (s : sX_days σ x a b r1 σ1) (m : sM_days σ1 x a b r2 σ2) : RD σ2 := by
  obtain ⟨iv, im, tv, rr⟩ := h
  have n0 : (0 : Int32).toInt = 0 := by decide
  have nm1 : (-1 : Int32).toInt = -1 := by decide
  have n9999 : (9999 : Int32).toInt = 9999 := by decide
  have g2 := ixi_2 iv
  have g3 := ixi_3 iv
  have g4 := ixi_4 iv
  have g5 := ixi_5 iv
  have g6 := ixi_6 iv
  obtain ⟨r2, r3, r4, r5, r6, r24, r25, r31, r41, r42, r55⟩ := id rr
  obtain ⟨d19, d20, d26, d27, d28, d29, d30, d35, d36, d37, d40⟩ := id rd
  have i2 := congrArg Int32.toInt r2
  have i3 := congrArg Int32.toInt r3
  have i4 := congrArg Int32.toInt r4
  have i5 := congrArg Int32.toInt r5
  have i6 := congrArg Int32.toInt r6
  rcases s with ⟨c1, y1, z1⟩ | ⟨c1, y1, z1⟩
  · have km : KM σ σ1 := by
      rw [z1]
      exact (KM_setA (KM_setA (KM_rfl σ) (by decide)) (by decide))
    have k19 := congrArg Int32.toInt (km.1 19 (by decide))
    have k20 := congrArg Int32.toInt (km.1 20 (by decide))
    have k21 := congrArg Int32.toInt (km.1 21 (by decide))
    have k22 := congrArg Int32.toInt (km.1 22 (by decide))
    have k23 := congrArg Int32.toInt (km.1 23 (by decide))
    rcases m with ⟨d1, y2, z2⟩ | ⟨d1, y2, z2⟩
    · subst z1
      subst z2
      exact ⟨d19, d20, d26, d27, (show upd (σ.2 28) (x).toNatClampNeg a = upd (σ.2 105) (x).toNatClampNeg a by rw [d28]), (show upd (σ.2 29) (x).toNatClampNeg b = upd (σ.2 106) (x).toNatClampNeg b by rw [d29]), d30, d35, d36, d37, d40⟩
    · exfalso
      omega
  · have km : KM σ σ1 := by
      rw [z1]
      exact KM_rfl σ
    have k19 := congrArg Int32.toInt (km.1 19 (by decide))
    have k20 := congrArg Int32.toInt (km.1 20 (by decide))
    have k21 := congrArg Int32.toInt (km.1 21 (by decide))
    have k22 := congrArg Int32.toInt (km.1 22 (by decide))
    have k23 := congrArg Int32.toInt (km.1 23 (by decide))
    rcases m with ⟨d1, y2, z2⟩ | ⟨d1, y2, z2⟩
    · exfalso
      omega
    · subst z1
      subst z2
      exact rd
set_option maxRecDepth 10000 in
set_option maxHeartbeats 1000000 in
theorem d_week {σ σ1 σ2 : ST} {x a r1 r2 : Int32} (h : INV σ) (rd : RD σ) (s : sX_week σ x a r1 σ1) (m : sM_week σ1 x a r2 σ2) : RD σ2 := by
  obtain ⟨iv, im, tv, rr⟩ := h
  have n0 : (0 : Int32).toInt = 0 := by decide
  have nm1 : (-1 : Int32).toInt = -1 := by decide
  have n9999 : (9999 : Int32).toInt = 9999 := by decide
  have g2 := ixi_2 iv
  have g3 := ixi_3 iv
  have g4 := ixi_4 iv
  have g5 := ixi_5 iv
  have g6 := ixi_6 iv
  obtain ⟨r2, r3, r4, r5, r6, r24, r25, r31, r41, r42, r55⟩ := id rr
  obtain ⟨d19, d20, d26, d27, d28, d29, d30, d35, d36, d37, d40⟩ := id rd
  have i2 := congrArg Int32.toInt r2
  have i3 := congrArg Int32.toInt r3
  have i4 := congrArg Int32.toInt r4
  have i5 := congrArg Int32.toInt r5
  have i6 := congrArg Int32.toInt r6
  rcases s with ⟨c1, y1, z1⟩ | ⟨c1, y1, z1⟩
  · have km : KM σ σ1 := by
      rw [z1]
      exact (KM_setA (KM_rfl σ) (by decide))
    have k19 := congrArg Int32.toInt (km.1 19 (by decide))
    have k20 := congrArg Int32.toInt (km.1 20 (by decide))
    have k21 := congrArg Int32.toInt (km.1 21 (by decide))
    have k22 := congrArg Int32.toInt (km.1 22 (by decide))
    have k23 := congrArg Int32.toInt (km.1 23 (by decide))
    rcases m with ⟨d1, y2, z2⟩ | ⟨d1, y2, z2⟩
    · subst z1
      subst z2
      exact ⟨d19, d20, d26, d27, d28, d29, (show upd (σ.2 30) (x).toNatClampNeg a = upd (σ.2 107) (x).toNatClampNeg a by rw [d30]), d35, d36, d37, d40⟩
    · exfalso
      omega
  · have km : KM σ σ1 := by
      rw [z1]
      exact KM_rfl σ
    have k19 := congrArg Int32.toInt (km.1 19 (by decide))
    have k20 := congrArg Int32.toInt (km.1 20 (by decide))
    have k21 := congrArg Int32.toInt (km.1 21 (by decide))
    have k22 := congrArg Int32.toInt (km.1 22 (by decide))
    have k23 := congrArg Int32.toInt (km.1 23 (by decide))
    rcases m with ⟨d1, y2, z2⟩ | ⟨d1, y2, z2⟩
    · exfalso
      omega
    · subst z1
      subst z2
      exact rd
set_option maxRecDepth 10000 in
set_option maxHeartbeats 1000000 in
theorem d_bound {σ σ1 σ2 : ST} {a b d r1 r2 : Int32} (h : INV σ) (rd : RD σ) (s : sX_bound σ a b d r1 σ1) (m : sM_bound σ1 a b d r2 σ2) : RD σ2 := by
  obtain ⟨iv, im, tv, rr⟩ := h
  have n0 : (0 : Int32).toInt = 0 := by decide
  have nm1 : (-1 : Int32).toInt = -1 := by decide
  have n9999 : (9999 : Int32).toInt = 9999 := by decide
  have g2 := ixi_2 iv
  have g3 := ixi_3 iv
  have g4 := ixi_4 iv
  have g5 := ixi_5 iv
  have g6 := ixi_6 iv
  obtain ⟨r2, r3, r4, r5, r6, r24, r25, r31, r41, r42, r55⟩ := id rr
  obtain ⟨d19, d20, d26, d27, d28, d29, d30, d35, d36, d37, d40⟩ := id rd
  have i2 := congrArg Int32.toInt r2
  have i3 := congrArg Int32.toInt r3
  have i4 := congrArg Int32.toInt r4
  have i5 := congrArg Int32.toInt r5
  have i6 := congrArg Int32.toInt r6
  rcases s with ⟨c1, ⟨c2, y1, z1⟩ | ⟨c2, y1, z1⟩⟩ | ⟨c1, y1, z1⟩
  · have km : KM σ σ1 := by
      rw [z1]
      exact KM_rfl σ
    have k19 := congrArg Int32.toInt (km.1 19 (by decide))
    have k20 := congrArg Int32.toInt (km.1 20 (by decide))
    have k21 := congrArg Int32.toInt (km.1 21 (by decide))
    have k22 := congrArg Int32.toInt (km.1 22 (by decide))
    have k23 := congrArg Int32.toInt (km.1 23 (by decide))
    rcases m with ⟨d1, y2, z2⟩ | ⟨⟨d1, d2⟩, y2, z2⟩ | ⟨⟨d1, d2⟩, y2, z2⟩
    · exfalso
      omega
    · subst z1
      subst z2
      exact rd
    · exfalso
      omega
  · have km : KM σ σ1 := by
      rw [z1]
      exact (KM_setI (KM_setA (KM_setA (KM_setA (KM_rfl σ) (by decide)) (by decide)) (by decide)) (by decide))
    have k19 := congrArg Int32.toInt (km.1 19 (by decide))
    have k20 := congrArg Int32.toInt (km.1 20 (by decide))
    have k21 := congrArg Int32.toInt (km.1 21 (by decide))
    have k22 := congrArg Int32.toInt (km.1 22 (by decide))
    have k23 := congrArg Int32.toInt (km.1 23 (by decide))
    rcases m with ⟨d1, y2, z2⟩ | ⟨⟨d1, d2⟩, y2, z2⟩ | ⟨⟨d1, d2⟩, y2, z2⟩
    · exfalso
      omega
    · exfalso
      omega
    · subst z1
      subst z2
      exact ⟨d19, d20, d26, d27, d28, d29, d30, (show upd (σ.2 35) (σ.1 4).toNatClampNeg a = upd (σ.2 111) (σ.1 21).toNatClampNeg a by rw [d35, r4]), (show upd (σ.2 36) (σ.1 4).toNatClampNeg b = upd (σ.2 112) (σ.1 21).toNatClampNeg b by rw [d36, r4]), (show upd (σ.2 37) (σ.1 4).toNatClampNeg d = upd (σ.2 113) (σ.1 21).toNatClampNeg d by rw [d37, r4]), d40⟩
  · have km : KM σ σ1 := by
      rw [z1]
      exact KM_rfl σ
    have k19 := congrArg Int32.toInt (km.1 19 (by decide))
    have k20 := congrArg Int32.toInt (km.1 20 (by decide))
    have k21 := congrArg Int32.toInt (km.1 21 (by decide))
    have k22 := congrArg Int32.toInt (km.1 22 (by decide))
    have k23 := congrArg Int32.toInt (km.1 23 (by decide))
    rcases m with ⟨d1, y2, z2⟩ | ⟨⟨d1, d2⟩, y2, z2⟩ | ⟨⟨d1, d2⟩, y2, z2⟩
    · subst z1
      subst z2
      exact rd
    · exfalso
      omega
    · exfalso
      omega
set_option maxRecDepth 10000 in
set_option maxHeartbeats 1000000 in
theorem d_loose {σ σ1 σ2 : ST} {r1 r2 : Int32} (h : INV σ) (rd : RD σ) (s : sX_loose σ r1 σ1) (m : sM_loose σ1 r2 σ2) : RD σ2 := by
  obtain ⟨iv, im, tv, rr⟩ := h
  have n0 : (0 : Int32).toInt = 0 := by decide
  have nm1 : (-1 : Int32).toInt = -1 := by decide
  have n9999 : (9999 : Int32).toInt = 9999 := by decide
  have g2 := ixi_2 iv
  have g3 := ixi_3 iv
  have g4 := ixi_4 iv
  have g5 := ixi_5 iv
  have g6 := ixi_6 iv
  obtain ⟨r2, r3, r4, r5, r6, r24, r25, r31, r41, r42, r55⟩ := id rr
  obtain ⟨d19, d20, d26, d27, d28, d29, d30, d35, d36, d37, d40⟩ := id rd
  have i2 := congrArg Int32.toInt r2
  have i3 := congrArg Int32.toInt r3
  have i4 := congrArg Int32.toInt r4
  have i5 := congrArg Int32.toInt r5
  have i6 := congrArg Int32.toInt r6
  rcases s with ⟨c1, y1, z1⟩ | ⟨c1, y1, z1⟩
  · have km : KM σ σ1 := by
      rw [z1]
      exact KM_rfl σ
    have k19 := congrArg Int32.toInt (km.1 19 (by decide))
    have k20 := congrArg Int32.toInt (km.1 20 (by decide))
    have k21 := congrArg Int32.toInt (km.1 21 (by decide))
    have k22 := congrArg Int32.toInt (km.1 22 (by decide))
    have k23 := congrArg Int32.toInt (km.1 23 (by decide))
    rcases m with ⟨d1, y2, z2⟩ | ⟨d1, y2, z2⟩
    · subst z1
      subst z2
      exact rd
    · exfalso
      omega
  · have km : KM σ σ1 := by
      rw [z1]
      exact (KM_setI (KM_rfl σ) (by decide))
    have k19 := congrArg Int32.toInt (km.1 19 (by decide))
    have k20 := congrArg Int32.toInt (km.1 20 (by decide))
    have k21 := congrArg Int32.toInt (km.1 21 (by decide))
    have k22 := congrArg Int32.toInt (km.1 22 (by decide))
    have k23 := congrArg Int32.toInt (km.1 23 (by decide))
    rcases m with ⟨d1, y2, z2⟩ | ⟨d1, y2, z2⟩
    · exfalso
      omega
    · subst z1
      subst z2
      exact ⟨d19, d20, d26, d27, d28, d29, d30, d35, d36, d37, d40⟩
set_option maxRecDepth 10000 in
set_option maxHeartbeats 1000000 in
theorem d_found {σ σ1 σ2 : ST} {a b r1 r2 : Int32} (h : INV σ) (rd : RD σ) (s : sX_found σ a b r1 σ1) (m : sM_found σ1 a b r2 σ2) : RD σ2 := by
  obtain ⟨iv, im, tv, rr⟩ := h
  have n0 : (0 : Int32).toInt = 0 := by decide
  have nm1 : (-1 : Int32).toInt = -1 := by decide
  have n9999 : (9999 : Int32).toInt = 9999 := by decide
  have g2 := ixi_2 iv
  have g3 := ixi_3 iv
  have g4 := ixi_4 iv
  have g5 := ixi_5 iv
  have g6 := ixi_6 iv
  obtain ⟨r2, r3, r4, r5, r6, r24, r25, r31, r41, r42, r55⟩ := id rr
  obtain ⟨d19, d20, d26, d27, d28, d29, d30, d35, d36, d37, d40⟩ := id rd
  have i2 := congrArg Int32.toInt r2
  have i3 := congrArg Int32.toInt r3
  have i4 := congrArg Int32.toInt r4
  have i5 := congrArg Int32.toInt r5
  have i6 := congrArg Int32.toInt r6
  rcases s with ⟨c1, y1, z1⟩ | ⟨⟨c1, c2⟩, y1, z1⟩ | ⟨⟨c1, c2⟩, y1, z1⟩
  · have km : KM σ σ1 := by
      rw [z1]
      exact KM_rfl σ
    have k19 := congrArg Int32.toInt (km.1 19 (by decide))
    have k20 := congrArg Int32.toInt (km.1 20 (by decide))
    have k21 := congrArg Int32.toInt (km.1 21 (by decide))
    have k22 := congrArg Int32.toInt (km.1 22 (by decide))
    have k23 := congrArg Int32.toInt (km.1 23 (by decide))
    have kb : (σ1.2 101 (b).toNatClampNeg).toInt = (σ.2 24 (b).toNatClampNeg).toInt := by rw [km.2 101 (by decide), r24]
    have ka : (σ1.2 101 (a).toNatClampNeg).toInt = (σ.2 24 (a).toNatClampNeg).toInt := by rw [km.2 101 (by decide), r24]
    have kf : (σ1.2 108 (a).toNatClampNeg).toInt = (σ.2 31 (a).toNatClampNeg).toInt := by rw [km.2 108 (by decide), r31]
    have gg : (0 ≤ a.toInt ∧ a.toInt < (σ.1 3).toInt) → -1 ≤ (σ.2 31 (a).toNatClampNeg).toInt := fun q => (ixa_31 iv _ (by have := cnat q.1; omega)).1
    rcases m with ⟨d1, y2, z2⟩ | ⟨⟨d1, d2⟩, y2, z2⟩ | ⟨⟨d1, d2⟩, y2, z2⟩
    · subst z1
      subst z2
      exact rd
    · exfalso
      omega
    · exfalso
      omega
  · have km : KM σ σ1 := by
      rw [z1]
      exact KM_rfl σ
    have k19 := congrArg Int32.toInt (km.1 19 (by decide))
    have k20 := congrArg Int32.toInt (km.1 20 (by decide))
    have k21 := congrArg Int32.toInt (km.1 21 (by decide))
    have k22 := congrArg Int32.toInt (km.1 22 (by decide))
    have k23 := congrArg Int32.toInt (km.1 23 (by decide))
    have kb : (σ1.2 101 (b).toNatClampNeg).toInt = (σ.2 24 (b).toNatClampNeg).toInt := by rw [km.2 101 (by decide), r24]
    have ka : (σ1.2 101 (a).toNatClampNeg).toInt = (σ.2 24 (a).toNatClampNeg).toInt := by rw [km.2 101 (by decide), r24]
    have kf : (σ1.2 108 (a).toNatClampNeg).toInt = (σ.2 31 (a).toNatClampNeg).toInt := by rw [km.2 108 (by decide), r31]
    have gg : (0 ≤ a.toInt ∧ a.toInt < (σ.1 3).toInt) → -1 ≤ (σ.2 31 (a).toNatClampNeg).toInt := fun q => (ixa_31 iv _ (by have := cnat q.1; omega)).1
    rcases m with ⟨d1, y2, z2⟩ | ⟨⟨d1, d2⟩, y2, z2⟩ | ⟨⟨d1, d2⟩, y2, z2⟩
    · exfalso
      omega
    · subst z1
      subst z2
      exact rd
    · exfalso
      omega
  · have km : KM σ σ1 := by
      rw [z1]
      exact (KM_setA (KM_rfl σ) (by decide))
    have k19 := congrArg Int32.toInt (km.1 19 (by decide))
    have k20 := congrArg Int32.toInt (km.1 20 (by decide))
    have k21 := congrArg Int32.toInt (km.1 21 (by decide))
    have k22 := congrArg Int32.toInt (km.1 22 (by decide))
    have k23 := congrArg Int32.toInt (km.1 23 (by decide))
    have kb : (σ1.2 101 (b).toNatClampNeg).toInt = (σ.2 24 (b).toNatClampNeg).toInt := by rw [km.2 101 (by decide), r24]
    have ka : (σ1.2 101 (a).toNatClampNeg).toInt = (σ.2 24 (a).toNatClampNeg).toInt := by rw [km.2 101 (by decide), r24]
    have kf : (σ1.2 108 (a).toNatClampNeg).toInt = (σ.2 31 (a).toNatClampNeg).toInt := by rw [km.2 108 (by decide), r31]
    have gg : (0 ≤ a.toInt ∧ a.toInt < (σ.1 3).toInt) → -1 ≤ (σ.2 31 (a).toNatClampNeg).toInt := fun q => (ixa_31 iv _ (by have := cnat q.1; omega)).1
    rcases m with ⟨d1, y2, z2⟩ | ⟨⟨d1, d2⟩, y2, z2⟩ | ⟨⟨d1, d2⟩, y2, z2⟩
    · exfalso
      omega
    · exfalso
      omega
    · subst z1
      subst z2
      exact ⟨d19, d20, d26, d27, d28, d29, d30, d35, d36, d37, d40⟩
set_option maxRecDepth 10000 in
set_option maxHeartbeats 1000000 in
theorem d_lose {σ σ1 σ2 : ST} {a r1 r2 : Int32} (h : INV σ) (rd : RD σ) (s : sX_lose σ a r1 σ1) (m : sM_lose σ1 a r2 σ2) : RD σ2 := by
  obtain ⟨iv, im, tv, rr⟩ := h
  have n0 : (0 : Int32).toInt = 0 := by decide
  have nm1 : (-1 : Int32).toInt = -1 := by decide
  have n9999 : (9999 : Int32).toInt = 9999 := by decide
  have g2 := ixi_2 iv
  have g3 := ixi_3 iv
  have g4 := ixi_4 iv
  have g5 := ixi_5 iv
  have g6 := ixi_6 iv
  obtain ⟨r2, r3, r4, r5, r6, r24, r25, r31, r41, r42, r55⟩ := id rr
  obtain ⟨d19, d20, d26, d27, d28, d29, d30, d35, d36, d37, d40⟩ := id rd
  have i2 := congrArg Int32.toInt r2
  have i3 := congrArg Int32.toInt r3
  have i4 := congrArg Int32.toInt r4
  have i5 := congrArg Int32.toInt r5
  have i6 := congrArg Int32.toInt r6
  rcases s with ⟨c1, y1, z1⟩ | ⟨⟨c1, c2⟩, y1, z1⟩ | ⟨⟨c1, c2⟩, y1, z1⟩
  · have km : KM σ σ1 := by
      rw [z1]
      exact KM_rfl σ
    have k19 := congrArg Int32.toInt (km.1 19 (by decide))
    have k20 := congrArg Int32.toInt (km.1 20 (by decide))
    have k21 := congrArg Int32.toInt (km.1 21 (by decide))
    have k22 := congrArg Int32.toInt (km.1 22 (by decide))
    have k23 := congrArg Int32.toInt (km.1 23 (by decide))
    have kf : (σ1.2 108 (a).toNatClampNeg).toInt = (σ.2 31 (a).toNatClampNeg).toInt := by rw [km.2 108 (by decide), r31]
    have gg : (0 ≤ a.toInt ∧ a.toInt < (σ.1 3).toInt) → -1 ≤ (σ.2 31 (a).toNatClampNeg).toInt := fun q => (ixa_31 iv _ (by have := cnat q.1; omega)).1
    rcases m with ⟨d1, y2, z2⟩ | ⟨⟨d1, d2⟩, y2, z2⟩ | ⟨⟨d1, d2⟩, y2, z2⟩
    · subst z1
      subst z2
      exact rd
    · exfalso
      omega
    · exfalso
      omega
  · have km : KM σ σ1 := by
      rw [z1]
      exact KM_rfl σ
    have k19 := congrArg Int32.toInt (km.1 19 (by decide))
    have k20 := congrArg Int32.toInt (km.1 20 (by decide))
    have k21 := congrArg Int32.toInt (km.1 21 (by decide))
    have k22 := congrArg Int32.toInt (km.1 22 (by decide))
    have k23 := congrArg Int32.toInt (km.1 23 (by decide))
    have kf : (σ1.2 108 (a).toNatClampNeg).toInt = (σ.2 31 (a).toNatClampNeg).toInt := by rw [km.2 108 (by decide), r31]
    have gg : (0 ≤ a.toInt ∧ a.toInt < (σ.1 3).toInt) → -1 ≤ (σ.2 31 (a).toNatClampNeg).toInt := fun q => (ixa_31 iv _ (by have := cnat q.1; omega)).1
    rcases m with ⟨d1, y2, z2⟩ | ⟨⟨d1, d2⟩, y2, z2⟩ | ⟨⟨d1, d2⟩, y2, z2⟩
    · exfalso
      omega
    · subst z1
      subst z2
      exact rd
    · exfalso
      omega
  · have km : KM σ σ1 := by
      rw [z1]
      exact (KM_setA (KM_rfl σ) (by decide))
    have k19 := congrArg Int32.toInt (km.1 19 (by decide))
    have k20 := congrArg Int32.toInt (km.1 20 (by decide))
    have k21 := congrArg Int32.toInt (km.1 21 (by decide))
    have k22 := congrArg Int32.toInt (km.1 22 (by decide))
    have k23 := congrArg Int32.toInt (km.1 23 (by decide))
    have kf : (σ1.2 108 (a).toNatClampNeg).toInt = (σ.2 31 (a).toNatClampNeg).toInt := by rw [km.2 108 (by decide), r31]
    have gg : (0 ≤ a.toInt ∧ a.toInt < (σ.1 3).toInt) → -1 ≤ (σ.2 31 (a).toNatClampNeg).toInt := fun q => (ixa_31 iv _ (by have := cnat q.1; omega)).1
    rcases m with ⟨d1, y2, z2⟩ | ⟨⟨d1, d2⟩, y2, z2⟩ | ⟨⟨d1, d2⟩, y2, z2⟩
    · exfalso
      omega
    · exfalso
      omega
    · subst z1
      subst z2
      exact ⟨d19, d20, d26, d27, d28, d29, d30, d35, d36, d37, d40⟩
set_option maxRecDepth 10000 in
set_option maxHeartbeats 1000000 in
theorem d_hand {σ σ1 σ2 : ST} {a b p r1 r2 : Int32} (h : INV σ) (rd : RD σ) (s : sX_hand σ a b p r1 σ1) (m : sM_hand σ1 a b p r2 σ2) : RD σ2 := by
  obtain ⟨iv, im, tv, rr⟩ := h
  have n0 : (0 : Int32).toInt = 0 := by decide
  have nm1 : (-1 : Int32).toInt = -1 := by decide
  have n9999 : (9999 : Int32).toInt = 9999 := by decide
  have g2 := ixi_2 iv
  have g3 := ixi_3 iv
  have g4 := ixi_4 iv
  have g5 := ixi_5 iv
  have g6 := ixi_6 iv
  obtain ⟨r2, r3, r4, r5, r6, r24, r25, r31, r41, r42, r55⟩ := id rr
  obtain ⟨d19, d20, d26, d27, d28, d29, d30, d35, d36, d37, d40⟩ := id rd
  have i2 := congrArg Int32.toInt r2
  have i3 := congrArg Int32.toInt r3
  have i4 := congrArg Int32.toInt r4
  have i5 := congrArg Int32.toInt r5
  have i6 := congrArg Int32.toInt r6
  rcases s with ⟨c1, f, hf, ⟨c2, y1, z1⟩ | ⟨c2, y1, z1⟩ | ⟨c2, y1, z1⟩⟩ | ⟨c1, y1, z1⟩
  · have km : KM σ σ1 := by
      rw [z1]
      exact (KM_setA (KM_rfl σ) (by decide))
    have k19 := congrArg Int32.toInt (km.1 19 (by decide))
    have k20 := congrArg Int32.toInt (km.1 20 (by decide))
    have k21 := congrArg Int32.toInt (km.1 21 (by decide))
    have k22 := congrArg Int32.toInt (km.1 22 (by decide))
    have k23 := congrArg Int32.toInt (km.1 23 (by decide))
    rcases m with ⟨d1, y2, z2⟩ | ⟨d1, f2, hf2, ⟨d2, y2, z2⟩ | ⟨d2, y2, z2⟩ | ⟨d2, y2, z2⟩⟩
    · exfalso
      omega
    · rw [km.2 116 (by decide), km.2 117 (by decide), km.1 22 (by decide), ← r41, ← r42, ← r5] at hf2
      have ef := congrArg Int32.toInt (fndP_one hf hf2 (fun _ _ => rfl) (fun _ _ => rfl))
      subst z1
      subst z2
      exact ⟨d19, d20, d26, d27, d28, d29, d30, d35, d36, d37, (show upd (σ.2 40) (f).toNatClampNeg p = upd (σ.2 118) (f2).toNatClampNeg p by rw [d40, Int32.toInt_inj.mp ef])⟩
    · rw [km.2 116 (by decide), km.2 117 (by decide), km.1 22 (by decide), ← r41, ← r42, ← r5] at hf2
      have ef := congrArg Int32.toInt (fndP_one hf hf2 (fun _ _ => rfl) (fun _ _ => rfl))
      exfalso
      omega
    · rw [km.2 116 (by decide), km.2 117 (by decide), km.1 22 (by decide), ← r41, ← r42, ← r5] at hf2
      have ef := congrArg Int32.toInt (fndP_one hf hf2 (fun _ _ => rfl) (fun _ _ => rfl))
      exfalso
      omega
  · have km : KM σ σ1 := by
      rw [z1]
      exact KM_rfl σ
    have k19 := congrArg Int32.toInt (km.1 19 (by decide))
    have k20 := congrArg Int32.toInt (km.1 20 (by decide))
    have k21 := congrArg Int32.toInt (km.1 21 (by decide))
    have k22 := congrArg Int32.toInt (km.1 22 (by decide))
    have k23 := congrArg Int32.toInt (km.1 23 (by decide))
    rcases m with ⟨d1, y2, z2⟩ | ⟨d1, f2, hf2, ⟨d2, y2, z2⟩ | ⟨d2, y2, z2⟩ | ⟨d2, y2, z2⟩⟩
    · exfalso
      omega
    · rw [km.2 116 (by decide), km.2 117 (by decide), km.1 22 (by decide), ← r41, ← r42, ← r5] at hf2
      have ef := congrArg Int32.toInt (fndP_one hf hf2 (fun _ _ => rfl) (fun _ _ => rfl))
      exfalso
      omega
    · subst z1
      subst z2
      exact rd
    · rw [km.2 116 (by decide), km.2 117 (by decide), km.1 22 (by decide), ← r41, ← r42, ← r5] at hf2
      have ef := congrArg Int32.toInt (fndP_one hf hf2 (fun _ _ => rfl) (fun _ _ => rfl))
      exfalso
      omega
  · have km : KM σ σ1 := by
      rw [z1]
      exact (KM_setI (KM_setA (KM_setA (KM_setA (KM_rfl σ) (by decide)) (by decide)) (by decide)) (by decide))
    have k19 := congrArg Int32.toInt (km.1 19 (by decide))
    have k20 := congrArg Int32.toInt (km.1 20 (by decide))
    have k21 := congrArg Int32.toInt (km.1 21 (by decide))
    have k22 := congrArg Int32.toInt (km.1 22 (by decide))
    have k23 := congrArg Int32.toInt (km.1 23 (by decide))
    rcases m with ⟨d1, y2, z2⟩ | ⟨d1, f2, hf2, ⟨d2, y2, z2⟩ | ⟨d2, y2, z2⟩ | ⟨d2, y2, z2⟩⟩
    · exfalso
      omega
    · rw [km.2 116 (by decide), km.2 117 (by decide), km.1 22 (by decide), ← r41, ← r42, ← r5] at hf2
      have ef := congrArg Int32.toInt (fndP_one hf hf2 (fun _ _ => rfl) (fun _ _ => rfl))
      exfalso
      omega
    · rw [km.2 116 (by decide), km.2 117 (by decide), km.1 22 (by decide), ← r41, ← r42, ← r5] at hf2
      have ef := congrArg Int32.toInt (fndP_one hf hf2 (fun _ _ => rfl) (fun _ _ => rfl))
      exfalso
      omega
    · rw [km.2 116 (by decide), km.2 117 (by decide), km.1 22 (by decide), ← r41, ← r42, ← r5] at hf2
      have ef := congrArg Int32.toInt (fndP_one hf hf2 (fun _ _ => rfl) (fun _ _ => rfl))
      subst z1
      subst z2
      exact ⟨d19, d20, d26, d27, d28, d29, d30, d35, d36, d37, (show upd (σ.2 40) (σ.1 5).toNatClampNeg p = upd (σ.2 118) (σ.1 22).toNatClampNeg p by rw [d40, r5])⟩
  · have km : KM σ σ1 := by
      rw [z1]
      exact KM_rfl σ
    have k19 := congrArg Int32.toInt (km.1 19 (by decide))
    have k20 := congrArg Int32.toInt (km.1 20 (by decide))
    have k21 := congrArg Int32.toInt (km.1 21 (by decide))
    have k22 := congrArg Int32.toInt (km.1 22 (by decide))
    have k23 := congrArg Int32.toInt (km.1 23 (by decide))
    rcases m with ⟨d1, y2, z2⟩ | ⟨d1, f2, hf2, ⟨d2, y2, z2⟩ | ⟨d2, y2, z2⟩ | ⟨d2, y2, z2⟩⟩
    · subst z1
      subst z2
      exact rd
    · exfalso
      omega
    · exfalso
      omega
    · exfalso
      omega
theorem d_post {σ σ1 σ2 : ST} {a b u v r1 r2 : Int32} (iv : IV σ) (rd : RD σ) (s : sX_post σ a b u v r1 σ1) (m : sM_post σ1 a b u v r2 σ2) : RD σ2 := by
  have k1 : RD σ1 := RD_Ag (a_post iv s).2 (by decide) rd
  rcases m with ⟨c1, y1, z1⟩ | ⟨c1, y1, z1⟩
  · rw [z1]
    exact RD_Ag (sI := noI) (sA := mpA) (Ag_setA (Ag_setA (Ag_rfl _) (by decide)) (by decide)) (by decide) k1
  · rw [z1]
    exact k1
theorem d_cell {σ σ1 σ2 : ST} {t i v r1 r2 : Int32} (iv : IV σ) (rd : RD σ) (s : sX_cell σ t i v r1 σ1) (m : sM_cell σ1 t i v r2 σ2) : RD σ2 := by
  have k1 : RD σ1 := RD_Ag (a_cell iv s).2 (by decide) rd
  rcases m with ⟨c1, y1, z1⟩ | ⟨c1, y1, z1⟩ | ⟨c1, y1, z1⟩ | ⟨c1, y1, z1⟩
  · rw [z1]; exact k1
  · rw [z1]; exact k1
  · rw [z1]; exact k1
  · rw [z1]
    exact RD_Ag (sI := noI) (sA := trA) (Ag_setA (Ag_rfl _) rfl) (by decide) k1
theorem d_feed {σ σ1 σ2 : ST} {n r1 r2 : Int32} (rd : RD σ) (s : sX_feed σ n r1 σ1) (m : sM_feed σ1 n r2 σ2) : RD σ2 := by
  have k1 : RD σ1 := by
    rcases s with ⟨c1, y1, z1⟩ | ⟨c1, c2, y1, z1⟩ | ⟨c1, c2, w1, q1, y1⟩
    · rw [z1]; exact rd
    · rw [z1]; exact rd
    · exact RD_Ag w1.2 (by decide) rd
  rcases m with ⟨c1, y1, z1⟩ | ⟨c1, c2, y1, z1⟩ | ⟨c1, c2, w1, q1, y1⟩
  · rw [z1]; exact k1
  · rw [z1]; exact k1
  · exact RD_Ag w1.2 (by decide) k1
theorem d_lay {σ σ1 σ2 : ST} {t f n r1 r2 : Int32} (rd : RD σ) (s : sX_lay σ t f n r1 σ1) (m : sM_lay σ1 t f n r2 σ2) : RD σ2 := by
  have k1 : RD σ1 := by
    rcases s with ⟨c1, y1, z1⟩ | ⟨c1, c2, y1, z1⟩ | ⟨c1, c2, w1, q1⟩
    · rw [z1]; exact rd
    · rw [z1]; exact rd
    · exact RD_Ag w1.2 (by decide) rd
  rcases m with ⟨c1, y1, z1⟩ | ⟨c1, c2, y1, z1⟩ | ⟨c1, c2, w1, q1⟩
  · rw [z1]; exact k1
  · rw [z1]; exact k1
  · exact RD_Ag w1.2 (by decide) k1
theorem d_tray {σ σ1 σ2 : ST} {t n r1 r2 : Int32} (rd : RD σ) (s : sX_tray σ t n r1 σ1) (m : sM_tray σ1 t n r2 σ2) : RD σ2 := by
  have k1 : RD σ1 := by
    rcases s with ⟨c1, y1, z1⟩ | ⟨c1, c2, y1, z1⟩ | ⟨c1, c2, y1, w1, q1⟩
    · rw [z1]; exact rd
    · rw [z1]; exact rd
    · exact RD_Ag w1.2 (by decide) rd
  rcases m with ⟨c1, y1, z1⟩ | ⟨c1, c2, y1, z1⟩ | ⟨c1, c2, y1, w1, q1⟩
  · rw [z1]; exact k1
  · rw [z1]; exact k1
  · exact RD_Ag w1.2 (by decide) k1
theorem d_text {σ σ1 σ2 : ST} {a : Int32} (rd : RD σ) (s : sX_text σ a σ1) (m : sM_text σ1 a σ2) : RD σ2 := by
  have k1 : RD σ1 := by
    rcases s with ⟨c1, z1⟩ | ⟨c1, w1, q1⟩
    · rw [z1]; exact rd
    · exact RD_Ag w1.2 (by decide) rd
  rcases m with ⟨c1, z1⟩ | ⟨c1, w1, tv1, q1⟩
  · rw [z1]; exact k1
  · exact RD_Ag w1.2 (by decide) k1
/-- what told answers of a LETTER -/
def tolP (L : Int) (K W R P A B D F S : Nat → Int32) (a x r : Int32) : Prop := (¬ (0 ≤ a.toInt ∧ a.toInt < L) ∧ r = -2) ∨ ((0 ≤ a.toInt ∧ a.toInt < L) ∧ ((x = 0 ∧ r = K a.toNatClampNeg) ∨ (x = 1 ∧ r = W a.toNatClampNeg) ∨ (x = 2 ∧ r = R a.toNatClampNeg) ∨ (x = 3 ∧ r = P a.toNatClampNeg) ∨ (x = 4 ∧ r = A a.toNatClampNeg) ∨ (x = 5 ∧ r = B a.toNatClampNeg) ∨ (x = 6 ∧ r = D a.toNatClampNeg) ∨ (x = 7 ∧ r = F a.toNatClampNeg) ∨ (x = 8 ∧ r = S a.toNatClampNeg) ∨ (¬ (0 ≤ x.toInt ∧ x.toInt ≤ 8) ∧ r = -2)))
theorem tolP_one {L : Int} {K W R P A B D F S : Nat → Int32} {a x r r2 : Int32} (h : tolP L K W R P A B D F S a x r) (g : tolP L K W R P A B D F S a x r2) : r = r2 := by
  have n0 : (0 : Int32).toInt = 0 := by decide
  have n1 : (1 : Int32).toInt = 1 := by decide
  have n2 : (2 : Int32).toInt = 2 := by decide
  have n3 : (3 : Int32).toInt = 3 := by decide
  have n4 : (4 : Int32).toInt = 4 := by decide
  have n5 : (5 : Int32).toInt = 5 := by decide
  have n6 : (6 : Int32).toInt = 6 := by decide
  have n7 : (7 : Int32).toInt = 7 := by decide
  have n8 : (8 : Int32).toInt = 8 := by decide
  rcases h with ⟨c, y⟩ | ⟨c, h⟩ <;> rcases g with ⟨d, y2⟩ | ⟨d, g⟩
  · exact y.trans y2.symm
  · exact absurd d c
  · exact absurd c d
  · rcases h with ⟨c1, y1⟩ | ⟨c1, y1⟩ | ⟨c1, y1⟩ | ⟨c1, y1⟩ | ⟨c1, y1⟩ | ⟨c1, y1⟩ | ⟨c1, y1⟩ | ⟨c1, y1⟩ | ⟨c1, y1⟩ | ⟨c1, y1⟩ <;> rcases g with ⟨d1, y2⟩ | ⟨d1, y2⟩ | ⟨d1, y2⟩ | ⟨d1, y2⟩ | ⟨d1, y2⟩ | ⟨d1, y2⟩ | ⟨d1, y2⟩ | ⟨d1, y2⟩ | ⟨d1, y2⟩ | ⟨d1, y2⟩ <;> first | exact y1.trans y2.symm | (exfalso; rw [c1] at d1; exact absurd d1 (by decide)) | (exfalso; rw [d1] at c1; omega) | (exfalso; rw [c1] at d1; omega)
set_option maxHeartbeats 4000000 in
set_option maxRecDepth 100000 in
theorem f_X11_told (l : Launch) (L : WL) (σ : ST) (a x : Int32) (ix : IV σ) : CtI l L yX11_told cX11_told 3 (some .int) rm_X11_told [.ref (L.2.1 0), .int a, .int x] σ (fun r σ2 => σ2 = σ ∧ tolP (σ.1 3).toInt (σ.2 24) (σ.2 25) (σ.2 26) (σ.2 27) (σ.2 28) (σ.2 29) (σ.2 30) (σ.2 31) (σ.2 32) a x r) := by
  refine ctI_go (own := RX11) (by decide) rfl (Nat.le_of_ble_eq_true rfl) (fun F hF => ?_)
  subst hF
  have nm2 : (-2 : Int32).toInt = -2 := by decide
  have w0 : WX σ σ := WX_rfl ix
  have u3 := ixi_3 ix
  refine go_aload_n (i := 0) (pc' := 1) dX11_told_0 rfl rfl rfl ?_
  refine gf_0_letters (pc' := 4) dX11_told_1 rfl fl_X11_19 ?_
  refine go_iload_n (i := 1) (pc' := 5) dX11_told_4 rfl rfl rfl ?_
  refine go_cvi (pc' := 8) lk_X11_130 (c_X2_has _ _ _ _) rfl rfl (Nat.le_of_ble_eq_true rfl) (by decide) rfl rfl rfl ⟨Nat.le_of_ble_eq_true rfl, Nat.le_of_ble_eq_true rfl⟩ ⟨rfl, rfl⟩ dX11_told_5 rfl (fun r1 σ1 h1 => ?_)
  obtain ⟨e1, h1⟩ := h1
  have e1 := e1.symm
  subst e1
  refine go_neB (tgt := 14) (pc' := 11) h1 dX11_told_8 rfl (by decide) (fun c2 => ?_) (fun c2 => ?_)
  · refine go_iload_n (i := 2) (pc' := 15) dX11_told_14 rfl rfl rfl ?_
    have hx3 : x = 0 ∨ x = 1 ∨ x = 2 ∨ x = 3 ∨ x = 4 ∨ x = 5 ∨ x = 6 ∨ x = 7 ∨ x = 8 ∨ ¬ (0 ≤ x.toInt ∧ x.toInt ≤ 8) := by
      simp only [← Int32.toInt_inj, Int32.reduceToInt]
      omega
    rcases hx3 with z3 | z3 | z3 | z3 | z3 | z3 | z3 | z3 | z3 | z3
    · refine go_swIn (tgt := 64) dX11_told_15 (by rw [z3]; decide) (by rw [z3]; decide) (by rw [z3]; rfl) (by decide) ?_
      refine go_aload_n (i := 0) (pc' := 65) dX11_told_64 rfl rfl rfl ?_
      refine gf_0_letters (pc' := 68) dX11_told_65 rfl fl_X11_19 ?_
      refine gf_2_kinds (pc' := 71) dX11_told_68 rfl fl_X11_131 ?_
      refine go_iload_n (i := 1) (pc' := 72) dX11_told_71 rfl rfl rfl ?_
      refine go_iald (pc' := 73) dX11_told_72 rfl (by decide) (by decide) rfl (vin_of (n := 12) (by omega) (by omega)) ?_
      refine go_rngA (ixa_24 w0.1) (vinlt (vin_of (n := 12) (by omega) (by omega))) (fun g4 => ?_)
      exact go_iret dX11_told_73 rfl (⟨rfl, Or.inr ⟨by omega, Or.inl ⟨by assumption, rfl⟩⟩⟩)
    · refine go_swIn (tgt := 74) dX11_told_15 (by rw [z3]; decide) (by rw [z3]; decide) (by rw [z3]; rfl) (by decide) ?_
      refine go_aload_n (i := 0) (pc' := 75) dX11_told_74 rfl rfl rfl ?_
      refine gf_0_letters (pc' := 78) dX11_told_75 rfl fl_X11_19 ?_
      refine gf_2_writers (pc' := 81) dX11_told_78 rfl fl_X11_134 ?_
      refine go_iload_n (i := 1) (pc' := 82) dX11_told_81 rfl rfl rfl ?_
      refine go_iald (pc' := 83) dX11_told_82 rfl (by decide) (by decide) rfl (vin_of (n := 12) (by omega) (by omega)) ?_
      refine go_rngA (ixa_25 w0.1) (vinlt (vin_of (n := 12) (by omega) (by omega))) (fun g5 => ?_)
      exact go_iret dX11_told_83 rfl (⟨rfl, Or.inr ⟨by omega, Or.inr (Or.inl ⟨by assumption, rfl⟩)⟩⟩)
    · refine go_swIn (tgt := 84) dX11_told_15 (by rw [z3]; decide) (by rw [z3]; decide) (by rw [z3]; rfl) (by decide) ?_
      refine go_aload_n (i := 0) (pc' := 85) dX11_told_84 rfl rfl rfl ?_
      refine gf_0_letters (pc' := 88) dX11_told_85 rfl fl_X11_19 ?_
      refine gf_2_readers (pc' := 91) dX11_told_88 rfl fl_X11_137 ?_
      refine go_iload_n (i := 1) (pc' := 92) dX11_told_91 rfl rfl rfl ?_
      refine go_iald (pc' := 93) dX11_told_92 rfl (by decide) (by decide) rfl (vin_of (n := 12) (by omega) (by omega)) ?_
      refine go_rngA (ixa_26 w0.1) (vinlt (vin_of (n := 12) (by omega) (by omega))) (fun g6 => ?_)
      exact go_iret dX11_told_93 rfl (⟨rfl, Or.inr ⟨by omega, Or.inr (Or.inr (Or.inl ⟨by assumption, rfl⟩))⟩⟩)
    · refine go_swIn (tgt := 94) dX11_told_15 (by rw [z3]; decide) (by rw [z3]; decide) (by rw [z3]; rfl) (by decide) ?_
      refine go_aload_n (i := 0) (pc' := 95) dX11_told_94 rfl rfl rfl ?_
      refine gf_0_letters (pc' := 98) dX11_told_95 rfl fl_X11_19 ?_
      refine gf_2_places (pc' := 101) dX11_told_98 rfl fl_X11_140 ?_
      refine go_iload_n (i := 1) (pc' := 102) dX11_told_101 rfl rfl rfl ?_
      refine go_iald (pc' := 103) dX11_told_102 rfl (by decide) (by decide) rfl (vin_of (n := 12) (by omega) (by omega)) ?_
      refine go_rngA (ixa_27 w0.1) (vinlt (vin_of (n := 12) (by omega) (by omega))) (fun g7 => ?_)
      exact go_iret dX11_told_103 rfl (⟨rfl, Or.inr ⟨by omega, Or.inr (Or.inr (Or.inr (Or.inl ⟨by assumption, rfl⟩)))⟩⟩)
    · refine go_swIn (tgt := 104) dX11_told_15 (by rw [z3]; decide) (by rw [z3]; decide) (by rw [z3]; rfl) (by decide) ?_
      refine go_aload_n (i := 0) (pc' := 105) dX11_told_104 rfl rfl rfl ?_
      refine gf_0_letters (pc' := 108) dX11_told_105 rfl fl_X11_19 ?_
      refine gf_2_leasts (pc' := 111) dX11_told_108 rfl fl_X11_143 ?_
      refine go_iload_n (i := 1) (pc' := 112) dX11_told_111 rfl rfl rfl ?_
      refine go_iald (pc' := 113) dX11_told_112 rfl (by decide) (by decide) rfl (vin_of (n := 12) (by omega) (by omega)) ?_
      refine go_rngA (ixa_28 w0.1) (vinlt (vin_of (n := 12) (by omega) (by omega))) (fun g8 => ?_)
      exact go_iret dX11_told_113 rfl (⟨rfl, Or.inr ⟨by omega, Or.inr (Or.inr (Or.inr (Or.inr (Or.inl ⟨by assumption, rfl⟩))))⟩⟩)
    · refine go_swIn (tgt := 114) dX11_told_15 (by rw [z3]; decide) (by rw [z3]; decide) (by rw [z3]; rfl) (by decide) ?_
      refine go_aload_n (i := 0) (pc' := 115) dX11_told_114 rfl rfl rfl ?_
      refine gf_0_letters (pc' := 118) dX11_told_115 rfl fl_X11_19 ?_
      refine gf_2_greatests (pc' := 121) dX11_told_118 rfl fl_X11_146 ?_
      refine go_iload_n (i := 1) (pc' := 122) dX11_told_121 rfl rfl rfl ?_
      refine go_iald (pc' := 123) dX11_told_122 rfl (by decide) (by decide) rfl (vin_of (n := 12) (by omega) (by omega)) ?_
      refine go_rngA (ixa_29 w0.1) (vinlt (vin_of (n := 12) (by omega) (by omega))) (fun g9 => ?_)
      exact go_iret dX11_told_123 rfl (⟨rfl, Or.inr ⟨by omega, Or.inr (Or.inr (Or.inr (Or.inr (Or.inr (Or.inl ⟨by assumption, rfl⟩)))))⟩⟩)
    · refine go_swIn (tgt := 124) dX11_told_15 (by rw [z3]; decide) (by rw [z3]; decide) (by rw [z3]; rfl) (by decide) ?_
      refine go_aload_n (i := 0) (pc' := 125) dX11_told_124 rfl rfl rfl ?_
      refine gf_0_letters (pc' := 128) dX11_told_125 rfl fl_X11_19 ?_
      refine gf_2_weekdays (pc' := 131) dX11_told_128 rfl fl_X11_149 ?_
      refine go_iload_n (i := 1) (pc' := 132) dX11_told_131 rfl rfl rfl ?_
      refine go_iald (pc' := 133) dX11_told_132 rfl (by decide) (by decide) rfl (vin_of (n := 12) (by omega) (by omega)) ?_
      refine go_rngA (ixa_30 w0.1) (vinlt (vin_of (n := 12) (by omega) (by omega))) (fun g10 => ?_)
      exact go_iret dX11_told_133 rfl (⟨rfl, Or.inr ⟨by omega, Or.inr (Or.inr (Or.inr (Or.inr (Or.inr (Or.inr (Or.inl ⟨by assumption, rfl⟩))))))⟩⟩)
    · refine go_swIn (tgt := 134) dX11_told_15 (by rw [z3]; decide) (by rw [z3]; decide) (by rw [z3]; rfl) (by decide) ?_
      refine go_aload_n (i := 0) (pc' := 135) dX11_told_134 rfl rfl rfl ?_
      refine gf_0_letters (pc' := 138) dX11_told_135 rfl fl_X11_19 ?_
      refine gf_2_founds (pc' := 141) dX11_told_138 rfl fl_X11_152 ?_
      refine go_iload_n (i := 1) (pc' := 142) dX11_told_141 rfl rfl rfl ?_
      refine go_iald (pc' := 143) dX11_told_142 rfl (by decide) (by decide) rfl (vin_of (n := 12) (by omega) (by omega)) ?_
      refine go_rngA (ixa_31 w0.1) (vinlt (vin_of (n := 12) (by omega) (by omega))) (fun g11 => ?_)
      exact go_iret dX11_told_143 rfl (⟨rfl, Or.inr ⟨by omega, Or.inr (Or.inr (Or.inr (Or.inr (Or.inr (Or.inr (Or.inr (Or.inl ⟨by assumption, rfl⟩)))))))⟩⟩)
    · refine go_swIn (tgt := 144) dX11_told_15 (by rw [z3]; decide) (by rw [z3]; decide) (by rw [z3]; rfl) (by decide) ?_
      refine go_aload_n (i := 0) (pc' := 145) dX11_told_144 rfl rfl rfl ?_
      refine gf_0_letters (pc' := 148) dX11_told_145 rfl fl_X11_19 ?_
      refine gf_2_sizes (pc' := 151) dX11_told_148 rfl fl_X11_155 ?_
      refine go_iload_n (i := 1) (pc' := 152) dX11_told_151 rfl rfl rfl ?_
      refine go_iald (pc' := 153) dX11_told_152 rfl (by decide) (by decide) rfl (vin_of (n := 12) (by omega) (by omega)) ?_
      refine go_rngA (ixa_32 w0.1) (vinlt (vin_of (n := 12) (by omega) (by omega))) (fun g12 => ?_)
      exact go_iret dX11_told_153 rfl (⟨rfl, Or.inr ⟨by omega, Or.inr (Or.inr (Or.inr (Or.inr (Or.inr (Or.inr (Or.inr (Or.inr (Or.inl ⟨by assumption, rfl⟩))))))))⟩⟩)
    · refine go_swOut (tgt := 154) dX11_told_15 (by omega) (by decide) ?_
      refine go_bipush (v := (-2)) (pc' := 156) dX11_told_154 rfl (by decide) ?_
      exact go_iret dX11_told_156 rfl (⟨rfl, Or.inr ⟨by omega, Or.inr (Or.inr (Or.inr (Or.inr (Or.inr (Or.inr (Or.inr (Or.inr (Or.inr ⟨by assumption, rfl⟩))))))))⟩⟩)
  refine go_bipush (v := (-2)) (pc' := 13) dX11_told_11 rfl (by decide) ?_
  exact go_iret dX11_told_13 rfl (⟨rfl, Or.inl ⟨by omega, rfl⟩⟩)
set_option maxHeartbeats 4000000 in
set_option maxRecDepth 100000 in
theorem f_X12_told (l : Launch) (L : WL) (σ : ST) (a x : Int32) (ix : IV σ) : CtI l L yX12_told cX12_told 3 (some .int) rm_X12_told [.ref (L.2.1 13), .int a, .int x] σ (fun r σ2 => σ2 = σ ∧ tolP (σ.1 20).toInt (σ.2 101) (σ.2 102) (σ.2 103) (σ.2 104) (σ.2 105) (σ.2 106) (σ.2 107) (σ.2 108) (σ.2 109) a x r) := by
  refine ctI_go (own := RX12) (by decide) rfl (Nat.le_of_ble_eq_true rfl) (fun F hF => ?_)
  subst hF
  have nm2 : (-2 : Int32).toInt = -2 := by decide
  have w0 : WM σ σ := WM_rfl ix
  have u19 := ixi_19 ix
  have u20 := ixi_20 ix
  have u21 := ixi_21 ix
  have u22 := ixi_22 ix
  refine go_aload_n (i := 0) (pc' := 1) dX12_told_0 rfl rfl rfl ?_
  refine go_iload_n (i := 1) (pc' := 2) dX12_told_1 rfl rfl rfl ?_
  refine go_cvi (pc' := 5) lk_X12_152 (c_X12_isLetter _ _ _ _) rfl rfl (Nat.le_of_ble_eq_true rfl) (by decide) rfl rfl rfl ⟨Nat.le_of_ble_eq_true rfl, Nat.le_of_ble_eq_true rfl⟩ ⟨rfl, rfl⟩ dX12_told_2 rfl (fun r1 σ1 h1 => ?_)
  obtain ⟨e1, h1⟩ := h1
  have e1 := e1.symm
  subst e1
  refine go_neB (tgt := 11) (pc' := 8) h1 dX12_told_5 rfl (by decide) (fun c2 => ?_) (fun c2 => ?_)
  · refine go_iload_n (i := 2) (pc' := 12) dX12_told_11 rfl rfl rfl ?_
    have hx3 : x = 0 ∨ x = 1 ∨ x = 2 ∨ x = 3 ∨ x = 4 ∨ x = 5 ∨ x = 6 ∨ x = 7 ∨ x = 8 ∨ ¬ (0 ≤ x.toInt ∧ x.toInt ≤ 8) := by
      simp only [← Int32.toInt_inj, Int32.reduceToInt]
      omega
    rcases hx3 with z3 | z3 | z3 | z3 | z3 | z3 | z3 | z3 | z3 | z3
    · refine go_swIn (tgt := 64) dX12_told_12 (by rw [z3]; decide) (by rw [z3]; decide) (by rw [z3]; rfl) (by decide) ?_
      refine go_aload_n (i := 0) (pc' := 65) dX12_told_64 rfl rfl rfl ?_
      refine gf_13_kind (pc' := 68) dX12_told_65 rfl fl_X12_26 ?_
      refine go_iload_n (i := 1) (pc' := 69) dX12_told_68 rfl rfl rfl ?_
      refine go_iald (pc' := 70) dX12_told_69 rfl (by decide) (by decide) rfl (vin_of (n := 12) (by omega) (by omega)) ?_
      have g4 := ixa_101 ix (a).toNatClampNeg (vinlt (vin_of (n := 12) (by omega) (by omega)))
      exact go_iret dX12_told_70 rfl (⟨rfl, Or.inr ⟨by omega, Or.inl ⟨by assumption, rfl⟩⟩⟩)
    · refine go_swIn (tgt := 71) dX12_told_12 (by rw [z3]; decide) (by rw [z3]; decide) (by rw [z3]; rfl) (by decide) ?_
      refine go_aload_n (i := 0) (pc' := 72) dX12_told_71 rfl rfl rfl ?_
      refine gf_13_writer (pc' := 75) dX12_told_72 rfl fl_X12_29 ?_
      refine go_iload_n (i := 1) (pc' := 76) dX12_told_75 rfl rfl rfl ?_
      refine go_iald (pc' := 77) dX12_told_76 rfl (by decide) (by decide) rfl (vin_of (n := 12) (by omega) (by omega)) ?_
      have g5 := ixa_102 ix (a).toNatClampNeg (vinlt (vin_of (n := 12) (by omega) (by omega)))
      exact go_iret dX12_told_77 rfl (⟨rfl, Or.inr ⟨by omega, Or.inr (Or.inl ⟨by assumption, rfl⟩)⟩⟩)
    · refine go_swIn (tgt := 78) dX12_told_12 (by rw [z3]; decide) (by rw [z3]; decide) (by rw [z3]; rfl) (by decide) ?_
      refine go_aload_n (i := 0) (pc' := 79) dX12_told_78 rfl rfl rfl ?_
      refine gf_13_reader (pc' := 82) dX12_told_79 rfl fl_X12_32 ?_
      refine go_iload_n (i := 1) (pc' := 83) dX12_told_82 rfl rfl rfl ?_
      refine go_iald (pc' := 84) dX12_told_83 rfl (by decide) (by decide) rfl (vin_of (n := 12) (by omega) (by omega)) ?_
      have g6 := ixa_103 ix (a).toNatClampNeg (vinlt (vin_of (n := 12) (by omega) (by omega)))
      exact go_iret dX12_told_84 rfl (⟨rfl, Or.inr ⟨by omega, Or.inr (Or.inr (Or.inl ⟨by assumption, rfl⟩))⟩⟩)
    · refine go_swIn (tgt := 85) dX12_told_12 (by rw [z3]; decide) (by rw [z3]; decide) (by rw [z3]; rfl) (by decide) ?_
      refine go_aload_n (i := 0) (pc' := 86) dX12_told_85 rfl rfl rfl ?_
      refine gf_13_place (pc' := 89) dX12_told_86 rfl fl_X12_35 ?_
      refine go_iload_n (i := 1) (pc' := 90) dX12_told_89 rfl rfl rfl ?_
      refine go_iald (pc' := 91) dX12_told_90 rfl (by decide) (by decide) rfl (vin_of (n := 12) (by omega) (by omega)) ?_
      have g7 := ixa_104 ix (a).toNatClampNeg (vinlt (vin_of (n := 12) (by omega) (by omega)))
      exact go_iret dX12_told_91 rfl (⟨rfl, Or.inr ⟨by omega, Or.inr (Or.inr (Or.inr (Or.inl ⟨by assumption, rfl⟩)))⟩⟩)
    · refine go_swIn (tgt := 92) dX12_told_12 (by rw [z3]; decide) (by rw [z3]; decide) (by rw [z3]; rfl) (by decide) ?_
      refine go_aload_n (i := 0) (pc' := 93) dX12_told_92 rfl rfl rfl ?_
      refine gf_13_least (pc' := 96) dX12_told_93 rfl fl_X12_38 ?_
      refine go_iload_n (i := 1) (pc' := 97) dX12_told_96 rfl rfl rfl ?_
      refine go_iald (pc' := 98) dX12_told_97 rfl (by decide) (by decide) rfl (vin_of (n := 12) (by omega) (by omega)) ?_
      have g8 := ixa_105 ix (a).toNatClampNeg (vinlt (vin_of (n := 12) (by omega) (by omega)))
      exact go_iret dX12_told_98 rfl (⟨rfl, Or.inr ⟨by omega, Or.inr (Or.inr (Or.inr (Or.inr (Or.inl ⟨by assumption, rfl⟩))))⟩⟩)
    · refine go_swIn (tgt := 99) dX12_told_12 (by rw [z3]; decide) (by rw [z3]; decide) (by rw [z3]; rfl) (by decide) ?_
      refine go_aload_n (i := 0) (pc' := 100) dX12_told_99 rfl rfl rfl ?_
      refine gf_13_most (pc' := 103) dX12_told_100 rfl fl_X12_41 ?_
      refine go_iload_n (i := 1) (pc' := 104) dX12_told_103 rfl rfl rfl ?_
      refine go_iald (pc' := 105) dX12_told_104 rfl (by decide) (by decide) rfl (vin_of (n := 12) (by omega) (by omega)) ?_
      have g9 := ixa_106 ix (a).toNatClampNeg (vinlt (vin_of (n := 12) (by omega) (by omega)))
      exact go_iret dX12_told_105 rfl (⟨rfl, Or.inr ⟨by omega, Or.inr (Or.inr (Or.inr (Or.inr (Or.inr (Or.inl ⟨by assumption, rfl⟩)))))⟩⟩)
    · refine go_swIn (tgt := 106) dX12_told_12 (by rw [z3]; decide) (by rw [z3]; decide) (by rw [z3]; rfl) (by decide) ?_
      refine go_aload_n (i := 0) (pc' := 107) dX12_told_106 rfl rfl rfl ?_
      refine gf_13_week (pc' := 110) dX12_told_107 rfl fl_X12_44 ?_
      refine go_iload_n (i := 1) (pc' := 111) dX12_told_110 rfl rfl rfl ?_
      refine go_iald (pc' := 112) dX12_told_111 rfl (by decide) (by decide) rfl (vin_of (n := 12) (by omega) (by omega)) ?_
      have g10 := ixa_107 ix (a).toNatClampNeg (vinlt (vin_of (n := 12) (by omega) (by omega)))
      exact go_iret dX12_told_112 rfl (⟨rfl, Or.inr ⟨by omega, Or.inr (Or.inr (Or.inr (Or.inr (Or.inr (Or.inr (Or.inl ⟨by assumption, rfl⟩))))))⟩⟩)
    · refine go_swIn (tgt := 113) dX12_told_12 (by rw [z3]; decide) (by rw [z3]; decide) (by rw [z3]; rfl) (by decide) ?_
      refine go_aload_n (i := 0) (pc' := 114) dX12_told_113 rfl rfl rfl ?_
      refine gf_13_is (pc' := 117) dX12_told_114 rfl fl_X12_47 ?_
      refine go_iload_n (i := 1) (pc' := 118) dX12_told_117 rfl rfl rfl ?_
      refine go_iald (pc' := 119) dX12_told_118 rfl (by decide) (by decide) rfl (vin_of (n := 12) (by omega) (by omega)) ?_
      have g11 := ixa_108 ix (a).toNatClampNeg (vinlt (vin_of (n := 12) (by omega) (by omega)))
      exact go_iret dX12_told_119 rfl (⟨rfl, Or.inr ⟨by omega, Or.inr (Or.inr (Or.inr (Or.inr (Or.inr (Or.inr (Or.inr (Or.inl ⟨by assumption, rfl⟩)))))))⟩⟩)
    · refine go_swIn (tgt := 120) dX12_told_12 (by rw [z3]; decide) (by rw [z3]; decide) (by rw [z3]; rfl) (by decide) ?_
      refine go_aload_n (i := 0) (pc' := 121) dX12_told_120 rfl rfl rfl ?_
      refine gf_13_length (pc' := 124) dX12_told_121 rfl fl_X12_50 ?_
      refine go_iload_n (i := 1) (pc' := 125) dX12_told_124 rfl rfl rfl ?_
      refine go_iald (pc' := 126) dX12_told_125 rfl (by decide) (by decide) rfl (vin_of (n := 12) (by omega) (by omega)) ?_
      have g12 := ixa_109 ix (a).toNatClampNeg (vinlt (vin_of (n := 12) (by omega) (by omega)))
      exact go_iret dX12_told_126 rfl (⟨rfl, Or.inr ⟨by omega, Or.inr (Or.inr (Or.inr (Or.inr (Or.inr (Or.inr (Or.inr (Or.inr (Or.inl ⟨by assumption, rfl⟩))))))))⟩⟩)
    · refine go_swOut (tgt := 127) dX12_told_12 (by omega) (by decide) ?_
      refine go_bipush (v := (-2)) (pc' := 129) dX12_told_127 rfl (by decide) ?_
      exact go_iret dX12_told_129 rfl (⟨rfl, Or.inr ⟨by omega, Or.inr (Or.inr (Or.inr (Or.inr (Or.inr (Or.inr (Or.inr (Or.inr (Or.inr ⟨by assumption, rfl⟩))))))))⟩⟩)
  refine go_bipush (v := (-2)) (pc' := 10) dX12_told_8 rfl (by decide) ?_
  exact go_iret dX12_told_10 rfl (⟨rfl, Or.inl ⟨by omega, rfl⟩⟩)
