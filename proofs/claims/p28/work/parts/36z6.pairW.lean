theorem t_words {σ σ1 σ2 : ST} {a r1 r2 : Int32} (h : INVT σ) (s : tX_words σ a r1 σ1) (m : tM_words σ1 a r2 σ2) : INVT σ2 ∧ r1 = r2 := by
  have h1 := INVT_WX h s.1
  refine ⟨INVT_WM h1 m.1, ?_⟩
  have i3 := congrArg Int32.toInt h.1.2.2.2.2.1
  have g3 := ixi_3 h.1.1
  have e20 := congrArg Int32.toInt (s.1.2.1 20 (by decide))
  rcases s.2 with ⟨c, y⟩ | ⟨c, y⟩ <;> rcases m.2 with ⟨d, z⟩ | ⟨d, z⟩
  · exact y.trans z.symm
  · exfalso
    omega
  · exfalso
    omega
  · have ca := cnat (x := a) (by omega)
    rw [FUM_x s.1, ← FU_eq h.1.2.2.1 h.2.2 (l := (a).toNatClampNeg) (by omega)] at z
    exact Int32.toInt_inj.mp (y.trans z.symm)
theorem t_differ {σ σ1 σ2 : ST} {a b r1 r2 : Int32} (h : INVT σ) (s : tX_differ σ a b r1 σ1) (m : tM_differ σ1 a b r2 σ2) : INVT σ2 ∧ r1 = r2 := by
  have h1 := INVT_WX h s.1
  refine ⟨INVT_WM h1 m.1, ?_⟩
  have i3 := congrArg Int32.toInt h.1.2.2.2.2.1
  have g3 := ixi_3 h.1.1
  have e20 := congrArg Int32.toInt (s.1.2.1 20 (by decide))
  rcases s.2 with ⟨c, y⟩ | ⟨c, y⟩ <;> rcases m.2 with ⟨d, z⟩ | ⟨d, z⟩
  · exact y.trans z.symm
  · exfalso
    omega
  · exfalso
    omega
  · have ca := cnat (x := a) (by omega)
    have cb := cnat (x := b) (by omega)
    rw [FUM_x s.1, ← FU_eq h.1.2.2.1 h.2.2 (l := (a).toNatClampNeg) (by omega), FUM_x s.1, ← FU_eq h.1.2.2.1 h.2.2 (l := (b).toNatClampNeg) (by omega)] at z
    exact Int32.toInt_inj.mp (y.trans z.symm)
