theorem prF_cg {t t2 : Nat → Int} {n : Nat} {dy wy : Int} (e : ∀ j : Nat, j < n → t j = t2 j) : ∀ (g p d k : Nat) (stk : Nat → Int), (∃ f st2, tk t n f p d st2 = -1) → prF t n dy wy g p d stk k = prF t2 n dy wy g p d stk k
  | 0, _, _, _, _, _ => rfl
  | g + 1, p, d, k, stk, h => by
    by_cases hn : n ≤ p
    · have e1 : prF t n dy wy (g + 1) p d stk k = [] := by
        unfold prF
        exact if_pos hn
      have e2 : prF t2 n dy wy (g + 1) p d stk k = [] := by
        unfold prF
        exact if_pos hn
      rw [e1, e2]
    · have hp : p < n := by omega
      have ep := e p hp
      unfold prF
      rw [if_neg hn, if_neg hn, ← ep]
      by_cases c1 : t p = 125
      · rw [if_pos c1, if_pos c1, prF_cg e g _ _ _ _ (tk_cl h hp c1).2]
      · rw [if_neg c1, if_neg c1]
        by_cases c2 : t p ≠ 123
        · rw [if_pos c2, if_pos c2, prF_cg e g _ _ _ _ (tk_pl h hp c1 c2)]
        · rw [if_neg c2, if_neg c2]
          have tm := tk_mk h hp (by omega)
          have ep1 := e (p + 1) tm.2.1
          have ed := dcnt_congr e 4 (p + 2)
          have ev : nval t (p + 2) (dcnt t2 n 4 (p + 2)) = nval t2 (p + 2) (dcnt t2 n 4 (p + 2)) := nval_congr (fun q hq => e _ (dcnt_dig (by rw [← ed] at hq; exact hq)).1)
          rw [← ep1, ← ed]
          rw [← ed] at ev
          rw [← ev]
          by_cases c3 : t (p + 1) = 110
          · rw [if_pos c3, if_pos c3, prF_cg e g _ _ _ _ (mk_note tm c3).2]
          · rw [if_neg c3, if_neg c3]
            have ih : ∃ f st2, tk t n f (if t (p + 1) = 115 then p + 3 + dcnt t n 4 (p + 2) else p + 2) (d + 1) st2 = -1 := by
              by_cases c4 : t (p + 1) = 115
              · rw [if_pos c4]
                exact (mk_s tm c4).2
              · rw [if_neg c4]
                exact mk_o tm c3 c4
            rw [prF_cg e g _ _ _ _ ih]
theorem tx_lr {σ : ST} (rt : RT σ) {l : Nat} (hl : l < 12) : ∀ j : Nat, j < (σ.2 109 l).toNatClampNeg → txX σ l j = lrT σ l j := fun j hj => by
  unfold txX lrT
  rw [rt.2.2.2.1 l j hl (by have z : (σ.2 109 l).toNatClampNeg = (σ.2 109 l).toInt.toNat := rfl; omega)]
theorem TVX_of {σ : ST} (tv : TV σ) (rt : RT σ) : TVX σ := fun l hl => by
  have z := tv l hl
  have e := (rt.2.2.1 l hl).1
  unfold VT at z ⊢
  rw [e]
  rw [← z]
  exact tk_congr (tx_lr rt hl) _ _ _ _
theorem FU_eq {σ : ST} (tv : TV σ) (rt : RT σ) {l : Nat} (hl : l < 12) (dy wy : Int) : FUX σ l dy wy = FUM σ l dy wy := by
  have v := TVX_of tv rt l hl
  have e := (rt.2.2.1 l hl).1
  unfold FUX FUM
  rw [e] at v ⊢
  exact prF_cg (tx_lr rt hl) 200 0 0 0 _ ⟨200, fun _ => 0, v⟩
theorem FUM_x {σ σ2 : ST} (h : WX σ σ2) (l : Nat) (dy wy : Int) : FUM σ2 l dy wy = FUM σ l dy wy := by
  unfold FUM lrT
  rw [h.2.2 110 (by decide), h.2.2 109 (by decide)]
theorem t_print {σ σ1 σ2 : ST} {a d0 y0 r1 r2 : Int32} (h : INVT σ) (s : tX_print σ a d0 y0 r1 σ1) (m : tM_print σ1 a d0 y0 r2 σ2) : INVT σ2 ∧ r1 = r2 := by
  have h1 := INVT_WX h s.1
  refine ⟨INVT_WM h1 m.1, ?_⟩
  have i3 := congrArg Int32.toInt h.1.2.2.2.2.1
  have g3 := ixi_3 h.1.1
  have e20 := congrArg Int32.toInt (s.1.2.1 20 (by decide))
  rcases s.2 with ⟨c, y⟩ | ⟨c, y⟩ <;> rcases m.2 with ⟨d, z⟩ | ⟨d, z⟩
  · exact y.trans z.symm
  · exfalso
    omega
  · exfalso
    omega
  · have ca := cnat (x := a) (by omega)
    rw [FUM_x s.1, ← FU_eq h.1.2.2.1 h.2.2 (l := (a).toNatClampNeg) (by omega)] at z
    exact Int32.toInt_inj.mp (y.trans z.symm)
theorem t_printed {σ σ1 σ2 : ST} {a d0 y0 i0 r1 r2 : Int32} (h : INVT σ) (s : tX_printed σ a d0 y0 i0 r1 σ1) (m : tM_printed σ1 a d0 y0 i0 r2 σ2) : INVT σ2 ∧ r1 = r2 := by
  have h1 := INVT_WX h s.1
  refine ⟨INVT_WM h1 m.1, ?_⟩
  have i3 := congrArg Int32.toInt h.1.2.2.2.2.1
  have g3 := ixi_3 h.1.1
  have e20 := congrArg Int32.toInt (s.1.2.1 20 (by decide))
  rcases s.2 with ⟨c, y⟩ | ⟨c, y⟩ <;> rcases m.2 with ⟨d, z⟩ | ⟨d, z⟩
  · exact y.trans z.symm
  · exfalso
    omega
  · exfalso
    omega
  · have ca := cnat (x := a) (by omega)
    rw [FUM_x s.1, ← FU_eq h.1.2.2.1 h.2.2 (l := (a).toNatClampNeg) (by omega)] at z
    exact atP_one y z
