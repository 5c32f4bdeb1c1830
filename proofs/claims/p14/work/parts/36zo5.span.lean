/-- FOUND ones are LOST, what they are is not; BOUNDS tell of LETTERS -/
def FK (σ : ST) : Prop := (∀ j : Nat, (j : Int) < (σ.1 3).toInt → 0 ≤ (σ.2 31 j).toInt → (σ.2 24 j).toInt = 4 ∧ (σ.2 31 j).toInt < (σ.1 3).toInt ∧ (σ.2 24 (σ.2 31 j).toNatClampNeg).toInt ≠ 4) ∧ ∀ k : Nat, (k : Int) < (σ.1 4).toInt → (σ.2 35 k).toInt < (σ.1 3).toInt ∧ (σ.2 36 k).toInt < (σ.1 3).toInt
theorem FK_FD {σ : ST} (iv : IV σ) (h : FK σ) : FDX σ := by
  have u3 := ixi_3 iv
  refine ⟨fun j hj => ?_, h.2⟩
  by_cases c : (σ.2 31 j).toInt < 0
  · rw [show rtX σ j = j from if_pos c]
    exact ⟨hj, c⟩
  · have q := h.1 j hj (by omega)
    have cn := cnat (x := σ.2 31 j) (by omega)
    rw [rtX_ne c]
    refine ⟨by omega, ?_⟩
    by_cases d : (σ.2 31 (σ.2 31 j).toNatClampNeg).toInt < 0
    · exact d
    · exact absurd (h.1 _ (by omega) (by omega)).1 q.2.2
theorem FK_e {σ σ2 : ST} (h3 : σ2.1 3 = σ.1 3) (h4 : σ2.1 4 = σ.1 4) (h24 : σ2.2 24 = σ.2 24) (h31 : σ2.2 31 = σ.2 31) (h35 : σ2.2 35 = σ.2 35) (h36 : σ2.2 36 = σ.2 36) (h : FK σ) : FK σ2 := by
  unfold FK
  rw [h3, h4, h24, h31, h35, h36]
  exact h
theorem FK_Ag {sI sA : Nat → Prop} {σ σ2 : ST} (a : Ag sI sA σ σ2) (hI : ¬ sI 3 ∧ ¬ sI 4) (hA : ∀ k : Nat, k ∈ [24, 31, 35, 36] → ¬ sA k) (h : FK σ) : FK σ2 := FK_e (a.1 3 hI.1) (a.1 4 hI.2) (a.2 24 (hA 24 (by decide))) (a.2 31 (hA 31 (by decide))) (a.2 35 (hA 35 (by decide))) (a.2 36 (hA 36 (by decide))) h
theorem FK_WX {σ σ2 : ST} (q : WX σ σ2) (h : FK σ) : FK σ2 := FK_Ag q.2 (by decide) (by decide) h
theorem FK_WM {σ σ2 : ST} (q : WM σ σ2) (h : FK σ) : FK σ2 := FK_Ag q.2 (by decide) (by decide) h
theorem FK_letter {σ σ2 : ST} {k : Int32} (iv : IV σ) (h : FK σ) (g : (σ.1 3).toInt < 12) (h3 : σ2.1 3 = σ.1 3 + 1) (h4 : σ2.1 4 = σ.1 4) (h24 : σ2.2 24 = upd (σ.2 24) (σ.1 3).toNatClampNeg k) (h31 : σ2.2 31 = upd (σ.2 31) (σ.1 3).toNatClampNeg (-1)) (h35 : σ2.2 35 = σ.2 35) (h36 : σ2.2 36 = σ.2 36) : FK σ2 := by
  have u3 := ixi_3 iv
  have p := inc1 (x := σ.1 3) (by omega)
  have cn := cnat u3.1
  have nm1 : (-1 : Int32).toInt = -1 := by decide
  unfold FK
  rw [h3, h4, h24, h31, h35, h36]
  refine ⟨fun j hj f => ?_, fun k hk => ?_⟩
  · by_cases e : j = (σ.1 3).toNatClampNeg
    · rw [e, upd_eq, nm1] at f
      omega
    · rw [upd_ne e] at f
      rw [upd_ne e, upd_ne e]
      have q := h.1 j (by omega) f
      have cf := cnat (x := σ.2 31 j) f
      rw [upd_ne (by omega)]
      exact ⟨q.1, by omega, q.2.2⟩
  · have q := h.2 k hk
    omega
theorem FK_31 {σ σ2 : ST} {i : Nat} {v : Int32} (h : FK σ) (hv : 0 ≤ v.toInt → (σ.2 24 i).toInt = 4 ∧ v.toInt < (σ.1 3).toInt ∧ (σ.2 24 v.toNatClampNeg).toInt ≠ 4) (h3 : σ2.1 3 = σ.1 3) (h4 : σ2.1 4 = σ.1 4) (h24 : σ2.2 24 = σ.2 24) (h31 : σ2.2 31 = upd (σ.2 31) i v) (h35 : σ2.2 35 = σ.2 35) (h36 : σ2.2 36 = σ.2 36) : FK σ2 := by
  unfold FK
  rw [h3, h4, h24, h31, h35, h36]
  refine ⟨fun j hj f => ?_, h.2⟩
  by_cases e : j = i
  · rw [e, upd_eq] at f ⊢
    exact hv f
  · rw [upd_ne e] at f ⊢
    exact h.1 j hj f
theorem FK_bound {σ σ2 : ST} {a b : Int32} (iv : IV σ) (h : FK σ) (ha : a.toInt < (σ.1 3).toInt) (hb : b.toInt < (σ.1 3).toInt) (g : (σ.1 4).toInt < 20) (h3 : σ2.1 3 = σ.1 3) (h4 : σ2.1 4 = σ.1 4 + 1) (h24 : σ2.2 24 = σ.2 24) (h31 : σ2.2 31 = σ.2 31) (h35 : σ2.2 35 = upd (σ.2 35) (σ.1 4).toNatClampNeg a) (h36 : σ2.2 36 = upd (σ.2 36) (σ.1 4).toNatClampNeg b) : FK σ2 := by
  have u4 := ixi_4 iv
  have p := inc1 (x := σ.1 4) (by omega)
  have cn := cnat u4.1
  unfold FK
  rw [h3, h4, h24, h31, h35, h36]
  refine ⟨h.1, fun k hk => ?_⟩
  by_cases e : k = (σ.1 4).toNatClampNeg
  · rw [e, upd_eq, upd_eq]
    exact ⟨ha, hb⟩
  · rw [upd_ne e, upd_ne e]
    exact h.2 k (by omega)
theorem FK_loose {σ σ2 : ST} (iv : IV σ) (h : FK σ) (h3 : σ2.1 3 = σ.1 3) (h4 : σ2.1 4 = σ.1 4 - 1) (h24 : σ2.2 24 = σ.2 24) (h31 : σ2.2 31 = σ.2 31) (h35 : σ2.2 35 = σ.2 35) (h36 : σ2.2 36 = σ.2 36) : FK σ2 := by
  have u4 := ixi_4 iv
  have p := dec1 (x := σ.1 4) (by omega)
  unfold FK
  rw [h3, h4, h24, h31, h35, h36]
  exact ⟨h.1, fun k hk => h.2 k (by omega)⟩

theorem w_person {σ σ1 σ2 : ST} {n q r1 r2 : Int32} (iv : IV σ) (kb : FK σ) (s : sX_person σ n q r1 σ1) (m : sM_person σ1 n q r2 σ2) : FK σ2 := by
  have u3 := ixi_3 iv
  have u4 := ixi_4 iv
  have kx : FK σ1 := by
    rcases s with ⟨c1, ⟨c2, y1, z1⟩ | ⟨c2, y1, z1⟩⟩ | ⟨c1, y1, z1⟩ <;> rw [z1] <;> first | exact kb | exact FK_e rfl rfl rfl rfl rfl rfl kb
  rcases m with ⟨c1, y1, z1⟩ | ⟨⟨c1, c2⟩, y1, z1⟩ | ⟨⟨c1, c2⟩, y1, z1⟩ <;> rw [z1] <;> first | exact kx | exact FK_e rfl rfl rfl rfl rfl rfl kx
theorem w_knows {σ σ1 σ2 : ST} {a b d r1 r2 : Int32} (iv : IV σ) (kb : FK σ) (s : sX_knows σ a b d r1 σ1) (m : sM_knows σ1 a b d r2 σ2) : FK σ2 := by
  have u3 := ixi_3 iv
  have u4 := ixi_4 iv
  have kx : FK σ1 := by
    rcases s with ⟨c1, y1, z1⟩ | ⟨c1, y1, z1⟩ <;> rw [z1] <;> first | exact kb | exact FK_e rfl rfl rfl rfl rfl rfl kb
  rcases m with ⟨c1, y1, z1⟩ | ⟨c1, y1, z1⟩ <;> rw [z1] <;> first | exact kx | exact FK_e rfl rfl rfl rfl rfl rfl kx
theorem w_lived {σ σ1 σ2 : ST} {p a b r1 r2 : Int32} (iv : IV σ) (kb : FK σ) (s : sX_lived σ p a b r1 σ1) (m : sM_lived σ1 p a b r2 σ2) : FK σ2 := by
  have u3 := ixi_3 iv
  have u4 := ixi_4 iv
  have kx : FK σ1 := by
    rcases s with ⟨c1, y1, z1⟩ | ⟨c1, y1, z1⟩ <;> rw [z1] <;> first | exact kb | exact FK_e rfl rfl rfl rfl rfl rfl kb
  rcases m with ⟨c1, y1, z1⟩ | ⟨c1, y1, z1⟩ <;> rw [z1] <;> first | exact kx | exact FK_e rfl rfl rfl rfl rfl rfl kx
theorem w_letter {σ σ1 σ2 : ST} {k a b q r1 r2 : Int32} (iv : IV σ) (kb : FK σ) (s : sX_letter σ k a b q r1 σ1) (m : sM_letter σ1 k a b q r2 σ2) : FK σ2 := by
  have u3 := ixi_3 iv
  have u4 := ixi_4 iv
  have kx : FK σ1 := by
    rcases s with ⟨c1, ⟨c2, y1, z1⟩ | ⟨c2, y1, z1⟩⟩ | ⟨c1, y1, z1⟩
    · rw [z1]; exact kb
    · exact FK_letter iv kb (by omega) (by rw [z1]; rfl) (by rw [z1]; rfl) (by rw [z1]; rfl) (by rw [z1]; rfl) (by rw [z1]; rfl) (by rw [z1]; rfl)
    · rw [z1]; exact kb
  rcases m with ⟨c1, y1, z1⟩ | ⟨⟨c1, c2⟩, y1, z1⟩ | ⟨⟨c1, c2⟩, y1, z1⟩ <;> rw [z1] <;> first | exact kx | exact FK_e rfl rfl rfl rfl rfl rfl kx
theorem w_days {σ σ1 σ2 : ST} {x a b r1 r2 : Int32} (iv : IV σ) (kb : FK σ) (s : sX_days σ x a b r1 σ1) (m : sM_days σ1 x a b r2 σ2) : FK σ2 := by
  have u3 := ixi_3 iv
  have u4 := ixi_4 iv
  have kx : FK σ1 := by
    rcases s with ⟨c1, y1, z1⟩ | ⟨c1, y1, z1⟩ <;> rw [z1] <;> first | exact kb | exact FK_e rfl rfl rfl rfl rfl rfl kb
  rcases m with ⟨c1, y1, z1⟩ | ⟨c1, y1, z1⟩ <;> rw [z1] <;> first | exact kx | exact FK_e rfl rfl rfl rfl rfl rfl kx
theorem w_week {σ σ1 σ2 : ST} {x a r1 r2 : Int32} (iv : IV σ) (kb : FK σ) (s : sX_week σ x a r1 σ1) (m : sM_week σ1 x a r2 σ2) : FK σ2 := by
  have u3 := ixi_3 iv
  have u4 := ixi_4 iv
  have kx : FK σ1 := by
    rcases s with ⟨c1, y1, z1⟩ | ⟨c1, y1, z1⟩ <;> rw [z1] <;> first | exact kb | exact FK_e rfl rfl rfl rfl rfl rfl kb
  rcases m with ⟨c1, y1, z1⟩ | ⟨c1, y1, z1⟩ <;> rw [z1] <;> first | exact kx | exact FK_e rfl rfl rfl rfl rfl rfl kx
theorem w_bound {σ σ1 σ2 : ST} {a b d r1 r2 : Int32} (iv : IV σ) (kb : FK σ) (s : sX_bound σ a b d r1 σ1) (m : sM_bound σ1 a b d r2 σ2) : FK σ2 := by
  have u3 := ixi_3 iv
  have u4 := ixi_4 iv
  have kx : FK σ1 := by
    rcases s with ⟨c1, ⟨c2, y1, z1⟩ | ⟨c2, y1, z1⟩⟩ | ⟨c1, y1, z1⟩
    · rw [z1]; exact kb
    · exact FK_bound (a := a) (b := b) iv kb (by omega) (by omega) (by omega) (by rw [z1]; rfl) (by rw [z1]; rfl) (by rw [z1]; rfl) (by rw [z1]; rfl) (by rw [z1]; rfl) (by rw [z1]; rfl)
    · rw [z1]; exact kb
  rcases m with ⟨c1, y1, z1⟩ | ⟨⟨c1, c2⟩, y1, z1⟩ | ⟨⟨c1, c2⟩, y1, z1⟩ <;> rw [z1] <;> first | exact kx | exact FK_e rfl rfl rfl rfl rfl rfl kx
theorem w_loose {σ σ1 σ2 : ST} { r1 r2 : Int32} (iv : IV σ) (kb : FK σ) (s : sX_loose σ  r1 σ1) (m : sM_loose σ1  r2 σ2) : FK σ2 := by
  have u3 := ixi_3 iv
  have u4 := ixi_4 iv
  have kx : FK σ1 := by
    rcases s with ⟨c1, y1, z1⟩ | ⟨c1, y1, z1⟩
    · first | (rw [z1]; exact kb) | exact FK_loose iv kb (by rw [z1]; rfl) (by rw [z1]; rfl) (by rw [z1]; rfl) (by rw [z1]; rfl) (by rw [z1]; rfl) (by rw [z1]; rfl)
    · first | (rw [z1]; exact kb) | exact FK_loose iv kb (by rw [z1]; rfl) (by rw [z1]; rfl) (by rw [z1]; rfl) (by rw [z1]; rfl) (by rw [z1]; rfl) (by rw [z1]; rfl)
  rcases m with ⟨c1, y1, z1⟩ | ⟨c1, y1, z1⟩ <;> rw [z1] <;> first | exact kx | exact FK_e rfl rfl rfl rfl rfl rfl kx
theorem w_found {σ σ1 σ2 : ST} {a b r1 r2 : Int32} (iv : IV σ) (kb : FK σ) (s : sX_found σ a b r1 σ1) (m : sM_found σ1 a b r2 σ2) : FK σ2 := by
  have u3 := ixi_3 iv
  have u4 := ixi_4 iv
  have kx : FK σ1 := by
    rcases s with ⟨c1, y1, z1⟩ | ⟨⟨c1, c2⟩, y1, z1⟩ | ⟨⟨c1, c2⟩, y1, z1⟩
    · rw [z1]; exact kb
    · rw [z1]; exact kb
    · exact FK_31 (i := a.toNatClampNeg) (v := b) kb (fun _ => ⟨by omega, by omega, by omega⟩) (by rw [z1]; rfl) (by rw [z1]; rfl) (by rw [z1]; rfl) (by rw [z1]; exact setA_same _ _ _ _) (by rw [z1]; rfl) (by rw [z1]; rfl)
  rcases m with ⟨c1, y1, z1⟩ | ⟨⟨c1, c2⟩, y1, z1⟩ | ⟨⟨c1, c2⟩, y1, z1⟩ <;> rw [z1] <;> first | exact kx | exact FK_e rfl rfl rfl rfl rfl rfl kx
theorem w_lose {σ σ1 σ2 : ST} {a r1 r2 : Int32} (iv : IV σ) (kb : FK σ) (s : sX_lose σ a r1 σ1) (m : sM_lose σ1 a r2 σ2) : FK σ2 := by
  have u3 := ixi_3 iv
  have u4 := ixi_4 iv
  have kx : FK σ1 := by
    rcases s with ⟨c1, y1, z1⟩ | ⟨⟨c1, c2⟩, y1, z1⟩ | ⟨⟨c1, c2⟩, y1, z1⟩
    · rw [z1]; exact kb
    · rw [z1]; exact kb
    · exact FK_31 (i := a.toNatClampNeg) (v := -1) kb (fun z => absurd z (by decide)) (by rw [z1]; rfl) (by rw [z1]; rfl) (by rw [z1]; rfl) (by rw [z1]; exact setA_same _ _ _ _) (by rw [z1]; rfl) (by rw [z1]; rfl)
  rcases m with ⟨c1, y1, z1⟩ | ⟨⟨c1, c2⟩, y1, z1⟩ | ⟨⟨c1, c2⟩, y1, z1⟩ <;> rw [z1] <;> first | exact kx | exact FK_e rfl rfl rfl rfl rfl rfl kx
theorem w_hand {σ σ1 σ2 : ST} {a b p r1 r2 : Int32} (iv : IV σ) (kb : FK σ) (s : sX_hand σ a b p r1 σ1) (m : sM_hand σ1 a b p r2 σ2) : FK σ2 := by
  have u3 := ixi_3 iv
  have u4 := ixi_4 iv
  have kx : FK σ1 := by
    rcases s with ⟨c1, f, hf, ⟨c2, y1, z1⟩ | ⟨c2, y1, z1⟩ | ⟨c2, y1, z1⟩⟩ | ⟨c1, y1, z1⟩ <;> rw [z1] <;> first | exact kb | exact FK_e rfl rfl rfl rfl rfl rfl kb
  rcases m with ⟨c1, y1, z1⟩ | ⟨c1, f, hf, ⟨c2, y1, z1⟩ | ⟨c2, y1, z1⟩ | ⟨c2, y1, z1⟩⟩ <;> rw [z1] <;> first | exact kx | exact FK_e rfl rfl rfl rfl rfl rfl kx
theorem w_post {σ σ1 σ2 : ST} {a b u v r1 r2 : Int32} (iv : IV σ) (kb : FK σ) (s : sX_post σ a b u v r1 σ1) (m : sM_post σ1 a b u v r2 σ2) : FK σ2 := by
  have kx : FK σ1 := FK_Ag (a_post iv s).2 (by decide) (by decide) kb
  rcases m with ⟨c1, y1, z1⟩ | ⟨c1, y1, z1⟩ <;> rw [z1] <;> first | exact kx | exact FK_e rfl rfl rfl rfl rfl rfl kx
theorem w_cell {σ σ1 σ2 : ST} {t i v r1 r2 : Int32} (iv : IV σ) (kb : FK σ) (s : sX_cell σ t i v r1 σ1) (m : sM_cell σ1 t i v r2 σ2) : FK σ2 := by
  have kx : FK σ1 := FK_Ag (a_cell iv s).2 (by decide) (by decide) kb
  rcases m with ⟨c1, y1, z1⟩ | ⟨c1, y1, z1⟩ | ⟨c1, y1, z1⟩ | ⟨c1, y1, z1⟩ <;> rw [z1] <;> first | exact kx | exact FK_e rfl rfl rfl rfl rfl rfl kx
theorem w_feed {σ σ1 σ2 : ST} {n r1 r2 : Int32} (iv : IV σ) (kb : FK σ) (s : sX_feed σ n r1 σ1) (m : sM_feed σ1 n r2 σ2) : FK σ2 := by
  have kx : FK σ1 := by
    rcases s with ⟨c1, y1, z1⟩ | ⟨c1, c2, y1, z1⟩ | ⟨c1, c2, w1, q1, y1⟩
    · rw [z1]; exact kb
    · rw [z1]; exact kb
    · exact FK_Ag w1.2 (by decide) (by decide) kb
  rcases m with ⟨c1, y1, z1⟩ | ⟨c1, c2, y1, z1⟩ | ⟨c1, c2, w1, q1, y1⟩
  · rw [z1]; exact kx
  · rw [z1]; exact kx
  · exact FK_Ag w1.2 (by decide) (by decide) kx
theorem w_lay {σ σ1 σ2 : ST} {t f n r1 r2 : Int32} (iv : IV σ) (kb : FK σ) (s : sX_lay σ t f n r1 σ1) (m : sM_lay σ1 t f n r2 σ2) : FK σ2 := by
  have kx : FK σ1 := by
    rcases s with ⟨c1, y1, z1⟩ | ⟨c1, c2, y1, z1⟩ | ⟨c1, c2, w1, q1⟩
    · rw [z1]; exact kb
    · rw [z1]; exact kb
    · exact FK_Ag w1.2 (by decide) (by decide) kb
  rcases m with ⟨c1, y1, z1⟩ | ⟨c1, c2, y1, z1⟩ | ⟨c1, c2, w1, q1⟩
  · rw [z1]; exact kx
  · rw [z1]; exact kx
  · exact FK_Ag w1.2 (by decide) (by decide) kx
theorem w_tray {σ σ1 σ2 : ST} {t n r1 r2 : Int32} (iv : IV σ) (kb : FK σ) (s : sX_tray σ t n r1 σ1) (m : sM_tray σ1 t n r2 σ2) : FK σ2 := by
  have kx : FK σ1 := by
    rcases s with ⟨c1, y1, z1⟩ | ⟨c1, c2, y1, z1⟩ | ⟨c1, c2, y1, w1, q1⟩
    · rw [z1]; exact kb
    · rw [z1]; exact kb
    · exact FK_Ag w1.2 (by decide) (by decide) kb
  rcases m with ⟨c1, y1, z1⟩ | ⟨c1, c2, y1, z1⟩ | ⟨c1, c2, y1, w1, q1⟩
  · rw [z1]; exact kx
  · rw [z1]; exact kx
  · exact FK_Ag w1.2 (by decide) (by decide) kx
theorem w_text {σ σ1 σ2 : ST} {a : Int32} (iv : IV σ) (kb : FK σ) (s : sX_text σ a σ1) (m : sM_text σ1 a σ2) : FK σ2 := by
  have kx : FK σ1 := by
    rcases s with ⟨c1, z1⟩ | ⟨c1, w1, q1⟩
    · rw [z1]; exact kb
    · exact FK_Ag w1.2 (by decide) (by decide) kb
  rcases m with ⟨c1, z1⟩ | ⟨c1, w1, tv1, q1⟩
  · rw [z1]; exact kx
  · exact FK_Ag w1.2 (by decide) (by decide) kx
/-- class and reference hold the same of LETTERS and BOUNDS -/
def INVD (σ : ST) : Prop := INV σ ∧ RD σ ∧ FK σ
theorem INVD_WX {σ σ2 : ST} (h : INVD σ) (q : WX σ σ2) : INVD σ2 := ⟨INV_WX h.1 q, RD_WX q h.2.1, FK_WX q h.2.2⟩
theorem INVD_WM {σ σ2 : ST} (h : INVD σ) (q : WM σ σ2) : INVD σ2 := ⟨INV_WM h.1 q, RD_WM q h.2.1, FK_WM q h.2.2⟩
theorem FS_XM {σ : ST} (h : INVD σ) (kp : Nat → Prop) (x : Nat → Int) : FSX σ kp x ↔ FSM σ kp x := by
  obtain ⟨r2, r3, r4, r5, r6, r24, r25, r31, -⟩ := h.1.2.2.2
  obtain ⟨d19, d20, d26, d27, d28, d29, d30, d35, d36, d37, -⟩ := h.2.1
  unfold FSX FSM
  rw [r3, r4, r31, d28, d29, d30, d35, d36, d37]
theorem FSM_x {σ σ2 : ST} (h : WX σ σ2) (kp : Nat → Prop) (x : Nat → Int) : FSM σ2 kp x ↔ FSM σ kp x := by
  unfold FSM
  rw [h.2.1 20 (by decide), h.2.1 21 (by decide), h.2.2 105 (by decide), h.2.2 106 (by decide), h.2.2 107 (by decide), h.2.2 108 (by decide), h.2.2 111 (by decide), h.2.2 112 (by decide), h.2.2 113 (by decide)]
theorem LG_cg {F G : (Nat → Int) → Prop} {n : Int} {L H : Nat → Int} (e : ∀ x : Nat → Int, F x ↔ G x) (h : LG F n L H) : LG G n L H := ⟨(e _).mp h.1, (e _).mp h.2.1, fun x hx => h.2.2 x ((e x).mpr hx)⟩
/-- what span answers -/
def SPR (F : (Nat → Int) → Prop) (n : Int) (j : Nat) (w r : Int32) : Prop := ((∀ x : Nat → Int, ¬ F x) ∧ r = -1) ∨ ∃ L H : Nat → Int, LG F n L H ∧ ((w.toInt = 0 ∧ r.toInt = L j) ∨ (w.toInt ≠ 0 ∧ r.toInt = H j))
theorem SPR_one {F : (Nat → Int) → Prop} {n : Int} {j : Nat} {w r r2 : Int32} (hj : (j : Int) < n) (h : SPR F n j w r) (g : SPR F n j w r2) : r = r2 := by
  rcases h with ⟨a, b⟩ | ⟨L, H, a, b⟩ <;> rcases g with ⟨c, d⟩ | ⟨L2, H2, c, d⟩
  · exact b.trans d.symm
  · exact absurd c.1 (a _)
  · exact absurd a.1 (c _)
  · have q := LG_one a c hj
    exact Int32.toInt_inj.mp (by omega)
theorem SPR_cg {F G : (Nat → Int) → Prop} {n : Int} {j : Nat} {w r : Int32} (e : ∀ x : Nat → Int, F x ↔ G x) (h : SPR F n j w r) : SPR G n j w r := by
  rcases h with ⟨a, b⟩ | ⟨L, H, a, b⟩
  · exact Or.inl ⟨fun x q => a x ((e x).mpr q), b⟩
  · exact Or.inr ⟨L, H, LG_cg e a, b⟩
/-- what clash answers -/
def CLR (G : Int32 → (Nat → Int) → Prop) (k : Int32) (r : Int32) : Prop := ((∃ x : Nat → Int, G (allS k) x) ∧ r = -1) ∨ ((∀ x : Nat → Int, ¬ G (allS k) x) ∧ CFR (fun s => ∀ x : Nat → Int, ¬ G s x) k.toNatClampNeg (allS k) r)
theorem CLR_one {G : Int32 → (Nat → Int) → Prop} {k r r2 : Int32} (h : CLR G k r) (g : CLR G k r2) : r = r2 := by
  rcases h with ⟨⟨x, a⟩, b⟩ | ⟨a, b⟩ <;> rcases g with ⟨⟨y, c⟩, d⟩ | ⟨c, d⟩
  · exact b.trans d.symm
  · exact absurd a (c x)
  · exact absurd c (a y)
  · exact CFR_one _ _ _ _ b d
theorem CLR_cg {G G2 : Int32 → (Nat → Int) → Prop} {k r : Int32} (e : ∀ (s : Int32) (x : Nat → Int), G s x ↔ G2 s x) (h : CLR G k r) : CLR G2 k r := by
  rcases h with ⟨⟨x, a⟩, b⟩ | ⟨a, b⟩
  · exact Or.inl ⟨⟨x, (e _ x).mp a⟩, b⟩
  · exact Or.inr ⟨fun x q => a x ((e _ x).mpr q), CFR_cg (fun s => ⟨fun z x q => z x ((e s x).mpr q), fun z x q => z x ((e s x).mp q)⟩) _ _ _ b⟩
def tX_span (σ : ST) (a b r : Int32) (σ2 : ST) : Prop := WX σ σ2 ∧ ((¬ ((0 ≤ a.toInt ∧ a.toInt < (σ.1 3).toInt) ∧ (0 ≤ b.toInt ∧ b.toInt ≤ 1)) ∧ r = -2) ∨ (((0 ≤ a.toInt ∧ a.toInt < (σ.1 3).toInt) ∧ (0 ≤ b.toInt ∧ b.toInt ≤ 1)) ∧ SPR (FSX σ (kpF (allS (σ.1 4)))) (σ.1 3).toInt (a).toNatClampNeg b r))
def tM_span (σ : ST) (a b r : Int32) (σ2 : ST) : Prop := WM σ σ2 ∧ ((¬ ((0 ≤ a.toInt ∧ a.toInt < (σ.1 20).toInt) ∧ (0 ≤ b.toInt ∧ b.toInt ≤ 1)) ∧ r = -2) ∨ (((0 ≤ a.toInt ∧ a.toInt < (σ.1 20).toInt) ∧ (0 ≤ b.toInt ∧ b.toInt ≤ 1)) ∧ SPR (FSM σ (kpF (allS (σ.1 21)))) (σ.1 20).toInt (a).toNatClampNeg b r))
def tX_clash (σ : ST) (r : Int32) (σ2 : ST) : Prop := WX σ σ2 ∧ CLR (fun s => FSX σ (kpF s)) (σ.1 4) r
def tM_clash (σ : ST) (r : Int32) (σ2 : ST) : Prop := WM σ σ2 ∧ CLR (fun s => FSM σ (kpF s)) (σ.1 21) r
theorem LGM_01 {σ s : ST} {kp : Nat → Prop} {r : Int32} (h : LGM σ kp s r) : r = 0 ∨ r = 1 := by
  rcases h with ⟨a, -⟩ | ⟨a, -⟩
  · exact Or.inr a
  · exact Or.inl a
theorem LGM_LG {σ s : ST} {kp : Nat → Prop} {r : Int32} (h : LGM σ kp s r) (e : r.toInt = 0) : LG (FSM σ kp) (σ.1 20).toInt (lowM s) (higM s) := by
  rcases h with ⟨a, -⟩ | ⟨-, a⟩
  · rw [a] at e
    exact absurd e (by decide)
  · exact a
theorem LGM_no {σ s : ST} {kp : Nat → Prop} {r : Int32} (h : LGM σ kp s r) (e : r.toInt ≠ 0) : ∀ x : Nat → Int, ¬ FSM σ kp x := by
  rcases h with ⟨-, a⟩ | ⟨a, -⟩
  · exact a
  · rw [a] at e
    exact absurd rfl e
set_option maxHeartbeats 4000000 in
set_option maxRecDepth 100000 in
theorem f_X11_span (l : Launch) (L : WL) (σ : ST) (a b : Int32) (ix : IV σ) (fd : FDX σ) : CtI l L yX11_span cX11_span 3 (some .int) rm_X11_span [.ref (L.2.1 0), .int a, .int b] σ (fun r σ2 => tX_span σ a b r σ2) := by
  refine ctI_go (own := RX11) (by decide) rfl (Nat.le_of_ble_eq_true rfl) (fun F hF => ?_)
  subst hF
  have nm2 : (-2 : Int32).toInt = -2 := by decide
  have nm1 : (-1 : Int32).toInt = -1 := by decide
  have n1 : (1 : Int32).toInt = 1 := by decide
  have w0 : WX σ σ := WX_rfl ix
  have gl := ixi_3 ix
  refine go_aload_n (i := 0) (pc' := 1) dX11_span_0 rfl rfl rfl ?_
  refine gf_0_letters (pc' := 4) dX11_span_1 rfl fl_X11_19 ?_
  refine go_iload_n (i := 1) (pc' := 5) dX11_span_4 rfl rfl rfl ?_
  refine go_cvi (pc' := 8) lk_X11_130 (c_X2_has _ _ _ _) rfl rfl (Nat.le_of_ble_eq_true rfl) (by decide) rfl rfl rfl ⟨Nat.le_of_ble_eq_true rfl, Nat.le_of_ble_eq_true rfl⟩ ⟨rfl, rfl⟩ dX11_span_5 rfl (fun r1 σ1 h1 => ?_)
  obtain ⟨e1, h1⟩ := h1
  have e1 := e1.symm
  subst e1
  refine go_eqB (tgt := 20) (pc' := 11) h1 dX11_span_8 rfl (by decide) (fun c2 => ?_) (fun c2 => ?_)
  · refine go_bipush (v := (-2)) (pc' := 22) dX11_span_20 rfl (by decide) ?_
    exact go_iret dX11_span_22 rfl (⟨w0, Or.inl ⟨by omega, rfl⟩⟩)
  refine go_iload_n (i := 2) (pc' := 12) dX11_span_11 rfl rfl rfl ?_
  refine gz_if_lt (tgt := 20) (pc' := 15) dX11_span_12 rfl (by decide) (fun c3 => ?_) (fun c3 => ?_)
  · refine go_bipush (v := (-2)) (pc' := 22) dX11_span_20 rfl (by decide) ?_
    exact go_iret dX11_span_22 rfl (⟨w0, Or.inl ⟨by omega, rfl⟩⟩)
  refine go_iload_n (i := 2) (pc' := 16) dX11_span_15 rfl rfl rfl ?_
  refine go_iconst (v := 1) (pc' := 17) dX11_span_16 rfl (by decide) ?_
  refine gz_icmp_le (tgt := 23) (pc' := 20) dX11_span_17 rfl (by decide) (fun c4 => ?_) (fun c4 => ?_)
  · refine go_aload_n (i := 0) (pc' := 24) dX11_span_23 rfl rfl rfl ?_
    refine gf_0_calendar (pc' := 27) dX11_span_24 rfl fl_X11_26 ?_
    refine go_aload_n (i := 0) (pc' := 28) dX11_span_27 rfl rfl rfl ?_
    refine gf_0_letters (pc' := 31) dX11_span_28 rfl fl_X11_19 ?_
    refine go_cvi (pc' := 34) lk_X11_171 (f_X0_settle _ _ _ w0.1 fd) rfl rfl (Nat.le_of_ble_eq_true rfl) (by decide) rfl rfl rfl ⟨Nat.le_of_ble_eq_true rfl, Nat.le_of_ble_eq_true rfl⟩ ⟨rfl, rfl⟩ dX11_span_31 rfl (fun r5 σ5 h5 => ?_)
    obtain ⟨u5, h5⟩ := h5
    have w5 := WX_trans w0 u5
    have st := h5
    refine gz_if_ne (tgt := 39) (pc' := 37) dX11_span_34 rfl (by decide) (fun c6 => ?_) (fun c6 => ?_)
    · have sg := st.resolve_left (fun q => c6 q.1)
      refine go_iload_n (i := 2) (pc' := 40) dX11_span_39 rfl rfl rfl ?_
      refine gz_if_ne (tgt := 55) (pc' := 43) dX11_span_40 rfl (by decide) (fun c7 => ?_) (fun c7 => ?_)
      · refine go_aload_n (i := 0) (pc' := 56) dX11_span_55 rfl rfl rfl ?_
        refine gf_0_calendar (pc' := 59) dX11_span_56 rfl fl_X11_26 ?_
        refine gf_3_highs (pc' := 62) dX11_span_59 rfl fl_X11_178 ?_
        refine go_iload_n (i := 1) (pc' := 63) dX11_span_62 rfl rfl rfl ?_
        refine go_iald (pc' := 64) dX11_span_63 rfl (by decide) (by decide) rfl (vin_of (n := 12) (by omega) (by omega)) ?_
        exact go_iret dX11_span_64 rfl (⟨w5, Or.inr ⟨by omega, Or.inr ⟨_, _, sg.2.2, by first | exact Or.inl ⟨by omega, rfl⟩ | exact Or.inr ⟨by omega, rfl⟩⟩⟩⟩)
      refine go_aload_n (i := 0) (pc' := 44) dX11_span_43 rfl rfl rfl ?_
      refine gf_0_calendar (pc' := 47) dX11_span_44 rfl fl_X11_26 ?_
      refine gf_3_lows (pc' := 50) dX11_span_47 rfl fl_X11_175 ?_
      refine go_iload_n (i := 1) (pc' := 51) dX11_span_50 rfl rfl rfl ?_
      refine go_iald (pc' := 52) dX11_span_51 rfl (by decide) (by decide) rfl (vin_of (n := 12) (by omega) (by omega)) ?_
      refine go_goto (tgt := 64) dX11_span_52 (by decide) ?_
      exact go_iret dX11_span_64 rfl (⟨w5, Or.inr ⟨by omega, Or.inr ⟨_, _, sg.2.2, by first | exact Or.inl ⟨by omega, rfl⟩ | exact Or.inr ⟨by omega, rfl⟩⟩⟩⟩)
    refine go_iconst (v := (-1)) (pc' := 38) dX11_span_37 rfl (by decide) ?_
    exact go_iret dX11_span_38 rfl (⟨w5, Or.inr ⟨by omega, Or.inl ⟨(st.resolve_right (fun q => by have := q.1; omega)).2, rfl⟩⟩⟩)
  refine go_bipush (v := (-2)) (pc' := 22) dX11_span_20 rfl (by decide) ?_
  exact go_iret dX11_span_22 rfl (⟨w0, Or.inl ⟨by omega, rfl⟩⟩)
set_option maxHeartbeats 4000000 in
set_option maxRecDepth 100000 in
theorem f_X11_clash (l : Launch) (L : WL) (σ : ST)  (ix : IV σ) (fd : FDX σ) : CtI l L yX11_clash cX11_clash 1 (some .int) rm_X11_clash [.ref (L.2.1 0)] σ (fun r σ2 => tX_clash σ r σ2) := by
  refine ctI_go (own := RX11) (by decide) rfl (Nat.le_of_ble_eq_true rfl) (fun F hF => ?_)
  subst hF
  have w0 : WX σ σ := WX_rfl ix
  refine go_aload_n (i := 0) (pc' := 1) dX11_clash_0 rfl rfl rfl ?_
  refine gf_0_calendar (pc' := 4) dX11_clash_1 rfl fl_X11_26 ?_
  refine go_aload_n (i := 0) (pc' := 5) dX11_clash_4 rfl rfl rfl ?_
  refine gf_0_letters (pc' := 8) dX11_clash_5 rfl fl_X11_19 ?_
  refine go_cvi (pc' := 11) lk_X11_181 (f_X0_conflict _ _ _ w0.1 fd) rfl rfl (Nat.le_of_ble_eq_true rfl) (by decide) rfl rfl rfl ⟨Nat.le_of_ble_eq_true rfl, Nat.le_of_ble_eq_true rfl⟩ ⟨rfl, rfl⟩ dX11_clash_8 rfl (fun r1 σ1 h1 => ?_)
  obtain ⟨u1, h1⟩ := h1
  have w1 := WX_trans w0 u1
  have st := h1
  exact go_iret dX11_clash_11 rfl (⟨w1, st⟩)
set_option maxHeartbeats 4000000 in
set_option maxRecDepth 100000 in
theorem f_X12_clashAll (l : Launch) (L : WL) (σ : ST)  (ix : IV σ) (im : IM σ) : CtI l L yX12_clashAll cX12_clashAll 1 (some .boolean) rm_X12_clashAll [.ref (L.2.1 13)] σ (fun r σ2 => WMl σ σ2 ∧ LGM σ (kpF (allS (σ.1 21))) σ2 r) := by
  refine ctI_go (own := RX12) (by decide) rfl (Nat.le_of_ble_eq_true rfl) (fun F hF => ?_)
  subst hF
  have n1 : (1 : Int32).toInt = 1 := by decide
  have w0 : WMl σ σ := WMl_rfl ix
  refine go_aload_n (i := 0) (pc' := 1) dX12_clashAll_0 rfl rfl rfl ?_
  refine go_iconst (v := 1) (pc' := 2) dX12_clashAll_1 rfl (by decide) ?_
  refine go_aload_n (i := 0) (pc' := 3) dX12_clashAll_2 rfl rfl rfl ?_
  refine gf_13_bounds (pc' := 6) dX12_clashAll_3 rfl fl_X12_155 ?_
  have g1 := ixi_21 ix
  refine go_ishl (pc' := 7) dX12_clashAll_6 rfl ?_
  refine go_iconst (v := 1) (pc' := 8) dX12_clashAll_7 rfl (by decide) ?_
  refine go_isub (pc' := 9) dX12_clashAll_8 rfl ?_
  refine go_cvi (pc' := 12) lk_X12_181 (f_X12_clashes _ _ _ _ w0.1 (IM_q (WM_of_l w0) im)) rfl rfl (Nat.le_of_ble_eq_true rfl) (by decide) rfl rfl rfl ⟨Nat.le_of_ble_eq_true rfl, Nat.le_of_ble_eq_true rfl⟩ ⟨rfl, rfl⟩ dX12_clashAll_9 rfl (fun r2 σ2 h2 => ?_)
  obtain ⟨u2, h2⟩ := h2
  have w2 := WMl_trans w0 u2
  exact go_zret dX12_clashAll_12 rfl (nb01 (LGM_01 h2)) (⟨w2, h2⟩)
set_option maxHeartbeats 4000000 in
set_option maxRecDepth 100000 in
theorem f_X12_span (l : Launch) (L : WL) (σ : ST) (a b : Int32) (ix : IV σ) (im : IM σ) : CtI l L yX12_span cX12_span 3 (some .int) rm_X12_span [.ref (L.2.1 13), .int a, .int b] σ (fun r σ2 => tM_span σ a b r σ2) := by
  refine ctI_go (own := RX12) (by decide) rfl (Nat.le_of_ble_eq_true rfl) (fun F hF => ?_)
  subst hF
  have nm2 : (-2 : Int32).toInt = -2 := by decide
  have nm1 : (-1 : Int32).toInt = -1 := by decide
  have n2 : (2 : Int32).toInt = 2 := by decide
  have w0 : WM σ σ := WM_rfl ix
  have u19 := ixi_19 ix
  have u20 := ixi_20 ix
  have u21 := ixi_21 ix
  have u22 := ixi_22 ix
  refine go_aload_n (i := 0) (pc' := 1) dX12_span_0 rfl rfl rfl ?_
  refine go_iload_n (i := 1) (pc' := 2) dX12_span_1 rfl rfl rfl ?_
  refine go_cvi (pc' := 5) lk_X12_152 (c_X12_isLetter _ _ _ _) rfl rfl (Nat.le_of_ble_eq_true rfl) (by decide) rfl rfl rfl ⟨Nat.le_of_ble_eq_true rfl, Nat.le_of_ble_eq_true rfl⟩ ⟨rfl, rfl⟩ dX12_span_2 rfl (fun r1 σ1 h1 => ?_)
  obtain ⟨e1, h1⟩ := h1
  have e1 := e1.symm
  subst e1
  refine go_eqB (tgt := 16) (pc' := 8) h1 dX12_span_5 rfl (by decide) (fun c2 => ?_) (fun c2 => ?_)
  · refine go_bipush (v := (-2)) (pc' := 18) dX12_span_16 rfl (by decide) ?_
    exact go_iret dX12_span_18 rfl (⟨w0, Or.inl ⟨by omega, rfl⟩⟩)
  refine go_iload_n (i := 2) (pc' := 9) dX12_span_8 rfl rfl rfl ?_
  refine go_iconst (v := 2) (pc' := 10) dX12_span_9 rfl (by decide) ?_
  refine go_csi (pc' := 13) ls_X12_135 (c_X12_isIn _ _ _ _ _) rfl rfl (Nat.le_of_ble_eq_true rfl) ⟨Nat.le_of_ble_eq_true rfl, Nat.le_of_ble_eq_true rfl⟩ ⟨rfl, rfl⟩ dX12_span_10 rfl (fun r3 σ3 h3 => ?_)
  obtain ⟨e3, h3⟩ := h3
  have e3 := e3.symm
  subst e3
  refine go_neB (tgt := 19) (pc' := 16) h3 dX12_span_13 rfl (by decide) (fun c4 => ?_) (fun c4 => ?_)
  · refine go_aload_n (i := 0) (pc' := 20) dX12_span_19 rfl rfl rfl ?_
    refine go_cvi (pc' := 23) lk_X12_184 (f_X12_clashAll _ _ _ w0.1 (IM_q w0 im)) rfl rfl (Nat.le_of_ble_eq_true rfl) (by decide) rfl rfl rfl ⟨Nat.le_of_ble_eq_true rfl, Nat.le_of_ble_eq_true rfl⟩ ⟨rfl, rfl⟩ dX12_span_20 rfl (fun r5 σ5 h5 => ?_)
    obtain ⟨u5, h5⟩ := h5
    have w5 := WM_trans w0 (WM_of_l u5)
    have st := h5
    refine gz_if_eq (tgt := 28) (pc' := 26) dX12_span_23 rfl (by decide) (fun c6 => ?_) (fun c6 => ?_)
    · refine go_iload_n (i := 2) (pc' := 29) dX12_span_28 rfl rfl rfl ?_
      refine gz_if_ne (tgt := 41) (pc' := 32) dX12_span_29 rfl (by decide) (fun c7 => ?_) (fun c7 => ?_)
      · refine go_aload_n (i := 0) (pc' := 42) dX12_span_41 rfl rfl rfl ?_
        refine gf_13_high (pc' := 45) dX12_span_42 rfl fl_X12_86 ?_
        refine go_iload_n (i := 1) (pc' := 46) dX12_span_45 rfl rfl rfl ?_
        refine go_iald (pc' := 47) dX12_span_46 rfl (by decide) (by decide) rfl (vin_of (n := 12) (by omega) (by omega)) ?_
        refine go_rngA (ixa_121 w5.1) (vinlt (vin_of (n := 12) (by omega) (by omega))) (fun g8 => ?_)
        exact go_iret dX12_span_47 rfl (⟨w5, Or.inr ⟨by omega, Or.inr ⟨_, _, LGM_LG st (by omega), by first | exact Or.inl ⟨by omega, rfl⟩ | exact Or.inr ⟨by omega, rfl⟩⟩⟩⟩)
      refine go_aload_n (i := 0) (pc' := 33) dX12_span_32 rfl rfl rfl ?_
      refine gf_13_low (pc' := 36) dX12_span_33 rfl fl_X12_83 ?_
      refine go_iload_n (i := 1) (pc' := 37) dX12_span_36 rfl rfl rfl ?_
      refine go_iald (pc' := 38) dX12_span_37 rfl (by decide) (by decide) rfl (vin_of (n := 12) (by omega) (by omega)) ?_
      refine go_rngA (ixa_120 w5.1) (vinlt (vin_of (n := 12) (by omega) (by omega))) (fun g9 => ?_)
      refine go_goto (tgt := 47) dX12_span_38 (by decide) ?_
      exact go_iret dX12_span_47 rfl (⟨w5, Or.inr ⟨by omega, Or.inr ⟨_, _, LGM_LG st (by omega), by first | exact Or.inl ⟨by omega, rfl⟩ | exact Or.inr ⟨by omega, rfl⟩⟩⟩⟩)
    refine go_iconst (v := (-1)) (pc' := 27) dX12_span_26 rfl (by decide) ?_
    exact go_iret dX12_span_27 rfl (⟨w5, Or.inr ⟨by omega, Or.inl ⟨LGM_no st (by omega), rfl⟩⟩⟩)
  refine go_bipush (v := (-2)) (pc' := 18) dX12_span_16 rfl (by decide) ?_
  exact go_iret dX12_span_18 rfl (⟨w0, Or.inl ⟨by omega, rfl⟩⟩)
set_option maxHeartbeats 4000000 in
set_option maxRecDepth 100000 in
theorem f_X12_clash (l : Launch) (L : WL) (σ : ST)  (ix : IV σ) (im : IM σ) : CtI l L yX12_clash cX12_clash 3 (some .int) rm_X12_clash [.ref (L.2.1 13)] σ (fun r σ2 => tM_clash σ r σ2) := by
  refine ctI_go (own := RX12) (by decide) rfl (Nat.le_of_ble_eq_true rfl) (fun F hF => ?_)
  subst hF
  have nm1 : (-1 : Int32).toInt = -1 := by decide
  have n1 : (1 : Int32).toInt = 1 := by decide
  have w0 : WM σ σ := WM_rfl ix
  have u19 := ixi_19 ix
  have u20 := ixi_20 ix
  have u21 := ixi_21 ix
  have u22 := ixi_22 ix
  have c21 := cnat u21.1
  refine go_aload_n (i := 0) (pc' := 1) dX12_clash_0 rfl rfl rfl ?_
  refine go_cvi (pc' := 4) lk_X12_184 (f_X12_clashAll _ _ _ w0.1 (IM_q w0 im)) rfl rfl (Nat.le_of_ble_eq_true rfl) (by decide) rfl rfl rfl ⟨Nat.le_of_ble_eq_true rfl, Nat.le_of_ble_eq_true rfl⟩ ⟨rfl, rfl⟩ dX12_clash_1 rfl (fun r1 σ1 h1 => ?_)
  obtain ⟨u1, h1⟩ := h1
  have w1 := WM_trans w0 (WM_of_l u1)
  have st := h1
  refine gz_if_ne (tgt := 9) (pc' := 7) dX12_clash_4 rfl (by decide) (fun c2 => ?_) (fun c2 => ?_)
  · have no := LGM_no st (by omega)
    refine go_iconst (v := 1) (pc' := 10) dX12_clash_9 rfl (by decide) ?_
    refine go_aload_n (i := 0) (pc' := 11) dX12_clash_10 rfl rfl rfl ?_
    refine gf_13_bounds (pc' := 14) dX12_clash_11 rfl fl_X12_155 ?_
    refine go_topq (y := σ.1 21) (w1.2.1 21 (by decide)) ?_
    have g3 := ixi_21 ix
    refine go_ishl (pc' := 15) dX12_clash_14 rfl ?_
    refine go_iconst (v := 1) (pc' := 16) dX12_clash_15 rfl (by decide) ?_
    refine go_isub (pc' := 17) dX12_clash_16 rfl ?_
    refine go_topz (fun y4 h4 e4 => ?_)
    refine go_istore_n (i := 1) (pc' := 18) dX12_clash_17 rfl rfl (by decide) ?_
    have hy1 : (y4) = allS (σ.1 21) := by assumption
    refine go_aload_n (i := 0) (pc' := 19) dX12_clash_18 rfl rfl rfl ?_
    refine gf_13_bounds (pc' := 22) dX12_clash_19 rfl fl_X12_155 ?_
    refine go_topq (y := σ.1 21) (w1.2.1 21 (by decide)) ?_
    have g5 := ixi_21 ix
    refine go_iconst (v := 1) (pc' := 23) dX12_clash_22 rfl (by decide) ?_
    refine gz_isub (pc' := 24) dX12_clash_23 rfl (by omega) (fun v6 h6 e6 => ?_)
    refine go_istore_n (i := 2) (pc' := 25) dX12_clash_24 rfl rfl (by decide) ?_
    have loop25_7 : ∀ (dd7 : Nat) (σ7 : ST) (x1_7 : Int32) (x2_7 : Int32), WM σ σ7 → (-1 ≤ (x2_7).toInt ∧ (x2_7).toInt ≤ 19) → (∀ r : Int32, CFR (fun s => ∀ x : Nat → Int, ¬ FSM σ (kpF s) x) ((x2_7).toInt + 1).toNat (x1_7) r → CFR (fun s => ∀ x : Nat → Int, ¬ FSM σ (kpF s) x) (σ.1 21).toNatClampNeg (allS (σ.1 21)) r) → ((x2_7).toInt + 1).toNat = dd7 → Go F L RX12 cX12_clash 3 rm_X12_clash (some .int) (RI F L (fun r σ2 => tM_clash σ r σ2)) σ7 25 [(0, .ref (L.2.1 13)), (1, .int x1_7), (2, .int x2_7)] [] := by
      intro dd7
      induction dd7 using Nat.strongRecOn with
      | _ dd7 ih7 =>
        intro σ7 x1_7 x2_7 w7 h_7 hc_7 hm_7
        refine go_iload_n (i := 2) (pc' := 26) dX12_clash_25 rfl rfl rfl ?_
        refine gz_if_lt (tgt := 57) (pc' := 29) dX12_clash_26 rfl (by decide) (fun c8 => ?_) (fun c8 => ?_)
        · refine go_iload_n (i := 1) (pc' := 58) dX12_clash_57 rfl rfl rfl ?_
          exact go_iret dX12_clash_58 rfl (⟨w7, Or.inr ⟨no, hc_7 _ (by rw [show ((x2_7).toInt + 1).toNat = 0 from by omega]; rfl)⟩⟩)
        have c3 := cnat (x := x2_7) (by omega)
        have e3 : ((x2_7).toInt + 1).toNat = (x2_7).toNatClampNeg + 1 := by omega
        have o3 := of_nat (x := x2_7) (by omega)
        refine go_aload_n (i := 0) (pc' := 30) dX12_clash_29 rfl rfl rfl ?_
        refine go_iload_n (i := 1) (pc' := 31) dX12_clash_30 rfl rfl rfl ?_
        refine go_iconst (v := 1) (pc' := 32) dX12_clash_31 rfl (by decide) ?_
        refine go_iload_n (i := 2) (pc' := 33) dX12_clash_32 rfl rfl rfl ?_
        refine go_ishl (pc' := 34) dX12_clash_33 rfl ?_
        refine go_iconst (v := (-1)) (pc' := 35) dX12_clash_34 rfl (by decide) ?_
        refine go_ixor (pc' := 36) dX12_clash_35 rfl ?_
        refine go_iand (pc' := 37) dX12_clash_36 rfl ?_
        have wp := w7
        refine go_cvi (pc' := 40) lk_X12_181 (f_X12_clashes _ _ _ _ w7.1 (IM_q w7 im)) rfl rfl (Nat.le_of_ble_eq_true rfl) (by decide) rfl rfl rfl ⟨Nat.le_of_ble_eq_true rfl, Nat.le_of_ble_eq_true rfl⟩ ⟨rfl, rfl⟩ dX12_clash_37 rfl (fun r9 σ9 h9 => ?_)
        obtain ⟨u9, h9⟩ := h9
        have w9 := WM_trans w7 (WM_of_l u9)
        have ip := h9
        refine gz_if_eq (tgt := 51) (pc' := 43) dX12_clash_40 rfl (by decide) (fun c10 => ?_) (fun c10 => ?_)
        · have st51 : ∀ r : Int32, CFR (fun s => ∀ x : Nat → Int, ¬ FSM σ (kpF s) x) (x2_7).toNatClampNeg (x1_7) r → CFR (fun s => ∀ x : Nat → Int, ¬ FSM σ (kpF s) x) ((x2_7).toNatClampNeg + 1) (x1_7) r := fun r q => by
            unfold CFR
            rw [o3]
            first
            | exact Or.inr ⟨fun y => by
                have z := LGM_LG ip (by omega)
                exact y _ ((FSM_e wp).mp z.1), q⟩
            | (rw [show (x1_7) = ((x1_7) &&& (((1 : Int32) <<< ((x2_7) &&& 31)) ^^^ (-1))) from by assumption] at q
               exact Or.inl ⟨fun x hx => LGM_no ip (by omega) x ((FSM_e wp).mpr hx), q⟩)
          refine gz_iinc (c := (-1)) (pc' := 54) dX12_clash_51 rfl rfl (by decide) (by decide) (by decide) (by omega) (fun v11 h11 e11 => ?_)
          refine go_goto (tgt := 25) dX12_clash_54 (by decide) ?_
          exact go_lv (lv' := [(0, .ref (L.2.1 13)), (1, .int x1_7), (2, .int v11)]) rfl (ih7 _ (by omega) σ9 x1_7 v11 w9 (by omega) (fun r q => hc_7 r (by rw [e3]; exact st51 r (by rw [show (x2_7).toNatClampNeg = ((v11).toInt + 1).toNat from by omega]; exact q))) rfl)
        refine go_iload_n (i := 1) (pc' := 44) dX12_clash_43 rfl rfl rfl ?_
        refine go_iconst (v := 1) (pc' := 45) dX12_clash_44 rfl (by decide) ?_
        refine go_iload_n (i := 2) (pc' := 46) dX12_clash_45 rfl rfl rfl ?_
        refine go_ishl (pc' := 47) dX12_clash_46 rfl ?_
        refine go_iconst (v := (-1)) (pc' := 48) dX12_clash_47 rfl (by decide) ?_
        refine go_ixor (pc' := 49) dX12_clash_48 rfl ?_
        refine go_iand (pc' := 50) dX12_clash_49 rfl ?_
        refine go_topz (fun y12 h12 e12 => ?_)
        refine go_istore_n (i := 1) (pc' := 51) dX12_clash_50 rfl rfl (by decide) ?_
        have st51 : ∀ r : Int32, CFR (fun s => ∀ x : Nat → Int, ¬ FSM σ (kpF s) x) (x2_7).toNatClampNeg (y12) r → CFR (fun s => ∀ x : Nat → Int, ¬ FSM σ (kpF s) x) ((x2_7).toNatClampNeg + 1) (x1_7) r := fun r q => by
          unfold CFR
          rw [o3]
          first
          | exact Or.inr ⟨fun y => by
              have z := LGM_LG ip (by omega)
              exact y _ ((FSM_e wp).mp z.1), q⟩
          | (rw [show (y12) = ((x1_7) &&& (((1 : Int32) <<< ((x2_7) &&& 31)) ^^^ (-1))) from by assumption] at q
             exact Or.inl ⟨fun x hx => LGM_no ip (by omega) x ((FSM_e wp).mpr hx), q⟩)
        refine gz_iinc (c := (-1)) (pc' := 54) dX12_clash_51 rfl rfl (by decide) (by decide) (by decide) (by omega) (fun v13 h13 e13 => ?_)
        refine go_goto (tgt := 25) dX12_clash_54 (by decide) ?_
        exact go_lv (lv' := [(0, .ref (L.2.1 13)), (1, .int y12), (2, .int v13)]) rfl (ih7 _ (by omega) σ9 y12 v13 w9 (by omega) (fun r q => hc_7 r (by rw [e3]; exact st51 r (by rw [show (x2_7).toNatClampNeg = ((v13).toInt + 1).toNat from by omega]; exact q))) rfl)
    exact go_lv (lv' := [(0, .ref (L.2.1 13)), (1, .int y4), (2, .int v6)]) rfl (loop25_7 _ σ1 y4 v6 w1 (by omega) (fun r q => by rw [show ((v6).toInt + 1).toNat = (σ.1 21).toNatClampNeg from by omega, hy1] at q; exact q) rfl)
  refine go_iconst (v := (-1)) (pc' := 8) dX12_clash_7 rfl (by decide) ?_
  exact go_iret dX12_clash_8 rfl (⟨w1, Or.inl ⟨⟨_, (LGM_LG st (by omega)).1⟩, rfl⟩⟩)
theorem t_span {σ σ1 σ2 : ST} {a b r1 r2 : Int32} (h : INVD σ) (s : tX_span σ a b r1 σ1) (m : tM_span σ1 a b r2 σ2) : INVD σ2 ∧ r1 = r2 := by
  refine ⟨INVD_WM (INVD_WX h s.1) m.1, ?_⟩
  have i3 := congrArg Int32.toInt h.1.2.2.2.2.1
  have e20 := s.1.2.1 20 (by decide)
  have e21 := s.1.2.1 21 (by decide)
  have i20 := congrArg Int32.toInt e20
  rcases s.2 with ⟨c, y⟩ | ⟨c, y⟩ <;> rcases m.2 with ⟨d, z⟩ | ⟨d, z⟩
  · exact y.trans z.symm
  · exfalso
    omega
  · exfalso
    omega
  · have ca := cnat c.1.1
    rw [e20, e21, ← h.1.2.2.2.2.1, ← h.1.2.2.2.2.2.1] at z
    exact SPR_one (by omega) y (SPR_cg (fun x => (FSM_x s.1 _ x).trans (FS_XM h _ x).symm) z)
theorem t_clash {σ σ1 σ2 : ST} {r1 r2 : Int32} (h : INVD σ) (s : tX_clash σ r1 σ1) (m : tM_clash σ1 r2 σ2) : INVD σ2 ∧ r1 = r2 := by
  refine ⟨INVD_WM (INVD_WX h s.1) m.1, ?_⟩
  have z := m.2
  rw [s.1.2.1 21 (by decide), ← h.1.2.2.2.2.2.1] at z
  exact CLR_one s.2 (CLR_cg (fun t x => (FSM_x s.1 _ x).trans (FS_XM h _ x).symm) z)
