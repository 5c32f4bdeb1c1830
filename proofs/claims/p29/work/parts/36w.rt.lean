/-- tape, TRAYS, TEXTS (and their sizes) and the latest fault stand alike: a byte of the class by its low 8 bits -/
def RTp (σ : ST) : Prop := ∀ j : Nat, (j : Int) < (σ.1 6).toInt → (σ.2 43 j &&& 255) = σ.2 119 j
def RTr (σ : ST) : Prop := ∀ t i : Nat, t < 4 → i < 60 → (σ.2 (92 + t) i &&& 255) = σ.2 135 (60 * t + i)
def RTs (σ : ST) : Prop := ∀ l : Nat, l < 12 → σ.2 32 l = σ.2 109 l ∧ ((σ.1 3).toInt ≤ (l : Int) → σ.2 109 l = 0)
def RTx (σ : ST) : Prop := ∀ l j : Nat, l < 12 → (j : Int) < (σ.2 109 l).toInt → (σ.2 (56 + l) j &&& 255) = σ.2 110 (160 * l + j)
def RT (σ : ST) : Prop := RTp σ ∧ RTr σ ∧ RTs σ ∧ RTx σ ∧ σ.1 0 = σ.1 26 ∧ σ.1 1 = σ.1 27
theorem RTp_e {σ σ2 : ST} (h6 : σ2.1 6 = σ.1 6) (h43 : σ2.2 43 = σ.2 43) (h119 : σ2.2 119 = σ.2 119) (h : RTp σ) : RTp σ2 := by
  unfold RTp
  rw [h6, h43, h119]
  exact h
theorem RTr_e {σ σ2 : ST} (h92 : ∀ k : Nat, 92 ≤ k → k < 96 → σ2.2 k = σ.2 k) (h135 : σ2.2 135 = σ.2 135) (h : RTr σ) : RTr σ2 := fun t i ht hi => by
  rw [h92 (92 + t) (by omega) (by omega), h135]
  exact h t i ht hi
theorem RTs_e {σ σ2 : ST} (h3 : σ2.1 3 = σ.1 3) (h32 : σ2.2 32 = σ.2 32) (h109 : σ2.2 109 = σ.2 109) (h : RTs σ) : RTs σ2 := by
  unfold RTs
  rw [h3, h32, h109]
  exact h
theorem RTx_e {σ σ2 : ST} (h56 : ∀ k : Nat, 56 ≤ k → k < 68 → σ2.2 k = σ.2 k) (h109 : σ2.2 109 = σ.2 109) (h110 : σ2.2 110 = σ.2 110) (h : RTx σ) : RTx σ2 := fun l j hl hj => by
  rw [h109] at hj
  rw [h56 (56 + l) (by omega) (by omega), h110]
  exact h l j hl hj
theorem RT_e {σ σ2 : ST} (i0 : σ2.1 0 = σ.1 0) (i1 : σ2.1 1 = σ.1 1) (i3 : σ2.1 3 = σ.1 3) (i6 : σ2.1 6 = σ.1 6) (i26 : σ2.1 26 = σ.1 26) (i27 : σ2.1 27 = σ.1 27) (h32 : σ2.2 32 = σ.2 32) (h43 : σ2.2 43 = σ.2 43) (h109 : σ2.2 109 = σ.2 109) (h110 : σ2.2 110 = σ.2 110) (h119 : σ2.2 119 = σ.2 119) (h135 : σ2.2 135 = σ.2 135) (h56 : ∀ k : Nat, 56 ≤ k → k < 68 → σ2.2 k = σ.2 k) (h92 : ∀ k : Nat, 92 ≤ k → k < 96 → σ2.2 k = σ.2 k) (h : RT σ) : RT σ2 := ⟨RTp_e i6 h43 h119 h.1, RTr_e h92 h135 h.2.1, RTs_e i3 h32 h109 h.2.2.1, RTx_e h56 h109 h110 h.2.2.2.1, by rw [i0, i26]; exact h.2.2.2.2.1, by rw [i1, i27]; exact h.2.2.2.2.2⟩
theorem RT_Ag {sI sA : Nat → Prop} {σ σ2 : ST} (a : Ag sI sA σ σ2) (hI : ∀ i : Nat, i ∈ [0, 1, 3, 6, 26, 27] → ¬ sI i) (hA : ∀ k : Nat, k ∈ [32, 43, 109, 110, 119, 135] → ¬ sA k) (h56 : ∀ k : Nat, 56 ≤ k → k < 68 → ¬ sA k) (h92 : ∀ k : Nat, 92 ≤ k → k < 96 → ¬ sA k) (h : RT σ) : RT σ2 := RT_e (a.1 0 (hI 0 (by decide))) (a.1 1 (hI 1 (by decide))) (a.1 3 (hI 3 (by decide))) (a.1 6 (hI 6 (by decide))) (a.1 26 (hI 26 (by decide))) (a.1 27 (hI 27 (by decide))) (a.2 32 (hA 32 (by decide))) (a.2 43 (hA 43 (by decide))) (a.2 109 (hA 109 (by decide))) (a.2 110 (hA 110 (by decide))) (a.2 119 (hA 119 (by decide))) (a.2 135 (hA 135 (by decide))) (fun k p q => a.2 k (h56 k p q)) (fun k p q => a.2 k (h92 k p q)) h
theorem RT_WX {σ σ2 : ST} (q : WX σ σ2) (h : RT σ) : RT σ2 := RT_Ag q.2 (by decide) (by decide) (fun k h1 h2 z => by have : k = 33 ∨ k = 34 ∨ k = 38 ∨ k = 39 ∨ (44 ≤ k ∧ k < 55) ∨ (68 ≤ k ∧ k < 80) := z; omega) (fun k h1 h2 z => by have : k = 33 ∨ k = 34 ∨ k = 38 ∨ k = 39 ∨ (44 ≤ k ∧ k < 55) ∨ (68 ≤ k ∧ k < 80) := z; omega) h
theorem RT_WM {σ σ2 : ST} (q : WM σ σ2) (h : RT σ) : RT σ2 := RT_Ag q.2 (by decide) (by decide) (fun k h1 h2 z => by have : 120 ≤ k ∧ k < 134 := z; omega) (fun k h1 h2 z => by have : 120 ≤ k ∧ k < 134 := z; omega) h
theorem RT_setI {σ : ST} {k : Nat} {v : Int32} (h : RT σ) (hk : k ≠ 0 ∧ k ≠ 1 ∧ k ≠ 3 ∧ k ≠ 6 ∧ k ≠ 26 ∧ k ≠ 27) : RT (setI σ k v) := RT_e (if_neg (show ¬ 0 = k by omega)) (if_neg (show ¬ 1 = k by omega)) (if_neg (show ¬ 3 = k by omega)) (if_neg (show ¬ 6 = k by omega)) (if_neg (show ¬ 26 = k by omega)) (if_neg (show ¬ 27 = k by omega)) rfl rfl rfl rfl rfl rfl (fun _ _ _ => rfl) (fun _ _ _ => rfl) h
theorem RT_setA {σ : ST} {k j : Nat} {v : Int32} (h : RT σ) (hk : k ≠ 32 ∧ k ≠ 43 ∧ k ≠ 109 ∧ k ≠ 110 ∧ k ≠ 119 ∧ k ≠ 135 ∧ (k < 56 ∨ (68 ≤ k ∧ k < 92) ∨ 96 ≤ k)) : RT (setA σ k j v) := RT_e (σ := σ) (σ2 := setA σ k j v) rfl rfl rfl rfl rfl rfl (setA_ne (a := 32) σ k j v (by omega)) (setA_ne (a := 43) σ k j v (by omega)) (setA_ne (a := 109) σ k j v (by omega)) (setA_ne (a := 110) σ k j v (by omega)) (setA_ne (a := 119) σ k j v (by omega)) (setA_ne (a := 135) σ k j v (by omega)) (fun q h1 h2 => setA_ne (a := q) σ k j v (by omega)) (fun q h1 h2 => setA_ne (a := q) σ k j v (by omega)) h
theorem t_person {σ σ1 σ2 : ST} {n q r1 r2 : Int32} (rt : RT σ) (s : sX_person σ n q r1 σ1) (m : sM_person σ1 n q r2 σ2) : RT σ2 := by
  have k1 : RT σ1 := by
    rcases s with ⟨c1, ⟨c2, y1, z1⟩ | ⟨c2, y1, z1⟩⟩ | ⟨c1, y1, z1⟩
    · rw [z1]; exact rt
    · rw [z1]; exact (RT_setI (RT_setA (RT_setA (RT_setA (RT_setA (RT_setA rt (by decide)) (by decide)) (by decide)) (by decide)) (by decide)) (by decide))
    · rw [z1]; exact rt
  rcases m with ⟨d1, y2, z2⟩ | ⟨⟨d1, d2⟩, y2, z2⟩ | ⟨⟨d1, d2⟩, y2, z2⟩
  · rw [z2]; first | exact k1 | exact (RT_setI (RT_setA (RT_setA (RT_setA (RT_setA k1 (by decide)) (by decide)) (by decide)) (by decide)) (by decide))
  · rw [z2]; first | exact k1 | exact (RT_setI (RT_setA (RT_setA (RT_setA (RT_setA k1 (by decide)) (by decide)) (by decide)) (by decide)) (by decide))
  · rw [z2]; first | exact k1 | exact (RT_setI (RT_setA (RT_setA (RT_setA (RT_setA k1 (by decide)) (by decide)) (by decide)) (by decide)) (by decide))
theorem t_lived {σ σ1 σ2 : ST} {p a b r1 r2 : Int32} (rt : RT σ) (s : sX_lived σ p a b r1 σ1) (m : sM_lived σ1 p a b r2 σ2) : RT σ2 := by
  have k1 : RT σ1 := by
    rcases s with ⟨c1, y1, z1⟩ | ⟨c1, y1, z1⟩
    · rw [z1]; exact (RT_setA (RT_setA rt (by decide)) (by decide))
    · rw [z1]; exact rt
  rcases m with ⟨d1, y2, z2⟩ | ⟨d1, y2, z2⟩
  · rw [z2]; first | exact k1 | exact (RT_setA (RT_setA k1 (by decide)) (by decide))
  · rw [z2]; first | exact k1 | exact (RT_setA (RT_setA k1 (by decide)) (by decide))
theorem t_knows {σ σ1 σ2 : ST} {a b d r1 r2 : Int32} (rt : RT σ) (s : sX_knows σ a b d r1 σ1) (m : sM_knows σ1 a b d r2 σ2) : RT σ2 := by
  have k1 : RT σ1 := by
    rcases s with ⟨c1, y1, z1⟩ | ⟨c1, y1, z1⟩
    · rw [z1]; exact (RT_setA rt (by decide))
    · rw [z1]; exact rt
  rcases m with ⟨d1, y2, z2⟩ | ⟨d1, y2, z2⟩
  · rw [z2]; first | exact k1 | exact (RT_setA k1 (by decide))
  · rw [z2]; first | exact k1 | exact (RT_setA k1 (by decide))
theorem t_days {σ σ1 σ2 : ST} {x a b r1 r2 : Int32} (rt : RT σ) (s : sX_days σ x a b r1 σ1) (m : sM_days σ1 x a b r2 σ2) : RT σ2 := by
  have k1 : RT σ1 := by
    rcases s with ⟨c1, y1, z1⟩ | ⟨c1, y1, z1⟩
    · rw [z1]; exact (RT_setA (RT_setA rt (by decide)) (by decide))
    · rw [z1]; exact rt
  rcases m with ⟨d1, y2, z2⟩ | ⟨d1, y2, z2⟩
  · rw [z2]; first | exact k1 | exact (RT_setA (RT_setA k1 (by decide)) (by decide))
  · rw [z2]; first | exact k1 | exact (RT_setA (RT_setA k1 (by decide)) (by decide))
theorem t_week {σ σ1 σ2 : ST} {x a r1 r2 : Int32} (rt : RT σ) (s : sX_week σ x a r1 σ1) (m : sM_week σ1 x a r2 σ2) : RT σ2 := by
  have k1 : RT σ1 := by
    rcases s with ⟨c1, y1, z1⟩ | ⟨c1, y1, z1⟩
    · rw [z1]; exact (RT_setA rt (by decide))
    · rw [z1]; exact rt
  rcases m with ⟨d1, y2, z2⟩ | ⟨d1, y2, z2⟩
  · rw [z2]; first | exact k1 | exact (RT_setA k1 (by decide))
  · rw [z2]; first | exact k1 | exact (RT_setA k1 (by decide))
theorem t_bound {σ σ1 σ2 : ST} {a b d r1 r2 : Int32} (rt : RT σ) (s : sX_bound σ a b d r1 σ1) (m : sM_bound σ1 a b d r2 σ2) : RT σ2 := by
  have k1 : RT σ1 := by
    rcases s with ⟨c1, ⟨c2, y1, z1⟩ | ⟨c2, y1, z1⟩⟩ | ⟨c1, y1, z1⟩
    · rw [z1]; exact rt
    · rw [z1]; exact (RT_setI (RT_setA (RT_setA (RT_setA rt (by decide)) (by decide)) (by decide)) (by decide))
    · rw [z1]; exact rt
  rcases m with ⟨d1, y2, z2⟩ | ⟨⟨d1, d2⟩, y2, z2⟩ | ⟨⟨d1, d2⟩, y2, z2⟩
  · rw [z2]; first | exact k1 | exact (RT_setI (RT_setA (RT_setA (RT_setA k1 (by decide)) (by decide)) (by decide)) (by decide))
  · rw [z2]; first | exact k1 | exact (RT_setI (RT_setA (RT_setA (RT_setA k1 (by decide)) (by decide)) (by decide)) (by decide))
  · rw [z2]; first | exact k1 | exact (RT_setI (RT_setA (RT_setA (RT_setA k1 (by decide)) (by decide)) (by decide)) (by decide))
theorem t_loose {σ σ1 σ2 : ST} {r1 r2 : Int32} (rt : RT σ) (s : sX_loose σ r1 σ1) (m : sM_loose σ1 r2 σ2) : RT σ2 := by
  have k1 : RT σ1 := by
    rcases s with ⟨c1, y1, z1⟩ | ⟨c1, y1, z1⟩
    · rw [z1]; exact rt
    · rw [z1]; exact (RT_setI rt (by decide))
  rcases m with ⟨d1, y2, z2⟩ | ⟨d1, y2, z2⟩
  · rw [z2]; first | exact k1 | exact (RT_setI k1 (by decide))
  · rw [z2]; first | exact k1 | exact (RT_setI k1 (by decide))
theorem t_found {σ σ1 σ2 : ST} {a b r1 r2 : Int32} (rt : RT σ) (s : sX_found σ a b r1 σ1) (m : sM_found σ1 a b r2 σ2) : RT σ2 := by
  have k1 : RT σ1 := by
    rcases s with ⟨c1, y1, z1⟩ | ⟨⟨c1, c2⟩, y1, z1⟩ | ⟨⟨c1, c2⟩, y1, z1⟩
    · rw [z1]; exact rt
    · rw [z1]; exact rt
    · rw [z1]; exact (RT_setA rt (by decide))
  rcases m with ⟨d1, y2, z2⟩ | ⟨⟨d1, d2⟩, y2, z2⟩ | ⟨⟨d1, d2⟩, y2, z2⟩
  · rw [z2]; first | exact k1 | exact (RT_setA k1 (by decide))
  · rw [z2]; first | exact k1 | exact (RT_setA k1 (by decide))
  · rw [z2]; first | exact k1 | exact (RT_setA k1 (by decide))
theorem t_lose {σ σ1 σ2 : ST} {a r1 r2 : Int32} (rt : RT σ) (s : sX_lose σ a r1 σ1) (m : sM_lose σ1 a r2 σ2) : RT σ2 := by
  have k1 : RT σ1 := by
    rcases s with ⟨c1, y1, z1⟩ | ⟨⟨c1, c2⟩, y1, z1⟩ | ⟨⟨c1, c2⟩, y1, z1⟩
    · rw [z1]; exact rt
    · rw [z1]; exact rt
    · rw [z1]; exact (RT_setA rt (by decide))
  rcases m with ⟨d1, y2, z2⟩ | ⟨⟨d1, d2⟩, y2, z2⟩ | ⟨⟨d1, d2⟩, y2, z2⟩
  · rw [z2]; first | exact k1 | exact (RT_setA k1 (by decide))
  · rw [z2]; first | exact k1 | exact (RT_setA k1 (by decide))
  · rw [z2]; first | exact k1 | exact (RT_setA k1 (by decide))
theorem t_hand {σ σ1 σ2 : ST} {a b p r1 r2 : Int32} (rt : RT σ) (s : sX_hand σ a b p r1 σ1) (m : sM_hand σ1 a b p r2 σ2) : RT σ2 := by
  have k1 : RT σ1 := by
    rcases s with ⟨c1, f, hf, ⟨c2, y1, z1⟩ | ⟨c2, y1, z1⟩ | ⟨c2, y1, z1⟩⟩ | ⟨c1, y1, z1⟩
    · rw [z1]; exact (RT_setA rt (by decide))
    · rw [z1]; exact rt
    · rw [z1]; exact (RT_setI (RT_setA (RT_setA (RT_setA rt (by decide)) (by decide)) (by decide)) (by decide))
    · rw [z1]; exact rt
  rcases m with ⟨d1, y2, z2⟩ | ⟨d1, f2, hf2, ⟨d2, y2, z2⟩ | ⟨d2, y2, z2⟩ | ⟨d2, y2, z2⟩⟩
  · rw [z2]; first | exact k1 | exact (RT_setA (RT_setA (RT_setA k1 (by decide)) (by decide)) (by decide)) | exact (RT_setA (RT_setA (RT_setA (RT_setI k1 (by decide)) (by decide)) (by decide)) (by decide))
  · rw [z2]; first | exact k1 | exact (RT_setA (RT_setA (RT_setA k1 (by decide)) (by decide)) (by decide)) | exact (RT_setA (RT_setA (RT_setA (RT_setI k1 (by decide)) (by decide)) (by decide)) (by decide))
  · rw [z2]; first | exact k1 | exact (RT_setA (RT_setA (RT_setA k1 (by decide)) (by decide)) (by decide)) | exact (RT_setA (RT_setA (RT_setA (RT_setI k1 (by decide)) (by decide)) (by decide)) (by decide))
  · rw [z2]; first | exact k1 | exact (RT_setA (RT_setA (RT_setA k1 (by decide)) (by decide)) (by decide)) | exact (RT_setA (RT_setA (RT_setA (RT_setI k1 (by decide)) (by decide)) (by decide)) (by decide))
theorem t_letter {σ σ1 σ2 : ST} {k a b q r1 r2 : Int32} (h : INV σ) (rt : RT σ) (s : sX_letter σ k a b q r1 σ1) (m : sM_letter σ1 k a b q r2 σ2) : RT σ2 := by
  have g3 := ixi_3 h.1
  have k1 : RT σ1 := by
    rcases s with ⟨c1, ⟨c2, y1, z1⟩ | ⟨c2, y1, z1⟩⟩ | ⟨c1, y1, z1⟩
    · rw [z1]; exact rt
    · have cn := cnat (x := σ.1 3) (by omega)
      have p3 := inc1 (x := σ.1 3) (by omega)
      have e32 : upd (σ.2 32) (σ.1 3).toNatClampNeg 0 = σ.2 32 := upd_id (by
        have z := rt.2.2.1 (σ.1 3).toNatClampNeg (by omega)
        rw [z.1]
        exact z.2 (by omega))
      have f32 : σ1.2 32 = σ.2 32 := by rw [z1]; exact e32
      have f3 : σ1.1 3 = σ.1 3 + 1 := by rw [z1]; rfl
      have f109 : σ1.2 109 = σ.2 109 := by rw [z1]; rfl
      have f110 : σ1.2 110 = σ.2 110 := by rw [z1]; rfl
      have fk : ∀ q : Nat, 32 < q → σ1.2 q = σ.2 q := fun q hq => by
        rw [z1]
        exact (setA_ne (a := q) _ 32 _ _ (by omega)).trans ((setA_ne (a := q) _ 31 _ _ (by omega)).trans ((setA_ne (a := q) _ 30 _ _ (by omega)).trans ((setA_ne (a := q) _ 29 _ _ (by omega)).trans ((setA_ne (a := q) _ 28 _ _ (by omega)).trans ((setA_ne (a := q) _ 27 _ _ (by omega)).trans ((setA_ne (a := q) _ 26 _ _ (by omega)).trans ((setA_ne (a := q) _ 25 _ _ (by omega)).trans (setA_ne (a := q) _ 24 _ _ (by omega)))))))))
      refine ⟨RTp_e (by rw [z1]; rfl) (fk 43 (by decide)) (fk 119 (by decide)) rt.1, RTr_e (fun q h1 h2 => fk q (by omega)) (fk 135 (by decide)) rt.2.1, ?_, RTx_e (fun q h1 h2 => fk q (by omega)) f109 f110 rt.2.2.2.1, by rw [z1]; exact rt.2.2.2.2.1, by rw [z1]; exact rt.2.2.2.2.2⟩
      unfold RTs
      rw [f32, f3, f109]
      exact fun l hl => ⟨(rt.2.2.1 l hl).1, fun q => (rt.2.2.1 l hl).2 (by omega)⟩
    · rw [z1]; exact rt
  rcases m with ⟨d1, y2, z2⟩ | ⟨⟨d1, d2⟩, y2, z2⟩ | ⟨⟨d1, d2⟩, y2, z2⟩
  · rw [z2]; exact k1
  · rw [z2]; exact k1
  · rw [z2]; exact (RT_setI (RT_setA (RT_setA (RT_setA (RT_setA (RT_setA (RT_setA (RT_setA (RT_setA k1 (by decide)) (by decide)) (by decide)) (by decide)) (by decide)) (by decide)) (by decide)) (by decide)) (by decide))
theorem t_post {σ σ1 σ2 : ST} {a b u v r1 r2 : Int32} (iv : IV σ) (rt : RT σ) (s : sX_post σ a b u v r1 σ1) (m : sM_post σ1 a b u v r2 σ2) : RT σ2 := by
  have k1 : RT σ1 := RT_Ag (a_post iv s).2 (by decide) (by decide) (fun k h1 h2 z => by have : 80 ≤ k ∧ k < 92 := z; omega) (fun k h1 h2 z => by have : 80 ≤ k ∧ k < 92 := z; omega) rt
  rcases m with ⟨c1, y1, z1⟩ | ⟨c1, y1, z1⟩
  · rw [z1]; exact RT_setA (RT_setA k1 (by decide)) (by decide)
  · rw [z1]; exact k1
theorem and255_0 : ((0 : Int32) &&& 255) = 0 := by decide
theorem t_cell {σ σ1 σ2 : ST} {t i v r1 r2 : Int32} (h : INV σ) (rt : RT σ) (s : sX_cell σ t i v r1 σ1) (m : sM_cell σ1 t i v r2 σ2) : RT σ2 := by
  have qx := a_cell h.1 s
  have k134 : σ1.2 134 = σ.2 134 := qx.2.2 134 (by decide)
  have kt : (0 ≤ t.toInt ∧ t.toInt < 4) → (σ1.2 134 (t).toNatClampNeg).toInt = (σ.2 55 (t).toNatClampNeg).toInt := fun q => by rw [k134, h.2.2.2.2.2.2.2.2.2.2.2.2.2 _ (by have := cnat q.1; omega)]
  have g55 : (0 ≤ t.toInt ∧ t.toInt < 4) → -1 ≤ (σ.2 55 (t).toNatClampNeg).toInt ∧ (σ.2 55 (t).toNatClampNeg).toInt ≤ 60 := fun q => ixa_55 h.1 _ (by have := cnat q.1; omega)
  rcases s with ⟨c1, y1, z1⟩ | ⟨⟨c1, c2⟩, y1, z1⟩ | ⟨⟨c1, c2, c3⟩, y1, z1⟩ | ⟨⟨c1, c2, c3⟩, y1, z1⟩ <;> rcases m with ⟨d1, y2, z2⟩ | ⟨⟨d1, d2⟩, y2, z2⟩ | ⟨⟨d1, d2, d3⟩, y2, z2⟩ | ⟨⟨d1, d2, d3⟩, y2, z2⟩ <;> first | (rw [z2, z1]; exact rt) | (exfalso; omega) | skip
  have ct := cnat (x := t) (by omega)
  have ci := cnat (x := i) (by omega)
  have e43 : σ2.2 43 = σ.2 43 := by
    rw [z2, z1]
    exact (setA_ne (a := 43) _ 135 _ _ (by decide)).trans (setA_ne (a := 43) _ _ _ _ (by omega))
  have e119 : σ2.2 119 = σ.2 119 := by
    rw [z2, z1]
    exact (setA_ne (a := 119) _ 135 _ _ (by decide)).trans (setA_ne (a := 119) _ _ _ _ (by omega))
  have eq : ∀ q : Nat, q ≠ 135 → q ≠ 92 + t.toNatClampNeg → σ2.2 q = σ.2 q := fun q h1 h2 => by
    rw [z2, z1]
    exact (setA_ne (a := q) _ 135 _ _ h1).trans (setA_ne (a := q) _ _ _ _ h2)
  have er : σ2.2 (92 + t.toNatClampNeg) = upd (σ.2 (92 + t.toNatClampNeg)) i.toNatClampNeg v.toInt8.toInt32.toInt8.toInt32 := by
    rw [z2, z1]
    exact (setA_ne (a := 92 + t.toNatClampNeg) _ 135 _ _ (by omega)).trans (setA_same _ _ _ _)
  have em : σ2.2 135 = upd (σ.2 135) (60 * t.toNatClampNeg + i.toNatClampNeg) (v &&& 255) := by
    rw [z2, z1]
    exact (setA_same _ _ _ _).trans (by rw [setA_ne (a := 135) _ _ _ _ (by omega)])
  refine ⟨RTp_e (by rw [z2, z1]; rfl) e43 e119 rt.1, fun q j hq hj => ?_, RTs_e (by rw [z2, z1]; rfl) (eq 32 (by decide) (by omega)) (eq 109 (by decide) (by omega)) rt.2.2.1, RTx_e (fun k h1 h2 => eq k (by omega) (by omega)) (eq 109 (by decide) (by omega)) (eq 110 (by decide) (by omega)) rt.2.2.2.1, by rw [z2, z1]; exact rt.2.2.2.2.1, by rw [z2, z1]; exact rt.2.2.2.2.2⟩
  rw [em]
  by_cases e : q = t.toNatClampNeg
  · rw [e, er]
    by_cases e2 : j = i.toNatClampNeg
    · rw [e2, upd_eq, upd_eq, byte_mod, byte_mod]
    · rw [upd_ne e2, upd_ne (by omega)]
      exact rt.2.1 _ j (by omega) hj
  · rw [upd_ne (by omega), eq (92 + q) (by omega) (by omega)]
    exact rt.2.1 q j hq hj
theorem sX_of_feed {σ σ2 : ST} {n r : Int32} {b : Int64} (h : tX_feed σ n b r σ2) : sX_feed σ n r σ2 := by
  rcases h with h | h | ⟨a, b, c, d, e, -⟩
  · exact Or.inl h
  · exact Or.inr (Or.inl h)
  · exact Or.inr (Or.inr ⟨a, b, c, d, e⟩)
theorem sM_of_feed {σ σ2 : ST} {n r : Int32} {b : Int64} (h : tM_feed σ n b r σ2) : sM_feed σ n r σ2 := by
  rcases h with h | h | ⟨a, b, c, d, e, -⟩
  · exact Or.inl h
  · exact Or.inr (Or.inl h)
  · exact Or.inr (Or.inr ⟨a, b, c, d, e⟩)
theorem sX_of_lay {σ σ2 : ST} {t f n r : Int32} (h : tX_lay σ t f n r σ2) : sX_lay σ t f n r σ2 := by
  rcases h with h | h | ⟨a, b, c, d, -⟩
  · exact Or.inl h
  · exact Or.inr (Or.inl h)
  · exact Or.inr (Or.inr ⟨a, b, c, d⟩)
theorem sM_of_lay {σ σ2 : ST} {t f n r : Int32} (h : tM_lay σ t f n r σ2) : sM_lay σ t f n r σ2 := by
  rcases h with h | h | ⟨a, b, c, d, -⟩
  · exact Or.inl h
  · exact Or.inr (Or.inl h)
  · exact Or.inr (Or.inr ⟨a, b, c, d⟩)
theorem sX_of_tray {σ σ2 : ST} {t n r : Int32} (h : tX_tray σ t n r σ2) : sX_tray σ t n r σ2 := by
  rcases h with h | h | ⟨a, b, c, d, e, -⟩
  · exact Or.inl h
  · exact Or.inr (Or.inl h)
  · exact Or.inr (Or.inr ⟨a, b, c, d, e⟩)
theorem sM_of_tray {σ σ2 : ST} {t n r : Int32} (h : tM_tray σ t n r σ2) : sM_tray σ t n r σ2 := by
  rcases h with h | h | ⟨a, b, c, d, e, -⟩
  · exact Or.inl h
  · exact Or.inr (Or.inl h)
  · exact Or.inr (Or.inr ⟨a, b, c, d, e⟩)
theorem sX_of_text {σ σ2 : ST} {a r : Int32} (h : tX_text σ a r σ2) : sX_text σ a σ2 := by
  rcases h with ⟨a, -, b⟩ | ⟨a, b, c, -⟩
  · exact Or.inl ⟨a, b⟩
  · exact Or.inr ⟨a, b, c⟩
theorem sM_of_text {σ σ2 : ST} {a r : Int32} (h : tM_text σ a r σ2) : sM_text σ a σ2 := by
  rcases h with ⟨a, -, b⟩ | ⟨a, b, c, d, -⟩
  · exact Or.inl ⟨a, b⟩
  · exact Or.inr ⟨a, b, c, d⟩
theorem RT_tape {σ σ2 : ST} (rt : RT σ) (p : RTp σ2) (i0 : σ2.1 0 = σ.1 0) (i1 : σ2.1 1 = σ.1 1) (i3 : σ2.1 3 = σ.1 3) (i26 : σ2.1 26 = σ.1 26) (i27 : σ2.1 27 = σ.1 27) (ha : ∀ k : Nat, k ≠ 43 → k ≠ 119 → σ2.2 k = σ.2 k) : RT σ2 := ⟨p, RTr_e (fun k h1 h2 => ha k (by omega) (by omega)) (ha 135 (by decide) (by decide)) rt.2.1, RTs_e i3 (ha 32 (by decide) (by decide)) (ha 109 (by decide) (by decide)) rt.2.2.1, RTx_e (fun k h1 h2 => ha k (by omega) (by omega)) (ha 109 (by decide) (by decide)) (ha 110 (by decide) (by decide)) rt.2.2.2.1, by rw [i0, i26]; exact rt.2.2.2.2.1, by rw [i1, i27]; exact rt.2.2.2.2.2⟩
theorem RT_ff {σ σ1 σ2 : ST} (rt : RT σ) (w1 : WXf σ σ1) (w2 : WMf σ1 σ2) (p : RTp σ2) : RT σ2 := RT_tape rt p ((w2.2.1 0 (by decide)).trans (w1.2.1 0 (by decide))) ((w2.2.1 1 (by decide)).trans (w1.2.1 1 (by decide))) ((w2.2.1 3 (by decide)).trans (w1.2.1 3 (by decide))) ((w2.2.1 26 (by decide)).trans (w1.2.1 26 (by decide))) ((w2.2.1 27 (by decide)).trans (w1.2.1 27 (by decide))) (fun k h1 h2 => (w2.2.2 k h2).trans (w1.2.2 k h1))
theorem t_feed {σ σ1 σ2 : ST} {n r1 r2 : Int32} {b : Int64} (h : INV σ) (rt : RT σ) (s : tX_feed σ n b r1 σ1) (m : tM_feed σ1 n b r2 σ2) : RT σ2 := by
  have i6 := congrArg Int32.toInt h.2.2.2.2.2.2.2.1
  have g6 := ixi_6 h.1
  rcases s with ⟨c1, y1, z1⟩ | ⟨c1, c2, y1, z1⟩ | ⟨c1, c2, w1, q1, y1, k1, f1⟩
  · subst z1
    rcases m with ⟨d1, y2, z2⟩ | ⟨d1, d2, y2, z2⟩ | ⟨d1, d2, w2, q2, y2, k2, f2⟩
    · rw [z2]; exact rt
    · rw [z2]; exact rt
    · exact absurd d1 c1
  · subst z1
    rcases m with ⟨d1, y2, z2⟩ | ⟨d1, d2, y2, z2⟩ | ⟨d1, d2, w2, q2, y2, k2, f2⟩
    · rw [z2]; exact rt
    · rw [z2]; exact rt
    · exfalso
      omega
  · have k23 := congrArg Int32.toInt (w1.2.1 23 (by decide))
    have e119 := w1.2.2 119 (by decide)
    rcases m with ⟨d1, y2, z2⟩ | ⟨d1, d2, y2, z2⟩ | ⟨d1, d2, w2, q2, y2, k2, f2⟩
    · exact absurd c1 d1
    · exfalso
      omega
    · have k6 := congrArg Int32.toInt (w2.2.1 6 (by decide))
      have cn := cnat (x := σ.1 6) (by omega)
      have cm := cnat (x := σ1.1 23) (by omega)
      refine RT_ff rt w1 w2 (fun j hj => ?_)
      rw [w2.2.2 43 (by decide)]
      by_cases z : (j : Int) < (σ.1 6).toInt
      · rw [k1 j z, k2 j (by omega), e119]
        exact rt.1 j z
      · have f1j := f1 (j - (σ.1 6).toNatClampNeg) (by omega)
        have f2j := f2 (j - (σ1.1 23).toNatClampNeg) (by omega)
        rw [show (σ.1 6).toNatClampNeg + (j - (σ.1 6).toNatClampNeg) = j by omega] at f1j
        rw [show (σ1.1 23).toNatClampNeg + (j - (σ1.1 23).toNatClampNeg) = j by omega] at f2j
        rw [f1j, f2j, show (σ1.1 23).toNatClampNeg = (σ.1 6).toNatClampNeg by omega]
        exact fb_eq b (by omega)
theorem tt_lay {σ σ1 σ2 : ST} {t f n r1 r2 : Int32} (h : INV σ) (rt : RT σ) (s : tX_lay σ t f n r1 σ1) (m : tM_lay σ1 t f n r2 σ2) : RT σ2 := by
  have i6 := congrArg Int32.toInt h.2.2.2.2.2.2.2.1
  have g6 := ixi_6 h.1
  have r55 := h.2.2.2.2.2.2.2.2.2.2.2.2.2
  rcases s with ⟨c1, y1, z1⟩ | ⟨c1, c2, y1, z1⟩ | ⟨c1, c2, w1, q1, k1, n1, f1⟩
  · subst z1
    rcases m with ⟨d1, y2, z2⟩ | ⟨d1, d2, y2, z2⟩ | ⟨d1, d2, w2, q2, k2, n2, f2⟩
    · rw [z2]; exact rt
    · rw [z2]; exact rt
    · exact absurd d1 c1
  · subst z1
    rcases m with ⟨d1, y2, z2⟩ | ⟨d1, d2, y2, z2⟩ | ⟨d1, d2, w2, q2, k2, n2, f2⟩
    · rw [z2]; exact rt
    · rw [z2]; exact rt
    · exfalso
      rw [r55 _ (by have := cnat c1.1.1; omega)] at c2
      omega
  · have k23 := congrArg Int32.toInt (w1.2.1 23 (by decide))
    have e134 := w1.2.2 134 (by decide)
    have e135 := w1.2.2 135 (by decide)
    have e119 := w1.2.2 119 (by decide)
    have ct := cnat c1.1.1
    have g55 := ixa_55 h.1 t.toNatClampNeg (by omega)
    have t55 := congrArg Int32.toInt (r55 t.toNatClampNeg (by omega))
    unfold tM_lay at m
    rw [e134] at m
    rcases m with ⟨d1, y2, z2⟩ | ⟨d1, d2, y2, z2⟩ | ⟨d1, d2, w2, q2, k2, n2, f2⟩
    · exact absurd c1 d1
    · exfalso
      omega
    · have k6 := congrArg Int32.toInt (w2.2.1 6 (by decide))
      rw [k23, ← i6, ← t55] at q2
      have ee := Prod.mk.inj (q1.trans q2.symm)
      have cn := cnat (x := σ.1 6) (by omega)
      have cm := cnat (x := σ1.1 23) (by omega)
      refine RT_ff rt w1 w2 (fun j hj => ?_)
      rw [w2.2.2 43 (by decide)]
      by_cases z : (j : Int) < (σ.1 6).toInt
      · rw [k1 j z, k2 j (by omega), e119]
        exact rt.1 j z
      · have f1j := f1 (j - (σ.1 6).toNatClampNeg) (by omega)
        have f2j := (f2 (j - (σ1.1 23).toNatClampNeg) (by omega)).2
        rw [show (σ.1 6).toNatClampNeg + (j - (σ.1 6).toNatClampNeg) = j by omega] at f1j
        rw [show (σ1.1 23).toNatClampNeg + (j - (σ1.1 23).toNatClampNeg) = j by omega] at f2j
        have cf := cnat f1j.1.1
        rw [f1j.2, f2j, e135, byte_mod, show (σ1.1 23).toNatClampNeg = (σ.1 6).toNatClampNeg by omega]
        exact rt.2.1 _ _ (by omega) (by omega)
theorem t_tray {σ σ1 σ2 : ST} {t n r1 r2 : Int32} (h : INV σ) (rt : RT σ) (s : tX_tray σ t n r1 σ1) (m : tM_tray σ1 t n r2 σ2) : RT σ2 := by
  rcases s with ⟨c1, y1, z1⟩ | ⟨c1, c2, y1, z1⟩ | ⟨c1, c2, y1, w1, q1, k1, f1⟩
  · subst z1
    rcases m with ⟨d1, y2, z2⟩ | ⟨d1, d2, y2, z2⟩ | ⟨d1, d2, y2, w2, q2, k2, f2⟩
    · rw [z2]; exact rt
    · rw [z2]; exact rt
    · exact absurd d1 c1
  · subst z1
    rcases m with ⟨d1, y2, z2⟩ | ⟨d1, d2, y2, z2⟩ | ⟨d1, d2, y2, w2, q2, k2, f2⟩
    · rw [z2]; exact rt
    · rw [z2]; exact rt
    · exfalso
      omega
  · rcases m with ⟨d1, y2, z2⟩ | ⟨d1, d2, y2, z2⟩ | ⟨d1, d2, y2, w2, q2, k2, f2⟩
    · exact absurd c1 d1
    · exfalso
      omega
    · have ct := cnat c1.1.1
      have ea : ∀ k : Nat, k ≠ 55 → ¬ (92 ≤ k ∧ k < 96) → k ≠ 134 → k ≠ 135 → σ2.2 k = σ.2 k := fun k h1 h2 h3 h4 => (w2.2.2 k (show ¬ (k = 134 ∨ k = 135) by omega)).trans (w1.2.2 k (show ¬ (k = 55 ∨ (92 ≤ k ∧ k < 96)) by omega))
      have ei : ∀ k : Nat, σ2.1 k = σ.1 k := fun k => (w2.2.1 k (fun z => z)).trans (w1.2.1 k (fun z => z))
      refine ⟨RTp_e (ei 6) (ea 43 (by decide) (by decide) (by decide) (by decide)) (ea 119 (by decide) (by decide) (by decide) (by decide)) rt.1, fun q i hq hi => ?_, RTs_e (ei 3) (ea 32 (by decide) (by decide) (by decide) (by decide)) (ea 109 (by decide) (by decide) (by decide) (by decide)) rt.2.2.1, RTx_e (fun k h1 h2 => ea k (by omega) (by omega) (by omega) (by omega)) (ea 109 (by decide) (by decide) (by decide) (by decide)) (ea 110 (by decide) (by decide) (by decide) (by decide)) rt.2.2.2.1, by rw [ei, ei]; exact rt.2.2.2.2.1, by rw [ei, ei]; exact rt.2.2.2.2.2⟩
      rw [w2.2.2 (92 + q) (show ¬ (92 + q = 134 ∨ 92 + q = 135) by omega)]
      by_cases z : q = t.toNatClampNeg
      · rw [z, f1 i hi, f2 i hi]
        exact and255_0
      · rw [k1 q hq z, k2 (60 * q + i) (by omega), w1.2.2 135 (show ¬ (135 = 55 ∨ (92 ≤ 135 ∧ 135 < 96)) by omega)]
        exact rt.2.1 q i hq hi
theorem t_text {σ σ1 σ2 : ST} {a r1 r2 : Int32} (h : INV σ) (rt : RT σ) (s : tX_text σ a r1 σ1) (m : tM_text σ1 a r2 σ2) : RT σ2 ∧ r1 = r2 := by
  have r3 := congrArg Int32.toInt h.2.2.2.2.1
  have r6 := h.2.2.2.2.2.2.2.1
  have i6 := congrArg Int32.toInt r6
  have g6 := ixi_6 h.1
  have g3 := ixi_3 h.1
  rcases s with ⟨c1, y1, z1⟩ | ⟨c1, w1, q1, fx, sx⟩
  · subst z1
    rcases m with ⟨d1, y2, z2⟩ | ⟨d1, w2, tv2, q2, fm, sm⟩
    · rw [z2, y1, y2]; exact ⟨rt, rfl⟩
    · exfalso
      omega
  · have k20 := congrArg Int32.toInt (w1.2.1 20 (by decide))
    rcases m with ⟨d1, y2, z2⟩ | ⟨d1, w2, tv2, q2, fm, sm⟩
    · exfalso
      omega
    · have e119 : σ1.2 119 = σ.2 119 := w1.2.2 119 (by decide)
      have e109 : σ1.2 109 = σ.2 109 := w1.2.2 109 (by decide)
      have e110 : σ1.2 110 = σ.2 110 := w1.2.2 110 (by decide)
      have e23 : σ1.1 23 = σ.1 23 := w1.2.1 23 (by decide)
      have cn := cnat (x := σ.1 6) (by omega)
      have ca := cnat c1.1
      have et : tpT σ1 = tpT σ := by unfold tpT; rw [e119]
      rw [et, e23, k20, ← r6, ← r3] at fm
      have fc : FLT (tpX σ) (σ.1 6).toNatClampNeg (σ.1 3).toInt (σ2.1 26).toInt (σ2.1 27).toInt := FLT_congr (fun j hj => by
        unfold tpX tpT
        rw [rt.1 j (by omega)]) fm
      have oo := FLT_one fx fc
      have e0 : σ2.1 0 = σ1.1 0 := w2.2.1 0 (by decide)
      have e1 : σ2.1 1 = σ1.1 1 := w2.2.1 1 (by decide)
      have x0 : σ2.1 0 = σ2.1 26 := e0.trans (Int32.toInt_inj.mp oo.1)
      have x1 : σ2.1 1 = σ2.1 27 := e1.trans (Int32.toInt_inj.mp oo.2)
      have e6 : σ2.1 6 = 0 := (w2.2.1 6 (by decide)).trans q1
      have e3 : σ2.1 3 = σ.1 3 := (w2.2.1 3 (by decide)).trans (w1.2.1 3 (by decide))
      have e32 : σ2.2 32 = σ1.2 32 := w2.2.2 32 (by decide)
      have e56 : ∀ q : Nat, q < 12 → σ2.2 (56 + q) = σ1.2 (56 + q) := fun q hq => w2.2.2 _ (fun z => by
        have : 56 + q = 109 ∨ 56 + q = 110 ∨ (120 ≤ 56 + q ∧ 56 + q < 134) := z
        omega)
      have n0 : (0 : Int32).toInt = 0 := by decide
      have p2 : RTp σ2 := fun j hj => by
        rw [e6, n0] at hj
        omega
      have t2 : RTr σ2 := RTr_e (fun k h1 h2 => (w2.2.2 k (fun z => by
        have : k = 109 ∨ k = 110 ∨ (120 ≤ k ∧ k < 134) := z
        omega)).trans (w1.2.2 k (fun z => by
        have : k = 32 ∨ (56 ≤ k ∧ k < 68) ∨ (k = 33 ∨ k = 34 ∨ k = 38 ∨ k = 39 ∨ (44 ≤ k ∧ k < 55) ∨ (68 ≤ k ∧ k < 80)) := z
        omega))) ((w2.2.2 135 (by decide)).trans (w1.2.2 135 (by decide))) rt.2.1
      rcases sx with ⟨v1, y1, s1, o1, b1⟩ | ⟨v1, y1, s1, o1⟩ <;> rcases sm with ⟨v2, y2, s2, b2, o2⟩ | ⟨v2, y2, s2, o2⟩
      · refine ⟨⟨p2, t2, fun l hl => ?_, fun l j hl hj => ?_, x0, x1⟩, by rw [y1, y2, e23]; exact r6⟩
        · rw [e32, s1, s2, e3, e109, e23, ← r6]
          by_cases z : l = a.toNatClampNeg
          · rw [z, upd_eq, upd_eq]
            refine ⟨rfl, fun q => ?_⟩
            exfalso
            omega
          · rw [upd_ne z, upd_ne z]
            exact rt.2.2.1 l hl
        · rw [s2, e109, e23, ← r6] at hj
          rw [e56 l hl]
          by_cases z : l = a.toNatClampNeg
          · rw [z, upd_eq] at hj
            rw [z, b1 j hj, byte_mod, b2 j (by rw [e23]; omega), e119]
            exact rt.1 j hj
          · rw [upd_ne z] at hj
            have g := ixa_109 h.1 l hl
            rw [o1 l hl z, o2 (160 * l + j) (by omega), e110]
            exact rt.2.2.2.1 l j hl hj
      · exfalso
        omega
      · exfalso
        omega
      · refine ⟨⟨p2, t2, fun l hl => ?_, fun l j hl hj => ?_, x0, x1⟩, Int32.toInt_inj.mp (by omega)⟩
        · rw [e32, s1, s2, e3, e109]
          exact rt.2.2.1 l hl
        · rw [s2, e109] at hj
          rw [e56 l hl, o1 l hl, o2, e110]
          exact rt.2.2.2.1 l j hl hj
/-- what fault answers -/
def fltP (k p x r : Int32) : Prop := (x.toInt = 0 ∧ r = k) ∨ (x.toInt = 1 ∧ r = p) ∨ (x.toInt ≠ 0 ∧ x.toInt ≠ 1 ∧ r = -2)
theorem fltP_one {k p x r r2 : Int32} (h : fltP k p x r) (g : fltP k p x r2) : r = r2 := by
  rcases h with ⟨a, b⟩ | ⟨a, b⟩ | ⟨a, a2, b⟩ <;> rcases g with ⟨c, d⟩ | ⟨c, d⟩ | ⟨c, c2, d⟩ <;> first | exact b.trans d.symm | (exfalso; omega)
theorem tolP_S {L : Int} {K W R P A B D F S S2 : Nat → Int32} {a x r : Int32} (hL : L ≤ 12) (e : ∀ l : Nat, l < 12 → S l = S2 l) (h : tolP L K W R P A B D F S a x r) : tolP L K W R P A B D F S2 a x r := by
  rcases h with h | ⟨c, h⟩
  · exact Or.inl h
  · have ca := cnat c.1
    refine Or.inr ⟨c, ?_⟩
    rw [← e a.toNatClampNeg (by omega)]
    exact h
/-- class and reference tell the same of a LETTER, and of the latest fault -/
def INVT (σ : ST) : Prop := INV σ ∧ RD σ ∧ RT σ
theorem t_told {σ σ1 σ2 : ST} {a x r1 r2 : Int32} (h : INVT σ) (s : σ1 = σ ∧ tolP (σ.1 3).toInt (σ.2 24) (σ.2 25) (σ.2 26) (σ.2 27) (σ.2 28) (σ.2 29) (σ.2 30) (σ.2 31) (σ.2 32) a x r1) (m : σ2 = σ1 ∧ tolP (σ1.1 20).toInt (σ1.2 101) (σ1.2 102) (σ1.2 103) (σ1.2 104) (σ1.2 105) (σ1.2 106) (σ1.2 107) (σ1.2 108) (σ1.2 109) a x r2) : INVT σ2 ∧ r1 = r2 := by
  obtain ⟨rfl, s⟩ := s
  obtain ⟨rfl, m⟩ := m
  obtain ⟨r2', r3, r4, r5, r6, r24, r25, r31, -⟩ := h.1.2.2.2
  obtain ⟨d19, d20, d26, d27, d28, d29, d30, -⟩ := h.2.1
  have g3 := ixi_20 h.1.1
  rw [r3, r24, r25, r31, d26, d27, d28, d29, d30] at s
  exact ⟨h, tolP_one (tolP_S g3.2 (fun l hl => (h.2.2.2.2.1 l hl).1) s) m⟩
theorem t_fault {σ σ1 σ2 : ST} {x r1 r2 : Int32} (h : INVT σ) (s : σ1 = σ ∧ fltP (σ.1 0) (σ.1 1) x r1) (m : σ2 = σ1 ∧ fltP (σ1.1 26) (σ1.1 27) x r2) : INVT σ2 ∧ r1 = r2 := by
  obtain ⟨rfl, s⟩ := s
  obtain ⟨rfl, m⟩ := m
  rw [h.2.2.2.2.2.2.1, h.2.2.2.2.2.2.2] at s
  exact ⟨h, fltP_one s m⟩
theorem INVT_WX {σ σ2 : ST} (h : INVT σ) (q : WX σ σ2) : INVT σ2 := ⟨INV_WX h.1 q, RD_WX q h.2.1, RT_WX q h.2.2⟩
theorem INVT_WM {σ σ2 : ST} (h : INVT σ) (q : WM σ σ2) : INVT σ2 := ⟨INV_WM h.1 q, RD_WM q h.2.1, RT_WM q h.2.2⟩
set_option maxHeartbeats 4000000 in
set_option maxRecDepth 100000 in
theorem f_X11_fault (l : Launch) (L : WL) (σ : ST) (x : Int32) (ix : IV σ) : CtI l L yX11_fault cX11_fault 2 (some .int) rm_X11_fault [.ref (L.2.1 0), .int x] σ (fun r σ2 => σ2 = σ ∧ fltP (σ.1 0) (σ.1 1) x r) := by
  refine ctI_go (own := RX11) (by decide) rfl (Nat.le_of_ble_eq_true rfl) (fun F hF => ?_)
  subst hF
  have nm2 : (-2 : Int32).toInt = -2 := by decide
  have n1 : (1 : Int32).toInt = 1 := by decide
  have w0 : WX σ σ := WX_rfl ix
  refine go_iload_n (i := 1) (pc' := 1) dX11_fault_0 rfl rfl rfl ?_
  refine gz_if_ne (tgt := 9) (pc' := 4) dX11_fault_1 rfl (by decide) (fun c1 => ?_) (fun c1 => ?_)
  · refine go_iload_n (i := 1) (pc' := 10) dX11_fault_9 rfl rfl rfl ?_
    refine go_iconst (v := 1) (pc' := 11) dX11_fault_10 rfl (by decide) ?_
    refine gz_icmp_ne (tgt := 21) (pc' := 14) dX11_fault_11 rfl (by decide) (fun c2 => ?_) (fun c2 => ?_)
    · refine go_bipush (v := (-2)) (pc' := 23) dX11_fault_21 rfl (by decide) ?_
      exact go_iret dX11_fault_23 rfl (⟨rfl, by first | exact Or.inr (Or.inl ⟨by omega, rfl⟩) | exact Or.inr (Or.inr ⟨by omega, by omega, rfl⟩)⟩)
    refine go_aload_n (i := 0) (pc' := 15) dX11_fault_14 rfl rfl rfl ?_
    refine gf_0_faultPlace (pc' := 18) dX11_fault_15 rfl fl_X11_93 ?_
    refine go_goto (tgt := 23) dX11_fault_18 (by decide) ?_
    exact go_iret dX11_fault_23 rfl (⟨rfl, by first | exact Or.inr (Or.inl ⟨by omega, rfl⟩) | exact Or.inr (Or.inr ⟨by omega, by omega, rfl⟩)⟩)
  refine go_aload_n (i := 0) (pc' := 5) dX11_fault_4 rfl rfl rfl ?_
  refine gf_0_faultKind (pc' := 8) dX11_fault_5 rfl fl_X11_89 ?_
  exact go_iret dX11_fault_8 rfl (⟨rfl, Or.inl ⟨by omega, rfl⟩⟩)
set_option maxHeartbeats 4000000 in
set_option maxRecDepth 100000 in
theorem f_X12_fault (l : Launch) (L : WL) (σ : ST) (x : Int32) (ix : IV σ) : CtI l L yX12_fault cX12_fault 2 (some .int) rm_X12_fault [.ref (L.2.1 13), .int x] σ (fun r σ2 => σ2 = σ ∧ fltP (σ.1 26) (σ.1 27) x r) := by
  refine ctI_go (own := RX12) (by decide) rfl (Nat.le_of_ble_eq_true rfl) (fun F hF => ?_)
  subst hF
  have nm2 : (-2 : Int32).toInt = -2 := by decide
  have n1 : (1 : Int32).toInt = 1 := by decide
  have w0 : WM σ σ := WM_rfl ix
  refine go_iload_n (i := 1) (pc' := 1) dX12_fault_0 rfl rfl rfl ?_
  refine gz_if_ne (tgt := 11) (pc' := 4) dX12_fault_1 rfl (by decide) (fun c1 => ?_) (fun c1 => ?_)
  · refine go_iload_n (i := 1) (pc' := 12) dX12_fault_11 rfl rfl rfl ?_
    refine go_iconst (v := 1) (pc' := 13) dX12_fault_12 rfl (by decide) ?_
    refine gz_icmp_ne (tgt := 23) (pc' := 16) dX12_fault_13 rfl (by decide) (fun c2 => ?_) (fun c2 => ?_)
    · refine go_bipush (v := (-2)) (pc' := 25) dX12_fault_23 rfl (by decide) ?_
      exact go_iret dX12_fault_25 rfl (⟨rfl, by first | exact Or.inl ⟨by omega, rfl⟩ | exact Or.inr (Or.inl ⟨by omega, rfl⟩) | exact Or.inr (Or.inr ⟨by omega, by omega, rfl⟩)⟩)
    refine go_aload_n (i := 0) (pc' := 17) dX12_fault_16 rfl rfl rfl ?_
    refine gf_13_faultAt (pc' := 20) dX12_fault_17 rfl fl_X12_92 ?_
    refine go_goto (tgt := 25) dX12_fault_20 (by decide) ?_
    exact go_iret dX12_fault_25 rfl (⟨rfl, by first | exact Or.inl ⟨by omega, rfl⟩ | exact Or.inr (Or.inl ⟨by omega, rfl⟩) | exact Or.inr (Or.inr ⟨by omega, by omega, rfl⟩)⟩)
  refine go_aload_n (i := 0) (pc' := 5) dX12_fault_4 rfl rfl rfl ?_
  refine gf_13_faultKind (pc' := 8) dX12_fault_5 rfl fl_X12_236 ?_
  refine go_goto (tgt := 25) dX12_fault_8 (by decide) ?_
  exact go_iret dX12_fault_25 rfl (⟨rfl, by first | exact Or.inl ⟨by omega, rfl⟩ | exact Or.inr (Or.inl ⟨by omega, rfl⟩) | exact Or.inr (Or.inr ⟨by omega, by omega, rfl⟩)⟩)
