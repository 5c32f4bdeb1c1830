/-- who reads a LETTER of kind k, writer w, reader q -/
def RDR (k w q p : Int32) : Prop := k.toInt ≠ 1 ∧ ((k.toInt = 5 ∧ w.toInt ≠ p.toInt) ∨ (k.toInt ≠ 5 ∧ q.toInt = p.toInt))
/-- it has been read by DAY c: s is the DAY at which it comes -/
def HRP (k w q p : Int32) (s c : Int) : Prop := RDR k w q p ∧ s ≤ c
def HAX (σ : ST) (j : Nat) (b c d x y : Int32) : Prop := HRP (σ.2 24 j) (σ.2 25 j) (σ.2 26 j) b (if d.toInt = 0 then (x + σ.2 (80 + (σ.2 27 j).toNatClampNeg) (σ.2 20 (b).toNatClampNeg).toNatClampNeg).toInt else (y + σ.2 (86 + (σ.2 27 j).toNatClampNeg) (σ.2 20 (b).toNatClampNeg).toNatClampNeg).toInt) c.toInt
def HAM (σ : ST) (j : Nat) (b c d x y : Int32) : Prop := HRP (σ.2 101 j) (σ.2 102 j) (σ.2 103 j) b (if d.toInt = 0 then (x + σ.2 114 (6 * (σ.2 104 j).toNatClampNeg + (σ.2 97 (b).toNatClampNeg).toNatClampNeg)).toInt else (y + σ.2 115 (6 * (σ.2 104 j).toNatClampNeg + (σ.2 97 (b).toNatClampNeg).toNatClampNeg)).toInt) c.toInt
def HRX (σ : ST) (j : Nat) (b c d : Int32) : Prop := HAX σ j b c d (σ.2 33 j) (σ.2 34 j)
def HRM (σ : ST) (j : Nat) (b c d : Int32) : Prop := HAM σ j b c d (σ.2 120 j) (σ.2 121 j)
theorem q80 : ∀ n : Nat, n < 12 → ¬ sxA (80 + n) := by decide
theorem HAX_e {σ σ2 : ST} (ix : IV σ) (h : WX σ σ2) {j : Nat} (hj : j < 12) (b c d x y : Int32) : HAX σ2 j b c d x y ↔ HAX σ j b c d x y := by
  have g := ixa_27 ix j hj
  have cg := cnat g.1
  unfold HAX
  rw [h.2.2 24 (by decide), h.2.2 25 (by decide), h.2.2 26 (by decide), h.2.2 27 (by decide), h.2.2 20 (by decide), h.2.2 (80 + (σ.2 27 j).toNatClampNeg) (q80 _ (by omega)), show 86 + (σ.2 27 j).toNatClampNeg = 80 + (6 + (σ.2 27 j).toNatClampNeg) from by omega, h.2.2 (80 + (6 + (σ.2 27 j).toNatClampNeg)) (q80 _ (by omega))]
theorem HAM_e {σ σ2 : ST} (h : WM σ σ2) (j : Nat) (b c d x y : Int32) : HAM σ2 j b c d x y ↔ HAM σ j b c d x y := by
  unfold HAM
  rw [h.2.2 101 (by decide), h.2.2 102 (by decide), h.2.2 103 (by decide), h.2.2 104 (by decide), h.2.2 97 (by decide), h.2.2 114 (by decide), h.2.2 115 (by decide)]
/-- how many of the first ones -/
noncomputable def CNT (P : Nat → Prop) : Nat → Int
  | 0 => 0
  | n + 1 => CNT P n + @ite Int (P n) (Classical.propDecidable (P n)) 1 0
theorem CNT_0 (P : Nat → Prop) : (0 : Int32).toInt = CNT P (0 : Int32).toNatClampNeg := by
  rw [show (0 : Int32).toNatClampNeg = 0 from rfl]
  rfl
theorem CNT_t {P : Nat → Prop} {n : Nat} (h : P n) : CNT P (n + 1) = CNT P n + 1 := by
  show CNT P n + _ = _
  rw [if_pos h]
theorem CNT_f {P : Nat → Prop} {n : Nat} (h : ¬ P n) : CNT P (n + 1) = CNT P n := by
  show CNT P n + _ = _
  rw [if_neg h]
  omega
theorem CNT_c {P Q : Nat → Prop} : ∀ (n : Nat), (∀ j : Nat, j < n → (P j ↔ Q j)) → CNT P n = CNT Q n
  | 0, _ => rfl
  | n + 1, h => by
    have q := CNT_c n (fun j hj => h j (by omega))
    by_cases c : P n
    · rw [CNT_t c, CNT_t ((h n (by omega)).mp c), q]
    · rw [CNT_f c, CNT_f (fun z => c ((h n (by omega)).mpr z)), q]
/-- what read answers -/
def RDA (F : (Nat → Int) → Prop) (n : Int) (j : Nat) (A : Int32 → Int32 → Prop) (r : Int32) : Prop := ((∀ x : Nat → Int, ¬ F x) ∧ r = 0) ∨ ∃ (L H : Nat → Int) (x y : Int32), LG F n L H ∧ x.toInt = L j ∧ y.toInt = H j ∧ bq (A x y) r
theorem RDA_one {F : (Nat → Int) → Prop} {n : Int} {j : Nat} {A : Int32 → Int32 → Prop} {r r2 : Int32} (hj : (j : Int) < n) (h : RDA F n j A r) (g : RDA F n j A r2) : r = r2 := by
  rcases h with ⟨a, b⟩ | ⟨L, H, x, y, a, b, c, d⟩ <;> rcases g with ⟨a2, b2⟩ | ⟨L2, H2, x2, y2, a2, b2, c2, d2⟩
  · exact b.trans b2.symm
  · exact absurd a2.1 (a _)
  · exact absurd a.1 (a2 _)
  · have q := LG_one a a2 hj
    have ex : x = x2 := Int32.toInt_inj.mp (by omega)
    have ey : y = y2 := Int32.toInt_inj.mp (by omega)
    rw [← ex, ← ey] at d2
    rcases d with ⟨u, v⟩ | ⟨u, v⟩ <;> rcases d2 with ⟨u2, v2⟩ | ⟨u2, v2⟩
    · exact u.trans u2.symm
    · exact absurd v v2
    · exact absurd v2 v
    · exact u.trans u2.symm
theorem RDA_cg {F G : (Nat → Int) → Prop} {n : Int} {j : Nat} {A B : Int32 → Int32 → Prop} {r : Int32} (e : ∀ x : Nat → Int, F x ↔ G x) (f : ∀ x y : Int32, A x y ↔ B x y) (h : RDA F n j A r) : RDA G n j B r := by
  rcases h with ⟨a, b⟩ | ⟨L, H, x, y, a, b, c, d⟩
  · exact Or.inl ⟨fun x q => a x ((e x).mpr q), b⟩
  · exact Or.inr ⟨L, H, x, y, LG_cg e a, b, c, bq_c (f x y) d⟩
/-- what reads answers -/
def RSA (F : (Nat → Int) → Prop) (n : Int) (A : Nat → Int32 → Int32 → Prop) (r : Int32) : Prop := ((∀ x : Nat → Int, ¬ F x) ∧ r = 0) ∨ ∃ (L H : Nat → Int) (x y : Nat → Int32), LG F n L H ∧ (∀ j : Nat, (j : Int) < n → (x j).toInt = L j ∧ (y j).toInt = H j) ∧ r.toInt = CNT (fun j => A j (x j) (y j)) n.toNat
theorem RSA_one {F : (Nat → Int) → Prop} {n : Int} {A : Nat → Int32 → Int32 → Prop} {r r2 : Int32} (h : RSA F n A r) (g : RSA F n A r2) : r = r2 := by
  rcases h with ⟨a, b⟩ | ⟨L, H, x, y, a, b, c⟩ <;> rcases g with ⟨a2, b2⟩ | ⟨L2, H2, x2, y2, a2, b2, c2⟩
  · exact b.trans b2.symm
  · exact absurd a2.1 (a _)
  · exact absurd a.1 (a2 _)
  · refine Int32.toInt_inj.mp (c.trans (Eq.trans (CNT_c _ (fun j hj => ?_)) c2.symm))
    have hj2 : (j : Int) < n := by omega
    have q := LG_one a a2 hj2
    have p1 := b j hj2
    have p2 := b2 j hj2
    have ex : x j = x2 j := Int32.toInt_inj.mp (by omega)
    have ey : y j = y2 j := Int32.toInt_inj.mp (by omega)
    rw [ex, ey]
theorem RSA_cg {F G : (Nat → Int) → Prop} {n : Int} {A B : Nat → Int32 → Int32 → Prop} {r : Int32} (e : ∀ x : Nat → Int, F x ↔ G x) (f : ∀ (j : Nat) (x y : Int32), (j : Int) < n → (A j x y ↔ B j x y)) (h : RSA F n A r) : RSA G n B r := by
  rcases h with ⟨a, b⟩ | ⟨L, H, x, y, a, b, c⟩
  · exact Or.inl ⟨fun x q => a x ((e x).mpr q), b⟩
  · exact Or.inr ⟨L, H, x, y, LG_cg e a, b, c.trans (CNT_c _ (fun j hj => f j _ _ (by omega)))⟩
/-- the POSTS stand alike -/
def RP (σ : ST) : Prop := ∀ i j : Nat, i < 6 → j < 6 → σ.2 (80 + i) j = σ.2 114 (6 * i + j) ∧ σ.2 (86 + i) j = σ.2 115 (6 * i + j)
theorem RP_e {σ σ2 : ST} (h1 : ∀ k : Nat, 80 ≤ k → k < 92 → σ2.2 k = σ.2 k) (h2 : σ2.2 114 = σ.2 114) (h3 : σ2.2 115 = σ.2 115) (h : RP σ) : RP σ2 := fun i j hi hj => by
  rw [h1 (80 + i) (by omega) (by omega), h1 (86 + i) (by omega) (by omega), h2, h3]
  exact h i j hi hj
theorem RP_Ag {sI sA : Nat → Prop} {σ σ2 : ST} (a : Ag sI sA σ σ2) (hA : ∀ k : Nat, k ∈ [80, 81, 82, 83, 84, 85, 86, 87, 88, 89, 90, 91, 114, 115] → ¬ sA k) (h : RP σ) : RP σ2 := RP_e (fun k h1 h2 => a.2 k (hA k (by
  have hk : k = 80 ∨ k = 81 ∨ k = 82 ∨ k = 83 ∨ k = 84 ∨ k = 85 ∨ k = 86 ∨ k = 87 ∨ k = 88 ∨ k = 89 ∨ k = 90 ∨ k = 91 := by omega
  rcases hk with rfl | rfl | rfl | rfl | rfl | rfl | rfl | rfl | rfl | rfl | rfl | rfl <;> decide))) (a.2 114 (hA 114 (by decide))) (a.2 115 (hA 115 (by decide))) h
theorem RP_WX {σ σ2 : ST} (q : WX σ σ2) (h : RP σ) : RP σ2 := RP_Ag q.2 (by decide) h
theorem RP_WM {σ σ2 : ST} (q : WM σ σ2) (h : RP σ) : RP σ2 := RP_Ag q.2 (by decide) h
theorem RP_setI {σ : ST} {k : Nat} {v : Int32} (h : RP σ) : RP (setI σ k v) := h
theorem RP_setA {σ : ST} {k j : Nat} {v : Int32} (h : RP σ) (hk : k < 80 ∨ (92 ≤ k ∧ k ≠ 114 ∧ k ≠ 115)) : RP (setA σ k j v) := RP_e (fun q h1 h2 => setA_ne σ k j v (by omega)) (setA_ne (a := 114) σ k j v (by omega)) (setA_ne (a := 115) σ k j v (by omega)) h

def tX_read (σ : ST) (a b c d r : Int32) (σ2 : ST) : Prop := WX σ σ2 ∧ ((¬ ((0 ≤ a.toInt ∧ a.toInt < (σ.1 3).toInt) ∧ (0 ≤ b.toInt ∧ b.toInt < (σ.1 2).toInt) ∧ (0 ≤ c.toInt ∧ c.toInt ≤ 9999) ∧ (d.toInt = 0 ∨ d.toInt = 1)) ∧ r = -2) ∨ (((0 ≤ a.toInt ∧ a.toInt < (σ.1 3).toInt) ∧ (0 ≤ b.toInt ∧ b.toInt < (σ.1 2).toInt) ∧ (0 ≤ c.toInt ∧ c.toInt ≤ 9999) ∧ (d.toInt = 0 ∨ d.toInt = 1)) ∧ RDA (FSX σ (kpF (allS (σ.1 4)))) (σ.1 3).toInt (a).toNatClampNeg (HAX σ (a).toNatClampNeg b c d) r))
def tM_read (σ : ST) (a b c d r : Int32) (σ2 : ST) : Prop := WM σ σ2 ∧ ((¬ ((0 ≤ a.toInt ∧ a.toInt < (σ.1 20).toInt) ∧ (0 ≤ b.toInt ∧ b.toInt < (σ.1 19).toInt) ∧ (0 ≤ c.toInt ∧ c.toInt ≤ 9999) ∧ (d.toInt = 0 ∨ d.toInt = 1)) ∧ r = -2) ∨ (((0 ≤ a.toInt ∧ a.toInt < (σ.1 20).toInt) ∧ (0 ≤ b.toInt ∧ b.toInt < (σ.1 19).toInt) ∧ (0 ≤ c.toInt ∧ c.toInt ≤ 9999) ∧ (d.toInt = 0 ∨ d.toInt = 1)) ∧ RDA (FSM σ (kpF (allS (σ.1 21)))) (σ.1 20).toInt (a).toNatClampNeg (HAM σ (a).toNatClampNeg b c d) r))
def tX_reads (σ : ST) (b c d r : Int32) (σ2 : ST) : Prop := WX σ σ2 ∧ ((¬ ((0 ≤ b.toInt ∧ b.toInt < (σ.1 2).toInt) ∧ (0 ≤ c.toInt ∧ c.toInt ≤ 9999) ∧ (d.toInt = 0 ∨ d.toInt = 1)) ∧ r = -2) ∨ (((0 ≤ b.toInt ∧ b.toInt < (σ.1 2).toInt) ∧ (0 ≤ c.toInt ∧ c.toInt ≤ 9999) ∧ (d.toInt = 0 ∨ d.toInt = 1)) ∧ RSA (FSX σ (kpF (allS (σ.1 4)))) (σ.1 3).toInt (fun j => HAX σ j b c d) r))
def tM_reads (σ : ST) (b c d r : Int32) (σ2 : ST) : Prop := WM σ σ2 ∧ ((¬ ((0 ≤ b.toInt ∧ b.toInt < (σ.1 19).toInt) ∧ (0 ≤ c.toInt ∧ c.toInt ≤ 9999) ∧ (d.toInt = 0 ∨ d.toInt = 1)) ∧ r = -2) ∨ (((0 ≤ b.toInt ∧ b.toInt < (σ.1 19).toInt) ∧ (0 ≤ c.toInt ∧ c.toInt ≤ 9999) ∧ (d.toInt = 0 ∨ d.toInt = 1)) ∧ RSA (FSM σ (kpF (allS (σ.1 21)))) (σ.1 20).toInt (fun j => HAM σ j b c d) r))
set_option maxHeartbeats 4000000 in
set_option maxRecDepth 100000 in
theorem f_X2_isReader (l : Launch) (L : WL) (σ : ST) (a b : Int32) (ha : 0 ≤ a.toInt ∧ a.toInt < 12) (ix : IV σ) : CtI l L yX2_isReader cX2_isReader 3 (some .boolean) rm_X2_isReader [.ref (L.2.1 2), .int a, .int b] σ (fun r σ2 => σ2 = σ ∧ bq (RDR (σ.2 24 (a).toNatClampNeg) (σ.2 25 (a).toNatClampNeg) (σ.2 26 (a).toNatClampNeg) b) r) := by
  refine ctI_go (own := RX2) (by decide) rfl (Nat.le_of_ble_eq_true rfl) (fun F hF => ?_)
  subst hF
  have n0 : (0 : Int32).toInt = 0 := by decide
  have n1 : (1 : Int32).toInt = 1 := by decide
  have n5 : (5 : Int32).toInt = 5 := by decide
  have w0 : WX σ σ := WX_rfl ix
  refine go_aload_n (i := 0) (pc' := 1) dX2_isReader_0 rfl rfl rfl ?_
  refine gf_2_kinds (pc' := 4) dX2_isReader_1 rfl fl_X2_11 ?_
  refine go_iload_n (i := 1) (pc' := 5) dX2_isReader_4 rfl rfl rfl ?_
  refine go_iald (pc' := 6) dX2_isReader_5 rfl (by decide) (by decide) rfl (vin_of (n := 12) (by omega) (by omega)) ?_
  refine go_rngA (ixa_24 w0.1) (vinlt (vin_of (n := 12) (by omega) (by omega))) (fun g1 => ?_)
  refine go_iconst (v := 1) (pc' := 7) dX2_isReader_6 rfl (by decide) ?_
  refine gz_icmp_ne (tgt := 12) (pc' := 10) dX2_isReader_7 rfl (by decide) (fun c2 => ?_) (fun c2 => ?_)
  · refine go_aload_n (i := 0) (pc' := 13) dX2_isReader_12 rfl rfl rfl ?_
    refine gf_2_kinds (pc' := 16) dX2_isReader_13 rfl fl_X2_11 ?_
    refine go_iload_n (i := 1) (pc' := 17) dX2_isReader_16 rfl rfl rfl ?_
    refine go_iald (pc' := 18) dX2_isReader_17 rfl (by decide) (by decide) rfl (vin_of (n := 12) (by omega) (by omega)) ?_
    refine go_rngA (ixa_24 w0.1) (vinlt (vin_of (n := 12) (by omega) (by omega))) (fun g3 => ?_)
    refine go_iconst (v := 5) (pc' := 19) dX2_isReader_18 rfl (by decide) ?_
    refine gz_icmp_ne (tgt := 38) (pc' := 22) dX2_isReader_19 rfl (by decide) (fun c4 => ?_) (fun c4 => ?_)
    · refine go_aload_n (i := 0) (pc' := 39) dX2_isReader_38 rfl rfl rfl ?_
      refine gf_2_readers (pc' := 42) dX2_isReader_39 rfl fl_X2_18 ?_
      refine go_iload_n (i := 1) (pc' := 43) dX2_isReader_42 rfl rfl rfl ?_
      refine go_iald (pc' := 44) dX2_isReader_43 rfl (by decide) (by decide) rfl (vin_of (n := 12) (by omega) (by omega)) ?_
      refine go_rngA (ixa_26 w0.1) (vinlt (vin_of (n := 12) (by omega) (by omega))) (fun g5 => ?_)
      refine go_iload_n (i := 2) (pc' := 45) dX2_isReader_44 rfl rfl rfl ?_
      refine gz_icmp_ne (tgt := 52) (pc' := 48) dX2_isReader_45 rfl (by decide) (fun c6 => ?_) (fun c6 => ?_)
      · refine go_iconst (v := 0) (pc' := 53) dX2_isReader_52 rfl (by decide) ?_
        exact go_zret dX2_isReader_53 rfl rfl (⟨rfl, by first | exact bq_t ⟨by omega, by omega⟩ | exact bq_f (fun q => by have q1 := q.1; have q2 := q.2; omega)⟩)
      refine go_iconst (v := 1) (pc' := 49) dX2_isReader_48 rfl (by decide) ?_
      refine go_goto (tgt := 53) dX2_isReader_49 (by decide) ?_
      exact go_zret dX2_isReader_53 rfl rfl (⟨rfl, by first | exact bq_t ⟨by omega, by omega⟩ | exact bq_f (fun q => by have q1 := q.1; have q2 := q.2; omega)⟩)
    refine go_aload_n (i := 0) (pc' := 23) dX2_isReader_22 rfl rfl rfl ?_
    refine gf_2_writers (pc' := 26) dX2_isReader_23 rfl fl_X2_15 ?_
    refine go_iload_n (i := 1) (pc' := 27) dX2_isReader_26 rfl rfl rfl ?_
    refine go_iald (pc' := 28) dX2_isReader_27 rfl (by decide) (by decide) rfl (vin_of (n := 12) (by omega) (by omega)) ?_
    refine go_rngA (ixa_25 w0.1) (vinlt (vin_of (n := 12) (by omega) (by omega))) (fun g7 => ?_)
    refine go_iload_n (i := 2) (pc' := 29) dX2_isReader_28 rfl rfl rfl ?_
    refine gz_icmp_eq (tgt := 36) (pc' := 32) dX2_isReader_29 rfl (by decide) (fun c8 => ?_) (fun c8 => ?_)
    · refine go_iconst (v := 0) (pc' := 37) dX2_isReader_36 rfl (by decide) ?_
      exact go_zret dX2_isReader_37 rfl rfl (⟨rfl, by first | exact bq_t ⟨by omega, by omega⟩ | exact bq_f (fun q => by have q1 := q.1; have q2 := q.2; omega)⟩)
    refine go_iconst (v := 1) (pc' := 33) dX2_isReader_32 rfl (by decide) ?_
    refine go_goto (tgt := 37) dX2_isReader_33 (by decide) ?_
    exact go_zret dX2_isReader_37 rfl rfl (⟨rfl, by first | exact bq_t ⟨by omega, by omega⟩ | exact bq_f (fun q => by have q1 := q.1; have q2 := q.2; omega)⟩)
  refine go_iconst (v := 0) (pc' := 11) dX2_isReader_10 rfl (by decide) ?_
  exact go_zret dX2_isReader_11 rfl rfl (⟨rfl, by first | exact bq_t ⟨by omega, by omega⟩ | exact bq_f (fun q => by have q1 := q.1; have q2 := q.2; omega)⟩)
set_option maxHeartbeats 4000000 in
set_option maxRecDepth 100000 in
theorem f_X11_hasRead (l : Launch) (L : WL) (σ : ST) (a b c d : Int32) (ha : 0 ≤ a.toInt ∧ a.toInt < 12) (hb : 0 ≤ b.toInt ∧ b.toInt < 10) (ix : IV σ) : CtI l L yX11_hasRead cX11_hasRead 7 (some .boolean) rm_X11_hasRead [.ref (L.2.1 0), .int a, .int b, .int c, .int d] σ (fun r σ2 => σ2 = σ ∧ bq (HRX σ (a).toNatClampNeg b c d) r) := by
  refine ctI_go (own := RX11) (by decide) rfl (Nat.le_of_ble_eq_true rfl) (fun F hF => ?_)
  subst hF
  have n0 : (0 : Int32).toInt = 0 := by decide
  have n1 : (1 : Int32).toInt = 1 := by decide
  have w0 : WX σ σ := WX_rfl ix
  refine go_aload_n (i := 0) (pc' := 1) dX11_hasRead_0 rfl rfl rfl ?_
  refine gf_0_letters (pc' := 4) dX11_hasRead_1 rfl fl_X11_19 ?_
  refine go_iload_n (i := 1) (pc' := 5) dX11_hasRead_4 rfl rfl rfl ?_
  refine go_iload_n (i := 2) (pc' := 6) dX11_hasRead_5 rfl rfl rfl ?_
  refine go_cvi (pc' := 9) lk_X11_313 (f_X2_isReader _ _ _ _ _ (by omega) w0.1) rfl rfl (Nat.le_of_ble_eq_true rfl) (by decide) rfl rfl rfl ⟨Nat.le_of_ble_eq_true rfl, Nat.le_of_ble_eq_true rfl⟩ ⟨rfl, rfl⟩ dX11_hasRead_6 rfl (fun r1 σ1 h1 => ?_)
  obtain ⟨e1, h1⟩ := h1
  have e1 := e1.symm
  subst e1
  refine go_neB (tgt := 14) (pc' := 12) h1 dX11_hasRead_9 rfl (by decide) (fun c2 => ?_) (fun c2 => ?_)
  · have rd := c2
    refine go_aload_n (i := 0) (pc' := 15) dX11_hasRead_14 rfl rfl rfl ?_
    refine gf_0_letters (pc' := 18) dX11_hasRead_15 rfl fl_X11_19 ?_
    refine gf_2_places (pc' := 21) dX11_hasRead_18 rfl fl_X11_140 ?_
    refine go_iload_n (i := 1) (pc' := 22) dX11_hasRead_21 rfl rfl rfl ?_
    refine go_iald (pc' := 23) dX11_hasRead_22 rfl (by decide) (by decide) rfl (vin_of (n := 12) (by omega) (by omega)) ?_
    refine go_rngA (ixa_27 w0.1) (vinlt (vin_of (n := 12) (by omega) (by omega))) (fun g3 => ?_)
    refine go_topz (fun y4 h4 e4 => ?_)
    refine go_istore (pc' := 25) dX11_hasRead_23 rfl (by decide) ?_
    refine go_aload_n (i := 0) (pc' := 26) dX11_hasRead_25 rfl rfl rfl ?_
    refine gf_0_people (pc' := 29) dX11_hasRead_26 rfl fl_X11_10 ?_
    refine gf_1_places (pc' := 32) dX11_hasRead_29 rfl fl_X11_316 ?_
    refine go_iload_n (i := 2) (pc' := 33) dX11_hasRead_32 rfl rfl rfl ?_
    refine go_iald (pc' := 34) dX11_hasRead_33 rfl (by decide) (by decide) rfl (vin_of (n := 10) (by omega) (by omega)) ?_
    refine go_rngA (ixa_20 w0.1) (vinlt (vin_of (n := 10) (by omega) (by omega))) (fun g5 => ?_)
    refine go_topz (fun y6 h6 e6 => ?_)
    refine go_istore (pc' := 36) dX11_hasRead_34 rfl (by decide) ?_
    have hp5 : (y4) = σ.2 27 (a).toNatClampNeg := by first | rfl | assumption
    have hp6 : (y6) = σ.2 20 (b).toNatClampNeg := by first | rfl | assumption
    refine go_iload (pc' := 38) dX11_hasRead_36 rfl rfl ?_
    refine gz_if_ne (tgt := 74) (pc' := 41) dX11_hasRead_38 rfl (by decide) (fun c7 => ?_) (fun c7 => ?_)
    · refine go_aload_n (i := 0) (pc' := 75) dX11_hasRead_74 rfl rfl rfl ?_
      refine gf_0_calendar (pc' := 78) dX11_hasRead_75 rfl fl_X11_26 ?_
      refine gf_3_highs (pc' := 81) dX11_hasRead_78 rfl fl_X11_178 ?_
      refine go_iload_n (i := 1) (pc' := 82) dX11_hasRead_81 rfl rfl rfl ?_
      refine go_iald (pc' := 83) dX11_hasRead_82 rfl (by decide) (by decide) rfl (vin_of (n := 12) (by omega) (by omega)) ?_
      refine go_aload_n (i := 0) (pc' := 84) dX11_hasRead_83 rfl rfl rfl ?_
      refine gf_0_posts (pc' := 87) dX11_hasRead_84 rfl fl_X11_33 ?_
      refine gf_4_mosts (pc' := 90) dX11_hasRead_87 rfl fl_X11_202 ?_
      refine go_iload (pc' := 92) dX11_hasRead_90 rfl rfl ?_
      have p8 : (y4).toNatClampNeg < 6 := vinlt (vin_of (n := 6) (by omega) (by omega))
      refine go_aald (b := 86) (pc' := 93) dX11_hasRead_92 rfl (by decide) (by decide) ⟨_, rfl⟩ (vin_of (n := 6) (by omega) (by omega)) rfl ?_
      refine go_iload (pc' := 95) dX11_hasRead_93 rfl rfl ?_
      refine go_iald (pc' := 96) dX11_hasRead_95 rfl (by omega) (by omega) (rowt_86 p8) (by rw [rowl_86 p8]; exact (vin_of (n := 6) (by omega) (by omega))) ?_
      refine go_iadd (pc' := 97) dX11_hasRead_96 rfl ?_
      refine go_iload_n (i := 3) (pc' := 98) dX11_hasRead_97 rfl rfl rfl ?_
      refine gz_icmp_gt (tgt := 105) (pc' := 101) dX11_hasRead_98 rfl (by decide) (fun c9 => ?_) (fun c9 => ?_)
      · refine go_iconst (v := 0) (pc' := 106) dX11_hasRead_105 rfl (by decide) ?_
        exact go_zret dX11_hasRead_106 rfl rfl (⟨rfl, by
            unfold HRX HAX
            rw [← hp5, ← hp6]
            first
            | exact bq_t ⟨rd, by first | (rw [if_pos (by omega)]; omega) | (rw [if_neg (by omega)]; omega)⟩
            | exact bq_f (fun q => by
                have q3 := q.2
                first
                | (rw [if_pos (by omega)] at q3; omega)
                | (rw [if_neg (by omega)] at q3; omega))⟩)
      refine go_iconst (v := 1) (pc' := 102) dX11_hasRead_101 rfl (by decide) ?_
      refine go_goto (tgt := 106) dX11_hasRead_102 (by decide) ?_
      exact go_zret dX11_hasRead_106 rfl rfl (⟨rfl, by
          unfold HRX HAX
          rw [← hp5, ← hp6]
          first
          | exact bq_t ⟨rd, by first | (rw [if_pos (by omega)]; omega) | (rw [if_neg (by omega)]; omega)⟩
          | exact bq_f (fun q => by
              have q3 := q.2
              first
              | (rw [if_pos (by omega)] at q3; omega)
              | (rw [if_neg (by omega)] at q3; omega))⟩)
    refine go_aload_n (i := 0) (pc' := 42) dX11_hasRead_41 rfl rfl rfl ?_
    refine gf_0_calendar (pc' := 45) dX11_hasRead_42 rfl fl_X11_26 ?_
    refine gf_3_lows (pc' := 48) dX11_hasRead_45 rfl fl_X11_175 ?_
    refine go_iload_n (i := 1) (pc' := 49) dX11_hasRead_48 rfl rfl rfl ?_
    refine go_iald (pc' := 50) dX11_hasRead_49 rfl (by decide) (by decide) rfl (vin_of (n := 12) (by omega) (by omega)) ?_
    refine go_aload_n (i := 0) (pc' := 51) dX11_hasRead_50 rfl rfl rfl ?_
    refine gf_0_posts (pc' := 54) dX11_hasRead_51 rfl fl_X11_33 ?_
    refine gf_4_leasts (pc' := 57) dX11_hasRead_54 rfl fl_X11_199 ?_
    refine go_iload (pc' := 59) dX11_hasRead_57 rfl rfl ?_
    have p10 : (y4).toNatClampNeg < 6 := vinlt (vin_of (n := 6) (by omega) (by omega))
    refine go_aald (b := 80) (pc' := 60) dX11_hasRead_59 rfl (by decide) (by decide) ⟨_, rfl⟩ (vin_of (n := 6) (by omega) (by omega)) rfl ?_
    refine go_iload (pc' := 62) dX11_hasRead_60 rfl rfl ?_
    refine go_iald (pc' := 63) dX11_hasRead_62 rfl (by omega) (by omega) (rowt_80 p10) (by rw [rowl_80 p10]; exact (vin_of (n := 6) (by omega) (by omega))) ?_
    refine go_iadd (pc' := 64) dX11_hasRead_63 rfl ?_
    refine go_iload_n (i := 3) (pc' := 65) dX11_hasRead_64 rfl rfl rfl ?_
    refine gz_icmp_gt (tgt := 72) (pc' := 68) dX11_hasRead_65 rfl (by decide) (fun c11 => ?_) (fun c11 => ?_)
    · refine go_iconst (v := 0) (pc' := 73) dX11_hasRead_72 rfl (by decide) ?_
      exact go_zret dX11_hasRead_73 rfl rfl (⟨rfl, by
          unfold HRX HAX
          rw [← hp5, ← hp6]
          first
          | exact bq_t ⟨rd, by first | (rw [if_pos (by omega)]; omega) | (rw [if_neg (by omega)]; omega)⟩
          | exact bq_f (fun q => by
              have q3 := q.2
              first
              | (rw [if_pos (by omega)] at q3; omega)
              | (rw [if_neg (by omega)] at q3; omega))⟩)
    refine go_iconst (v := 1) (pc' := 69) dX11_hasRead_68 rfl (by decide) ?_
    refine go_goto (tgt := 73) dX11_hasRead_69 (by decide) ?_
    exact go_zret dX11_hasRead_73 rfl rfl (⟨rfl, by
        unfold HRX HAX
        rw [← hp5, ← hp6]
        first
        | exact bq_t ⟨rd, by first | (rw [if_pos (by omega)]; omega) | (rw [if_neg (by omega)]; omega)⟩
        | exact bq_f (fun q => by
            have q3 := q.2
            first
            | (rw [if_pos (by omega)] at q3; omega)
            | (rw [if_neg (by omega)] at q3; omega))⟩)
  refine go_iconst (v := 0) (pc' := 13) dX11_hasRead_12 rfl (by decide) ?_
  exact go_zret dX11_hasRead_13 rfl rfl (⟨rfl, bq_f (fun q => c2 q.1)⟩)
set_option maxHeartbeats 4000000 in
set_option maxRecDepth 100000 in
theorem f_X12_hasRead (l : Launch) (L : WL) (σ : ST) (a b c d : Int32) (ha : 0 ≤ a.toInt ∧ a.toInt < 12) (hb : 0 ≤ b.toInt ∧ b.toInt < 10) (ix : IV σ) : CtI l L yX12_hasRead cX12_hasRead 6 (some .boolean) rm_X12_hasRead [.ref (L.2.1 13), .int a, .int b, .int c, .int d] σ (fun r σ2 => σ2 = σ ∧ bq (HRM σ (a).toNatClampNeg b c d) r) := by
  refine ctI_go (own := RX12) (by decide) rfl (Nat.le_of_ble_eq_true rfl) (fun F hF => ?_)
  subst hF
  have n0 : (0 : Int32).toInt = 0 := by decide
  have n1 : (1 : Int32).toInt = 1 := by decide
  have n5 : (5 : Int32).toInt = 5 := by decide
  have n6 : (6 : Int32).toInt = 6 := by decide
  have w0 : WM σ σ := WM_rfl ix
  refine go_aload_n (i := 0) (pc' := 1) dX12_hasRead_0 rfl rfl rfl ?_
  refine gf_13_kind (pc' := 4) dX12_hasRead_1 rfl fl_X12_26 ?_
  refine go_iload_n (i := 1) (pc' := 5) dX12_hasRead_4 rfl rfl rfl ?_
  refine go_iald (pc' := 6) dX12_hasRead_5 rfl (by decide) (by decide) rfl (vin_of (n := 12) (by omega) (by omega)) ?_
  have g1 := ixa_101 ix (a).toNatClampNeg (vinlt (vin_of (n := 12) (by omega) (by omega)))
  refine go_iconst (v := 1) (pc' := 7) dX12_hasRead_6 rfl (by decide) ?_
  refine gz_icmp_eq (tgt := 43) (pc' := 10) dX12_hasRead_7 rfl (by decide) (fun c2 => ?_) (fun c2 => ?_)
  · refine go_iconst (v := 0) (pc' := 44) dX12_hasRead_43 rfl (by decide) ?_
    exact go_zret dX12_hasRead_44 rfl rfl (⟨rfl, bq_f (fun q => by have q1 := q.1.1; have q2 := q.1.2; omega)⟩)
  refine go_aload_n (i := 0) (pc' := 11) dX12_hasRead_10 rfl rfl rfl ?_
  refine gf_13_kind (pc' := 14) dX12_hasRead_11 rfl fl_X12_26 ?_
  refine go_iload_n (i := 1) (pc' := 15) dX12_hasRead_14 rfl rfl rfl ?_
  refine go_iald (pc' := 16) dX12_hasRead_15 rfl (by decide) (by decide) rfl (vin_of (n := 12) (by omega) (by omega)) ?_
  have g3 := ixa_101 ix (a).toNatClampNeg (vinlt (vin_of (n := 12) (by omega) (by omega)))
  refine go_iconst (v := 5) (pc' := 17) dX12_hasRead_16 rfl (by decide) ?_
  refine gz_icmp_ne (tgt := 33) (pc' := 20) dX12_hasRead_17 rfl (by decide) (fun c4 => ?_) (fun c4 => ?_)
  · refine go_iload_n (i := 2) (pc' := 34) dX12_hasRead_33 rfl rfl rfl ?_
    refine go_aload_n (i := 0) (pc' := 35) dX12_hasRead_34 rfl rfl rfl ?_
    refine gf_13_reader (pc' := 38) dX12_hasRead_35 rfl fl_X12_32 ?_
    refine go_iload_n (i := 1) (pc' := 39) dX12_hasRead_38 rfl rfl rfl ?_
    refine go_iald (pc' := 40) dX12_hasRead_39 rfl (by decide) (by decide) rfl (vin_of (n := 12) (by omega) (by omega)) ?_
    have g5 := ixa_103 ix (a).toNatClampNeg (vinlt (vin_of (n := 12) (by omega) (by omega)))
    refine gz_icmp_eq (tgt := 45) (pc' := 43) dX12_hasRead_40 rfl (by decide) (fun c6 => ?_) (fun c6 => ?_)
    · have rd : RDR (σ.2 101 (a).toNatClampNeg) (σ.2 102 (a).toNatClampNeg) (σ.2 103 (a).toNatClampNeg) b := ⟨by omega, by omega⟩
      have g104 := ixa_104 ix (a).toNatClampNeg (by have := cnat ha.1; omega)
      have g97 := ixa_97 ix (b).toNatClampNeg (by have := cnat hb.1; omega)
      refine go_bipush (v := 6) (pc' := 47) dX12_hasRead_45 rfl (by decide) ?_
      refine go_aload_n (i := 0) (pc' := 48) dX12_hasRead_47 rfl rfl rfl ?_
      refine gf_13_place (pc' := 51) dX12_hasRead_48 rfl fl_X12_35 ?_
      refine go_iload_n (i := 1) (pc' := 52) dX12_hasRead_51 rfl rfl rfl ?_
      refine go_iald (pc' := 53) dX12_hasRead_52 rfl (by decide) (by decide) rfl (vin_of (n := 12) (by omega) (by omega)) ?_
      have g7 := ixa_104 ix (a).toNatClampNeg (vinlt (vin_of (n := 12) (by omega) (by omega)))
      refine gz_imulc (n := 6) (pc' := 54) dX12_hasRead_53 rfl (by decide) (by omega) (fun v8 h8 e8 => ?_)
      refine go_aload_n (i := 0) (pc' := 55) dX12_hasRead_54 rfl rfl rfl ?_
      refine gf_13_home (pc' := 58) dX12_hasRead_55 rfl fl_X12_13 ?_
      refine go_iload_n (i := 2) (pc' := 59) dX12_hasRead_58 rfl rfl rfl ?_
      refine go_iald (pc' := 60) dX12_hasRead_59 rfl (by decide) (by decide) rfl (vin_of (n := 10) (by omega) (by omega)) ?_
      have g9 := ixa_97 ix (b).toNatClampNeg (vinlt (vin_of (n := 10) (by omega) (by omega)))
      refine gz_iadd (pc' := 61) dX12_hasRead_60 rfl (by omega) (fun v10 h10 e10 => ?_)
      refine go_istore (pc' := 63) dX12_hasRead_61 rfl (by decide) ?_
      have c5 : (v10).toNatClampNeg = 6 * (σ.2 104 (a).toNatClampNeg).toNatClampNeg + (σ.2 97 (b).toNatClampNeg).toNatClampNeg := cnat_lin (n := 6) (by omega) g104.1 g97.1
      refine go_iload (pc' := 65) dX12_hasRead_63 rfl rfl ?_
      refine gz_if_ne (tgt := 85) (pc' := 68) dX12_hasRead_65 rfl (by decide) (fun c11 => ?_) (fun c11 => ?_)
      · refine go_aload_n (i := 0) (pc' := 86) dX12_hasRead_85 rfl rfl rfl ?_
        refine gf_13_high (pc' := 89) dX12_hasRead_86 rfl fl_X12_86 ?_
        refine go_iload_n (i := 1) (pc' := 90) dX12_hasRead_89 rfl rfl rfl ?_
        refine go_iald (pc' := 91) dX12_hasRead_90 rfl (by decide) (by decide) rfl (vin_of (n := 12) (by omega) (by omega)) ?_
        refine go_rngA (ixa_121 w0.1) (vinlt (vin_of (n := 12) (by omega) (by omega))) (fun g12 => ?_)
        refine go_aload_n (i := 0) (pc' := 92) dX12_hasRead_91 rfl rfl rfl ?_
        refine gf_13_postMost (pc' := 95) dX12_hasRead_92 rfl fl_X12_68 ?_
        refine go_iload (pc' := 97) dX12_hasRead_95 rfl rfl ?_
        refine go_iald (pc' := 98) dX12_hasRead_97 rfl (by decide) (by decide) rfl (vin_of (n := 36) (by omega) (by omega)) ?_
        refine go_iadd (pc' := 99) dX12_hasRead_98 rfl ?_
        refine go_iload_n (i := 3) (pc' := 100) dX12_hasRead_99 rfl rfl rfl ?_
        refine gz_icmp_gt (tgt := 107) (pc' := 103) dX12_hasRead_100 rfl (by decide) (fun c13 => ?_) (fun c13 => ?_)
        · refine go_iconst (v := 0) (pc' := 108) dX12_hasRead_107 rfl (by decide) ?_
          exact go_zret dX12_hasRead_108 rfl rfl (⟨rfl, by
              unfold HRM HAM
              rw [← c5]
              first
              | exact bq_t ⟨rd, by first | (rw [if_pos (by omega)]; omega) | (rw [if_neg (by omega)]; omega)⟩
              | exact bq_f (fun q => by
                  have q3 := q.2
                  first
                  | (rw [if_pos (by omega)] at q3; omega)
                  | (rw [if_neg (by omega)] at q3; omega))⟩)
        refine go_iconst (v := 1) (pc' := 104) dX12_hasRead_103 rfl (by decide) ?_
        refine go_goto (tgt := 108) dX12_hasRead_104 (by decide) ?_
        exact go_zret dX12_hasRead_108 rfl rfl (⟨rfl, by
            unfold HRM HAM
            rw [← c5]
            first
            | exact bq_t ⟨rd, by first | (rw [if_pos (by omega)]; omega) | (rw [if_neg (by omega)]; omega)⟩
            | exact bq_f (fun q => by
                have q3 := q.2
                first
                | (rw [if_pos (by omega)] at q3; omega)
                | (rw [if_neg (by omega)] at q3; omega))⟩)
      refine go_aload_n (i := 0) (pc' := 69) dX12_hasRead_68 rfl rfl rfl ?_
      refine gf_13_low (pc' := 72) dX12_hasRead_69 rfl fl_X12_83 ?_
      refine go_iload_n (i := 1) (pc' := 73) dX12_hasRead_72 rfl rfl rfl ?_
      refine go_iald (pc' := 74) dX12_hasRead_73 rfl (by decide) (by decide) rfl (vin_of (n := 12) (by omega) (by omega)) ?_
      refine go_rngA (ixa_120 w0.1) (vinlt (vin_of (n := 12) (by omega) (by omega))) (fun g14 => ?_)
      refine go_aload_n (i := 0) (pc' := 75) dX12_hasRead_74 rfl rfl rfl ?_
      refine gf_13_postLeast (pc' := 78) dX12_hasRead_75 rfl fl_X12_65 ?_
      refine go_iload (pc' := 80) dX12_hasRead_78 rfl rfl ?_
      refine go_iald (pc' := 81) dX12_hasRead_80 rfl (by decide) (by decide) rfl (vin_of (n := 36) (by omega) (by omega)) ?_
      refine go_iadd (pc' := 82) dX12_hasRead_81 rfl ?_
      refine go_goto (tgt := 99) dX12_hasRead_82 (by decide) ?_
      refine go_iload_n (i := 3) (pc' := 100) dX12_hasRead_99 rfl rfl rfl ?_
      refine gz_icmp_gt (tgt := 107) (pc' := 103) dX12_hasRead_100 rfl (by decide) (fun c15 => ?_) (fun c15 => ?_)
      · refine go_iconst (v := 0) (pc' := 108) dX12_hasRead_107 rfl (by decide) ?_
        exact go_zret dX12_hasRead_108 rfl rfl (⟨rfl, by
            unfold HRM HAM
            rw [← c5]
            first
            | exact bq_t ⟨rd, by first | (rw [if_pos (by omega)]; omega) | (rw [if_neg (by omega)]; omega)⟩
            | exact bq_f (fun q => by
                have q3 := q.2
                first
                | (rw [if_pos (by omega)] at q3; omega)
                | (rw [if_neg (by omega)] at q3; omega))⟩)
      refine go_iconst (v := 1) (pc' := 104) dX12_hasRead_103 rfl (by decide) ?_
      refine go_goto (tgt := 108) dX12_hasRead_104 (by decide) ?_
      exact go_zret dX12_hasRead_108 rfl rfl (⟨rfl, by
          unfold HRM HAM
          rw [← c5]
          first
          | exact bq_t ⟨rd, by first | (rw [if_pos (by omega)]; omega) | (rw [if_neg (by omega)]; omega)⟩
          | exact bq_f (fun q => by
              have q3 := q.2
              first
              | (rw [if_pos (by omega)] at q3; omega)
              | (rw [if_neg (by omega)] at q3; omega))⟩)
    refine go_iconst (v := 0) (pc' := 44) dX12_hasRead_43 rfl (by decide) ?_
    exact go_zret dX12_hasRead_44 rfl rfl (⟨rfl, bq_f (fun q => by have q1 := q.1.1; have q2 := q.1.2; omega)⟩)
  refine go_iload_n (i := 2) (pc' := 21) dX12_hasRead_20 rfl rfl rfl ?_
  refine go_aload_n (i := 0) (pc' := 22) dX12_hasRead_21 rfl rfl rfl ?_
  refine gf_13_writer (pc' := 25) dX12_hasRead_22 rfl fl_X12_29 ?_
  refine go_iload_n (i := 1) (pc' := 26) dX12_hasRead_25 rfl rfl rfl ?_
  refine go_iald (pc' := 27) dX12_hasRead_26 rfl (by decide) (by decide) rfl (vin_of (n := 12) (by omega) (by omega)) ?_
  have g16 := ixa_102 ix (a).toNatClampNeg (vinlt (vin_of (n := 12) (by omega) (by omega)))
  refine gz_icmp_ne (tgt := 45) (pc' := 30) dX12_hasRead_27 rfl (by decide) (fun c17 => ?_) (fun c17 => ?_)
  · have rd : RDR (σ.2 101 (a).toNatClampNeg) (σ.2 102 (a).toNatClampNeg) (σ.2 103 (a).toNatClampNeg) b := ⟨by omega, by omega⟩
    have g104 := ixa_104 ix (a).toNatClampNeg (by have := cnat ha.1; omega)
    have g97 := ixa_97 ix (b).toNatClampNeg (by have := cnat hb.1; omega)
    refine go_bipush (v := 6) (pc' := 47) dX12_hasRead_45 rfl (by decide) ?_
    refine go_aload_n (i := 0) (pc' := 48) dX12_hasRead_47 rfl rfl rfl ?_
    refine gf_13_place (pc' := 51) dX12_hasRead_48 rfl fl_X12_35 ?_
    refine go_iload_n (i := 1) (pc' := 52) dX12_hasRead_51 rfl rfl rfl ?_
    refine go_iald (pc' := 53) dX12_hasRead_52 rfl (by decide) (by decide) rfl (vin_of (n := 12) (by omega) (by omega)) ?_
    have g18 := ixa_104 ix (a).toNatClampNeg (vinlt (vin_of (n := 12) (by omega) (by omega)))
    refine gz_imulc (n := 6) (pc' := 54) dX12_hasRead_53 rfl (by decide) (by omega) (fun v19 h19 e19 => ?_)
    refine go_aload_n (i := 0) (pc' := 55) dX12_hasRead_54 rfl rfl rfl ?_
    refine gf_13_home (pc' := 58) dX12_hasRead_55 rfl fl_X12_13 ?_
    refine go_iload_n (i := 2) (pc' := 59) dX12_hasRead_58 rfl rfl rfl ?_
    refine go_iald (pc' := 60) dX12_hasRead_59 rfl (by decide) (by decide) rfl (vin_of (n := 10) (by omega) (by omega)) ?_
    have g20 := ixa_97 ix (b).toNatClampNeg (vinlt (vin_of (n := 10) (by omega) (by omega)))
    refine gz_iadd (pc' := 61) dX12_hasRead_60 rfl (by omega) (fun v21 h21 e21 => ?_)
    refine go_istore (pc' := 63) dX12_hasRead_61 rfl (by decide) ?_
    have c5 : (v21).toNatClampNeg = 6 * (σ.2 104 (a).toNatClampNeg).toNatClampNeg + (σ.2 97 (b).toNatClampNeg).toNatClampNeg := cnat_lin (n := 6) (by omega) g104.1 g97.1
    refine go_iload (pc' := 65) dX12_hasRead_63 rfl rfl ?_
    refine gz_if_ne (tgt := 85) (pc' := 68) dX12_hasRead_65 rfl (by decide) (fun c22 => ?_) (fun c22 => ?_)
    · refine go_aload_n (i := 0) (pc' := 86) dX12_hasRead_85 rfl rfl rfl ?_
      refine gf_13_high (pc' := 89) dX12_hasRead_86 rfl fl_X12_86 ?_
      refine go_iload_n (i := 1) (pc' := 90) dX12_hasRead_89 rfl rfl rfl ?_
      refine go_iald (pc' := 91) dX12_hasRead_90 rfl (by decide) (by decide) rfl (vin_of (n := 12) (by omega) (by omega)) ?_
      refine go_rngA (ixa_121 w0.1) (vinlt (vin_of (n := 12) (by omega) (by omega))) (fun g23 => ?_)
      refine go_aload_n (i := 0) (pc' := 92) dX12_hasRead_91 rfl rfl rfl ?_
      refine gf_13_postMost (pc' := 95) dX12_hasRead_92 rfl fl_X12_68 ?_
      refine go_iload (pc' := 97) dX12_hasRead_95 rfl rfl ?_
      refine go_iald (pc' := 98) dX12_hasRead_97 rfl (by decide) (by decide) rfl (vin_of (n := 36) (by omega) (by omega)) ?_
      refine go_iadd (pc' := 99) dX12_hasRead_98 rfl ?_
      refine go_iload_n (i := 3) (pc' := 100) dX12_hasRead_99 rfl rfl rfl ?_
      refine gz_icmp_gt (tgt := 107) (pc' := 103) dX12_hasRead_100 rfl (by decide) (fun c24 => ?_) (fun c24 => ?_)
      · refine go_iconst (v := 0) (pc' := 108) dX12_hasRead_107 rfl (by decide) ?_
        exact go_zret dX12_hasRead_108 rfl rfl (⟨rfl, by
            unfold HRM HAM
            rw [← c5]
            first
            | exact bq_t ⟨rd, by first | (rw [if_pos (by omega)]; omega) | (rw [if_neg (by omega)]; omega)⟩
            | exact bq_f (fun q => by
                have q3 := q.2
                first
                | (rw [if_pos (by omega)] at q3; omega)
                | (rw [if_neg (by omega)] at q3; omega))⟩)
      refine go_iconst (v := 1) (pc' := 104) dX12_hasRead_103 rfl (by decide) ?_
      refine go_goto (tgt := 108) dX12_hasRead_104 (by decide) ?_
      exact go_zret dX12_hasRead_108 rfl rfl (⟨rfl, by
          unfold HRM HAM
          rw [← c5]
          first
          | exact bq_t ⟨rd, by first | (rw [if_pos (by omega)]; omega) | (rw [if_neg (by omega)]; omega)⟩
          | exact bq_f (fun q => by
              have q3 := q.2
              first
              | (rw [if_pos (by omega)] at q3; omega)
              | (rw [if_neg (by omega)] at q3; omega))⟩)
    refine go_aload_n (i := 0) (pc' := 69) dX12_hasRead_68 rfl rfl rfl ?_
    refine gf_13_low (pc' := 72) dX12_hasRead_69 rfl fl_X12_83 ?_
    refine go_iload_n (i := 1) (pc' := 73) dX12_hasRead_72 rfl rfl rfl ?_
    refine go_iald (pc' := 74) dX12_hasRead_73 rfl (by decide) (by decide) rfl (vin_of (n := 12) (by omega) (by omega)) ?_
    refine go_rngA (ixa_120 w0.1) (vinlt (vin_of (n := 12) (by omega) (by omega))) (fun g25 => ?_)
    refine go_aload_n (i := 0) (pc' := 75) dX12_hasRead_74 rfl rfl rfl ?_
    refine gf_13_postLeast (pc' := 78) dX12_hasRead_75 rfl fl_X12_65 ?_
    refine go_iload (pc' := 80) dX12_hasRead_78 rfl rfl ?_
    refine go_iald (pc' := 81) dX12_hasRead_80 rfl (by decide) (by decide) rfl (vin_of (n := 36) (by omega) (by omega)) ?_
    refine go_iadd (pc' := 82) dX12_hasRead_81 rfl ?_
    refine go_goto (tgt := 99) dX12_hasRead_82 (by decide) ?_
    refine go_iload_n (i := 3) (pc' := 100) dX12_hasRead_99 rfl rfl rfl ?_
    refine gz_icmp_gt (tgt := 107) (pc' := 103) dX12_hasRead_100 rfl (by decide) (fun c26 => ?_) (fun c26 => ?_)
    · refine go_iconst (v := 0) (pc' := 108) dX12_hasRead_107 rfl (by decide) ?_
      exact go_zret dX12_hasRead_108 rfl rfl (⟨rfl, by
          unfold HRM HAM
          rw [← c5]
          first
          | exact bq_t ⟨rd, by first | (rw [if_pos (by omega)]; omega) | (rw [if_neg (by omega)]; omega)⟩
          | exact bq_f (fun q => by
              have q3 := q.2
              first
              | (rw [if_pos (by omega)] at q3; omega)
              | (rw [if_neg (by omega)] at q3; omega))⟩)
    refine go_iconst (v := 1) (pc' := 104) dX12_hasRead_103 rfl (by decide) ?_
    refine go_goto (tgt := 108) dX12_hasRead_104 (by decide) ?_
    exact go_zret dX12_hasRead_108 rfl rfl (⟨rfl, by
        unfold HRM HAM
        rw [← c5]
        first
        | exact bq_t ⟨rd, by first | (rw [if_pos (by omega)]; omega) | (rw [if_neg (by omega)]; omega)⟩
        | exact bq_f (fun q => by
            have q3 := q.2
            first
            | (rw [if_pos (by omega)] at q3; omega)
            | (rw [if_neg (by omega)] at q3; omega))⟩)
  refine go_goto (tgt := 43) dX12_hasRead_30 (by decide) ?_
  refine go_iconst (v := 0) (pc' := 44) dX12_hasRead_43 rfl (by decide) ?_
  exact go_zret dX12_hasRead_44 rfl rfl (⟨rfl, bq_f (fun q => by have q1 := q.1.1; have q2 := q.1.2; omega)⟩)
set_option maxHeartbeats 4000000 in
set_option maxRecDepth 100000 in
theorem f_X11_read (l : Launch) (L : WL) (σ : ST) (a b c d : Int32) (ix : IV σ) (fd : FDX σ) : CtI l L yX11_read cX11_read 5 (some .int) rm_X11_read [.ref (L.2.1 0), .int a, .int b, .int c, .int d] σ (fun r σ2 => tX_read σ a b c d r σ2) := by
  refine ctI_go (own := RX11) (by decide) rfl (Nat.le_of_ble_eq_true rfl) (fun F hF => ?_)
  subst hF
  have nm2 : (-2 : Int32).toInt = -2 := by decide
  have n0 : (0 : Int32).toInt = 0 := by decide
  have n1 : (1 : Int32).toInt = 1 := by decide
  have w0 : WX σ σ := WX_rfl ix
  have gl := ixi_3 ix
  have gp := ixi_2 ix
  refine go_aload_n (i := 0) (pc' := 1) dX11_read_0 rfl rfl rfl ?_
  refine gf_0_letters (pc' := 4) dX11_read_1 rfl fl_X11_19 ?_
  refine go_iload_n (i := 1) (pc' := 5) dX11_read_4 rfl rfl rfl ?_
  refine go_cvi (pc' := 8) lk_X11_130 (c_X2_has _ _ _ _) rfl rfl (Nat.le_of_ble_eq_true rfl) (by decide) rfl rfl rfl ⟨Nat.le_of_ble_eq_true rfl, Nat.le_of_ble_eq_true rfl⟩ ⟨rfl, rfl⟩ dX11_read_5 rfl (fun r1 σ1 h1 => ?_)
  obtain ⟨e1, h1⟩ := h1
  have e1 := e1.symm
  subst e1
  refine go_eqB (tgt := 22) (pc' := 11) h1 dX11_read_8 rfl (by decide) (fun c2 => ?_) (fun c2 => ?_)
  · refine go_bipush (v := (-2)) (pc' := 24) dX11_read_22 rfl (by decide) ?_
    exact go_iret dX11_read_24 rfl (⟨w0, Or.inl ⟨by omega, rfl⟩⟩)
  refine go_aload_n (i := 0) (pc' := 12) dX11_read_11 rfl rfl rfl ?_
  refine go_iload_n (i := 2) (pc' := 13) dX11_read_12 rfl rfl rfl ?_
  refine go_iload_n (i := 3) (pc' := 14) dX11_read_13 rfl rfl rfl ?_
  refine go_iload (pc' := 16) dX11_read_14 rfl rfl ?_
  refine go_cvi (pc' := 19) lk_X11_205 (c_X11_isReading _ _ _ _ _ _) rfl rfl (Nat.le_of_ble_eq_true rfl) (by decide) rfl rfl rfl ⟨Nat.le_of_ble_eq_true rfl, Nat.le_of_ble_eq_true rfl⟩ ⟨rfl, rfl⟩ dX11_read_16 rfl (fun r3 σ3 h3 => ?_)
  obtain ⟨e3, h3⟩ := h3
  have e3 := e3.symm
  subst e3
  refine go_neB (tgt := 25) (pc' := 22) h3 dX11_read_19 rfl (by decide) (fun c4 => ?_) (fun c4 => ?_)
  · refine go_aload_n (i := 0) (pc' := 26) dX11_read_25 rfl rfl rfl ?_
    refine gf_0_calendar (pc' := 29) dX11_read_26 rfl fl_X11_26 ?_
    refine go_aload_n (i := 0) (pc' := 30) dX11_read_29 rfl rfl rfl ?_
    refine gf_0_letters (pc' := 33) dX11_read_30 rfl fl_X11_19 ?_
    refine go_cvi (pc' := 36) lk_X11_171 (f_X0_settle _ _ _ w0.1 fd) rfl rfl (Nat.le_of_ble_eq_true rfl) (by decide) rfl rfl rfl ⟨Nat.le_of_ble_eq_true rfl, Nat.le_of_ble_eq_true rfl⟩ ⟨rfl, rfl⟩ dX11_read_33 rfl (fun r5 σ5 h5 => ?_)
    obtain ⟨u5, h5⟩ := h5
    have w5 := WX_trans w0 u5
    have st := h5
    refine gz_if_eq (tgt := 55) (pc' := 39) dX11_read_36 rfl (by decide) (fun c6 => ?_) (fun c6 => ?_)
    · refine go_iconst (v := 0) (pc' := 56) dX11_read_55 rfl (by decide) ?_
      exact go_iret dX11_read_56 rfl (⟨w5, Or.inr ⟨by omega, by first | exact Or.inl ⟨(st.resolve_right (fun q => by have := q.1; omega)).2, rfl⟩ | exact Or.inr ⟨_, _, _, _, sg.2.2, rfl, rfl, bq_c (HAX_e ix ws (by omega) b c d _ _) (bq_t c6)⟩ | exact Or.inr ⟨_, _, _, _, sg.2.2, rfl, rfl, bq_c (HAX_e ix ws (by omega) b c d _ _) (bq_f c6)⟩⟩⟩)
    have sg := st.resolve_left (fun q => c6 q.1)
    have ws := w5
    have ca := cnat (x := a) (by omega)
    refine go_aload_n (i := 0) (pc' := 40) dX11_read_39 rfl rfl rfl ?_
    refine go_iload_n (i := 1) (pc' := 41) dX11_read_40 rfl rfl rfl ?_
    refine go_iload_n (i := 2) (pc' := 42) dX11_read_41 rfl rfl rfl ?_
    refine go_iload_n (i := 3) (pc' := 43) dX11_read_42 rfl rfl rfl ?_
    refine go_iload (pc' := 45) dX11_read_43 rfl rfl ?_
    refine go_cvi (pc' := 48) lk_X11_209 (f_X11_hasRead _ _ _ _ _ _ _ (by omega) (by omega) w5.1) rfl rfl (Nat.le_of_ble_eq_true rfl) (by decide) rfl rfl rfl ⟨Nat.le_of_ble_eq_true rfl, Nat.le_of_ble_eq_true rfl⟩ ⟨rfl, rfl⟩ dX11_read_45 rfl (fun r7 σ7 h7 => ?_)
    obtain ⟨e7, h7⟩ := h7
    have e7 := e7.symm
    subst e7
    refine go_eqB (tgt := 55) (pc' := 51) h7 dX11_read_48 rfl (by decide) (fun c8 => ?_) (fun c8 => ?_)
    · refine go_iconst (v := 0) (pc' := 56) dX11_read_55 rfl (by decide) ?_
      exact go_iret dX11_read_56 rfl (⟨w5, Or.inr ⟨by omega, by first | exact Or.inl ⟨(st.resolve_right (fun q => by have := q.1; omega)).2, rfl⟩ | exact Or.inr ⟨_, _, _, _, sg.2.2, rfl, rfl, bq_c (HAX_e ix ws (by omega) b c d _ _) (bq_t c8)⟩ | exact Or.inr ⟨_, _, _, _, sg.2.2, rfl, rfl, bq_c (HAX_e ix ws (by omega) b c d _ _) (bq_f c8)⟩⟩⟩)
    refine go_iconst (v := 1) (pc' := 52) dX11_read_51 rfl (by decide) ?_
    refine go_goto (tgt := 56) dX11_read_52 (by decide) ?_
    exact go_iret dX11_read_56 rfl (⟨w5, Or.inr ⟨by omega, by first | exact Or.inl ⟨(st.resolve_right (fun q => by have := q.1; omega)).2, rfl⟩ | exact Or.inr ⟨_, _, _, _, sg.2.2, rfl, rfl, bq_c (HAX_e ix ws (by omega) b c d _ _) (bq_t c8)⟩ | exact Or.inr ⟨_, _, _, _, sg.2.2, rfl, rfl, bq_c (HAX_e ix ws (by omega) b c d _ _) (bq_f c8)⟩⟩⟩)
  refine go_bipush (v := (-2)) (pc' := 24) dX11_read_22 rfl (by decide) ?_
  exact go_iret dX11_read_24 rfl (⟨w0, Or.inl ⟨by omega, rfl⟩⟩)
set_option maxHeartbeats 4000000 in
set_option maxRecDepth 100000 in
theorem f_X12_read (l : Launch) (L : WL) (σ : ST) (a b c d : Int32) (ix : IV σ) (im : IM σ) : CtI l L yX12_read cX12_read 5 (some .int) rm_X12_read [.ref (L.2.1 13), .int a, .int b, .int c, .int d] σ (fun r σ2 => tM_read σ a b c d r σ2) := by
  refine ctI_go (own := RX12) (by decide) rfl (Nat.le_of_ble_eq_true rfl) (fun F hF => ?_)
  subst hF
  have nm2 : (-2 : Int32).toInt = -2 := by decide
  have n0 : (0 : Int32).toInt = 0 := by decide
  have n1 : (1 : Int32).toInt = 1 := by decide
  have n2 : (2 : Int32).toInt = 2 := by decide
  have w0 : WM σ σ := WM_rfl ix
  have u19 := ixi_19 ix
  have u20 := ixi_20 ix
  have u21 := ixi_21 ix
  have u22 := ixi_22 ix
  refine go_aload_n (i := 0) (pc' := 1) dX12_read_0 rfl rfl rfl ?_
  refine go_iload_n (i := 1) (pc' := 2) dX12_read_1 rfl rfl rfl ?_
  refine go_cvi (pc' := 5) lk_X12_152 (c_X12_isLetter _ _ _ _) rfl rfl (Nat.le_of_ble_eq_true rfl) (by decide) rfl rfl rfl ⟨Nat.le_of_ble_eq_true rfl, Nat.le_of_ble_eq_true rfl⟩ ⟨rfl, rfl⟩ dX12_read_2 rfl (fun r1 σ1 h1 => ?_)
  obtain ⟨e1, h1⟩ := h1
  have e1 := e1.symm
  subst e1
  refine go_eqB (tgt := 32) (pc' := 8) h1 dX12_read_5 rfl (by decide) (fun c2 => ?_) (fun c2 => ?_)
  · refine go_bipush (v := (-2)) (pc' := 34) dX12_read_32 rfl (by decide) ?_
    exact go_iret dX12_read_34 rfl (⟨w0, Or.inl ⟨by omega, rfl⟩⟩)
  refine go_aload_n (i := 0) (pc' := 9) dX12_read_8 rfl rfl rfl ?_
  refine go_iload_n (i := 2) (pc' := 10) dX12_read_9 rfl rfl rfl ?_
  refine go_cvi (pc' := 13) lk_X12_145 (c_X12_isPerson _ _ _ _) rfl rfl (Nat.le_of_ble_eq_true rfl) (by decide) rfl rfl rfl ⟨Nat.le_of_ble_eq_true rfl, Nat.le_of_ble_eq_true rfl⟩ ⟨rfl, rfl⟩ dX12_read_10 rfl (fun r3 σ3 h3 => ?_)
  obtain ⟨e3, h3⟩ := h3
  have e3 := e3.symm
  subst e3
  refine go_eqB (tgt := 32) (pc' := 16) h3 dX12_read_13 rfl (by decide) (fun c4 => ?_) (fun c4 => ?_)
  · refine go_bipush (v := (-2)) (pc' := 34) dX12_read_32 rfl (by decide) ?_
    exact go_iret dX12_read_34 rfl (⟨w0, Or.inl ⟨by omega, rfl⟩⟩)
  refine go_iload_n (i := 3) (pc' := 17) dX12_read_16 rfl rfl rfl ?_
  refine go_csi (pc' := 20) ls_X12_149 (c_X12_isDay _ _ _ _) rfl rfl (Nat.le_of_ble_eq_true rfl) ⟨Nat.le_of_ble_eq_true rfl, Nat.le_of_ble_eq_true rfl⟩ ⟨rfl, rfl⟩ dX12_read_17 rfl (fun r5 σ5 h5 => ?_)
  obtain ⟨e5, h5⟩ := h5
  have e5 := e5.symm
  subst e5
  refine go_eqB (tgt := 32) (pc' := 23) h5 dX12_read_20 rfl (by decide) (fun c6 => ?_) (fun c6 => ?_)
  · refine go_bipush (v := (-2)) (pc' := 34) dX12_read_32 rfl (by decide) ?_
    exact go_iret dX12_read_34 rfl (⟨w0, Or.inl ⟨by omega, rfl⟩⟩)
  refine go_iload (pc' := 25) dX12_read_23 rfl rfl ?_
  refine go_iconst (v := 2) (pc' := 26) dX12_read_25 rfl (by decide) ?_
  refine go_csi (pc' := 29) ls_X12_135 (c_X12_isIn _ _ _ _ _) rfl rfl (Nat.le_of_ble_eq_true rfl) ⟨Nat.le_of_ble_eq_true rfl, Nat.le_of_ble_eq_true rfl⟩ ⟨rfl, rfl⟩ dX12_read_26 rfl (fun r7 σ7 h7 => ?_)
  obtain ⟨e7, h7⟩ := h7
  have e7 := e7.symm
  subst e7
  refine go_neB (tgt := 35) (pc' := 32) h7 dX12_read_29 rfl (by decide) (fun c8 => ?_) (fun c8 => ?_)
  · refine go_aload_n (i := 0) (pc' := 36) dX12_read_35 rfl rfl rfl ?_
    refine go_cvi (pc' := 39) lk_X12_184 (f_X12_clashAll _ _ _ w0.1 (IM_q w0 im)) rfl rfl (Nat.le_of_ble_eq_true rfl) (by decide) rfl rfl rfl ⟨Nat.le_of_ble_eq_true rfl, Nat.le_of_ble_eq_true rfl⟩ ⟨rfl, rfl⟩ dX12_read_36 rfl (fun r9 σ9 h9 => ?_)
    obtain ⟨u9, h9⟩ := h9
    have w9 := WM_trans w0 (WM_of_l u9)
    have st := h9
    refine gz_if_ne (tgt := 58) (pc' := 42) dX12_read_39 rfl (by decide) (fun c10 => ?_) (fun c10 => ?_)
    · refine go_iconst (v := 0) (pc' := 59) dX12_read_58 rfl (by decide) ?_
      exact go_iret dX12_read_59 rfl (⟨w9, Or.inr ⟨by omega, by first | exact Or.inl ⟨LGM_no st (by omega), rfl⟩ | exact Or.inr ⟨_, _, _, _, sg, rfl, rfl, bq_c (HAM_e ws _ b c d _ _) (bq_t c10)⟩ | exact Or.inr ⟨_, _, _, _, sg, rfl, rfl, bq_c (HAM_e ws _ b c d _ _) (bq_f c10)⟩⟩⟩)
    have sg := LGM_LG st (by omega)
    have ws := w9
    refine go_aload_n (i := 0) (pc' := 43) dX12_read_42 rfl rfl rfl ?_
    refine go_iload_n (i := 1) (pc' := 44) dX12_read_43 rfl rfl rfl ?_
    refine go_iload_n (i := 2) (pc' := 45) dX12_read_44 rfl rfl rfl ?_
    refine go_iload_n (i := 3) (pc' := 46) dX12_read_45 rfl rfl rfl ?_
    refine go_iload (pc' := 48) dX12_read_46 rfl rfl ?_
    refine go_cvi (pc' := 51) lk_X12_199 (f_X12_hasRead _ _ _ _ _ _ _ (by omega) (by omega) w9.1) rfl rfl (Nat.le_of_ble_eq_true rfl) (by decide) rfl rfl rfl ⟨Nat.le_of_ble_eq_true rfl, Nat.le_of_ble_eq_true rfl⟩ ⟨rfl, rfl⟩ dX12_read_48 rfl (fun r11 σ11 h11 => ?_)
    obtain ⟨e11, h11⟩ := h11
    have e11 := e11.symm
    subst e11
    refine go_eqB (tgt := 58) (pc' := 54) h11 dX12_read_51 rfl (by decide) (fun c12 => ?_) (fun c12 => ?_)
    · refine go_iconst (v := 0) (pc' := 59) dX12_read_58 rfl (by decide) ?_
      exact go_iret dX12_read_59 rfl (⟨w9, Or.inr ⟨by omega, by first | exact Or.inl ⟨LGM_no st (by omega), rfl⟩ | exact Or.inr ⟨_, _, _, _, sg, rfl, rfl, bq_c (HAM_e ws _ b c d _ _) (bq_t c12)⟩ | exact Or.inr ⟨_, _, _, _, sg, rfl, rfl, bq_c (HAM_e ws _ b c d _ _) (bq_f c12)⟩⟩⟩)
    refine go_iconst (v := 1) (pc' := 55) dX12_read_54 rfl (by decide) ?_
    refine go_goto (tgt := 59) dX12_read_55 (by decide) ?_
    exact go_iret dX12_read_59 rfl (⟨w9, Or.inr ⟨by omega, by first | exact Or.inl ⟨LGM_no st (by omega), rfl⟩ | exact Or.inr ⟨_, _, _, _, sg, rfl, rfl, bq_c (HAM_e ws _ b c d _ _) (bq_t c12)⟩ | exact Or.inr ⟨_, _, _, _, sg, rfl, rfl, bq_c (HAM_e ws _ b c d _ _) (bq_f c12)⟩⟩⟩)
  refine go_bipush (v := (-2)) (pc' := 34) dX12_read_32 rfl (by decide) ?_
  exact go_iret dX12_read_34 rfl (⟨w0, Or.inl ⟨by omega, rfl⟩⟩)
set_option maxHeartbeats 4000000 in
set_option maxRecDepth 100000 in
theorem f_X11_reads (l : Launch) (L : WL) (σ : ST) (b c d : Int32) (ix : IV σ) (fd : FDX σ) : CtI l L yX11_reads cX11_reads 6 (some .int) rm_X11_reads [.ref (L.2.1 0), .int b, .int c, .int d] σ (fun r σ2 => tX_reads σ b c d r σ2) := by
  refine ctI_go (own := RX11) (by decide) rfl (Nat.le_of_ble_eq_true rfl) (fun F hF => ?_)
  subst hF
  have nm2 : (-2 : Int32).toInt = -2 := by decide
  have n0 : (0 : Int32).toInt = 0 := by decide
  have w0 : WX σ σ := WX_rfl ix
  have gl := ixi_3 ix
  have gp := ixi_2 ix
  have cl := cnat gl.1
  refine go_aload_n (i := 0) (pc' := 1) dX11_reads_0 rfl rfl rfl ?_
  refine go_iload_n (i := 1) (pc' := 2) dX11_reads_1 rfl rfl rfl ?_
  refine go_iload_n (i := 2) (pc' := 3) dX11_reads_2 rfl rfl rfl ?_
  refine go_iload_n (i := 3) (pc' := 4) dX11_reads_3 rfl rfl rfl ?_
  refine go_cvi (pc' := 7) lk_X11_205 (c_X11_isReading _ _ _ _ _ _) rfl rfl (Nat.le_of_ble_eq_true rfl) (by decide) rfl rfl rfl ⟨Nat.le_of_ble_eq_true rfl, Nat.le_of_ble_eq_true rfl⟩ ⟨rfl, rfl⟩ dX11_reads_4 rfl (fun r1 σ1 h1 => ?_)
  obtain ⟨e1, h1⟩ := h1
  have e1 := e1.symm
  subst e1
  refine go_neB (tgt := 13) (pc' := 10) h1 dX11_reads_7 rfl (by decide) (fun c2 => ?_) (fun c2 => ?_)
  · refine go_aload_n (i := 0) (pc' := 14) dX11_reads_13 rfl rfl rfl ?_
    refine gf_0_calendar (pc' := 17) dX11_reads_14 rfl fl_X11_26 ?_
    refine go_aload_n (i := 0) (pc' := 18) dX11_reads_17 rfl rfl rfl ?_
    refine gf_0_letters (pc' := 21) dX11_reads_18 rfl fl_X11_19 ?_
    refine go_cvi (pc' := 24) lk_X11_171 (f_X0_settle _ _ _ w0.1 fd) rfl rfl (Nat.le_of_ble_eq_true rfl) (by decide) rfl rfl rfl ⟨Nat.le_of_ble_eq_true rfl, Nat.le_of_ble_eq_true rfl⟩ ⟨rfl, rfl⟩ dX11_reads_21 rfl (fun r3 σ3 h3 => ?_)
    obtain ⟨u3, h3⟩ := h3
    have w3 := WX_trans w0 u3
    have st := h3
    refine gz_if_ne (tgt := 29) (pc' := 27) dX11_reads_24 rfl (by decide) (fun c4 => ?_) (fun c4 => ?_)
    · have sg := st.resolve_left (fun q => c4 q.1)
      have ws := w3
      have e3 := congrArg Int32.toInt (ws.2.1 3 (by decide))
      refine go_iconst (v := 0) (pc' := 30) dX11_reads_29 rfl (by decide) ?_
      refine go_istore (pc' := 32) dX11_reads_30 rfl (by decide) ?_
      refine go_iconst (v := 0) (pc' := 33) dX11_reads_32 rfl (by decide) ?_
      refine go_istore (pc' := 35) dX11_reads_33 rfl (by decide) ?_
      have loop35_5 : ∀ (dd5 : Nat) (x4_5 : Int32) (x5_5 : Int32), (0 ≤ (x5_5).toInt ∧ (x5_5).toInt ≤ (σ.1 3).toInt) → (0 ≤ (x4_5).toInt ∧ (x4_5).toInt ≤ (x5_5).toInt) → ((x4_5).toInt = CNT (fun j => HRX σ3 j b c d) (x5_5).toNatClampNeg) → (12 - (x5_5).toInt).toNat = dd5 → Go F L RX11 cX11_reads 6 rm_X11_reads (some .int) (RI F L (fun r σ2 => tX_reads σ b c d r σ2)) σ3 35 [(0, .ref (L.2.1 0)), (1, .int b), (2, .int c), (3, .int d), (4, .int x4_5), (5, .int x5_5)] [] := by
        intro dd5
        induction dd5 using Nat.strongRecOn with
        | _ dd5 ih5 =>
          intro x4_5 x5_5 h_5 hs_5 hn_5 hm_5
          refine go_iload (pc' := 37) dX11_reads_35 rfl rfl ?_
          refine go_aload_n (i := 0) (pc' := 38) dX11_reads_37 rfl rfl rfl ?_
          refine gf_0_letters (pc' := 41) dX11_reads_38 rfl fl_X11_19 ?_
          refine gf_2_size (pc' := 44) dX11_reads_41 rfl fl_X11_185 ?_
          have g6 := ixi_3 w3.1
          refine gz_icmp_ge (tgt := 68) (pc' := 47) dX11_reads_44 rfl (by decide) (fun c7 => ?_) (fun c7 => ?_)
          · refine go_iload (pc' := 70) dX11_reads_68 rfl rfl ?_
            exact go_iret dX11_reads_70 rfl (⟨ws, Or.inr ⟨by omega, Or.inr ⟨_, _, fun j => σ3.2 33 j, fun j => σ3.2 34 j, sg.2.2, fun j hj => ⟨rfl, rfl⟩, by have z1 := cnat (x := x5_5) (by omega); rw [hn_5, show (σ.1 3).toInt.toNat = (x5_5).toNatClampNeg from by omega]; exact CNT_c _ (fun j hj => HAX_e ix ws (by omega) b c d _ _)⟩⟩⟩)
          refine go_aload_n (i := 0) (pc' := 48) dX11_reads_47 rfl rfl rfl ?_
          refine go_iload (pc' := 50) dX11_reads_48 rfl rfl ?_
          refine go_iload_n (i := 1) (pc' := 51) dX11_reads_50 rfl rfl rfl ?_
          refine go_iload_n (i := 2) (pc' := 52) dX11_reads_51 rfl rfl rfl ?_
          refine go_iload_n (i := 3) (pc' := 53) dX11_reads_52 rfl rfl rfl ?_
          refine go_cvi (pc' := 56) lk_X11_209 (f_X11_hasRead _ _ _ _ _ _ _ (by omega) (by omega) w3.1) rfl rfl (Nat.le_of_ble_eq_true rfl) (by decide) rfl rfl rfl ⟨Nat.le_of_ble_eq_true rfl, Nat.le_of_ble_eq_true rfl⟩ ⟨rfl, rfl⟩ dX11_reads_53 rfl (fun r8 σ8 h8 => ?_)
          obtain ⟨e8, h8⟩ := h8
          have e8 := e8.symm
          subst e8
          refine go_eqB (tgt := 62) (pc' := 59) h8 dX11_reads_56 rfl (by decide) (fun c9 => ?_) (fun c9 => ?_)
          · refine gz_iinc (c := 1) (pc' := 65) dX11_reads_62 rfl rfl (by decide) (by decide) (by decide) (by omega) (fun v10 h10 e10 => ?_)
            refine go_goto (tgt := 35) dX11_reads_65 (by decide) ?_
            exact go_lv (lv' := [(0, .ref (L.2.1 0)), (1, .int b), (2, .int c), (3, .int d), (4, .int x4_5), (5, .int v10)]) rfl (ih5 _ (by omega)  x4_5 v10 (by omega) (by omega) (by rw [show (v10).toNatClampNeg = (x5_5).toNatClampNeg + 1 from by have z1 := cnat (x := v10) (by omega); have z2 := cnat (x := x5_5) (by omega); omega]; first | (rw [CNT_t (P := (fun j => HRX σ3 j b c d)) (n := (x5_5).toNatClampNeg) c9]; omega) | (rw [CNT_f (P := (fun j => HRX σ3 j b c d)) (n := (x5_5).toNatClampNeg) c9]; omega)) rfl)
          refine gz_iinc (c := 1) (pc' := 62) dX11_reads_59 rfl rfl (by decide) (by decide) (by decide) (by omega) (fun v11 h11 e11 => ?_)
          refine gz_iinc (c := 1) (pc' := 65) dX11_reads_62 rfl rfl (by decide) (by decide) (by decide) (by omega) (fun v12 h12 e12 => ?_)
          refine go_goto (tgt := 35) dX11_reads_65 (by decide) ?_
          exact go_lv (lv' := [(0, .ref (L.2.1 0)), (1, .int b), (2, .int c), (3, .int d), (4, .int v11), (5, .int v12)]) rfl (ih5 _ (by omega)  v11 v12 (by omega) (by omega) (by rw [show (v12).toNatClampNeg = (x5_5).toNatClampNeg + 1 from by have z1 := cnat (x := v12) (by omega); have z2 := cnat (x := x5_5) (by omega); omega]; first | (rw [CNT_t (P := (fun j => HRX σ3 j b c d)) (n := (x5_5).toNatClampNeg) c9]; omega) | (rw [CNT_f (P := (fun j => HRX σ3 j b c d)) (n := (x5_5).toNatClampNeg) c9]; omega)) rfl)
      exact go_lv (lv' := [(0, .ref (L.2.1 0)), (1, .int b), (2, .int c), (3, .int d), (4, .int (0 : Int32)), (5, .int (0 : Int32))]) rfl (loop35_5 _  (0 : Int32) (0 : Int32) (by omega) (by omega) (CNT_0 _) rfl)
    refine go_iconst (v := 0) (pc' := 28) dX11_reads_27 rfl (by decide) ?_
    exact go_iret dX11_reads_28 rfl (⟨w3, Or.inr ⟨by omega, Or.inl ⟨(st.resolve_right (fun q => by have := q.1; omega)).2, rfl⟩⟩⟩)
  refine go_bipush (v := (-2)) (pc' := 12) dX11_reads_10 rfl (by decide) ?_
  exact go_iret dX11_reads_12 rfl (⟨w0, Or.inl ⟨by omega, rfl⟩⟩)
set_option maxHeartbeats 4000000 in
set_option maxRecDepth 100000 in
theorem f_X12_reads (l : Launch) (L : WL) (σ : ST) (b c d : Int32) (ix : IV σ) (im : IM σ) : CtI l L yX12_reads cX12_reads 6 (some .int) rm_X12_reads [.ref (L.2.1 13), .int b, .int c, .int d] σ (fun r σ2 => tM_reads σ b c d r σ2) := by
  refine ctI_go (own := RX12) (by decide) rfl (Nat.le_of_ble_eq_true rfl) (fun F hF => ?_)
  subst hF
  have nm2 : (-2 : Int32).toInt = -2 := by decide
  have n0 : (0 : Int32).toInt = 0 := by decide
  have n1 : (1 : Int32).toInt = 1 := by decide
  have n2 : (2 : Int32).toInt = 2 := by decide
  have w0 : WM σ σ := WM_rfl ix
  have u19 := ixi_19 ix
  have u20 := ixi_20 ix
  have u21 := ixi_21 ix
  have u22 := ixi_22 ix
  have cl := cnat u20.1
  refine go_aload_n (i := 0) (pc' := 1) dX12_reads_0 rfl rfl rfl ?_
  refine go_iload_n (i := 1) (pc' := 2) dX12_reads_1 rfl rfl rfl ?_
  refine go_cvi (pc' := 5) lk_X12_145 (c_X12_isPerson _ _ _ _) rfl rfl (Nat.le_of_ble_eq_true rfl) (by decide) rfl rfl rfl ⟨Nat.le_of_ble_eq_true rfl, Nat.le_of_ble_eq_true rfl⟩ ⟨rfl, rfl⟩ dX12_reads_2 rfl (fun r1 σ1 h1 => ?_)
  obtain ⟨e1, h1⟩ := h1
  have e1 := e1.symm
  subst e1
  refine go_eqB (tgt := 23) (pc' := 8) h1 dX12_reads_5 rfl (by decide) (fun c2 => ?_) (fun c2 => ?_)
  · refine go_bipush (v := (-2)) (pc' := 25) dX12_reads_23 rfl (by decide) ?_
    exact go_iret dX12_reads_25 rfl (⟨w0, Or.inl ⟨by omega, rfl⟩⟩)
  refine go_iload_n (i := 2) (pc' := 9) dX12_reads_8 rfl rfl rfl ?_
  refine go_csi (pc' := 12) ls_X12_149 (c_X12_isDay _ _ _ _) rfl rfl (Nat.le_of_ble_eq_true rfl) ⟨Nat.le_of_ble_eq_true rfl, Nat.le_of_ble_eq_true rfl⟩ ⟨rfl, rfl⟩ dX12_reads_9 rfl (fun r3 σ3 h3 => ?_)
  obtain ⟨e3, h3⟩ := h3
  have e3 := e3.symm
  subst e3
  refine go_eqB (tgt := 23) (pc' := 15) h3 dX12_reads_12 rfl (by decide) (fun c4 => ?_) (fun c4 => ?_)
  · refine go_bipush (v := (-2)) (pc' := 25) dX12_reads_23 rfl (by decide) ?_
    exact go_iret dX12_reads_25 rfl (⟨w0, Or.inl ⟨by omega, rfl⟩⟩)
  refine go_iload_n (i := 3) (pc' := 16) dX12_reads_15 rfl rfl rfl ?_
  refine go_iconst (v := 2) (pc' := 17) dX12_reads_16 rfl (by decide) ?_
  refine go_csi (pc' := 20) ls_X12_135 (c_X12_isIn _ _ _ _ _) rfl rfl (Nat.le_of_ble_eq_true rfl) ⟨Nat.le_of_ble_eq_true rfl, Nat.le_of_ble_eq_true rfl⟩ ⟨rfl, rfl⟩ dX12_reads_17 rfl (fun r5 σ5 h5 => ?_)
  obtain ⟨e5, h5⟩ := h5
  have e5 := e5.symm
  subst e5
  refine go_neB (tgt := 26) (pc' := 23) h5 dX12_reads_20 rfl (by decide) (fun c6 => ?_) (fun c6 => ?_)
  · refine go_aload_n (i := 0) (pc' := 27) dX12_reads_26 rfl rfl rfl ?_
    refine go_cvi (pc' := 30) lk_X12_184 (f_X12_clashAll _ _ _ w0.1 (IM_q w0 im)) rfl rfl (Nat.le_of_ble_eq_true rfl) (by decide) rfl rfl rfl ⟨Nat.le_of_ble_eq_true rfl, Nat.le_of_ble_eq_true rfl⟩ ⟨rfl, rfl⟩ dX12_reads_27 rfl (fun r7 σ7 h7 => ?_)
    obtain ⟨u7, h7⟩ := h7
    have w7 := WM_trans w0 (WM_of_l u7)
    have st := h7
    refine gz_if_eq (tgt := 35) (pc' := 33) dX12_reads_30 rfl (by decide) (fun c8 => ?_) (fun c8 => ?_)
    · have sg := LGM_LG st (by omega)
      have ws := w7
      refine go_iconst (v := 0) (pc' := 36) dX12_reads_35 rfl (by decide) ?_
      refine go_istore (pc' := 38) dX12_reads_36 rfl (by decide) ?_
      refine go_iconst (v := 0) (pc' := 39) dX12_reads_38 rfl (by decide) ?_
      refine go_istore (pc' := 41) dX12_reads_39 rfl (by decide) ?_
      have loop41_9 : ∀ (dd9 : Nat) (x4_9 : Int32) (x5_9 : Int32), (0 ≤ (x5_9).toInt ∧ (x5_9).toInt ≤ (σ.1 20).toInt) → (0 ≤ (x4_9).toInt ∧ (x4_9).toInt ≤ (x5_9).toInt) → ((x4_9).toInt = CNT (fun j => HRM σ7 j b c d) (x5_9).toNatClampNeg) → (12 - (x5_9).toInt).toNat = dd9 → Go F L RX12 cX12_reads 6 rm_X12_reads (some .int) (RI F L (fun r σ2 => tM_reads σ b c d r σ2)) σ7 41 [(0, .ref (L.2.1 13)), (1, .int b), (2, .int c), (3, .int d), (4, .int x4_9), (5, .int x5_9)] [] := by
        intro dd9
        induction dd9 using Nat.strongRecOn with
        | _ dd9 ih9 =>
          intro x4_9 x5_9 h_9 hs_9 hn_9 hm_9
          refine go_iload (pc' := 43) dX12_reads_41 rfl rfl ?_
          refine go_aload_n (i := 0) (pc' := 44) dX12_reads_43 rfl rfl rfl ?_
          refine gf_13_letters (pc' := 47) dX12_reads_44 rfl fl_X12_142 ?_
          refine go_topq (y := σ.1 20) (w7.2.1 20 (by decide)) ?_
          have g10 := ixi_20 ix
          refine gz_icmp_ge (tgt := 78) (pc' := 50) dX12_reads_47 rfl (by decide) (fun c11 => ?_) (fun c11 => ?_)
          · refine go_iload (pc' := 80) dX12_reads_78 rfl rfl ?_
            exact go_iret dX12_reads_80 rfl (⟨ws, Or.inr ⟨by omega, Or.inr ⟨_, _, fun j => σ7.2 120 j, fun j => σ7.2 121 j, sg, fun j hj => ⟨rfl, rfl⟩, by have z1 := cnat (x := x5_9) (by omega); rw [hn_9, show (σ.1 20).toInt.toNat = (x5_9).toNatClampNeg from by omega]; exact CNT_c _ (fun j hj => HAM_e ws _ b c d _ _)⟩⟩⟩)
          refine go_iload (pc' := 52) dX12_reads_50 rfl rfl ?_
          refine go_aload_n (i := 0) (pc' := 53) dX12_reads_52 rfl rfl rfl ?_
          refine go_iload (pc' := 55) dX12_reads_53 rfl rfl ?_
          refine go_iload_n (i := 1) (pc' := 56) dX12_reads_55 rfl rfl rfl ?_
          refine go_iload_n (i := 2) (pc' := 57) dX12_reads_56 rfl rfl rfl ?_
          refine go_iload_n (i := 3) (pc' := 58) dX12_reads_57 rfl rfl rfl ?_
          refine go_cvi (pc' := 61) lk_X12_199 (f_X12_hasRead _ _ _ _ _ _ _ (by omega) (by omega) w7.1) rfl rfl (Nat.le_of_ble_eq_true rfl) (by decide) rfl rfl rfl ⟨Nat.le_of_ble_eq_true rfl, Nat.le_of_ble_eq_true rfl⟩ ⟨rfl, rfl⟩ dX12_reads_58 rfl (fun r12 σ12 h12 => ?_)
          obtain ⟨e12, h12⟩ := h12
          have e12 := e12.symm
          subst e12
          refine go_eqB (tgt := 68) (pc' := 64) h12 dX12_reads_61 rfl (by decide) (fun c13 => ?_) (fun c13 => ?_)
          · refine go_iconst (v := 0) (pc' := 69) dX12_reads_68 rfl (by decide) ?_
            refine gz_iadd (pc' := 70) dX12_reads_69 rfl (by omega) (fun v14 h14 e14 => ?_)
            refine go_istore (pc' := 72) dX12_reads_70 rfl (by decide) ?_
            refine gz_iinc (c := 1) (pc' := 75) dX12_reads_72 rfl rfl (by decide) (by decide) (by decide) (by omega) (fun v15 h15 e15 => ?_)
            refine go_goto (tgt := 41) dX12_reads_75 (by decide) ?_
            exact go_lv (lv' := [(0, .ref (L.2.1 13)), (1, .int b), (2, .int c), (3, .int d), (4, .int v14), (5, .int v15)]) rfl (ih9 _ (by omega)  v14 v15 (by omega) (by omega) (by rw [show (v15).toNatClampNeg = (x5_9).toNatClampNeg + 1 from by have z1 := cnat (x := v15) (by omega); have z2 := cnat (x := x5_9) (by omega); omega]; first | (rw [CNT_t (P := (fun j => HRM σ7 j b c d)) (n := (x5_9).toNatClampNeg) c13]; omega) | (rw [CNT_f (P := (fun j => HRM σ7 j b c d)) (n := (x5_9).toNatClampNeg) c13]; omega)) rfl)
          refine go_iconst (v := 1) (pc' := 65) dX12_reads_64 rfl (by decide) ?_
          refine go_goto (tgt := 69) dX12_reads_65 (by decide) ?_
          refine gz_iadd (pc' := 70) dX12_reads_69 rfl (by omega) (fun v16 h16 e16 => ?_)
          refine go_istore (pc' := 72) dX12_reads_70 rfl (by decide) ?_
          refine gz_iinc (c := 1) (pc' := 75) dX12_reads_72 rfl rfl (by decide) (by decide) (by decide) (by omega) (fun v17 h17 e17 => ?_)
          refine go_goto (tgt := 41) dX12_reads_75 (by decide) ?_
          exact go_lv (lv' := [(0, .ref (L.2.1 13)), (1, .int b), (2, .int c), (3, .int d), (4, .int v16), (5, .int v17)]) rfl (ih9 _ (by omega)  v16 v17 (by omega) (by omega) (by rw [show (v17).toNatClampNeg = (x5_9).toNatClampNeg + 1 from by have z1 := cnat (x := v17) (by omega); have z2 := cnat (x := x5_9) (by omega); omega]; first | (rw [CNT_t (P := (fun j => HRM σ7 j b c d)) (n := (x5_9).toNatClampNeg) c13]; omega) | (rw [CNT_f (P := (fun j => HRM σ7 j b c d)) (n := (x5_9).toNatClampNeg) c13]; omega)) rfl)
      exact go_lv (lv' := [(0, .ref (L.2.1 13)), (1, .int b), (2, .int c), (3, .int d), (4, .int (0 : Int32)), (5, .int (0 : Int32))]) rfl (loop41_9 _  (0 : Int32) (0 : Int32) (by omega) (by omega) (CNT_0 _) rfl)
    refine go_iconst (v := 0) (pc' := 34) dX12_reads_33 rfl (by decide) ?_
    exact go_iret dX12_reads_34 rfl (⟨w7, Or.inr ⟨by omega, Or.inl ⟨LGM_no st (by omega), rfl⟩⟩⟩)
  refine go_bipush (v := (-2)) (pc' := 25) dX12_reads_23 rfl (by decide) ?_
  exact go_iret dX12_reads_25 rfl (⟨w0, Or.inl ⟨by omega, rfl⟩⟩)
theorem RP_x {σ σ2 : ST} (h80 : σ2.2 80 = σ.2 80) (h81 : σ2.2 81 = σ.2 81) (h82 : σ2.2 82 = σ.2 82) (h83 : σ2.2 83 = σ.2 83) (h84 : σ2.2 84 = σ.2 84) (h85 : σ2.2 85 = σ.2 85) (h86 : σ2.2 86 = σ.2 86) (h87 : σ2.2 87 = σ.2 87) (h88 : σ2.2 88 = σ.2 88) (h89 : σ2.2 89 = σ.2 89) (h90 : σ2.2 90 = σ.2 90) (h91 : σ2.2 91 = σ.2 91) (h114 : σ2.2 114 = σ.2 114) (h115 : σ2.2 115 = σ.2 115) (h : RP σ) : RP σ2 := RP_e (fun k h1 h2 => by
  have hk : k = 80 ∨ k = 81 ∨ k = 82 ∨ k = 83 ∨ k = 84 ∨ k = 85 ∨ k = 86 ∨ k = 87 ∨ k = 88 ∨ k = 89 ∨ k = 90 ∨ k = 91 := by omega
  rcases hk with rfl | rfl | rfl | rfl | rfl | rfl | rfl | rfl | rfl | rfl | rfl | rfl <;> assumption) h114 h115 h
theorem p_person {σ σ1 σ2 : ST} {n q r1 r2 : Int32} (kb : RP σ) (s : sX_person σ n q r1 σ1) (m : sM_person σ1 n q r2 σ2) : RP σ2 := by
  have kx : RP σ1 := by
    rcases s with ⟨c1, ⟨c2, y1, z1⟩ | ⟨c2, y1, z1⟩⟩ | ⟨c1, y1, z1⟩ <;> rw [z1] <;> first | exact kb | (refine RP_x ?_ ?_ ?_ ?_ ?_ ?_ ?_ ?_ ?_ ?_ ?_ ?_ ?_ ?_ kb <;> rfl)
  rcases m with ⟨c1, y1, z1⟩ | ⟨⟨c1, c2⟩, y1, z1⟩ | ⟨⟨c1, c2⟩, y1, z1⟩ <;> rw [z1] <;> first | exact kx | (refine RP_x ?_ ?_ ?_ ?_ ?_ ?_ ?_ ?_ ?_ ?_ ?_ ?_ ?_ ?_ kx <;> rfl)
theorem p_knows {σ σ1 σ2 : ST} {a b d r1 r2 : Int32} (kb : RP σ) (s : sX_knows σ a b d r1 σ1) (m : sM_knows σ1 a b d r2 σ2) : RP σ2 := by
  have kx : RP σ1 := by
    rcases s with ⟨c1, y1, z1⟩ | ⟨c1, y1, z1⟩ <;> rw [z1] <;> first | exact kb | (refine RP_x ?_ ?_ ?_ ?_ ?_ ?_ ?_ ?_ ?_ ?_ ?_ ?_ ?_ ?_ kb <;> rfl)
  rcases m with ⟨c1, y1, z1⟩ | ⟨c1, y1, z1⟩ <;> rw [z1] <;> first | exact kx | (refine RP_x ?_ ?_ ?_ ?_ ?_ ?_ ?_ ?_ ?_ ?_ ?_ ?_ ?_ ?_ kx <;> rfl)
theorem p_lived {σ σ1 σ2 : ST} {p a b r1 r2 : Int32} (kb : RP σ) (s : sX_lived σ p a b r1 σ1) (m : sM_lived σ1 p a b r2 σ2) : RP σ2 := by
  have kx : RP σ1 := by
    rcases s with ⟨c1, y1, z1⟩ | ⟨c1, y1, z1⟩ <;> rw [z1] <;> first | exact kb | (refine RP_x ?_ ?_ ?_ ?_ ?_ ?_ ?_ ?_ ?_ ?_ ?_ ?_ ?_ ?_ kb <;> rfl)
  rcases m with ⟨c1, y1, z1⟩ | ⟨c1, y1, z1⟩ <;> rw [z1] <;> first | exact kx | (refine RP_x ?_ ?_ ?_ ?_ ?_ ?_ ?_ ?_ ?_ ?_ ?_ ?_ ?_ ?_ kx <;> rfl)
theorem p_letter {σ σ1 σ2 : ST} {k a b q r1 r2 : Int32} (kb : RP σ) (s : sX_letter σ k a b q r1 σ1) (m : sM_letter σ1 k a b q r2 σ2) : RP σ2 := by
  have kx : RP σ1 := by
    rcases s with ⟨c1, ⟨c2, y1, z1⟩ | ⟨c2, y1, z1⟩⟩ | ⟨c1, y1, z1⟩
    · rw [z1]; first | exact kb | (refine RP_x ?_ ?_ ?_ ?_ ?_ ?_ ?_ ?_ ?_ ?_ ?_ ?_ ?_ ?_ kb <;> rfl)
    · rw [z1]; first | exact kb | (refine RP_x ?_ ?_ ?_ ?_ ?_ ?_ ?_ ?_ ?_ ?_ ?_ ?_ ?_ ?_ kb <;> rfl)
    · rw [z1]; first | exact kb | (refine RP_x ?_ ?_ ?_ ?_ ?_ ?_ ?_ ?_ ?_ ?_ ?_ ?_ ?_ ?_ kb <;> rfl)
  rcases m with ⟨c1, y1, z1⟩ | ⟨⟨c1, c2⟩, y1, z1⟩ | ⟨⟨c1, c2⟩, y1, z1⟩ <;> rw [z1] <;> first | exact kx | (refine RP_x ?_ ?_ ?_ ?_ ?_ ?_ ?_ ?_ ?_ ?_ ?_ ?_ ?_ ?_ kx <;> rfl)
theorem p_days {σ σ1 σ2 : ST} {x a b r1 r2 : Int32} (kb : RP σ) (s : sX_days σ x a b r1 σ1) (m : sM_days σ1 x a b r2 σ2) : RP σ2 := by
  have kx : RP σ1 := by
    rcases s with ⟨c1, y1, z1⟩ | ⟨c1, y1, z1⟩ <;> rw [z1] <;> first | exact kb | (refine RP_x ?_ ?_ ?_ ?_ ?_ ?_ ?_ ?_ ?_ ?_ ?_ ?_ ?_ ?_ kb <;> rfl)
  rcases m with ⟨c1, y1, z1⟩ | ⟨c1, y1, z1⟩ <;> rw [z1] <;> first | exact kx | (refine RP_x ?_ ?_ ?_ ?_ ?_ ?_ ?_ ?_ ?_ ?_ ?_ ?_ ?_ ?_ kx <;> rfl)
theorem p_week {σ σ1 σ2 : ST} {x a r1 r2 : Int32} (kb : RP σ) (s : sX_week σ x a r1 σ1) (m : sM_week σ1 x a r2 σ2) : RP σ2 := by
  have kx : RP σ1 := by
    rcases s with ⟨c1, y1, z1⟩ | ⟨c1, y1, z1⟩ <;> rw [z1] <;> first | exact kb | (refine RP_x ?_ ?_ ?_ ?_ ?_ ?_ ?_ ?_ ?_ ?_ ?_ ?_ ?_ ?_ kb <;> rfl)
  rcases m with ⟨c1, y1, z1⟩ | ⟨c1, y1, z1⟩ <;> rw [z1] <;> first | exact kx | (refine RP_x ?_ ?_ ?_ ?_ ?_ ?_ ?_ ?_ ?_ ?_ ?_ ?_ ?_ ?_ kx <;> rfl)
theorem p_bound {σ σ1 σ2 : ST} {a b d r1 r2 : Int32} (kb : RP σ) (s : sX_bound σ a b d r1 σ1) (m : sM_bound σ1 a b d r2 σ2) : RP σ2 := by
  have kx : RP σ1 := by
    rcases s with ⟨c1, ⟨c2, y1, z1⟩ | ⟨c2, y1, z1⟩⟩ | ⟨c1, y1, z1⟩
    · rw [z1]; first | exact kb | (refine RP_x ?_ ?_ ?_ ?_ ?_ ?_ ?_ ?_ ?_ ?_ ?_ ?_ ?_ ?_ kb <;> rfl)
    · rw [z1]; first | exact kb | (refine RP_x ?_ ?_ ?_ ?_ ?_ ?_ ?_ ?_ ?_ ?_ ?_ ?_ ?_ ?_ kb <;> rfl)
    · rw [z1]; first | exact kb | (refine RP_x ?_ ?_ ?_ ?_ ?_ ?_ ?_ ?_ ?_ ?_ ?_ ?_ ?_ ?_ kb <;> rfl)
  rcases m with ⟨c1, y1, z1⟩ | ⟨⟨c1, c2⟩, y1, z1⟩ | ⟨⟨c1, c2⟩, y1, z1⟩ <;> rw [z1] <;> first | exact kx | (refine RP_x ?_ ?_ ?_ ?_ ?_ ?_ ?_ ?_ ?_ ?_ ?_ ?_ ?_ ?_ kx <;> rfl)
theorem p_loose {σ σ1 σ2 : ST} { r1 r2 : Int32} (kb : RP σ) (s : sX_loose σ  r1 σ1) (m : sM_loose σ1  r2 σ2) : RP σ2 := by
  have kx : RP σ1 := by
    rcases s with ⟨c1, y1, z1⟩ | ⟨c1, y1, z1⟩ <;> rw [z1] <;> first | exact kb | (refine RP_x ?_ ?_ ?_ ?_ ?_ ?_ ?_ ?_ ?_ ?_ ?_ ?_ ?_ ?_ kb <;> rfl)
  rcases m with ⟨c1, y1, z1⟩ | ⟨c1, y1, z1⟩ <;> rw [z1] <;> first | exact kx | (refine RP_x ?_ ?_ ?_ ?_ ?_ ?_ ?_ ?_ ?_ ?_ ?_ ?_ ?_ ?_ kx <;> rfl)
theorem p_found {σ σ1 σ2 : ST} {a b r1 r2 : Int32} (kb : RP σ) (s : sX_found σ a b r1 σ1) (m : sM_found σ1 a b r2 σ2) : RP σ2 := by
  have kx : RP σ1 := by
    rcases s with ⟨c1, y1, z1⟩ | ⟨⟨c1, c2⟩, y1, z1⟩ | ⟨⟨c1, c2⟩, y1, z1⟩ <;> rw [z1] <;> first | exact kb | (refine RP_x ?_ ?_ ?_ ?_ ?_ ?_ ?_ ?_ ?_ ?_ ?_ ?_ ?_ ?_ kb <;> rfl)
  rcases m with ⟨c1, y1, z1⟩ | ⟨⟨c1, c2⟩, y1, z1⟩ | ⟨⟨c1, c2⟩, y1, z1⟩ <;> rw [z1] <;> first | exact kx | (refine RP_x ?_ ?_ ?_ ?_ ?_ ?_ ?_ ?_ ?_ ?_ ?_ ?_ ?_ ?_ kx <;> rfl)
theorem p_lose {σ σ1 σ2 : ST} {a r1 r2 : Int32} (kb : RP σ) (s : sX_lose σ a r1 σ1) (m : sM_lose σ1 a r2 σ2) : RP σ2 := by
  have kx : RP σ1 := by
    rcases s with ⟨c1, y1, z1⟩ | ⟨⟨c1, c2⟩, y1, z1⟩ | ⟨⟨c1, c2⟩, y1, z1⟩ <;> rw [z1] <;> first | exact kb | (refine RP_x ?_ ?_ ?_ ?_ ?_ ?_ ?_ ?_ ?_ ?_ ?_ ?_ ?_ ?_ kb <;> rfl)
  rcases m with ⟨c1, y1, z1⟩ | ⟨⟨c1, c2⟩, y1, z1⟩ | ⟨⟨c1, c2⟩, y1, z1⟩ <;> rw [z1] <;> first | exact kx | (refine RP_x ?_ ?_ ?_ ?_ ?_ ?_ ?_ ?_ ?_ ?_ ?_ ?_ ?_ ?_ kx <;> rfl)
theorem p_hand {σ σ1 σ2 : ST} {a b p r1 r2 : Int32} (kb : RP σ) (s : sX_hand σ a b p r1 σ1) (m : sM_hand σ1 a b p r2 σ2) : RP σ2 := by
  have kx : RP σ1 := by
    rcases s with ⟨c1, f, hf, ⟨c2, y1, z1⟩ | ⟨c2, y1, z1⟩ | ⟨c2, y1, z1⟩⟩ | ⟨c1, y1, z1⟩ <;> rw [z1] <;> first | exact kb | (refine RP_x ?_ ?_ ?_ ?_ ?_ ?_ ?_ ?_ ?_ ?_ ?_ ?_ ?_ ?_ kb <;> rfl)
  rcases m with ⟨c1, y1, z1⟩ | ⟨c1, f, hf, ⟨c2, y1, z1⟩ | ⟨c2, y1, z1⟩ | ⟨c2, y1, z1⟩⟩ <;> rw [z1] <;> first | exact kx | (refine RP_x ?_ ?_ ?_ ?_ ?_ ?_ ?_ ?_ ?_ ?_ ?_ ?_ ?_ ?_ kx <;> rfl)
theorem p_cell {σ σ1 σ2 : ST} {t i v r1 r2 : Int32} (iv : IV σ) (kb : RP σ) (s : sX_cell σ t i v r1 σ1) (m : sM_cell σ1 t i v r2 σ2) : RP σ2 := by
  have kx : RP σ1 := RP_Ag (a_cell iv s).2 (by decide) kb
  rcases m with ⟨c1, y1, z1⟩ | ⟨c1, y1, z1⟩ | ⟨c1, y1, z1⟩ | ⟨c1, y1, z1⟩ <;> rw [z1] <;> first | exact kx | exact RP_setA kx (by decide)
theorem p_feed {σ σ1 σ2 : ST} {n r1 r2 : Int32} (iv : IV σ) (kb : RP σ) (s : sX_feed σ n r1 σ1) (m : sM_feed σ1 n r2 σ2) : RP σ2 := by
  have kx : RP σ1 := by
    rcases s with ⟨c1, y1, z1⟩ | ⟨c1, c2, y1, z1⟩ | ⟨c1, c2, w1, q1, y1⟩
    · rw [z1]; exact kb
    · rw [z1]; exact kb
    · exact RP_Ag w1.2 (by decide) kb
  rcases m with ⟨c1, y1, z1⟩ | ⟨c1, c2, y1, z1⟩ | ⟨c1, c2, w1, q1, y1⟩
  · rw [z1]; exact kx
  · rw [z1]; exact kx
  · exact RP_Ag w1.2 (by decide) kx
theorem p_lay {σ σ1 σ2 : ST} {t f n r1 r2 : Int32} (iv : IV σ) (kb : RP σ) (s : sX_lay σ t f n r1 σ1) (m : sM_lay σ1 t f n r2 σ2) : RP σ2 := by
  have kx : RP σ1 := by
    rcases s with ⟨c1, y1, z1⟩ | ⟨c1, c2, y1, z1⟩ | ⟨c1, c2, w1, q1⟩
    · rw [z1]; exact kb
    · rw [z1]; exact kb
    · exact RP_Ag w1.2 (by decide) kb
  rcases m with ⟨c1, y1, z1⟩ | ⟨c1, c2, y1, z1⟩ | ⟨c1, c2, w1, q1⟩
  · rw [z1]; exact kx
  · rw [z1]; exact kx
  · exact RP_Ag w1.2 (by decide) kx
theorem p_tray {σ σ1 σ2 : ST} {t n r1 r2 : Int32} (iv : IV σ) (kb : RP σ) (s : sX_tray σ t n r1 σ1) (m : sM_tray σ1 t n r2 σ2) : RP σ2 := by
  have kx : RP σ1 := by
    rcases s with ⟨c1, y1, z1⟩ | ⟨c1, c2, y1, z1⟩ | ⟨c1, c2, y1, w1, q1⟩
    · rw [z1]; exact kb
    · rw [z1]; exact kb
    · exact RP_Ag w1.2 (by decide) kb
  rcases m with ⟨c1, y1, z1⟩ | ⟨c1, c2, y1, z1⟩ | ⟨c1, c2, y1, w1, q1⟩
  · rw [z1]; exact kx
  · rw [z1]; exact kx
  · exact RP_Ag w1.2 (by decide) kx
theorem p_text {σ σ1 σ2 : ST} {a : Int32} (iv : IV σ) (kb : RP σ) (s : sX_text σ a σ1) (m : sM_text σ1 a σ2) : RP σ2 := by
  have kx : RP σ1 := by
    rcases s with ⟨c1, z1⟩ | ⟨c1, w1, q1⟩
    · rw [z1]; exact kb
    · exact RP_Ag w1.2 (by decide) kb
  rcases m with ⟨c1, z1⟩ | ⟨c1, w1, tv1, q1⟩
  · rw [z1]; exact kx
  · exact RP_Ag w1.2 (by decide) kx
theorem setA_at (σ : ST) (k j : Nat) (v : Int32) (a b : Nat) : (setA σ k j v).2 a b = if a = k ∧ b = j then v else σ.2 a b := by
  by_cases e : a = k
  · rw [e, setA_same]
    by_cases f : b = j
    · rw [f, upd_eq, if_pos ⟨rfl, rfl⟩]
    · rw [upd_ne f, if_neg (fun z => f z.2)]
  · rw [setA_ne σ k j v e, if_neg (fun z => e z.1)]
theorem p_post {σ σ1 σ2 : ST} {a b u v r1 r2 : Int32} (kb : RP σ) (s : sX_post σ a b u v r1 σ1) (m : sM_post σ1 a b u v r2 σ2) : RP σ2 := by
  rcases s with ⟨c, -, z1⟩ | ⟨c, -, z1⟩ <;> rcases m with ⟨d, -, z2⟩ | ⟨d, -, z2⟩
  · intro i j hi hj
    have ca := cnat c.1.1
    have cb := cnat c.2.1.1
    have hA : (a).toNatClampNeg < 6 := by omega
    have hB : (b).toNatClampNeg < 6 := by omega
    have q := kb i j hi hj
    have e1 : ∀ k n : Nat, σ2.2 k n = if k = 115 ∧ n = 6 * (a).toNatClampNeg + (b).toNatClampNeg then v else if k = 114 ∧ n = 6 * (a).toNatClampNeg + (b).toNatClampNeg then u else if k = 86 + (a).toNatClampNeg ∧ n = (b).toNatClampNeg then v else if k = 80 + (a).toNatClampNeg ∧ n = (b).toNatClampNeg then u else σ.2 k n := fun k n => by
      rw [z2, setA_at, setA_at, z1, setA_at, setA_at]
    rw [e1 (80 + i) j, e1 114 (6 * i + j), e1 (86 + i) j, e1 115 (6 * i + j)]
    by_cases h : i = (a).toNatClampNeg ∧ j = (b).toNatClampNeg
    · rw [if_neg (by omega), if_neg (by omega), if_neg (by omega), if_pos (by omega), if_neg (by omega), if_pos (by omega), if_neg (by omega), if_neg (by omega), if_pos (by omega), if_pos (by omega)]
      exact ⟨rfl, rfl⟩
    · rw [if_neg (by omega), if_neg (by omega), if_neg (by omega), if_neg (by omega), if_neg (by omega), if_neg (by omega), if_neg (by omega), if_neg (by omega), if_neg (by omega), if_neg (by omega), if_neg (by omega), if_neg (by omega), if_neg (by omega), if_neg (by omega), if_neg (by omega), if_neg (by omega)]
      exact q
  · exact absurd c d
  · exact absurd d c
  · rw [z2, z1]
    exact kb
/-- class and reference hold the same of LETTERS, BOUNDS and POSTS -/
def INVR (σ : ST) : Prop := INV σ ∧ RD σ ∧ FK σ ∧ RP σ
theorem INVR_D {σ : ST} (h : INVR σ) : INVD σ := ⟨h.1, h.2.1, h.2.2.1⟩
theorem INVR_WX {σ σ2 : ST} (h : INVR σ) (q : WX σ σ2) : INVR σ2 := ⟨INV_WX h.1 q, RD_WX q h.2.1, FK_WX q h.2.2.1, RP_WX q h.2.2.2⟩
theorem INVR_WM {σ σ2 : ST} (h : INVR σ) (q : WM σ σ2) : INVR σ2 := ⟨INV_WM h.1 q, RD_WM q h.2.1, FK_WM q h.2.2.1, RP_WM q h.2.2.2⟩
theorem HA_XM {σ : ST} (h : INVR σ) {j : Nat} (hj : j < 12) {b : Int32} (hb : 0 ≤ b.toInt ∧ b.toInt < 10) (c d x y : Int32) : HAX σ j b c d x y ↔ HAM σ j b c d x y := by
  obtain ⟨r2, r3, r4, r5, r6, r24, r25, r31, -⟩ := h.1.2.2.2
  obtain ⟨d19, d20, d26, d27, -⟩ := h.2.1
  have cb := cnat hb.1
  have g27 := ixa_27 h.1.1 j hj
  have g20 := ixa_20 h.1.1 (b).toNatClampNeg (by omega)
  have c27 := cnat g27.1
  have c20 := cnat g20.1
  have q := h.2.2.2 (σ.2 27 j).toNatClampNeg (σ.2 20 (b).toNatClampNeg).toNatClampNeg (by omega) (by omega)
  unfold HAX HAM
  rw [q.1, q.2, r24, r25, d26, d27, d20]
theorem HAM_x {σ σ2 : ST} (h : WX σ σ2) (j : Nat) (b c d x y : Int32) : HAM σ2 j b c d x y ↔ HAM σ j b c d x y := by
  unfold HAM
  rw [h.2.2 101 (by decide), h.2.2 102 (by decide), h.2.2 103 (by decide), h.2.2 104 (by decide), h.2.2 97 (by decide), h.2.2 114 (by decide), h.2.2 115 (by decide)]
theorem t_read {σ σ1 σ2 : ST} {a b c d r1 r2 : Int32} (h : INVR σ) (s : tX_read σ a b c d r1 σ1) (m : tM_read σ1 a b c d r2 σ2) : INVR σ2 ∧ r1 = r2 := by
  refine ⟨INVR_WM (INVR_WX h s.1) m.1, ?_⟩
  have i2 := congrArg Int32.toInt h.1.2.2.2.1
  have i3 := congrArg Int32.toInt h.1.2.2.2.2.1
  have e20 := s.1.2.1 20 (by decide)
  have e21 := s.1.2.1 21 (by decide)
  have e19 := s.1.2.1 19 (by decide)
  have i20 := congrArg Int32.toInt e20
  have i19 := congrArg Int32.toInt e19
  have u3 := ixi_3 h.1.1
  have u2 := ixi_2 h.1.1
  rcases s.2 with ⟨c, y⟩ | ⟨c, y⟩ <;> rcases m.2 with ⟨d, z⟩ | ⟨d, z⟩
  · exact y.trans z.symm
  · exfalso
    omega
  · exfalso
    omega
  · rw [e20, e21, ← h.1.2.2.2.2.1, ← h.1.2.2.2.2.2.1] at z
    have ca := cnat c.1.1
    exact RDA_one (by omega) y (RDA_cg (fun x => (FSM_x s.1 _ x).trans (FS_XM (INVR_D h) _ x).symm) (fun u v => (HAM_x s.1 _ _ _ _ u v).trans (HA_XM h (by omega) (by omega) _ _ u v).symm) z)
theorem t_reads {σ σ1 σ2 : ST} {b c d r1 r2 : Int32} (h : INVR σ) (s : tX_reads σ b c d r1 σ1) (m : tM_reads σ1 b c d r2 σ2) : INVR σ2 ∧ r1 = r2 := by
  refine ⟨INVR_WM (INVR_WX h s.1) m.1, ?_⟩
  have i2 := congrArg Int32.toInt h.1.2.2.2.1
  have i3 := congrArg Int32.toInt h.1.2.2.2.2.1
  have e20 := s.1.2.1 20 (by decide)
  have e21 := s.1.2.1 21 (by decide)
  have e19 := s.1.2.1 19 (by decide)
  have i20 := congrArg Int32.toInt e20
  have i19 := congrArg Int32.toInt e19
  have u3 := ixi_3 h.1.1
  have u2 := ixi_2 h.1.1
  rcases s.2 with ⟨c, y⟩ | ⟨c, y⟩ <;> rcases m.2 with ⟨d, z⟩ | ⟨d, z⟩
  · exact y.trans z.symm
  · exfalso
    omega
  · exfalso
    omega
  · rw [e20, e21, ← h.1.2.2.2.2.1, ← h.1.2.2.2.2.2.1] at z
    exact RSA_one y (RSA_cg (fun x => (FSM_x s.1 _ x).trans (FS_XM (INVR_D h) _ x).symm) (fun j u v hj => (HAM_x s.1 _ _ _ _ u v).trans (HA_XM h (by omega) (by omega) _ _ u v).symm) z)
