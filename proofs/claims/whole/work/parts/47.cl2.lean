set_option maxRecDepth 20000
/-! The class's calls: reference, allele, depth, genotype, likelihood. -/
theorem fndA_none {n l b : Nat} {L B : Nat → Nat} : ∀ m j, fndA n L B l b m j = none ↔ ∀ i, j ≤ i → i < j + m → ¬ (L i = l ∧ B i = b) := by
  intro m
  induction m with
  | zero => intro j; simp [fndA]; intro i h1 h2; omega
  | succ m ih =>
    intro j
    unfold fndA
    by_cases c : L j = l ∧ B j = b
    · rw [if_pos c]
      constructor
      · intro e; cases e
      · intro e; exact absurd c (e j (Nat.le_refl _) (by omega))
    · rw [if_neg c, ih]
      constructor
      · intro e i h1 h2
        by_cases h : i = j
        · subst h; exact c
        · exact e i (by omega) (by omega)
      · intro e i h1 h2; exact e i (by omega) (by omega)
theorem fnd_none {n l b : Nat} {L B : Nat → Nat} : fnd n L B l b = none ↔ ∀ i, i < n → ¬ (L i = l ∧ B i = b) := by
  unfold fnd
  rw [fndA_none]
  constructor
  · intro e i hi; exact e i (by omega) (by omega)
  · intro e i _ hi; exact e i (by omega)
theorem fndA_some {n l b k : Nat} {L B : Nat → Nat} : ∀ m j, fndA n L B l b m j = some k → j ≤ k ∧ k < j + m ∧ L k = l ∧ B k = b := by
  intro m
  induction m with
  | zero => intro j h; cases h
  | succ m ih =>
    intro j h
    unfold fndA at h
    by_cases c : L j = l ∧ B j = b
    · rw [if_pos c] at h; cases h; exact ⟨Nat.le_refl _, by omega, c⟩
    · rw [if_neg c] at h
      have := ih _ h
      exact ⟨by omega, by omega, this.2.2⟩
theorem fnd_some {n l b k : Nat} {L B : Nat → Nat} (h : fnd n L B l b = some k) : k < n ∧ L k = l ∧ B k = b := by
  have := fndA_some _ _ h
  exact ⟨by omega, this.2.2⟩
theorem hasA_f {n l b : Nat} {L B : Nat → Nat} : hasA n L B l b = false ↔ fnd n L B l b = none := by
  rw [fnd_none]
  unfold hasA
  simp
theorem hasA_t {n l b : Nat} {L B : Nat → Nat} (h : hasA n L B l b = true) : ∃ k, fnd n L B l b = some k := by
  cases e : fnd n L B l b with
  | none => rw [hasA_f.mpr e] at h; cases h
  | some k => exact ⟨k, rfl⟩
section C2
variable {S S' S1 S2 : Mem} {z v w n lo hi : Nat} {x l : Int32} {r : Rc} {s : As} {y : Int64} {yd : UInt64}
theorem e0in {a : Nat} (h : mN S a = 1) : ¬ (nI 0 < 0 ∨ mN S a ≤ (nI 0).toNatClampNeg) := by rw [h]; decide
theorem t_sJ (h : zSt z S) : psJ S (z + 220) (nI 0) y = some (sJ S (z + 220) 0 y) := by
  have := t_ok h 220 10 1 rfl
  unfold psJ
  rw [if_pos ⟨this.1, e0in this.2⟩]
  rfl
theorem t_aJ (h : zSt z S) : paJ S (z + 220) (nI 0) = some (mJ S (z + 220) 0) := by
  have := t_ok h 220 10 1 rfl
  unfold paJ
  rw [if_pos ⟨this.1, e0in this.2⟩]
  rfl
theorem t_sD (h : zSt z S) : psD S (z + 221) (nI 0) yd = some (sD S (z + 221) 0 yd) := by
  have := t_ok h 221 11 1 rfl
  unfold psD
  rw [if_pos ⟨this.1, e0in this.2⟩]
  rfl
theorem t_aD (h : zSt z S) : paD S (z + 221) (nI 0) = some (mD S (z + 221) 0) := by
  have := t_ok h 221 11 1 rfl
  unfold paD
  rw [if_pos ⟨this.1, e0in this.2⟩]
  rfl
theorem zCl_sJ {a k : Nat} (h : zCl z s S) : zCl z s (sJ S a k y) := h
theorem zCf_sJ {a k : Nat} (h : zCf z S S1) : zCf z S (sJ S1 a k y) := h
theorem mJ_sJ {a k : Nat} : mJ (sJ S a k y) a k = y := up2_self _ _ _ _
theorem zCl_sD {a k : Nat} (h : zCl z s S) : zCl z s (sD S a k yd) := h
theorem zCf_sD {a k : Nat} (h : zCf z S S1) : zCf z S (sD S1 a k yd) := h
theorem mD_sD {a k : Nat} : mD (sD S a k yd) a k = yd := up2_self _ _ _ _
theorem c_append_L {p nn : Nat} {bs : Int64} {rf : Nat → Nat} (hpn : p + nn ≤ 160) (hn : nn ≤ 16) (hrf : ∀ i, i < nn → rf (p + i + 1) = dg bs (nn - 1 - i)) :
    ∀ (m fu j : Nat) (S : Mem), zSt z S → zRf z S (p + j) rf → j + m = nn → m < fu → ∃ S', F_X3_append_L3 fu (z + 1) bs (nI nn) (nI j) S = some S' ∧ zFr (z + 1) (z + 3) S S' ∧ zRf z S' (p + nn) rf := by
  intro m
  induction m with
  | zero =>
    intro fu j S h hR hj hf
    obtain ⟨fu, rfl⟩ : ∃ f, fu = f + 1 := ⟨fu - 1, by omega⟩
    have h1 : nI nn ≤ nI j := nI_le (by omega) (by omega)
    refine ⟨S, ?_, zFr_refl, ?_⟩
    · simp only [F_X3_append_L3, h1, ↓reduceIte]
    · rw [show p + nn = p + j by omega]; exact hR
  | succ m ih =>
    intro fu j S h hR hj hf
    obtain ⟨fu, rfl⟩ : ∃ f, fu = f + 1 := ⟨fu - 1, by omega⟩
    have h1 : ¬ nI nn ≤ nI j := nI_ge (by omega) (by omega)
    have h2 : ¬ nI 160 ≤ nI (p + j) := nI_ge (by omega) (by omega)
    have h3 : p + j < 160 := by omega
    have hb := c_baseOf (b := bs) (n := nn) (i := j) (d := nn - 1 - j) (S := S) (by omega) (by omega) (by omega)
    have n1 : (z + 1 = z + 2) = False := eq_false (by omega)
    have hR1 := hR.1
    obtain ⟨S', q1, q2, q3⟩ := ih fu (j + 1) (sI (sI S (z + 2) (p + j) (nI (dg bs (nn - 1 - j)))) (z + 1) 1 (nI (p + j + 1))) (by rw [zSt_sI, zSt_sI]; exact h) (by
      refine ⟨?_, ?_⟩
      · rw [mI_sI, if_pos ⟨rfl, rfl⟩]; rfl
      · intro i hi
        rw [mI_sI, if_neg (by omega), mI_sI]
        by_cases c : i = p + j
        · subst c; rw [if_pos ⟨rfl, rfl⟩, hrf j (by omega)]
        · rw [if_neg (by omega)]; exact hR.2 i (by omega)) (by omega) (by omega)
    refine ⟨S', ?_, zFr_trans (zFr_trans (zFr_sI (by omega) (by omega)) (zFr_sI (by omega) (by omega))) q2, q3⟩
    simp only [F_X3_append_L3, l_0, l_1, l_2, l_3, l_4, l_5, l_6, l_7, l_8, l_9, l_10, l_11, l_12, l_13, l_14, l_15, l_16, l_17, l_18, l_19, l_20, l_21, l_24, l_25, l_26, l_27, l_31, l_33, l_41, l_65, l_67, l_71, l_84, l_120, l_127, l_128, l_130, l_160, l_162, l_200, l_255, l_256, l_999, l_1000, l_8000, l_9999, l_10000, l_8001, l_m1, t_k0, t_g0, t_p0, t_z0, t_k1, t_g1, t_p1, t_z1, t_k3, t_g3, t_p3, t_z3, t_k187, t_g187, t_p187, t_z187, t_k210, t_g210, t_p210, t_z210, t_k212, t_g212, t_p212, t_z212, t_k214, t_g214, t_p214, t_z214, t_r0_0, t_r0_1, t_r0_2, t_r0_4, t_r0_5, t_r0_6, t_r0_7, t_r1_0, t_r3_0, t_r187_0, t_r187_1, t_r187_2, t_r187_3, t_r210_0, t_r212_0, t_r214_1, t_r214_5, t_r214_6, t_r214_8, t_r214_10, t_a2, t_s2, t_a209, t_s209, t_a211, t_s211, t_a213, t_s213, t_a215, t_s215, t_a216, t_s216, t_a217, t_s217, t_a218, t_s218, t_a219, t_s219, t_a4, t_s4, zSt_sI, zSt_sF, zSt_zI, zSt_sJ, zSt_sD, zBo_0, zBo_1, h, h1, h2, h3, hR1, hb, bd2_some, bdx_inl, bdx_inr, bdc_inl, bdc_inr, obd_some, ↓reduceIte, mI_sI, n1, false_and, nI_add]
    exact q1
theorem C_reference {b : Int64} {n : Int32} (hs : xOk s) (h : zCl z s S) : ∃ S', F_L_reference z b n (z + 220) S = some ((o_reference s b n).1, S') ∧ zCl z (o_reference s b n).2.2 S' ∧ zCf z S S' ∧ ((o_reference s b n).1 = nI 0 → mJ S' (z + 220) 0 = (o_reference s b n).2.1.toInt64) := by
  obtain ⟨hS, ⟨pp, hL⟩, hR, hD, hT⟩ := id h
  have n21 : ¬ nI 2 = nI 0 := by decide
  by_cases c1 : n < nI 1
  · refine ⟨S, ?_, ?_, zCf_refl hS, ?_⟩
    · simp only [F_L_reference, F_X5_reference, l_0, l_1, l_2, l_3, l_4, l_5, l_6, l_7, l_8, l_9, l_10, l_11, l_12, l_13, l_14, l_15, l_16, l_17, l_18, l_19, l_20, l_21, l_24, l_25, l_26, l_27, l_31, l_33, l_41, l_65, l_67, l_71, l_84, l_120, l_127, l_128, l_130, l_160, l_162, l_200, l_255, l_256, l_999, l_1000, l_8000, l_9999, l_10000, l_8001, l_m1, t_k0, t_g0, t_p0, t_z0, t_k1, t_g1, t_p1, t_z1, t_k3, t_g3, t_p3, t_z3, t_k187, t_g187, t_p187, t_z187, t_k210, t_g210, t_p210, t_z210, t_k212, t_g212, t_p212, t_z212, t_k214, t_g214, t_p214, t_z214, t_r0_0, t_r0_1, t_r0_2, t_r0_4, t_r0_5, t_r0_6, t_r0_7, t_r1_0, t_r3_0, t_r187_0, t_r187_1, t_r187_2, t_r187_3, t_r210_0, t_r212_0, t_r214_1, t_r214_5, t_r214_6, t_r214_8, t_r214_10, t_a2, t_s2, t_a209, t_s209, t_a211, t_s211, t_a213, t_s213, t_a215, t_s215, t_a216, t_s216, t_a217, t_s217, t_a218, t_s218, t_a219, t_s219, t_a4, t_s4, zSt_sI, zSt_sF, zSt_zI, zSt_sJ, zSt_sD, zBo_0, zBo_1, hS, bd2_some, bdx_inl, bdx_inr, bdc_inl, bdc_inr, obd_some, c1, ↓reduceIte, o_reference, true_or]
    · simp only [o_reference, c1, true_or, ↓reduceIte]; exact h
    · simp only [o_reference, c1, true_or, ↓reduceIte, ne10, false_imp_iff]
  by_cases c2 : nI 16 < n
  · have c2' : ¬ n ≤ nI 16 := fun q => Int32.not_lt.mpr q c2
    refine ⟨S, ?_, ?_, zCf_refl hS, ?_⟩
    · simp only [F_L_reference, F_X5_reference, l_0, l_1, l_2, l_3, l_4, l_5, l_6, l_7, l_8, l_9, l_10, l_11, l_12, l_13, l_14, l_15, l_16, l_17, l_18, l_19, l_20, l_21, l_24, l_25, l_26, l_27, l_31, l_33, l_41, l_65, l_67, l_71, l_84, l_120, l_127, l_128, l_130, l_160, l_162, l_200, l_255, l_256, l_999, l_1000, l_8000, l_9999, l_10000, l_8001, l_m1, t_k0, t_g0, t_p0, t_z0, t_k1, t_g1, t_p1, t_z1, t_k3, t_g3, t_p3, t_z3, t_k187, t_g187, t_p187, t_z187, t_k210, t_g210, t_p210, t_z210, t_k212, t_g212, t_p212, t_z212, t_k214, t_g214, t_p214, t_z214, t_r0_0, t_r0_1, t_r0_2, t_r0_4, t_r0_5, t_r0_6, t_r0_7, t_r1_0, t_r3_0, t_r187_0, t_r187_1, t_r187_2, t_r187_3, t_r210_0, t_r212_0, t_r214_1, t_r214_5, t_r214_6, t_r214_8, t_r214_10, t_a2, t_s2, t_a209, t_s209, t_a211, t_s211, t_a213, t_s213, t_a215, t_s215, t_a216, t_s216, t_a217, t_s217, t_a218, t_s218, t_a219, t_s219, t_a4, t_s4, zSt_sI, zSt_sF, zSt_zI, zSt_sJ, zSt_sD, zBo_0, zBo_1, hS, bd2_some, bdx_inl, bdx_inr, bdc_inl, bdc_inr, obd_some, c1, c2, c2', ↓reduceIte, o_reference, or_true]
    · simp only [o_reference, c1, c2, or_true, ↓reduceIte]; exact h
    · simp only [o_reference, c1, c2, or_true, ↓reduceIte, ne10, false_imp_iff]
  have c2' : n ≤ nI 16 := Int32.not_lt.mp c2
  obtain ⟨nn, rfl, a1, a2⟩ := in_of (by omega) c1 c2 (by omega)
  have hq := hs.1
  have hz := hL.2.1
  have hl24 := hs.2.2.2.2.1
  have t1 : tn (nI nn) = nn := tn_nI (by omega)
  by_cases c3 : xD s = true
  · have hd := hD.1
    rw [c3] at hd
    have hd' : mI S z 3 = nI 1 := hd
    refine ⟨S, ?_, ?_, zCf_refl hS, ?_⟩
    · simp only [F_L_reference, F_X5_reference, l_0, l_1, l_2, l_3, l_4, l_5, l_6, l_7, l_8, l_9, l_10, l_11, l_12, l_13, l_14, l_15, l_16, l_17, l_18, l_19, l_20, l_21, l_24, l_25, l_26, l_27, l_31, l_33, l_41, l_65, l_67, l_71, l_84, l_120, l_127, l_128, l_130, l_160, l_162, l_200, l_255, l_256, l_999, l_1000, l_8000, l_9999, l_10000, l_8001, l_m1, t_k0, t_g0, t_p0, t_z0, t_k1, t_g1, t_p1, t_z1, t_k3, t_g3, t_p3, t_z3, t_k187, t_g187, t_p187, t_z187, t_k210, t_g210, t_p210, t_z210, t_k212, t_g212, t_p212, t_z212, t_k214, t_g214, t_p214, t_z214, t_r0_0, t_r0_1, t_r0_2, t_r0_4, t_r0_5, t_r0_6, t_r0_7, t_r1_0, t_r3_0, t_r187_0, t_r187_1, t_r187_2, t_r187_3, t_r210_0, t_r212_0, t_r214_1, t_r214_5, t_r214_6, t_r214_8, t_r214_10, t_a2, t_s2, t_a209, t_s209, t_a211, t_s211, t_a213, t_s213, t_a215, t_s215, t_a216, t_s216, t_a217, t_s217, t_a218, t_s218, t_a219, t_s219, t_a4, t_s4, zSt_sI, zSt_sF, zSt_zI, zSt_sJ, zSt_sD, zBo_0, zBo_1, hS, bd2_some, bdx_inl, bdx_inr, bdc_inl, bdc_inr, obd_some, c1, c2, c2', hd', ne10, ↓reduceIte, o_reference, or_self, c3, true_or, String.reduceEq]
    · simp only [o_reference, c1, c2, or_self, c3, true_or, ↓reduceIte]; exact h
    · simp only [o_reference, c1, c2, or_self, c3, true_or, ↓reduceIte, n21, false_imp_iff]
  have hd' : mI S z 3 = nI 0 := by
    have hd := hD.1
    rw [Bool.not_eq_true] at c3
    rw [c3] at hd
    exact hd
  by_cases c4 : (xL s).length = 0
  · have c4' : nI (xL s).length ≤ nI 0 := nI_le (by omega) (by omega)
    by_cases c5 : 160 < xP s + nn
    · have c5' : ¬ nI (xP s + nn) ≤ nI 160 := nI_ge (by omega) (by omega)
      refine ⟨S, ?_, ?_, zCf_refl hS, ?_⟩
      · simp only [F_L_reference, F_X5_reference, l_0, l_1, l_2, l_3, l_4, l_5, l_6, l_7, l_8, l_9, l_10, l_11, l_12, l_13, l_14, l_15, l_16, l_17, l_18, l_19, l_20, l_21, l_24, l_25, l_26, l_27, l_31, l_33, l_41, l_65, l_67, l_71, l_84, l_120, l_127, l_128, l_130, l_160, l_162, l_200, l_255, l_256, l_999, l_1000, l_8000, l_9999, l_10000, l_8001, l_m1, t_k0, t_g0, t_p0, t_z0, t_k1, t_g1, t_p1, t_z1, t_k3, t_g3, t_p3, t_z3, t_k187, t_g187, t_p187, t_z187, t_k210, t_g210, t_p210, t_z210, t_k212, t_g212, t_p212, t_z212, t_k214, t_g214, t_p214, t_z214, t_r0_0, t_r0_1, t_r0_2, t_r0_4, t_r0_5, t_r0_6, t_r0_7, t_r1_0, t_r3_0, t_r187_0, t_r187_1, t_r187_2, t_r187_3, t_r210_0, t_r212_0, t_r214_1, t_r214_5, t_r214_6, t_r214_8, t_r214_10, t_a2, t_s2, t_a209, t_s209, t_a211, t_s211, t_a213, t_s213, t_a215, t_s215, t_a216, t_s216, t_a217, t_s217, t_a218, t_s218, t_a219, t_s219, t_a4, t_s4, zSt_sI, zSt_sF, zSt_zI, zSt_sJ, zSt_sD, zBo_0, zBo_1, hS, bd2_some, bdx_inl, bdx_inr, bdc_inl, bdc_inr, obd_some, c1, c2, c2', hd', hz, hR.1, nI_add, c4', c5', ↓reduceIte, o_reference, or_self, c5, t1, or_true, String.reduceEq]
      · simp only [o_reference, c1, c2, or_self, c5, t1, or_true, ↓reduceIte]; exact h
      · simp only [o_reference, c1, c2, or_self, c5, t1, or_true, ↓reduceIte, n21, false_imp_iff]
    · have c5' : nI (xP s + nn) ≤ nI 160 := nI_le (by omega) (by omega)
      obtain ⟨S1, q1, q2, q3⟩ := c_append_L (z := z) (p := xP s) (nn := nn) (bs := b) (rf := fun i => if xP s < i ∧ i ≤ xP s + nn then dg b (xP s + nn - i) else xF s i) (by omega) a2 (by
        intro i hi
        show (if xP s < xP s + i + 1 ∧ xP s + i + 1 ≤ xP s + nn then dg b (xP s + nn - (xP s + i + 1)) else _) = _
        rw [if_pos (by omega)]
        congr 1
        omega) nn FU 0 S hS (by
        refine ⟨hR.1, fun i hi => ?_⟩
        show _ = nI (if xP s < i + 1 ∧ i + 1 ≤ xP s + nn then dg b (xP s + nn - (i + 1)) else xF s (i + 1))
        rw [if_neg (by omega)]
        exact hR.2 i hi) (by omega) (by show nn < 4000; omega)
      have hS1 := zSt_Fr q2 hS
      have q1' : F_X3_append (z + 1) b (nI nn) S = some S1 := q1
      have ne3 : ¬ (xL s).length ≠ 0 := fun q => q c4
      refine ⟨sJ S1 (z + 220) 0 (nI (xP s + nn)).toInt64, ?_, ?_, zCf_sJ (zCf_Fr hS q2 (by omega)), ?_⟩
      · simp only [F_L_reference, F_X5_reference, l_0, l_1, l_2, l_3, l_4, l_5, l_6, l_7, l_8, l_9, l_10, l_11, l_12, l_13, l_14, l_15, l_16, l_17, l_18, l_19, l_20, l_21, l_24, l_25, l_26, l_27, l_31, l_33, l_41, l_65, l_67, l_71, l_84, l_120, l_127, l_128, l_130, l_160, l_162, l_200, l_255, l_256, l_999, l_1000, l_8000, l_9999, l_10000, l_8001, l_m1, t_k0, t_g0, t_p0, t_z0, t_k1, t_g1, t_p1, t_z1, t_k3, t_g3, t_p3, t_z3, t_k187, t_g187, t_p187, t_z187, t_k210, t_g210, t_p210, t_z210, t_k212, t_g212, t_p212, t_z212, t_k214, t_g214, t_p214, t_z214, t_r0_0, t_r0_1, t_r0_2, t_r0_4, t_r0_5, t_r0_6, t_r0_7, t_r1_0, t_r3_0, t_r187_0, t_r187_1, t_r187_2, t_r187_3, t_r210_0, t_r212_0, t_r214_1, t_r214_5, t_r214_6, t_r214_8, t_r214_10, t_a2, t_s2, t_a209, t_s209, t_a211, t_s211, t_a213, t_s213, t_a215, t_s215, t_a216, t_s216, t_a217, t_s217, t_a218, t_s218, t_a219, t_s219, t_a4, t_s4, zSt_sI, zSt_sF, zSt_zI, zSt_sJ, zSt_sD, zBo_0, zBo_1, hS, hS1, bd2_some, bdx_inl, bdx_inr, bdc_inl, bdc_inr, obd_some, c1, c2, c2', hd', hz, hR.1, nI_add, c4', c5', ↓reduceIte, o_reference, or_self, q1', q3.1, t_sJ hS1, c3, ne3, c5, t1, Bool.false_eq_true]
      · simp only [o_reference, c1, c2, or_self, ↓reduceIte, c3, ne3, c5, t1]
        refine zCl_sJ ⟨hS1, ⟨pp, zLv_of ?_ ?_ hl24 hL⟩, q3, zDf_of ?_ ?_ hD, zTy_of ?_ ?_ hT⟩
        · rw [zFr_R q2]
        · intro a h1 h2; exact q2.2 a (by omega)
        · rw [q2.2 z (by omega)]
        · intro a h1 h2; exact q2.2 a (by omega)
        · rw [q2.2 (z + 210) (by omega)]
        · rw [q2.2 (z + 211) (by omega)]
      · intro _
        simp only [o_reference, c1, c2, or_self, ↓reduceIte, c3, ne3, c5, t1]
        exact mJ_sJ
  · have c4' : ¬ nI (xL s).length ≤ nI 0 := nI_ge (by omega) (by omega)
    have ne3 : (xL s).length ≠ 0 := c4
    refine ⟨S, ?_, ?_, zCf_refl hS, ?_⟩
    · simp only [F_L_reference, F_X5_reference, l_0, l_1, l_2, l_3, l_4, l_5, l_6, l_7, l_8, l_9, l_10, l_11, l_12, l_13, l_14, l_15, l_16, l_17, l_18, l_19, l_20, l_21, l_24, l_25, l_26, l_27, l_31, l_33, l_41, l_65, l_67, l_71, l_84, l_120, l_127, l_128, l_130, l_160, l_162, l_200, l_255, l_256, l_999, l_1000, l_8000, l_9999, l_10000, l_8001, l_m1, t_k0, t_g0, t_p0, t_z0, t_k1, t_g1, t_p1, t_z1, t_k3, t_g3, t_p3, t_z3, t_k187, t_g187, t_p187, t_z187, t_k210, t_g210, t_p210, t_z210, t_k212, t_g212, t_p212, t_z212, t_k214, t_g214, t_p214, t_z214, t_r0_0, t_r0_1, t_r0_2, t_r0_4, t_r0_5, t_r0_6, t_r0_7, t_r1_0, t_r3_0, t_r187_0, t_r187_1, t_r187_2, t_r187_3, t_r210_0, t_r212_0, t_r214_1, t_r214_5, t_r214_6, t_r214_8, t_r214_10, t_a2, t_s2, t_a209, t_s209, t_a211, t_s211, t_a213, t_s213, t_a215, t_s215, t_a216, t_s216, t_a217, t_s217, t_a218, t_s218, t_a219, t_s219, t_a4, t_s4, zSt_sI, zSt_sF, zSt_zI, zSt_sJ, zSt_sD, zBo_0, zBo_1, hS, bd2_some, bdx_inl, bdx_inr, bdc_inl, bdc_inr, obd_some, c1, c2, c2', hd', hz, c4', ↓reduceIte, o_reference, or_self, ne3, true_or, or_true, ne_eq, not_false_eq_true, String.reduceEq]
    · simp only [o_reference, c1, c2, or_self, ne3, true_or, or_true, ↓reduceIte, ne_eq, not_false_eq_true]; exact h
    · simp only [o_reference, c1, c2, or_self, ne3, true_or, or_true, ↓reduceIte, n21, false_imp_iff, ne_eq, not_false_eq_true]
end C2
