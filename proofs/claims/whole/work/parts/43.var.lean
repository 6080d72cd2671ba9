set_option maxRecDepth 20000
/-! The class's Variant: what its methods do. -/
theorem FU_s : FU = 3999 + 1 := rfl
theorem FU_3 : FU = 3997 + 1 + 1 + 1 := rfl
theorem FU_5 : FU = 3995 + 1 + 1 + 1 + 1 + 1 := rfl
theorem sF_sI {S : Mem} {a k : Nat} {x : Int32} {f : Nat → Int32} : sF (sI S a k x) a f = sF S a f := by
  refine z_ext rfl rfl rfl ?_ rfl rfl rfl rfl
  funext b
  rw [mI_sF, mI_sF]
  by_cases h : b = a
  · rw [if_pos h, if_pos h]
  · rw [if_neg h, if_neg h]; exact up2_row _ _ h
theorem sF_sF {S : Mem} {a : Nat} {f g : Nat → Int32} : sF (sF S a f) a g = sF S a g := by
  refine z_ext rfl rfl rfl ?_ rfl rfl rfl rfl
  exact up_up _ _ _ _
theorem sF_id {S : Mem} {a : Nat} {f : Nat → Int32} (h : f = mI S a) : sF S a f = S := by
  subst h
  refine z_ext rfl rfl rfl ?_ rfl rfl rfl rfl
  exact up_id _ _
theorem sI_sF {S : Mem} {a k : Nat} {x : Int32} {f : Nat → Int32} : sI (sF S a f) a k x = sF S a (va_up f k x) := by
  refine z_ext rfl rfl rfl ?_ rfl rfl rfl rfl
  funext b
  rw [mI_sF, mI_sI_r]
  by_cases h : b = a
  · rw [if_pos h, if_pos h, mI_sF, if_pos rfl]
  · rw [if_neg h, if_neg h, mI_sF, if_neg h]
theorem sI_asF {S : Mem} {a k : Nat} {x : Int32} : sI S a k x = sF S a (va_up (mI S a) k x) := by
  rw [← sI_sF, sF_id rfl]
section CV
variable {S S' : Mem} {v w n lo hi : Nat} {x b l : Int32} {r : Rc}
theorem zCR_of (h : ∀ t, t < 7 → mI S' (w + t) = mI S (v + t)) (hr : zCR S v r) : zCR S' w r := by
  obtain ⟨h1, h2, h3, h4, h5⟩ := hr
  have e0 := h 0 (by omega); have e1 := h 1 (by omega); have e2 := h 2 (by omega); have e3 := h 3 (by omega)
  have e4 := h 4 (by omega); have e5 := h 5 (by omega); have e6 := h 6 (by omega)
  simp only [Nat.add_zero] at e0
  unfold zCR
  rw [e0, e1, e2, e3, e4, e5, e6]
  exact ⟨h1, h2, h3, h4, h5⟩
theorem zCR_Fr (h : zFr lo hi S S') (hv : v + 7 ≤ lo ∨ hi ≤ v) (hr : zCR S v r) : zCR S' v r :=
  zCR_of (fun t ht => h.2 _ (by omega)) hr
theorem c_fill_L {v : Nat} {x : Int32} : ∀ (m fu j : Nat) (S : Mem), zVar S v → j + m = 20 → m < fu → F_X4_fillLikelihoods_L2 fu v x (nI j) S = some (sF S (v + 6) (fun k => if j ≤ k ∧ k < 20 then x else mI S (v + 6) k)) := by
  intro m
  induction m with
  | zero =>
    intro fu j S h hj hf
    obtain ⟨fu, rfl⟩ : ∃ f, fu = f + 1 := ⟨fu - 1, by omega⟩
    have h1 : nI 20 ≤ nI j := nI_le (by omega) (by omega)
    simp only [F_X4_fillLikelihoods_L2, l_0, l_1, l_2, l_3, l_4, l_5, l_6, l_7, l_8, l_9, l_10, l_11, l_12, l_13, l_14, l_15, l_16, l_17, l_18, l_19, l_20, l_21, l_24, l_25, l_26, l_27, l_31, l_33, l_41, l_65, l_67, l_71, l_84, l_120, l_127, l_128, l_130, l_160, l_162, l_200, l_255, l_256, l_999, l_1000, l_8000, l_9999, l_10000, l_8001, l_m1, h1, ↓reduceIte]
    rw [sF_id]
    funext k
    rw [if_neg (by omega)]
  | succ m ih =>
    intro fu j S h hj hf
    obtain ⟨fu, rfl⟩ : ∃ f, fu = f + 1 := ⟨fu - 1, by omega⟩
    have h1 : ¬ nI 20 ≤ nI j := nI_ge (by omega) (by omega)
    have h2 : j < 20 := by omega
    simp only [F_X4_fillLikelihoods_L2, l_0, l_1, l_2, l_3, l_4, l_5, l_6, l_7, l_8, l_9, l_10, l_11, l_12, l_13, l_14, l_15, l_16, l_17, l_18, l_19, l_20, l_21, l_24, l_25, l_26, l_27, l_31, l_33, l_41, l_65, l_67, l_71, l_84, l_120, l_127, l_128, l_130, l_160, l_162, l_200, l_255, l_256, l_999, l_1000, l_8000, l_9999, l_10000, l_8001, l_m1, h1, ↓reduceIte, v_pk, v_gI, v_pI, v_g3, v_a1, v_s1, v_g4, v_a2, v_s2, v_g5, v_a3, v_s3, v_g6, v_a4, v_s4, v_g7, v_a5, v_s5, v_g8, v_a6, v_s6, zVar_sI, zVar_sF, zVar_zI, zBo_0, zBo_1, h, h2, bd2_some, bdx_inl, bdx_inr, bdc_inl, bdc_inr, obd_some, nI_add]
    rw [ih fu (j + 1) _ (by rw [zVar_sI]; exact h) (by omega) (by omega), sF_sI]
    congr 2
    funext k
    rw [mI_sI]
    by_cases hk : k = j
    · subst hk; rw [if_neg (by omega), if_pos ⟨rfl, rfl⟩, if_pos (by omega)]
    · by_cases hk2 : j + 1 ≤ k ∧ k < 20
      · rw [if_pos hk2, if_pos (by omega)]
      · rw [if_neg hk2, if_neg (by omega), if_neg (by omega)]
theorem c_fill (h : zVar S v) : F_X4_fillLikelihoods v x S = some (sF S (v + 6) (fun k => if k < 20 then x else mI S (v + 6) k)) := by
  have := c_fill_L (x := x) 20 FU 0 S h rfl (by decide)
  unfold F_X4_fillLikelihoods
  simp only [l_0, l_1, l_2, l_3, l_4, l_5, l_6, l_7, l_8, l_9, l_10, l_11, l_12, l_13, l_14, l_15, l_16, l_17, l_18, l_19, l_20, l_21, l_24, l_25, l_26, l_27, l_31, l_33, l_41, l_65, l_67, l_71, l_84, l_120, l_127, l_128, l_130, l_160, l_162, l_200, l_255, l_256, l_999, l_1000, l_8000, l_9999, l_10000, l_8001, l_m1, this]
  congr 2
  funext k
  simp
/-- what clear leaves -/
def clrT (S : Mem) (v : Nat) : Mem := sI (sI (sI (sI (sI (sI (sI (sI (sI S v 0 (nI 0)) v 1 (nI 0)) v 2 (nI 0)) (v + 4) 0 m1) (v + 4) 1 m1) (v + 4) 2 m1) (v + 4) 3 m1) (v + 5) 0 (nI 0)) (v + 5) 1 (nI 0)
def clrV (S : Mem) (v : Nat) : Mem := sF (clrT S v) (v + 6) (fun k => if k < 20 then nI 0 else mI (clrT S v) (v + 6) k)
theorem c_clear (h : zVar S v) : F_X4_clear v S = some (clrV S v) := by
  simp only [F_X4_clear, l_0, l_1, l_2, l_3, l_4, l_5, l_6, l_7, l_8, l_9, l_10, l_11, l_12, l_13, l_14, l_15, l_16, l_17, l_18, l_19, l_20, l_21, l_24, l_25, l_26, l_27, l_31, l_33, l_41, l_65, l_67, l_71, l_84, l_120, l_127, l_128, l_130, l_160, l_162, l_200, l_255, l_256, l_999, l_1000, l_8000, l_9999, l_10000, l_8001, l_m1, v_pk, v_gI, v_pI, v_g3, v_a1, v_s1, v_g4, v_a2, v_s2, v_g5, v_a3, v_s3, v_g6, v_a4, v_s4, v_g7, v_a5, v_s5, v_g8, v_a6, v_s6, zVar_sI, zVar_sF, zVar_zI, zBo_0, zBo_1, h, bd2_some, bdx_inl, bdx_inr, bdc_inl, bdc_inr, obd_some]
  rw [FU_5]
  simp only [F_X4_clear_L17, l_0, l_1, l_2, l_3, l_4, l_5, l_6, l_7, l_8, l_9, l_10, l_11, l_12, l_13, l_14, l_15, l_16, l_17, l_18, l_19, l_20, l_21, l_24, l_25, l_26, l_27, l_31, l_33, l_41, l_65, l_67, l_71, l_84, l_120, l_127, l_128, l_130, l_160, l_162, l_200, l_255, l_256, l_999, l_1000, l_8000, l_9999, l_10000, l_8001, l_m1, v_pk, v_gI, v_pI, v_g3, v_a1, v_s1, v_g4, v_a2, v_s2, v_g5, v_a3, v_s3, v_g6, v_a4, v_s4, v_g7, v_a5, v_s5, v_g8, v_a6, v_s6, zVar_sI, zVar_sF, zVar_zI, zBo_0, zBo_1, h, bd2_some, bdx_inl, bdx_inr, bdc_inl, bdc_inr, obd_some, Nat.reducePow, Nat.reduceLT, Nat.reduceLeDiff, Nat.reduceAdd, Nat.reduceMul, Nat.reduceSub, Nat.reduceEqDiff, ↓reduceIte, nI_add, nI_mul, i_le, i_lt, i_eq, i_m1lt, i_ltm1, i_lem1, i_eqm1, i_m1eq]
  rw [FU_3]
  simp only [F_X4_clear_L37, l_0, l_1, l_2, l_3, l_4, l_5, l_6, l_7, l_8, l_9, l_10, l_11, l_12, l_13, l_14, l_15, l_16, l_17, l_18, l_19, l_20, l_21, l_24, l_25, l_26, l_27, l_31, l_33, l_41, l_65, l_67, l_71, l_84, l_120, l_127, l_128, l_130, l_160, l_162, l_200, l_255, l_256, l_999, l_1000, l_8000, l_9999, l_10000, l_8001, l_m1, v_pk, v_gI, v_pI, v_g3, v_a1, v_s1, v_g4, v_a2, v_s2, v_g5, v_a3, v_s3, v_g6, v_a4, v_s4, v_g7, v_a5, v_s5, v_g8, v_a6, v_s6, zVar_sI, zVar_sF, zVar_zI, zBo_0, zBo_1, h, bd2_some, bdx_inl, bdx_inr, bdc_inl, bdc_inr, obd_some, Nat.reducePow, Nat.reduceLT, Nat.reduceLeDiff, Nat.reduceAdd, Nat.reduceMul, Nat.reduceSub, Nat.reduceEqDiff, ↓reduceIte, nI_add, nI_mul, i_le, i_lt, i_eq, i_m1lt, i_ltm1, i_lem1, i_eqm1, i_m1eq]
  rw [c_fill (by simp only [v_pk, v_gI, v_pI, v_g3, v_a1, v_s1, v_g4, v_a2, v_s2, v_g5, v_a3, v_s3, v_g6, v_a4, v_s4, v_g7, v_a5, v_s5, v_g8, v_a6, v_s6, zVar_sI, zVar_sF, zVar_zI, zBo_0, zBo_1, h])]
  rfl
theorem clr_Fr : zFr v (v + 7) S (clrV S v) := by
  refine zFr_trans ?_ (zFr_sF (by omega) (by omega))
  iterate 8 refine zFr_trans ?_ (zFr_sI (by omega) (by omega))
  exact zFr_sI (by omega) (by omega)
theorem clr_0 : mI (clrV S v) v 0 = nI 0 ∧ mI (clrV S v) v 1 = nI 0 ∧ mI (clrV S v) v 2 = nI 0 := by
  simp [clrV, clrT, mI_sI, mI_sF]
theorem clr_4 : ∀ i, i < 4 → mI (clrV S v) (v + 4) i = m1 := by
  intro i hi
  rcases (show i = 0 ∨ i = 1 ∨ i = 2 ∨ i = 3 by omega) with e | e | e | e <;> subst e <;> simp [clrV, clrT, mI_sI, mI_sF]
theorem clr_5 : ∀ i, i < 2 → mI (clrV S v) (v + 5) i = nI 0 := by
  intro i hi
  rcases (show i = 0 ∨ i = 1 by omega) with e | e <;> subst e <;> simp [clrV, clrT, mI_sI, mI_sF]
theorem clr_6 : ∀ i, i < 20 → mI (clrV S v) (v + 6) i = nI 0 := by
  intro i hi
  simp [clrV, mI_sF, hi]
theorem clr_123 : mI (clrV S v) (v + 1) = mI S (v + 1) ∧ mI (clrV S v) (v + 2) = mI S (v + 2) ∧ mI (clrV S v) (v + 3) = mI S (v + 3) := by
  refine ⟨?_, ?_, ?_⟩ <;> funext i <;> simp [clrV, clrT, mI_sI, mI_sF]
def appV (S : Mem) (v n : Nat) (b l : Int32) : Mem := sI (sI (sI (sI S (v + 1) n b) (v + 2) n l) (v + 3) n (nI 0)) v 2 (nI (n + 1))
theorem c_append (h : zVar S v) (hn : mI S v 2 = nI n) (h4 : n < 4) : F_X4_appendAllele v b l S = some (appV S v n b l) := by
  have h5 : n < 2147483648 := by omega
  have h6 : ¬ 4 ≤ n := by omega
  simp only [F_X4_appendAllele, l_0, l_1, l_2, l_3, l_4, l_5, l_6, l_7, l_8, l_9, l_10, l_11, l_12, l_13, l_14, l_15, l_16, l_17, l_18, l_19, l_20, l_21, l_24, l_25, l_26, l_27, l_31, l_33, l_41, l_65, l_67, l_71, l_84, l_120, l_127, l_128, l_130, l_160, l_162, l_200, l_255, l_256, l_999, l_1000, l_8000, l_9999, l_10000, l_8001, l_m1, v_pk, v_gI, v_pI, v_g3, v_a1, v_s1, v_g4, v_a2, v_s2, v_g5, v_a3, v_s3, v_g6, v_a4, v_s4, v_g7, v_a5, v_s5, v_g8, v_a6, v_s6, zVar_sI, zVar_sF, zVar_zI, zBo_0, zBo_1, h, hn, h4, h5, h6, bd2_some, bdx_inl, bdx_inr, bdc_inl, bdc_inr, obd_some, Nat.reducePow, Nat.reduceLT, Nat.reduceLeDiff, Nat.reduceAdd, Nat.reduceMul, Nat.reduceSub, Nat.reduceEqDiff, ↓reduceIte, nI_add, nI_mul, i_le, i_lt, i_eq, i_m1lt, i_ltm1, i_lem1, i_eqm1, i_m1eq, mI_sI, mI_sF, mI_sR, mI_sJ, mI_sD, mR_sI, mR_sF, mR_sJ, mR_sD, Nat.left_eq_add, Nat.add_eq_left, Nat.add_left_cancel_iff, Nat.reduceEqDiff, false_and, true_and, and_true, and_false, Nat.succ_ne_zero, Nat.add_eq_zero_iff, Nat.one_ne_zero, Nat.zero_ne_one, ne_eq, not_false_eq_true, appV]
theorem app_Fr : zFr v (v + 7) S (appV S v n b l) := by
  iterate 3 refine zFr_trans ?_ (zFr_sI (by omega) (by omega))
  exact zFr_sI (by omega) (by omega)
def fI : Option Nat → Int32
  | none => m1
  | some k => nI k
theorem c_find_L {v n b l : Nat} {L B : Nat → Nat} {S : Mem} (h : zVar S v) (hn : mI S v 2 = nI n) (h4 : n ≤ 4) (hA : ∀ i, i < n → mI S (v + 1) i = nI (B i) ∧ mI S (v + 2) i = nI (L i) ∧ B i < 2147483648 ∧ L i < 2147483648) (hb : b < 2147483648) (hl : l < 2147483648) :
    ∀ (m fu j : Nat), j + m = n → m < fu → F_X4_find_L2 fu v (nI b) (nI l) (nI j) S = some (fI (fndA n L B l b m j), S) := by
  intro m
  induction m with
  | zero =>
    intro fu j hj hf
    obtain ⟨fu, rfl⟩ : ∃ f, fu = f + 1 := ⟨fu - 1, by omega⟩
    have h1 : nI n ≤ nI j := nI_le (by omega) (by omega)
    simp only [F_X4_find_L2, l_0, l_1, l_2, l_3, l_4, l_5, l_6, l_7, l_8, l_9, l_10, l_11, l_12, l_13, l_14, l_15, l_16, l_17, l_18, l_19, l_20, l_21, l_24, l_25, l_26, l_27, l_31, l_33, l_41, l_65, l_67, l_71, l_84, l_120, l_127, l_128, l_130, l_160, l_162, l_200, l_255, l_256, l_999, l_1000, l_8000, l_9999, l_10000, l_8001, l_m1, v_pk, v_gI, v_pI, v_g3, v_a1, v_s1, v_g4, v_a2, v_s2, v_g5, v_a3, v_s3, v_g6, v_a4, v_s4, v_g7, v_a5, v_s5, v_g8, v_a6, v_s6, zVar_sI, zVar_sF, zVar_zI, zBo_0, zBo_1, h, hn, h1, bd2_some, bdx_inl, bdx_inr, bdc_inl, bdc_inr, obd_some, ↓reduceIte, fndA, fI]
  | succ m ih =>
    intro fu j hj hf
    obtain ⟨fu, rfl⟩ : ∃ f, fu = f + 1 := ⟨fu - 1, by omega⟩
    have h1 : ¬ nI n ≤ nI j := nI_ge (by omega) (by omega)
    have h2 : j < 4 := by omega
    obtain ⟨a1, a2, a3, a4⟩ := hA j (by omega)
    have ih' := ih fu (j + 1) (by omega) (by omega)
    simp only [F_X4_find_L2, F_X4_find_J32, l_0, l_1, l_2, l_3, l_4, l_5, l_6, l_7, l_8, l_9, l_10, l_11, l_12, l_13, l_14, l_15, l_16, l_17, l_18, l_19, l_20, l_21, l_24, l_25, l_26, l_27, l_31, l_33, l_41, l_65, l_67, l_71, l_84, l_120, l_127, l_128, l_130, l_160, l_162, l_200, l_255, l_256, l_999, l_1000, l_8000, l_9999, l_10000, l_8001, l_m1, v_pk, v_gI, v_pI, v_g3, v_a1, v_s1, v_g4, v_a2, v_s2, v_g5, v_a3, v_s3, v_g6, v_a4, v_s4, v_g7, v_a5, v_s5, v_g8, v_a6, v_s6, zVar_sI, zVar_sF, zVar_zI, zBo_0, zBo_1, h, hn, h1, h2, bd2_some, bdx_inl, bdx_inr, bdc_inl, bdc_inr, obd_some, ↓reduceIte, fndA, a1, a2, i_eq, a3, a4, hb, hl, nI_add, ih']
    by_cases e1 : B j = b
    · by_cases e2 : L j = l
      · simp only [e1, e2, ↓reduceIte, and_self, fI]
      · simp only [e1, e2, ↓reduceIte, false_and]
    · simp only [e1, ↓reduceIte, and_false]
theorem c_find {v n b l : Nat} {L B : Nat → Nat} {S : Mem} (h : zVar S v) (hn : mI S v 2 = nI n) (h4 : n ≤ 4) (hA : ∀ i, i < n → mI S (v + 1) i = nI (B i) ∧ mI S (v + 2) i = nI (L i) ∧ B i < 2147483648 ∧ L i < 2147483648) (hb : b < 2147483648) (hl : l < 2147483648) : F_X4_find v (nI b) (nI l) S = some (fI (fnd n L B l b), S) :=
  c_find_L h hn h4 hA hb hl n FU 0 (by omega) (by show n < 4000; omega)
theorem c_pairs (h : zVar S v) (hn : mI S v 2 = nI n) (h4 : n ≤ 4) : F_X4_pairs v S = some (nI (prs n), S) := by
  simp only [F_X4_pairs, l_0, l_1, l_2, l_3, l_4, l_5, l_6, l_7, l_8, l_9, l_10, l_11, l_12, l_13, l_14, l_15, l_16, l_17, l_18, l_19, l_20, l_21, l_24, l_25, l_26, l_27, l_31, l_33, l_41, l_65, l_67, l_71, l_84, l_120, l_127, l_128, l_130, l_160, l_162, l_200, l_255, l_256, l_999, l_1000, l_8000, l_9999, l_10000, l_8001, l_m1, v_pk, v_gI, v_pI, v_g3, v_a1, v_s1, v_g4, v_a2, v_s2, v_g5, v_a3, v_s3, v_g6, v_a4, v_s4, v_g7, v_a5, v_s5, v_g8, v_a6, v_s6, zVar_sI, zVar_sF, zVar_zI, zBo_0, zBo_1, h, hn, bd2_some, bdx_inl, bdx_inr, bdc_inl, bdc_inr, obd_some, nI_add, nI_mul, pdiv]
  rcases (show n = 0 ∨ n = 1 ∨ n = 2 ∨ n = 3 ∨ n = 4 by omega) with e | e | e | e | e <;> subst e <;> rfl
theorem c_hasAllele (h : zVar S v) : F_X4_hasAllele v x S = some (if x < nI 0 ∨ mI S v 2 ≤ x then nI 0 else nI 1, S) := by
  simp only [F_X4_hasAllele, l_0, l_1, l_2, l_3, l_4, l_5, l_6, l_7, l_8, l_9, l_10, l_11, l_12, l_13, l_14, l_15, l_16, l_17, l_18, l_19, l_20, l_21, l_24, l_25, l_26, l_27, l_31, l_33, l_41, l_65, l_67, l_71, l_84, l_120, l_127, l_128, l_130, l_160, l_162, l_200, l_255, l_256, l_999, l_1000, l_8000, l_9999, l_10000, l_8001, l_m1, v_pk, v_gI, v_pI, v_g3, v_a1, v_s1, v_g4, v_a2, v_s2, v_g5, v_a3, v_s3, v_g6, v_a4, v_s4, v_g7, v_a5, v_s5, v_g8, v_a6, v_s6, zVar_sI, zVar_sF, zVar_zI, zBo_0, zBo_1, h, bd2_some, bdx_inl, bdx_inr, bdc_inl, bdc_inr, obd_some]
  by_cases h1 : x < nI 0 <;> by_cases h2 : mI S v 2 ≤ x <;> simp [h1, h2]
theorem c_within {y : Int32} : F_X5_isWithin x y S = some (if x < nI 0 ∨ y < x then nI 0 else nI 1, S) := by
  simp only [F_X5_isWithin, l_0, l_1, l_2, l_3, l_4, l_5, l_6, l_7, l_8, l_9, l_10, l_11, l_12, l_13, l_14, l_15, l_16, l_17, l_18, l_19, l_20, l_21, l_24, l_25, l_26, l_27, l_31, l_33, l_41, l_65, l_67, l_71, l_84, l_120, l_127, l_128, l_130, l_160, l_162, l_200, l_255, l_256, l_999, l_1000, l_8000, l_9999, l_10000, l_8001, l_m1, bd2_some, bdx_inl, bdx_inr, bdc_inl, bdc_inr, obd_some]
  by_cases h1 : x < nI 0 <;> by_cases h2 : y < x <;> simp [h1, h2]
theorem c_isSample : F_X5_isSample x S = some (if x < nI 0 ∨ nI 2 ≤ x then nI 0 else nI 1, S) := by
  simp only [F_X5_isSample, l_0, l_1, l_2, l_3, l_4, l_5, l_6, l_7, l_8, l_9, l_10, l_11, l_12, l_13, l_14, l_15, l_16, l_17, l_18, l_19, l_20, l_21, l_24, l_25, l_26, l_27, l_31, l_33, l_41, l_65, l_67, l_71, l_84, l_120, l_127, l_128, l_130, l_160, l_162, l_200, l_255, l_256, l_999, l_1000, l_8000, l_9999, l_10000, l_8001, l_m1, bd2_some, bdx_inl, bdx_inr, bdc_inl, bdc_inr, obd_some]
  by_cases h1 : x < nI 0 <;> by_cases h2 : nI 2 ≤ x <;> simp [h1, h2]
theorem c_allows (h : zVar S v) : F_X4_allowsInGenotype v x S = some (if x = m1 then nI 1 else if x < nI 0 ∨ mI S v 2 ≤ x then nI 0 else nI 1, S) := by
  simp only [F_X4_allowsInGenotype, F_X4_allowsInGenotype_J13, l_0, l_1, l_2, l_3, l_4, l_5, l_6, l_7, l_8, l_9, l_10, l_11, l_12, l_13, l_14, l_15, l_16, l_17, l_18, l_19, l_20, l_21, l_24, l_25, l_26, l_27, l_31, l_33, l_41, l_65, l_67, l_71, l_84, l_120, l_127, l_128, l_130, l_160, l_162, l_200, l_255, l_256, l_999, l_1000, l_8000, l_9999, l_10000, l_8001, l_m1, v_pk, v_gI, v_pI, v_g3, v_a1, v_s1, v_g4, v_a2, v_s2, v_g5, v_a3, v_s3, v_g6, v_a4, v_s4, v_g7, v_a5, v_s5, v_g8, v_a6, v_s6, zVar_sI, zVar_sF, zVar_zI, zBo_0, zBo_1, h, bd2_some, bdx_inl, bdx_inr, bdc_inl, bdc_inr, obd_some, c_hasAllele h]
  by_cases h0 : x = m1
  · simp only [h0, ↓reduceIte]
  · by_cases h1 : x < nI 0 ∨ mI S v 2 ≤ x
    · simp only [h0, h1, ↓reduceIte]
    · have : ¬ nI 1 = nI 0 := by decide
      simp only [h0, h1, ↓reduceIte, this]
end CV
