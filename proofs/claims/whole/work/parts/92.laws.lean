set_option maxRecDepth 20000
/-! Class and reference hold the same state, call after call. -/
def zLw (z : Nat) (s : As) (S : Mem) : Prop := xOk s ∧ zCl z s S ∧ zMo z s S
section LW
variable {S S' S1 S2 T : Mem} {z j : Nat} {s s' : As} {g : GG} {a1 a2 a3 a4 : Int32} {K : Nat → Nat → Nat → Nat → Int32 → Mem → Option Unit}
theorem zMo_Cf (h : zMo z s S) (hf : zCf z S S1) : zMo z s S1 := by
  obtain ⟨hS, hl, hfr, hd, ht⟩ := h
  have e := hf.2 (z + 214) (by omega)
  have w := hf.2 (z + 216) (by omega)
  exact ⟨hf.1, ⟨by rw [e]; exact hl.1, by rw [w]; exact hl.2⟩, zMf_of (by rw [e]) (hf.2 _ (by omega)) hfr, ⟨by rw [e]; exact hd.1, by rw [w]; exact hd.2⟩, zMt_of (by rw [e]) (hf.2 _ (by omega)) ht⟩
theorem zCl_Fr (hs : xOk s) (h : zCl z s S) (hF : zFr (z + 214) (z + 220) S S1) : zCl z s S1 := by
  obtain ⟨hS, ⟨pp, hL⟩, hRf, hD, hT⟩ := h
  refine ⟨zSt_Fr hF hS, ⟨pp, zLv_of ?_ ?_ hs.2.2.2.2.1 hL⟩, zRf_of (hF.2 _ (by omega)) (hF.2 _ (by omega)) hRf, zDf_of ?_ ?_ hD, zTy_of ?_ (hF.2 _ (by omega)) hT⟩
  · rw [zFr_R hF]
  · intro a h1 h2; exact hF.2 a (by omega)
  · rw [hF.2 z (by omega)]
  · intro a h1 h2; exact hF.2 a (by omega)
  · rw [hF.2 _ (by omega)]
theorem m_thrown (h : zSt z S) : F_X6_thrown (z + 214) S = some (mI S (z + 214) 0, S) := by
  simp only [F_X6_thrown, t_g214 h, bd2_some, bdx_inl, bdx_inr, bdc_inl, bdc_inr, obd_some]
theorem lg_self (x : Int64) : lg_cmp x x = 0 := by
  unfold lg_cmp
  simp
theorem lg_self' (x : Int64) : lg_cmp x x = nI 0 := lg_self x

theorem J_reference (hI : zLw z s S) (x1 : ptX g (nI (j + 1)) = some a1) (x2 : ptX g (nI (j + 2)) = some a2) (x3 : ptX g (nI (j + 3)) = some a3) : ∃ s' S', zLw z s' S' ∧ F_L_law_J136 g K z (z + 214) (z + 220) (z + 221) (nI j) S = K z (z + 214) (z + 220) (z + 221) (nI (j + 5)) S' := by
  obtain ⟨S1, c1, c2, c3, c4⟩ := C_reference (b := ((a1.toInt64 <<< ((32 : Int32).toInt64 &&& 63)) ||| (a2.toInt64 &&& (4294967295 : Int64)))) (n := a3) hI.1 hI.2.1
  obtain ⟨S2, m1, m2, m3, m4⟩ := M_reference (b := ((a1.toInt64 <<< ((32 : Int32).toInt64 &&& 63)) ||| (a2.toInt64 &&& (4294967295 : Int64)))) (n := a3) hI.1 (zMo_Cf hI.2.2 c3)
  have hx : xOk (o_reference s ((a1.toInt64 <<< ((32 : Int32).toInt64 &&& 63)) ||| (a2.toInt64 &&& (4294967295 : Int64))) a3).2.2 := X_reference hI.1
  refine ⟨_, S2, ⟨hx, zCl_Fr hx c2 m3, m2⟩, ?_⟩
  have hS1 := c3.1
  have hS2 := m2.1
  have t1 := m_thrown hS2
  rw [m4] at t1
  by_cases c : (o_reference s ((a1.toInt64 <<< ((32 : Int32).toInt64 &&& 63)) ||| (a2.toInt64 &&& (4294967295 : Int64))) a3).1 = nI 0
  · have aj := t_aJ hS2
    rw [zFr_J m3, c4 c] at aj
    rw [c] at c1 t1
    simp only [F_L_law_J136, F_L_law_J233, F_L_law_J1331, l_0, l_1, l_2, l_3, l_4, l_5, l_6, l_7, l_8, l_9, l_10, l_11, l_12, l_13, l_14, l_15, l_16, l_17, l_18, l_19, l_20, l_21, l_24, l_25, l_26, l_27, l_31, l_33, l_41, l_65, l_67, l_71, l_84, l_120, l_127, l_128, l_130, l_160, l_162, l_200, l_255, l_256, l_999, l_1000, l_8000, l_9999, l_10000, l_8001, l_m1, nI_add, x1, x2, x3, c1, t_k214 hS1, m1, t_k214 hS2, t1, aj, lg_self', bd2_some, bdx_inl, bdx_inr, bdc_inl, bdc_inr, obd_some, ↓reduceIte]
  · simp only [F_L_law_J136, F_L_law_J233, F_L_law_J1331, l_0, l_1, l_2, l_3, l_4, l_5, l_6, l_7, l_8, l_9, l_10, l_11, l_12, l_13, l_14, l_15, l_16, l_17, l_18, l_19, l_20, l_21, l_24, l_25, l_26, l_27, l_31, l_33, l_41, l_65, l_67, l_71, l_84, l_120, l_127, l_128, l_130, l_160, l_162, l_200, l_255, l_256, l_999, l_1000, l_8000, l_9999, l_10000, l_8001, l_m1, nI_add, x1, x2, x3, c1, t_k214 hS1, m1, t_k214 hS2, t1, c, bd2_some, bdx_inl, bdx_inr, bdc_inl, bdc_inr, obd_some, ↓reduceIte]
theorem J_draft (hI : zLw z s S) (x1 : ptX g (nI (j + 1)) = some a1) (x2 : ptX g (nI (j + 2)) = some a2) : ∃ s' S', zLw z s' S' ∧ F_L_law_J236 g K z (z + 214) (z + 220) (z + 221) (nI j) S = K z (z + 214) (z + 220) (z + 221) (nI (j + 5)) S' := by
  obtain ⟨S1, c1, c2, c3⟩ := C_draft (p := a1) (l := a2) hI.1 hI.2.1
  obtain ⟨S2, m1, m2, m3, m4⟩ := M_draft (p := a1) (l := a2) hI.1 (zMo_Cf hI.2.2 c3)
  have hx : xOk (o_draft s a1 a2).2 := X_draft hI.1
  refine ⟨_, S2, ⟨hx, zCl_Fr hx c2 m3, m2⟩, ?_⟩
  have hS1 := c3.1
  have hS2 := m2.1
  have t1 := m_thrown hS2
  rw [m4] at t1
  simp only [F_L_law_J236, F_L_law_J1331, l_0, l_1, l_2, l_3, l_4, l_5, l_6, l_7, l_8, l_9, l_10, l_11, l_12, l_13, l_14, l_15, l_16, l_17, l_18, l_19, l_20, l_21, l_24, l_25, l_26, l_27, l_31, l_33, l_41, l_65, l_67, l_71, l_84, l_120, l_127, l_128, l_130, l_160, l_162, l_200, l_255, l_256, l_999, l_1000, l_8000, l_9999, l_10000, l_8001, l_m1, nI_add, x1, x2, c1, t_k214 hS1, m1, t_k214 hS2, t1, bd2_some, bdx_inl, bdx_inr, bdc_inl, bdc_inr, obd_some, ↓reduceIte]
theorem J_allele (hI : zLw z s S) (x1 : ptX g (nI (j + 1)) = some a1) (x2 : ptX g (nI (j + 2)) = some a2) (x3 : ptX g (nI (j + 3)) = some a3) : ∃ s' S', zLw z s' S' ∧ F_L_law_J284 g K z (z + 214) (z + 220) (z + 221) (nI j) S = K z (z + 214) (z + 220) (z + 221) (nI (j + 5)) S' := by
  obtain ⟨S1, c1, c2, c3, c4⟩ := C_allele (b := ((a1.toInt64 <<< ((32 : Int32).toInt64 &&& 63)) ||| (a2.toInt64 &&& (4294967295 : Int64)))) (n := a3) hI.1 hI.2.1
  obtain ⟨S2, m1, m2, m3, m4⟩ := M_allele (b := ((a1.toInt64 <<< ((32 : Int32).toInt64 &&& 63)) ||| (a2.toInt64 &&& (4294967295 : Int64)))) (n := a3) hI.1 (zMo_Cf hI.2.2 c3)
  have hx : xOk (o_allele s ((a1.toInt64 <<< ((32 : Int32).toInt64 &&& 63)) ||| (a2.toInt64 &&& (4294967295 : Int64))) a3).2.2 := X_allele hI.1
  refine ⟨_, S2, ⟨hx, zCl_Fr hx c2 m3, m2⟩, ?_⟩
  have hS1 := c3.1
  have hS2 := m2.1
  have t1 := m_thrown hS2
  rw [m4] at t1
  by_cases c : (o_allele s ((a1.toInt64 <<< ((32 : Int32).toInt64 &&& 63)) ||| (a2.toInt64 &&& (4294967295 : Int64))) a3).1 = nI 0
  · have aj := t_aJ hS2
    rw [zFr_J m3, c4 c] at aj
    rw [c] at c1 t1
    simp only [F_L_law_J284, F_L_law_J381, F_L_law_J1331, l_0, l_1, l_2, l_3, l_4, l_5, l_6, l_7, l_8, l_9, l_10, l_11, l_12, l_13, l_14, l_15, l_16, l_17, l_18, l_19, l_20, l_21, l_24, l_25, l_26, l_27, l_31, l_33, l_41, l_65, l_67, l_71, l_84, l_120, l_127, l_128, l_130, l_160, l_162, l_200, l_255, l_256, l_999, l_1000, l_8000, l_9999, l_10000, l_8001, l_m1, nI_add, x1, x2, x3, c1, t_k214 hS1, m1, t_k214 hS2, t1, aj, lg_self', bd2_some, bdx_inl, bdx_inr, bdc_inl, bdc_inr, obd_some, ↓reduceIte]
  · simp only [F_L_law_J284, F_L_law_J381, F_L_law_J1331, l_0, l_1, l_2, l_3, l_4, l_5, l_6, l_7, l_8, l_9, l_10, l_11, l_12, l_13, l_14, l_15, l_16, l_17, l_18, l_19, l_20, l_21, l_24, l_25, l_26, l_27, l_31, l_33, l_41, l_65, l_67, l_71, l_84, l_120, l_127, l_128, l_130, l_160, l_162, l_200, l_255, l_256, l_999, l_1000, l_8000, l_9999, l_10000, l_8001, l_m1, nI_add, x1, x2, x3, c1, t_k214 hS1, m1, t_k214 hS2, t1, c, bd2_some, bdx_inl, bdx_inr, bdc_inl, bdc_inr, obd_some, ↓reduceIte]
theorem J_depth (hI : zLw z s S) (x1 : ptX g (nI (j + 1)) = some a1) (x2 : ptX g (nI (j + 2)) = some a2) (x3 : ptX g (nI (j + 3)) = some a3) : ∃ s' S', zLw z s' S' ∧ F_L_law_J384 g K z (z + 214) (z + 220) (z + 221) (nI j) S = K z (z + 214) (z + 220) (z + 221) (nI (j + 5)) S' := by
  obtain ⟨S1, c1, c2, c3⟩ := C_depth (a := a1) (d := a2) (q := a3) hI.1 hI.2.1
  obtain ⟨S2, m1, m2, m3, m4⟩ := M_depth (a' := a1) (d' := a2) (q' := a3) hI.1 (zMo_Cf hI.2.2 c3)
  have hx : xOk (o_depth s a1 a2 a3).2 := X_depth hI.1
  refine ⟨_, S2, ⟨hx, zCl_Fr hx c2 m3, m2⟩, ?_⟩
  have hS1 := c3.1
  have hS2 := m2.1
  have t1 := m_thrown hS2
  rw [m4] at t1
  simp only [F_L_law_J384, F_L_law_J1331, l_0, l_1, l_2, l_3, l_4, l_5, l_6, l_7, l_8, l_9, l_10, l_11, l_12, l_13, l_14, l_15, l_16, l_17, l_18, l_19, l_20, l_21, l_24, l_25, l_26, l_27, l_31, l_33, l_41, l_65, l_67, l_71, l_84, l_120, l_127, l_128, l_130, l_160, l_162, l_200, l_255, l_256, l_999, l_1000, l_8000, l_9999, l_10000, l_8001, l_m1, nI_add, x1, x2, x3, c1, t_k214 hS1, m1, t_k214 hS2, t1, bd2_some, bdx_inl, bdx_inr, bdc_inl, bdc_inr, obd_some, ↓reduceIte]
theorem J_likelihood (hI : zLw z s S) (x1 : ptX g (nI (j + 1)) = some a1) (x2 : ptX g (nI (j + 2)) = some a2) (x3 : ptX g (nI (j + 3)) = some a3) : ∃ s' S', zLw z s' S' ∧ F_L_law_J532 g K z (z + 214) (z + 220) (z + 221) (nI j) S = K z (z + 214) (z + 220) (z + 221) (nI (j + 5)) S' := by
  obtain ⟨S1, c1, c2, c3⟩ := C_likelihood (m := a1) (i := a2) (q := a3) hI.1 hI.2.1
  obtain ⟨S2, m1, m2, m3, m4⟩ := M_likelihood (m := a1) (i := a2) (x := a3) hI.1 (zMo_Cf hI.2.2 c3)
  have hx : xOk (o_likelihood s a1 a2 a3).2 := X_likelihood hI.1
  refine ⟨_, S2, ⟨hx, zCl_Fr hx c2 m3, m2⟩, ?_⟩
  have hS1 := c3.1
  have hS2 := m2.1
  have t1 := m_thrown hS2
  rw [m4] at t1
  simp only [F_L_law_J532, F_L_law_J1331, l_0, l_1, l_2, l_3, l_4, l_5, l_6, l_7, l_8, l_9, l_10, l_11, l_12, l_13, l_14, l_15, l_16, l_17, l_18, l_19, l_20, l_21, l_24, l_25, l_26, l_27, l_31, l_33, l_41, l_65, l_67, l_71, l_84, l_120, l_127, l_128, l_130, l_160, l_162, l_200, l_255, l_256, l_999, l_1000, l_8000, l_9999, l_10000, l_8001, l_m1, nI_add, x1, x2, x3, c1, t_k214 hS1, m1, t_k214 hS2, t1, bd2_some, bdx_inl, bdx_inr, bdc_inl, bdc_inr, obd_some, ↓reduceIte]
theorem J_add (hI : zLw z s S)  : ∃ s' S', zLw z s' S' ∧ F_L_law_J592 g K z (z + 214) (z + 220) (z + 221) (nI j) S = K z (z + 214) (z + 220) (z + 221) (nI (j + 5)) S' := by
  obtain ⟨S1, c1, c2, c3, c4⟩ := C_add  hI.1 hI.2.1
  obtain ⟨S2, m1, m2, m3, m4⟩ := M_add  hI.1 (zMo_Cf hI.2.2 c3)
  have hx : xOk (o_add s ).2.2 := X_add hI.1
  refine ⟨_, S2, ⟨hx, zCl_Fr hx c2 m3, m2⟩, ?_⟩
  have hS1 := c3.1
  have hS2 := m2.1
  have t1 := m_thrown hS2
  rw [m4] at t1
  by_cases c : (o_add s ).1 = nI 0
  · have aj := t_aJ hS2
    rw [zFr_J m3, c4 c] at aj
    rw [c] at c1 t1
    simp only [F_L_law_J592, F_L_law_J633, F_L_law_J1331, l_0, l_1, l_2, l_3, l_4, l_5, l_6, l_7, l_8, l_9, l_10, l_11, l_12, l_13, l_14, l_15, l_16, l_17, l_18, l_19, l_20, l_21, l_24, l_25, l_26, l_27, l_31, l_33, l_41, l_65, l_67, l_71, l_84, l_120, l_127, l_128, l_130, l_160, l_162, l_200, l_255, l_256, l_999, l_1000, l_8000, l_9999, l_10000, l_8001, l_m1, nI_add, c1, t_k214 hS1, m1, t_k214 hS2, t1, aj, lg_self', bd2_some, bdx_inl, bdx_inr, bdc_inl, bdc_inr, obd_some, ↓reduceIte]
  · simp only [F_L_law_J592, F_L_law_J633, F_L_law_J1331, l_0, l_1, l_2, l_3, l_4, l_5, l_6, l_7, l_8, l_9, l_10, l_11, l_12, l_13, l_14, l_15, l_16, l_17, l_18, l_19, l_20, l_21, l_24, l_25, l_26, l_27, l_31, l_33, l_41, l_65, l_67, l_71, l_84, l_120, l_127, l_128, l_130, l_160, l_162, l_200, l_255, l_256, l_999, l_1000, l_8000, l_9999, l_10000, l_8001, l_m1, nI_add, c1, t_k214 hS1, m1, t_k214 hS2, t1, c, bd2_some, bdx_inl, bdx_inr, bdc_inl, bdc_inr, obd_some, ↓reduceIte]
theorem J_remove (hI : zLw z s S) (x1 : ptX g (nI (j + 1)) = some a1) : ∃ s' S', zLw z s' S' ∧ F_L_law_J636 g K z (z + 214) (z + 220) (z + 221) (nI j) S = K z (z + 214) (z + 220) (z + 221) (nI (j + 5)) S' := by
  obtain ⟨S1, c1, c2, c3⟩ := C_remove (i := a1) hI.1 hI.2.1
  obtain ⟨S2, m1, m2, m3, m4⟩ := M_remove (i := a1) hI.1 (zMo_Cf hI.2.2 c3)
  have hx : xOk (o_remove s a1).2 := X_remove hI.1
  refine ⟨_, S2, ⟨hx, zCl_Fr hx c2 m3, m2⟩, ?_⟩
  have hS1 := c3.1
  have hS2 := m2.1
  have t1 := m_thrown hS2
  rw [m4] at t1
  simp only [F_L_law_J636, F_L_law_J1331, l_0, l_1, l_2, l_3, l_4, l_5, l_6, l_7, l_8, l_9, l_10, l_11, l_12, l_13, l_14, l_15, l_16, l_17, l_18, l_19, l_20, l_21, l_24, l_25, l_26, l_27, l_31, l_33, l_41, l_65, l_67, l_71, l_84, l_120, l_127, l_128, l_130, l_160, l_162, l_200, l_255, l_256, l_999, l_1000, l_8000, l_9999, l_10000, l_8001, l_m1, nI_add, x1, c1, t_k214 hS1, m1, t_k214 hS2, t1, bd2_some, bdx_inl, bdx_inr, bdc_inl, bdc_inr, obd_some, ↓reduceIte]
theorem J_normalise (hI : zLw z s S) (x1 : ptX g (nI (j + 1)) = some a1) : ∃ s' S', zLw z s' S' ∧ F_L_law_J672 g K z (z + 214) (z + 220) (z + 221) (nI j) S = K z (z + 214) (z + 220) (z + 221) (nI (j + 5)) S' := by
  obtain ⟨S1, c1, c2, c3, c4⟩ := C_normalise (i := a1) hI.1 hI.2.1
  obtain ⟨S2, m1, m2, m3, m4⟩ := M_normalise (i := a1) hI.1 (zMo_Cf hI.2.2 c3)
  have hx : xOk (o_normalise s a1).2.2 := X_normalise hI.1
  refine ⟨_, S2, ⟨hx, zCl_Fr hx c2 m3, m2⟩, ?_⟩
  have hS1 := c3.1
  have hS2 := m2.1
  have t1 := m_thrown hS2
  rw [m4] at t1
  by_cases c : (o_normalise s a1).1 = nI 0
  · have aj := t_aJ hS2
    rw [zFr_J m3, c4 c] at aj
    rw [c] at c1 t1
    simp only [F_L_law_J672, F_L_law_J725, F_L_law_J1331, l_0, l_1, l_2, l_3, l_4, l_5, l_6, l_7, l_8, l_9, l_10, l_11, l_12, l_13, l_14, l_15, l_16, l_17, l_18, l_19, l_20, l_21, l_24, l_25, l_26, l_27, l_31, l_33, l_41, l_65, l_67, l_71, l_84, l_120, l_127, l_128, l_130, l_160, l_162, l_200, l_255, l_256, l_999, l_1000, l_8000, l_9999, l_10000, l_8001, l_m1, nI_add, x1, c1, t_k214 hS1, m1, t_k214 hS2, t1, aj, lg_self', bd2_some, bdx_inl, bdx_inr, bdc_inl, bdc_inr, obd_some, ↓reduceIte]
  · simp only [F_L_law_J672, F_L_law_J725, F_L_law_J1331, l_0, l_1, l_2, l_3, l_4, l_5, l_6, l_7, l_8, l_9, l_10, l_11, l_12, l_13, l_14, l_15, l_16, l_17, l_18, l_19, l_20, l_21, l_24, l_25, l_26, l_27, l_31, l_33, l_41, l_65, l_67, l_71, l_84, l_120, l_127, l_128, l_130, l_160, l_162, l_200, l_255, l_256, l_999, l_1000, l_8000, l_9999, l_10000, l_8001, l_m1, nI_add, x1, c1, t_k214 hS1, m1, t_k214 hS2, t1, c, bd2_some, bdx_inl, bdx_inr, bdc_inl, bdc_inr, obd_some, ↓reduceIte]
theorem J_split (hI : zLw z s S) (x1 : ptX g (nI (j + 1)) = some a1) : ∃ s' S', zLw z s' S' ∧ F_L_law_J728 g K z (z + 214) (z + 220) (z + 221) (nI j) S = K z (z + 214) (z + 220) (z + 221) (nI (j + 5)) S' := by
  obtain ⟨S1, c1, c2, c3, c4⟩ := C_split (i := a1) hI.1 hI.2.1
  obtain ⟨S2, m1, m2, m3, m4⟩ := M_split (i := a1) hI.1 (zMo_Cf hI.2.2 c3)
  have hx : xOk (o_split s a1).2.2 := X_split hI.1
  refine ⟨_, S2, ⟨hx, zCl_Fr hx c2 m3, m2⟩, ?_⟩
  have hS1 := c3.1
  have hS2 := m2.1
  have t1 := m_thrown hS2
  rw [m4] at t1
  by_cases c : (o_split s a1).1 = nI 0
  · have aj := t_aJ hS2
    rw [zFr_J m3, c4 c] at aj
    rw [c] at c1 t1
    simp only [F_L_law_J728, F_L_law_J781, F_L_law_J1331, l_0, l_1, l_2, l_3, l_4, l_5, l_6, l_7, l_8, l_9, l_10, l_11, l_12, l_13, l_14, l_15, l_16, l_17, l_18, l_19, l_20, l_21, l_24, l_25, l_26, l_27, l_31, l_33, l_41, l_65, l_67, l_71, l_84, l_120, l_127, l_128, l_130, l_160, l_162, l_200, l_255, l_256, l_999, l_1000, l_8000, l_9999, l_10000, l_8001, l_m1, nI_add, x1, c1, t_k214 hS1, m1, t_k214 hS2, t1, aj, lg_self', bd2_some, bdx_inl, bdx_inr, bdc_inl, bdc_inr, obd_some, ↓reduceIte]
  · simp only [F_L_law_J728, F_L_law_J781, F_L_law_J1331, l_0, l_1, l_2, l_3, l_4, l_5, l_6, l_7, l_8, l_9, l_10, l_11, l_12, l_13, l_14, l_15, l_16, l_17, l_18, l_19, l_20, l_21, l_24, l_25, l_26, l_27, l_31, l_33, l_41, l_65, l_67, l_71, l_84, l_120, l_127, l_128, l_130, l_160, l_162, l_200, l_255, l_256, l_999, l_1000, l_8000, l_9999, l_10000, l_8001, l_m1, nI_add, x1, c1, t_k214 hS1, m1, t_k214 hS2, t1, c, bd2_some, bdx_inl, bdx_inr, bdc_inl, bdc_inr, obd_some, ↓reduceIte]
theorem J_join (hI : zLw z s S) (x1 : ptX g (nI (j + 1)) = some a1) : ∃ s' S', zLw z s' S' ∧ F_L_law_J784 g K z (z + 214) (z + 220) (z + 221) (nI j) S = K z (z + 214) (z + 220) (z + 221) (nI (j + 5)) S' := by
  obtain ⟨S1, c1, c2, c3⟩ := C_join (i := a1) hI.1 hI.2.1
  obtain ⟨S2, m1, m2, m3, m4⟩ := M_join (i := a1) hI.1 (zMo_Cf hI.2.2 c3)
  have hx : xOk (o_join s a1).2 := X_join hI.1
  refine ⟨_, S2, ⟨hx, zCl_Fr hx c2 m3, m2⟩, ?_⟩
  have hS1 := c3.1
  have hS2 := m2.1
  have t1 := m_thrown hS2
  rw [m4] at t1
  simp only [F_L_law_J784, F_L_law_J1331, l_0, l_1, l_2, l_3, l_4, l_5, l_6, l_7, l_8, l_9, l_10, l_11, l_12, l_13, l_14, l_15, l_16, l_17, l_18, l_19, l_20, l_21, l_24, l_25, l_26, l_27, l_31, l_33, l_41, l_65, l_67, l_71, l_84, l_120, l_127, l_128, l_130, l_160, l_162, l_200, l_255, l_256, l_999, l_1000, l_8000, l_9999, l_10000, l_8001, l_m1, nI_add, x1, c1, t_k214 hS1, m1, t_k214 hS2, t1, bd2_some, bdx_inl, bdx_inr, bdc_inl, bdc_inr, obd_some, ↓reduceIte]
theorem J_written (hI : zLw z s S) (x1 : ptX g (nI (j + 1)) = some a1) (x2 : ptX g (nI (j + 2)) = some a2) : ∃ s' S', zLw z s' S' ∧ F_L_law_J820 g K z (z + 214) (z + 220) (z + 221) (nI j) S = K z (z + 214) (z + 220) (z + 221) (nI (j + 5)) S' := by
  obtain ⟨S1, c1, c2, c3, c4⟩ := C_written (i := a1) (j := a2) hI.1 hI.2.1
  obtain ⟨S2, m1, m2, m3, m4⟩ := M_written (i := a1) (j := a2) hI.1 (zMo_Cf hI.2.2 c3)
  have hx : xOk s := hI.1
  refine ⟨_, S2, ⟨hx, zCl_Fr hx c2 m3, m2⟩, ?_⟩
  have hS1 := c3.1
  have hS2 := m2.1
  have t1 := m_thrown hS2
  rw [m4] at t1
  by_cases c : (o_written s a1 a2).1 = nI 0
  · have aj := t_aJ hS2
    rw [zFr_J m3, c4 c] at aj
    rw [c] at c1 t1
    simp only [F_L_law_J820, F_L_law_J885, F_L_law_J1331, l_0, l_1, l_2, l_3, l_4, l_5, l_6, l_7, l_8, l_9, l_10, l_11, l_12, l_13, l_14, l_15, l_16, l_17, l_18, l_19, l_20, l_21, l_24, l_25, l_26, l_27, l_31, l_33, l_41, l_65, l_67, l_71, l_84, l_120, l_127, l_128, l_130, l_160, l_162, l_200, l_255, l_256, l_999, l_1000, l_8000, l_9999, l_10000, l_8001, l_m1, nI_add, x1, x2, c1, t_k214 hS1, m1, t_k214 hS2, t1, aj, lg_self', bd2_some, bdx_inl, bdx_inr, bdc_inl, bdc_inr, obd_some, ↓reduceIte]
  · simp only [F_L_law_J820, F_L_law_J885, F_L_law_J1331, l_0, l_1, l_2, l_3, l_4, l_5, l_6, l_7, l_8, l_9, l_10, l_11, l_12, l_13, l_14, l_15, l_16, l_17, l_18, l_19, l_20, l_21, l_24, l_25, l_26, l_27, l_31, l_33, l_41, l_65, l_67, l_71, l_84, l_120, l_127, l_128, l_130, l_160, l_162, l_200, l_255, l_256, l_999, l_1000, l_8000, l_9999, l_10000, l_8001, l_m1, nI_add, x1, x2, c1, t_k214 hS1, m1, t_k214 hS2, t1, c, bd2_some, bdx_inl, bdx_inr, bdc_inl, bdc_inr, obd_some, ↓reduceIte]
theorem J_type (hI : zLw z s S) (x1 : ptX g (nI (j + 1)) = some a1) (x2 : ptX g (nI (j + 2)) = some a2) (x3 : ptX g (nI (j + 3)) = some a3) : ∃ s' S', zLw z s' S' ∧ F_L_law_J888 g K z (z + 214) (z + 220) (z + 221) (nI j) S = K z (z + 214) (z + 220) (z + 221) (nI (j + 5)) S' := by
  obtain ⟨S1, c1, c2, c3⟩ := C_type (b := ((a1.toInt64 <<< ((32 : Int32).toInt64 &&& 63)) ||| (a2.toInt64 &&& (4294967295 : Int64)))) (n := a3) hI.1 hI.2.1
  obtain ⟨S2, m1, m2, m3, m4⟩ := M_type (b := ((a1.toInt64 <<< ((32 : Int32).toInt64 &&& 63)) ||| (a2.toInt64 &&& (4294967295 : Int64)))) (n := a3) hI.1 (zMo_Cf hI.2.2 c3)
  have hx : xOk (o_type s ((a1.toInt64 <<< ((32 : Int32).toInt64 &&& 63)) ||| (a2.toInt64 &&& (4294967295 : Int64))) a3).2 := X_type hI.1
  refine ⟨_, S2, ⟨hx, zCl_Fr hx c2 m3, m2⟩, ?_⟩
  have hS1 := c3.1
  have hS2 := m2.1
  have t1 := m_thrown hS2
  rw [m4] at t1
  simp only [F_L_law_J888, F_L_law_J1331, l_0, l_1, l_2, l_3, l_4, l_5, l_6, l_7, l_8, l_9, l_10, l_11, l_12, l_13, l_14, l_15, l_16, l_17, l_18, l_19, l_20, l_21, l_24, l_25, l_26, l_27, l_31, l_33, l_41, l_65, l_67, l_71, l_84, l_120, l_127, l_128, l_130, l_160, l_162, l_200, l_255, l_256, l_999, l_1000, l_8000, l_9999, l_10000, l_8001, l_m1, nI_add, x1, x2, x3, c1, t_k214 hS1, m1, t_k214 hS2, t1, bd2_some, bdx_inl, bdx_inr, bdc_inl, bdc_inr, obd_some, ↓reduceIte]
theorem J_read (hI : zLw z s S)  : ∃ s' S', zLw z s' S' ∧ F_L_law_J968 g K z (z + 214) (z + 220) (z + 221) (nI j) S = K z (z + 214) (z + 220) (z + 221) (nI (j + 5)) S' := by
  obtain ⟨S1, c1, c2, c3, c4⟩ := C_read  hI.1 hI.2.1
  obtain ⟨S2, m1, m2, m3, m4⟩ := M_read  hI.1 (zMo_Cf hI.2.2 c3)
  have hx : xOk (o_read s ).2.2 := X_read hI.1
  refine ⟨_, S2, ⟨hx, zCl_Fr hx c2 m3, m2⟩, ?_⟩
  have hS1 := c3.1
  have hS2 := m2.1
  have t1 := m_thrown hS2
  rw [m4] at t1
  by_cases c : (o_read s ).1 = nI 0
  · have aj := t_aJ hS2
    rw [zFr_J m3, c4 c] at aj
    rw [c] at c1 t1
    simp only [F_L_law_J968, F_L_law_J1009, F_L_law_J1331, l_0, l_1, l_2, l_3, l_4, l_5, l_6, l_7, l_8, l_9, l_10, l_11, l_12, l_13, l_14, l_15, l_16, l_17, l_18, l_19, l_20, l_21, l_24, l_25, l_26, l_27, l_31, l_33, l_41, l_65, l_67, l_71, l_84, l_120, l_127, l_128, l_130, l_160, l_162, l_200, l_255, l_256, l_999, l_1000, l_8000, l_9999, l_10000, l_8001, l_m1, nI_add, c1, t_k214 hS1, m1, t_k214 hS2, t1, aj, lg_self', bd2_some, bdx_inl, bdx_inr, bdc_inl, bdc_inr, obd_some, ↓reduceIte]
  · simp only [F_L_law_J968, F_L_law_J1009, F_L_law_J1331, l_0, l_1, l_2, l_3, l_4, l_5, l_6, l_7, l_8, l_9, l_10, l_11, l_12, l_13, l_14, l_15, l_16, l_17, l_18, l_19, l_20, l_21, l_24, l_25, l_26, l_27, l_31, l_33, l_41, l_65, l_67, l_71, l_84, l_120, l_127, l_128, l_130, l_160, l_162, l_200, l_255, l_256, l_999, l_1000, l_8000, l_9999, l_10000, l_8001, l_m1, nI_add, c1, t_k214 hS1, m1, t_k214 hS2, t1, c, bd2_some, bdx_inl, bdx_inr, bdc_inl, bdc_inr, obd_some, ↓reduceIte]
theorem J_about (hI : zLw z s S) (x1 : ptX g (nI (j + 1)) = some a1) (x2 : ptX g (nI (j + 2)) = some a2) : ∃ s' S', zLw z s' S' ∧ F_L_law_J1025 g K z (z + 214) (z + 220) (z + 221) (nI j) S = K z (z + 214) (z + 220) (z + 221) (nI (j + 5)) S' := by
  obtain ⟨S1, c1, c2, c3, c4⟩ := C_about (i := a1) (w := a2) hI.1 hI.2.1
  obtain ⟨S2, m1, m2, m3, m4⟩ := M_about (i := a1) (w := a2) hI.1 (zMo_Cf hI.2.2 c3)
  have hx : xOk s := hI.1
  refine ⟨_, S2, ⟨hx, zCl_Fr hx c2 m3, m2⟩, ?_⟩
  have hS1 := c3.1
  have hS2 := m2.1
  have t1 := m_thrown hS2
  rw [m4] at t1
  by_cases c : (o_about s a1 a2).1 = nI 0
  · have aj := t_aJ hS2
    rw [zFr_J m3, c4 c] at aj
    rw [c] at c1 t1
    simp only [F_L_law_J1025, F_L_law_J1090, F_L_law_J1331, l_0, l_1, l_2, l_3, l_4, l_5, l_6, l_7, l_8, l_9, l_10, l_11, l_12, l_13, l_14, l_15, l_16, l_17, l_18, l_19, l_20, l_21, l_24, l_25, l_26, l_27, l_31, l_33, l_41, l_65, l_67, l_71, l_84, l_120, l_127, l_128, l_130, l_160, l_162, l_200, l_255, l_256, l_999, l_1000, l_8000, l_9999, l_10000, l_8001, l_m1, nI_add, x1, x2, c1, t_k214 hS1, m1, t_k214 hS2, t1, aj, lg_self', bd2_some, bdx_inl, bdx_inr, bdc_inl, bdc_inr, obd_some, ↓reduceIte]
  · simp only [F_L_law_J1025, F_L_law_J1090, F_L_law_J1331, l_0, l_1, l_2, l_3, l_4, l_5, l_6, l_7, l_8, l_9, l_10, l_11, l_12, l_13, l_14, l_15, l_16, l_17, l_18, l_19, l_20, l_21, l_24, l_25, l_26, l_27, l_31, l_33, l_41, l_65, l_67, l_71, l_84, l_120, l_127, l_128, l_130, l_160, l_162, l_200, l_255, l_256, l_999, l_1000, l_8000, l_9999, l_10000, l_8001, l_m1, nI_add, x1, x2, c1, t_k214 hS1, m1, t_k214 hS2, t1, c, bd2_some, bdx_inl, bdx_inr, bdc_inl, bdc_inr, obd_some, ↓reduceIte]
theorem J_base (hI : zLw z s S) (x1 : ptX g (nI (j + 1)) = some a1) (x2 : ptX g (nI (j + 2)) = some a2) (x3 : ptX g (nI (j + 3)) = some a3) : ∃ s' S', zLw z s' S' ∧ F_L_law_J1093 g K z (z + 214) (z + 220) (z + 221) (nI j) S = K z (z + 214) (z + 220) (z + 221) (nI (j + 5)) S' := by
  obtain ⟨S1, c1, c2, c3, c4⟩ := C_base (i := a1) (a := a2) (j := a3) hI.1 hI.2.1
  obtain ⟨S2, m1, m2, m3, m4⟩ := M_base (i := a1) (a := a2) (j := a3) hI.1 (zMo_Cf hI.2.2 c3)
  have hx : xOk s := hI.1
  refine ⟨_, S2, ⟨hx, zCl_Fr hx c2 m3, m2⟩, ?_⟩
  have hS1 := c3.1
  have hS2 := m2.1
  have t1 := m_thrown hS2
  rw [m4] at t1
  by_cases c : (o_base s a1 a2 a3).1 = nI 0
  · have aj := t_aJ hS2
    rw [zFr_J m3, c4 c] at aj
    rw [c] at c1 t1
    simp only [F_L_law_J1093, F_L_law_J1170, F_L_law_J1331, l_0, l_1, l_2, l_3, l_4, l_5, l_6, l_7, l_8, l_9, l_10, l_11, l_12, l_13, l_14, l_15, l_16, l_17, l_18, l_19, l_20, l_21, l_24, l_25, l_26, l_27, l_31, l_33, l_41, l_65, l_67, l_71, l_84, l_120, l_127, l_128, l_130, l_160, l_162, l_200, l_255, l_256, l_999, l_1000, l_8000, l_9999, l_10000, l_8001, l_m1, nI_add, x1, x2, x3, c1, t_k214 hS1, m1, t_k214 hS2, t1, aj, lg_self', bd2_some, bdx_inl, bdx_inr, bdc_inl, bdc_inr, obd_some, ↓reduceIte]
  · simp only [F_L_law_J1093, F_L_law_J1170, F_L_law_J1331, l_0, l_1, l_2, l_3, l_4, l_5, l_6, l_7, l_8, l_9, l_10, l_11, l_12, l_13, l_14, l_15, l_16, l_17, l_18, l_19, l_20, l_21, l_24, l_25, l_26, l_27, l_31, l_33, l_41, l_65, l_67, l_71, l_84, l_120, l_127, l_128, l_130, l_160, l_162, l_200, l_255, l_256, l_999, l_1000, l_8000, l_9999, l_10000, l_8001, l_m1, nI_add, x1, x2, x3, c1, t_k214 hS1, m1, t_k214 hS2, t1, c, bd2_some, bdx_inl, bdx_inr, bdc_inl, bdc_inr, obd_some, ↓reduceIte]
theorem J_found (hI : zLw z s S) (x1 : ptX g (nI (j + 1)) = some a1) (x2 : ptX g (nI (j + 2)) = some a2) : ∃ s' S', zLw z s' S' ∧ F_L_law_J1173 g K z (z + 214) (z + 220) (z + 221) (nI j) S = K z (z + 214) (z + 220) (z + 221) (nI (j + 5)) S' := by
  obtain ⟨S1, c1, c2, c3, c4⟩ := C_found (b := a1) (e := a2) hI.1 hI.2.1
  obtain ⟨S2, m1, m2, m3, m4⟩ := M_found (b := a1) (e := a2) hI.1 (zMo_Cf hI.2.2 c3)
  have hx : xOk s := hI.1
  refine ⟨_, S2, ⟨hx, zCl_Fr hx c2 m3, m2⟩, ?_⟩
  have hS1 := c3.1
  have hS2 := m2.1
  have t1 := m_thrown hS2
  rw [m4] at t1
  by_cases c : (o_found s a1 a2).1 = nI 0
  · have aj := t_aJ hS2
    rw [zFr_J m3, c4 c] at aj
    rw [c] at c1 t1
    simp only [F_L_law_J1173, F_L_law_J1238, F_L_law_J1331, l_0, l_1, l_2, l_3, l_4, l_5, l_6, l_7, l_8, l_9, l_10, l_11, l_12, l_13, l_14, l_15, l_16, l_17, l_18, l_19, l_20, l_21, l_24, l_25, l_26, l_27, l_31, l_33, l_41, l_65, l_67, l_71, l_84, l_120, l_127, l_128, l_130, l_160, l_162, l_200, l_255, l_256, l_999, l_1000, l_8000, l_9999, l_10000, l_8001, l_m1, nI_add, x1, x2, c1, t_k214 hS1, m1, t_k214 hS2, t1, aj, lg_self', bd2_some, bdx_inl, bdx_inr, bdc_inl, bdc_inr, obd_some, ↓reduceIte]
  · simp only [F_L_law_J1173, F_L_law_J1238, F_L_law_J1331, l_0, l_1, l_2, l_3, l_4, l_5, l_6, l_7, l_8, l_9, l_10, l_11, l_12, l_13, l_14, l_15, l_16, l_17, l_18, l_19, l_20, l_21, l_24, l_25, l_26, l_27, l_31, l_33, l_41, l_65, l_67, l_71, l_84, l_120, l_127, l_128, l_130, l_160, l_162, l_200, l_255, l_256, l_999, l_1000, l_8000, l_9999, l_10000, l_8001, l_m1, nI_add, x1, x2, c1, t_k214 hS1, m1, t_k214 hS2, t1, c, bd2_some, bdx_inl, bdx_inr, bdc_inl, bdc_inr, obd_some, ↓reduceIte]
theorem J_records (hI : zLw z s S) : ∃ s' S', zLw z s' S' ∧ F_L_law_J1012 g K z (z + 214) (z + 220) (z + 221) (nI j) S = K z (z + 214) (z + 220) (z + 221) (nI (j + 5)) S' := by
  have c1 := C_records hI.2.1
  obtain ⟨S2, m1, m2, m3, m4⟩ := M_records hI.2.2
  have hS := hI.2.1.1
  refine ⟨s, S2, ⟨hI.1, zCl_Fr hI.1 hI.2.1 m3, m2⟩, ?_⟩
  simp only [F_L_law_J1012, F_L_law_J1331, l_0, l_1, l_2, l_3, l_4, l_5, l_6, l_7, l_8, l_9, l_10, l_11, l_12, l_13, l_14, l_15, l_16, l_17, l_18, l_19, l_20, l_21, l_24, l_25, l_26, l_27, l_31, l_33, l_41, l_65, l_67, l_71, l_84, l_120, l_127, l_128, l_130, l_160, l_162, l_200, l_255, l_256, l_999, l_1000, l_8000, l_9999, l_10000, l_8001, l_m1, nI_add, t_k0 hS, c1, t_k214 hS, m1, bd2_some, bdx_inl, bdx_inr, bdc_inl, bdc_inr, obd_some, ↓reduceIte]
theorem J_genotype (hI : zLw z s S) (x1 : ptX g (nI (j + 1)) = some a1) (x2 : ptX g (nI (j + 2)) = some a2) (x3 : ptX g (nI (j + 3)) = some a3) (x4 : ptX g (nI (j + 4)) = some a4) : ∃ s' S', zLw z s' S' ∧ F_L_law_J444 g K z (z + 214) (z + 220) (z + 221) (nI j) S = K z (z + 214) (z + 220) (z + 221) (nI (j + 5)) S' := by
  obtain ⟨p, hp, ep⟩ : ∃ p, zBo p ∧ p = if a4 = nI 0 then nI 0 else nI 1 := by
    refine ⟨_, ?_, rfl⟩
    split
    · exact zBo_0
    · exact zBo_1
  obtain ⟨S1, c1, c2, c3⟩ := C_genotype (m := a1) (f := a2) (g := a3) hp hI.1 hI.2.1
  obtain ⟨S2, m1, m2, m3, m4⟩ := M_genotype (m := a1) (f := a2) (g := a3) hp hI.1 (zMo_Cf hI.2.2 c3)
  have hx : xOk (o_genotype s a1 a2 a3 p).2 := X_genotype hp hI.1
  refine ⟨_, S2, ⟨hx, zCl_Fr hx c2 m3, m2⟩, ?_⟩
  have hS1 := c3.1
  have hS2 := m2.1
  have t1 := m_thrown hS2
  rw [m4] at t1
  by_cases c : a4 = nI 0
  · rw [if_pos c] at ep
    subst ep
    simp only [F_L_law_J444, F_L_law_J477, F_L_law_J515, F_L_law_J1331, l_0, l_1, l_2, l_3, l_4, l_5, l_6, l_7, l_8, l_9, l_10, l_11, l_12, l_13, l_14, l_15, l_16, l_17, l_18, l_19, l_20, l_21, l_24, l_25, l_26, l_27, l_31, l_33, l_41, l_65, l_67, l_71, l_84, l_120, l_127, l_128, l_130, l_160, l_162, l_200, l_255, l_256, l_999, l_1000, l_8000, l_9999, l_10000, l_8001, l_m1, nI_add, x1, x2, x3, x4, c, c1, t_k214 hS1, m1, t_k214 hS2, t1, bd2_some, bdx_inl, bdx_inr, bdc_inl, bdc_inr, obd_some, ↓reduceIte]
  · rw [if_neg c] at ep
    subst ep
    simp only [F_L_law_J444, F_L_law_J477, F_L_law_J515, F_L_law_J1331, l_0, l_1, l_2, l_3, l_4, l_5, l_6, l_7, l_8, l_9, l_10, l_11, l_12, l_13, l_14, l_15, l_16, l_17, l_18, l_19, l_20, l_21, l_24, l_25, l_26, l_27, l_31, l_33, l_41, l_65, l_67, l_71, l_84, l_120, l_127, l_128, l_130, l_160, l_162, l_200, l_255, l_256, l_999, l_1000, l_8000, l_9999, l_10000, l_8001, l_m1, nI_add, x1, x2, x3, x4, c, c1, t_k214 hS1, m1, t_k214 hS2, t1, bd2_some, bdx_inl, bdx_inr, bdc_inl, bdc_inr, obd_some, ↓reduceIte]
theorem J_mean (hI : zLw z s S) (x1 : ptX g (nI (j + 1)) = some a1) (x2 : ptX g (nI (j + 2)) = some a2) : ∃ s' S', zLw z s' S' ∧ F_L_law_J1241 g K z (z + 214) (z + 220) (z + 221) (nI j) S = K z (z + 214) (z + 220) (z + 221) (nI (j + 5)) S' := by
  obtain ⟨S1, c1, c2, c3, c4⟩ := C_mean (b := a1) (e := a2) hI.1 hI.2.1
  obtain ⟨S2, v, m1, m2, m3, m4, m5⟩ := M_mean (b := a1) (e := a2) hI.1 (zMo_Cf hI.2.2 c3)
  refine ⟨s, S2, ⟨hI.1, zCl_Fr hI.1 c2 m3, m2⟩, ?_⟩
  have hS1 := c3.1
  have hS2 := m2.1
  have t1 := m_thrown hS2
  rw [m4] at t1
  by_cases c : (o_mean s a1 a2).1 = nI 0
  · obtain ⟨c5, c6⟩ := c4 c
    have aj := t_aD hS2
    rw [zFr_D m3, c5] at aj
    rw [m5 c] at m1
    rw [c] at c1 t1
    have d1 := pf2d_p c6
    have d2 := dcmp_self c6
    have d2' : Op.cmpValue (FP.dcmp (FP.f2d (o_mean s a1 a2).2) (FP.f2d (o_mean s a1 a2).2)) .l = nI 0 := d2
    simp only [F_L_law_J1241, F_L_law_J1328, F_L_law_J1331, l_0, l_1, l_2, l_3, l_4, l_5, l_6, l_7, l_8, l_9, l_10, l_11, l_12, l_13, l_14, l_15, l_16, l_17, l_18, l_19, l_20, l_21, l_24, l_25, l_26, l_27, l_31, l_33, l_41, l_65, l_67, l_71, l_84, l_120, l_127, l_128, l_130, l_160, l_162, l_200, l_255, l_256, l_999, l_1000, l_8000, l_9999, l_10000, l_8001, l_m1, nI_add, x1, x2, c1, t_k214 hS1, m1, t_k214 hS2, t1, aj, d1, d2', bd2_some, bdx_inl, bdx_inr, bdc_inl, bdc_inr, obd_some, ↓reduceIte]
  · simp only [F_L_law_J1241, F_L_law_J1328, F_L_law_J1331, l_0, l_1, l_2, l_3, l_4, l_5, l_6, l_7, l_8, l_9, l_10, l_11, l_12, l_13, l_14, l_15, l_16, l_17, l_18, l_19, l_20, l_21, l_24, l_25, l_26, l_27, l_31, l_33, l_41, l_65, l_67, l_71, l_84, l_120, l_127, l_128, l_130, l_160, l_162, l_200, l_255, l_256, l_999, l_1000, l_8000, l_9999, l_10000, l_8001, l_m1, nI_add, x1, x2, c1, t_k214 hS1, m1, t_k214 hS2, t1, c, bd2_some, bdx_inl, bdx_inr, bdc_inl, bdc_inr, obd_some, ↓reduceIte]
theorem ptX_in {i : Nat} (h : i < g.2.2.2.2.1) (h2 : i < 2147483648) : ptX g (nI i) = some (g.2.2.2.2.2 i) := by
  unfold ptX
  rw [if_pos]
  · rw [show (nI i).toNatClampNeg = i from nI_clamp h2]
  · rintro (q | q)
    · exact absurd q (nI_nlt (b := 0) (Nat.zero_le _) h2)
    · rw [show (nI i).toNatClampNeg = i from nI_clamp h2] at q
      omega
theorem lt_sub5 {n i : Nat} (hn : n < 100000) (hi : i < 100000) : (nI n - nI 5 < nI i) ↔ n < i + 5 := by
  rw [Int32.lt_iff_toInt_lt, Int32.toInt_sub, nI_toInt (by omega), nI_toInt (by omega), nI_toInt (by omega), Int.bmod_def]
  split <;> omega
theorem law_L (hN : g.2.2.2.2.1 < 19000) : ∀ (m fu j : Nat) (s : As) (S : Mem), zLw z s S → g.2.2.2.2.1 < j + 5 * m + 5 → j ≤ g.2.2.2.2.1 → m < fu → F_L_law_L28 g fu z (z + 214) (z + 220) (z + 221) (nI j) S = some () := by
  intro m
  have end' : ∀ (fu j : Nat) (S : Mem), g.2.2.2.2.1 < j + 5 → j ≤ g.2.2.2.2.1 → F_L_law_L28 g (fu + 1) z (z + 214) (z + 220) (z + 221) (nI j) S = some () := by
    intro fu j S h1 h2
    have c : (Int32.ofNat g.2.2.2.2.1) - 5 < nI j := (lt_sub5 (by omega) (by omega)).mpr h1
    rw [F_L_law_L28, if_pos c]
  induction m with
  | zero =>
    intro fu j s S hI h1 h2 hf
    obtain ⟨fu, rfl⟩ : ∃ f, fu = f + 1 := ⟨fu - 1, by omega⟩
    exact end' fu j S (by omega) h2
  | succ m ih =>
    intro fu j s S hI h1 h2 hf
    obtain ⟨fu, rfl⟩ : ∃ f, fu = f + 1 := ⟨fu - 1, by omega⟩
    by_cases c : g.2.2.2.2.1 < j + 5
    · exact end' fu j S c h2
    have c' : ¬ (Int32.ofNat g.2.2.2.2.1) - 5 < nI j := fun q => c ((lt_sub5 (by omega) (by omega)).mp q)
    have x0 := ptX_in (g := g) (i := j) (by omega) (by omega)
    have x1 := ptX_in (g := g) (i := j + 1) (by omega) (by omega)
    have x2 := ptX_in (g := g) (i := j + 2) (by omega) (by omega)
    have x3 := ptX_in (g := g) (i := j + 3) (by omega) (by omega)
    have x4 := ptX_in (g := g) (i := j + 4) (by omega) (by omega)
    have nx : ∀ s' S', zLw z s' S' → F_L_law_L28 g fu z (z + 214) (z + 220) (z + 221) (nI (j + 5)) S' = some () := fun s' S' h => ih fu (j + 5) s' S' h (by omega) (by omega) (by omega)
    have go : ∀ {A : Option Unit}, (∃ s' S', zLw z s' S' ∧ A = F_L_law_L28 g fu z (z + 214) (z + 220) (z + 221) (nI (j + 5)) S') → A = some () := by
      rintro A ⟨s', S', h3, h4⟩
      rw [h4]
      exact nx s' S' h3
    rw [F_L_law_L28, if_neg c', x0, obd_some]

    by_cases e0 : g.2.2.2.2.2 j &&& 31 = 0
    · rw [if_pos e0]; exact go (J_reference hI x1 x2 x3)
    rw [if_neg e0]
    by_cases e1 : g.2.2.2.2.2 j &&& 31 = 1
    · rw [if_pos e1]; exact go (J_draft hI x1 x2)
    rw [if_neg e1]
    by_cases e2 : g.2.2.2.2.2 j &&& 31 = 2
    · rw [if_pos e2]; exact go (J_allele hI x1 x2 x3)
    rw [if_neg e2]
    by_cases e3 : g.2.2.2.2.2 j &&& 31 = 3
    · rw [if_pos e3]; exact go (J_depth hI x1 x2 x3)
    rw [if_neg e3]
    by_cases e4 : g.2.2.2.2.2 j &&& 31 = 4
    · rw [if_pos e4]; exact go (J_genotype hI x1 x2 x3 x4)
    rw [if_neg e4]
    by_cases e5 : g.2.2.2.2.2 j &&& 31 = 5
    · rw [if_pos e5]; exact go (J_likelihood hI x1 x2 x3)
    rw [if_neg e5]
    by_cases e6 : g.2.2.2.2.2 j &&& 31 = 6
    · rw [if_pos e6]; exact go (J_add hI )
    rw [if_neg e6]
    by_cases e7 : g.2.2.2.2.2 j &&& 31 = 7
    · rw [if_pos e7]; exact go (J_remove hI x1)
    rw [if_neg e7]
    by_cases e8 : g.2.2.2.2.2 j &&& 31 = 8
    · rw [if_pos e8]; exact go (J_normalise hI x1)
    rw [if_neg e8]
    by_cases e9 : g.2.2.2.2.2 j &&& 31 = 9
    · rw [if_pos e9]; exact go (J_split hI x1)
    rw [if_neg e9]
    by_cases e10 : g.2.2.2.2.2 j &&& 31 = 10
    · rw [if_pos e10]; exact go (J_join hI x1)
    rw [if_neg e10]
    by_cases e11 : g.2.2.2.2.2 j &&& 31 = 11
    · rw [if_pos e11]; exact go (J_written hI x1 x2)
    rw [if_neg e11]
    by_cases e12 : g.2.2.2.2.2 j &&& 31 = 12
    · rw [if_pos e12]; exact go (J_type hI x1 x2 x3)
    rw [if_neg e12]
    by_cases e13 : g.2.2.2.2.2 j &&& 31 = 13
    · rw [if_pos e13]; exact go (J_read hI )
    rw [if_neg e13]
    by_cases e14 : g.2.2.2.2.2 j &&& 31 = 14
    · rw [if_pos e14]; exact go (J_records hI )
    rw [if_neg e14]
    by_cases e15 : g.2.2.2.2.2 j &&& 31 = 15
    · rw [if_pos e15]; exact go (J_about hI x1 x2)
    rw [if_neg e15]
    by_cases e16 : g.2.2.2.2.2 j &&& 31 = 16
    · rw [if_pos e16]; exact go (J_base hI x1 x2 x3)
    rw [if_neg e16]
    by_cases e17 : g.2.2.2.2.2 j &&& 31 = 17
    · rw [if_pos e17]; exact go (J_found hI x1 x2)
    rw [if_neg e17]
    by_cases e18 : g.2.2.2.2.2 j &&& 31 = 18
    · rw [if_pos e18]; exact go (J_mean hI x1 x2)
    rw [if_neg e18]
    exact go ⟨s, S, hI, by unfold F_L_law_J1331; rw [show nI j + 5 = nI (j + 5) from nI_add j 5]⟩
end LW
