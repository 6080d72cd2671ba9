set_option maxRecDepth 20000
/-! The reference: rows of 41 numbers. -/
def zMw (z : Nat) (S S' : Mem) : Prop := zFr (z + 214) (z + 217) S S' ∧ mI S' (z + 215) = mI S (z + 215) ∧ ∀ q, q ≠ 4 → mI S' (z + 214) q = mI S (z + 214) q
def cpW (W : Nat → Int32) (a b : Nat) : Nat → Int32 := fun k => if 41 * b ≤ k ∧ k < 41 * b + 41 then W (41 * a + (k - 41 * b)) else W k
def emV (k : Nat) : Int32 := if k = 15 ∨ k = 16 ∨ k = 18 ∨ k = 19 then m1 else nI 0
section M1
variable {S S' S1 S2 : Mem} {z n a b i j k o o' : Nat} {r : Rc} {s : As} {x y : Int32} {W W' : Nat → Int32} {ls : List Rc}
theorem zMw_refl : zMw z S S := ⟨zFr_refl, rfl, fun _ _ => rfl⟩
theorem zMw_trans (h : zMw z S S1) (h' : zMw z S1 S2) : zMw z S S2 := ⟨zFr_trans h.1 h'.1, h'.2.1.trans h.2.1, fun q hq => (h'.2.2 q hq).trans (h.2.2 q hq)⟩
theorem zMw_sI (h : a = z + 216) : zMw z S (sI S a k x) := ⟨zFr_sI (by omega) (by omega), by rw [mI_sI_r, if_neg (by omega)], fun q _ => by rw [mI_sI_r, if_neg (by omega)]⟩
theorem zMw_sF {f : Nat → Int32} : zMw z S (sF S (z + 216) f) := ⟨zFr_sF (by omega) (by omega), by rw [mI_sF, if_neg (by omega)], fun q _ => by rw [mI_sF, if_neg (by omega)]⟩
theorem zMw_St (h : zMw z S S1) (hS : zSt z S) : zSt z S1 := zSt_Fr h.1 hS
theorem zMw_s4 : zMw z S (sI S (z + 214) 4 x) := ⟨zFr_sI (by omega) (by omega), by rw [mI_sI_r, if_neg (by omega)], fun q hq => by rw [mI_sI, if_neg (by omega)]⟩
theorem m_get (h : zSt z S) (hk : 41 * i + k < 1230) : F_X6_get (z + 214) (nI i) (nI k) S = some (mI S (z + 216) (41 * i + k), S) := by
  simp only [F_X6_get, l_0, l_1, l_2, l_3, l_4, l_5, l_6, l_7, l_8, l_9, l_10, l_11, l_12, l_13, l_14, l_15, l_16, l_17, l_18, l_19, l_20, l_21, l_24, l_25, l_26, l_27, l_31, l_33, l_41, l_65, l_67, l_71, l_84, l_120, l_127, l_128, l_130, l_160, l_162, l_200, l_255, l_256, l_999, l_1000, l_8000, l_9999, l_10000, l_8001, l_m1, t_r214_5 h, nI_mul, nI_add, t_a216 h hk, bd2_some, bdx_inl, bdx_inr, bdc_inl, bdc_inr, obd_some]
theorem m_put (h : zSt z S) (hk : 41 * i + k < 1230) : F_X6_put (z + 214) (nI i) (nI k) x S = some (sI S (z + 216) (41 * i + k) x) := by
  simp only [F_X6_put, l_0, l_1, l_2, l_3, l_4, l_5, l_6, l_7, l_8, l_9, l_10, l_11, l_12, l_13, l_14, l_15, l_16, l_17, l_18, l_19, l_20, l_21, l_24, l_25, l_26, l_27, l_31, l_33, l_41, l_65, l_67, l_71, l_84, l_120, l_127, l_128, l_130, l_160, l_162, l_200, l_255, l_256, l_999, l_1000, l_8000, l_9999, l_10000, l_8001, l_m1, t_r214_5 h, nI_mul, nI_add, t_s216 h hk, bd2_some, bdx_inl, bdx_inr, bdc_inl, bdc_inr, obd_some]
theorem m_th0 (h : zSt z S) : F_X6_throwing (z + 214) (nI 0) (nI 0) S = some (nI 0, sI S (z + 214) 0 (nI 0)) := by
  have c : nI 0 ≤ nI 0 := by decide
  simp only [F_X6_throwing, F_X6_throwing_J18, l_0, l_1, l_2, l_3, l_4, l_5, l_6, l_7, l_8, l_9, l_10, l_11, l_12, l_13, l_14, l_15, l_16, l_17, l_18, l_19, l_20, l_21, l_24, l_25, l_26, l_27, l_31, l_33, l_41, l_65, l_67, l_71, l_84, l_120, l_127, l_128, l_130, l_160, l_162, l_200, l_255, l_256, l_999, l_1000, l_8000, l_9999, l_10000, l_8001, l_m1, t_p214 h, t_g214 (show zSt z (sI S (z + 214) 0 (nI 0)) from h), mI_sI, and_self, c, bd2_some, bdx_inl, bdx_inr, bdc_inl, bdc_inr, obd_some, ↓reduceIte]
theorem m_th1 (h : zSt z S) : F_X6_throwing (z + 214) (nI 1) y S = some (nI 1, sI S (z + 214) 0 (nI 1)) := by
  have c : ¬ nI 1 ≤ nI 0 := by decide
  simp only [F_X6_throwing, F_X6_throwing_J18, l_0, l_1, l_2, l_3, l_4, l_5, l_6, l_7, l_8, l_9, l_10, l_11, l_12, l_13, l_14, l_15, l_16, l_17, l_18, l_19, l_20, l_21, l_24, l_25, l_26, l_27, l_31, l_33, l_41, l_65, l_67, l_71, l_84, l_120, l_127, l_128, l_130, l_160, l_162, l_200, l_255, l_256, l_999, l_1000, l_8000, l_9999, l_10000, l_8001, l_m1, ne10, t_p214 h, t_g214 (show zSt z (sI S (z + 214) 0 (nI 1)) from h), mI_sI, and_self, c, bd2_some, bdx_inl, bdx_inr, bdc_inl, bdc_inr, obd_some, ↓reduceIte]
theorem m_th2 (h : zSt z S) : F_X6_throwing (z + 214) (nI 0) (nI 1) S = some (nI 1, sI S (z + 214) 0 (nI 2)) := by
  have c : ¬ nI 2 ≤ nI 0 := by decide
  simp only [F_X6_throwing, F_X6_throwing_J18, l_0, l_1, l_2, l_3, l_4, l_5, l_6, l_7, l_8, l_9, l_10, l_11, l_12, l_13, l_14, l_15, l_16, l_17, l_18, l_19, l_20, l_21, l_24, l_25, l_26, l_27, l_31, l_33, l_41, l_65, l_67, l_71, l_84, l_120, l_127, l_128, l_130, l_160, l_162, l_200, l_255, l_256, l_999, l_1000, l_8000, l_9999, l_10000, l_8001, l_m1, ne10, t_p214 h, t_g214 (show zSt z (sI S (z + 214) 0 (nI 2)) from h), mI_sI, and_self, c, bd2_some, bdx_inl, bdx_inr, bdc_inl, bdc_inr, obd_some, ↓reduceIte]
theorem m_out : F_X6_out x y S = some (if x < nI 0 ∨ y ≤ x then nI 1 else nI 0, S) := by
  by_cases c1 : x < nI 0
  · simp only [F_X6_out, F_X6_out_J9, l_0, l_1, l_2, l_3, l_4, l_5, l_6, l_7, l_8, l_9, l_10, l_11, l_12, l_13, l_14, l_15, l_16, l_17, l_18, l_19, l_20, l_21, l_24, l_25, l_26, l_27, l_31, l_33, l_41, l_65, l_67, l_71, l_84, l_120, l_127, l_128, l_130, l_160, l_162, l_200, l_255, l_256, l_999, l_1000, l_8000, l_9999, l_10000, l_8001, l_m1, c1, true_or, ↓reduceIte]
  · by_cases c2 : y ≤ x
    · simp only [F_X6_out, F_X6_out_J9, l_0, l_1, l_2, l_3, l_4, l_5, l_6, l_7, l_8, l_9, l_10, l_11, l_12, l_13, l_14, l_15, l_16, l_17, l_18, l_19, l_20, l_21, l_24, l_25, l_26, l_27, l_31, l_33, l_41, l_65, l_67, l_71, l_84, l_120, l_127, l_128, l_130, l_160, l_162, l_200, l_255, l_256, l_999, l_1000, l_8000, l_9999, l_10000, l_8001, l_m1, c1, c2, Int32.not_lt.mpr c2, or_true, ↓reduceIte]
    · simp only [F_X6_out, F_X6_out_J9, l_0, l_1, l_2, l_3, l_4, l_5, l_6, l_7, l_8, l_9, l_10, l_11, l_12, l_13, l_14, l_15, l_16, l_17, l_18, l_19, l_20, l_21, l_24, l_25, l_26, l_27, l_31, l_33, l_41, l_65, l_67, l_71, l_84, l_120, l_127, l_128, l_130, l_160, l_162, l_200, l_255, l_256, l_999, l_1000, l_8000, l_9999, l_10000, l_8001, l_m1, c1, c2, Int32.not_le.mp c2, or_self, ↓reduceIte]
theorem zMR_of (hn : aN r ≤ 4) (h : ∀ k, k < 41 → W' (o' + k) = W (o + k)) (hr : zMR W o r) : zMR W' o' r := by
  obtain ⟨⟨h1, h2, h3⟩, h4, ⟨h5, h6, h7, h8⟩, ⟨h9, h10⟩, h11⟩ := hr
  have p10 := prs_le hn
  have h0 := h 0 (by omega)
  rw [Nat.add_zero, Nat.add_zero] at h0
  refine ⟨⟨?_, ?_, ?_⟩, fun i hi => ⟨?_, ?_, ?_⟩, ⟨?_, ?_, ?_, ?_⟩, ⟨?_, ?_⟩, fun i hi => ⟨?_, ?_⟩⟩
  · rw [h0]; exact h1
  · rw [h _ (by omega)]; exact h2
  · rw [h _ (by omega)]; exact h3
  · rw [h _ (by omega)]; exact (h4 i hi).1
  · rw [h _ (by omega)]; exact (h4 i hi).2.1
  · rw [h _ (by omega)]; exact (h4 i hi).2.2
  · rw [h _ (by omega)]; exact h5
  · rw [h _ (by omega)]; exact h6
  · rw [h _ (by omega)]; exact h7
  · rw [h _ (by omega)]; exact h8
  · rw [h _ (by omega)]; exact h9
  · rw [h _ (by omega)]; exact h10
  · rw [h _ (by omega)]; exact (h11 i hi).1
  · rw [h _ (by omega)]; exact (h11 i hi).2
theorem zMd_of {d : Bool} (hf : mI S' (z + 214) 3 = mI S (z + 214) 3) (h : ∀ k, k < 41 → mI S' (z + 216) (41 * 24 + k) = mI S (z + 216) (41 * 24 + k)) (hn : d = true → aN r ≤ 4) (hd : zMd z S d r) : zMd z S' d r := by
  refine ⟨by rw [hf]; exact hd.1, fun e => ?_⟩
  obtain ⟨h1, h2, h3⟩ := hd.2 e
  exact ⟨zMR_of (hn e) h h1, fun i hi => by rw [h _ (by omega)]; exact h2 i hi, fun i hi => by rw [h _ (by omega)]; exact h3 i hi⟩
theorem zMl_of (hf : mI S' (z + 214) 4 = mI S (z + 214) 4) (h : ∀ i k, i < ls.length → k < 41 → mI S' (z + 216) (41 * i + k) = mI S (z + 216) (41 * i + k)) (hn : ∀ r, r ∈ ls → aN r ≤ 4) (hd : zMl z S ls) : zMl z S' ls := by
  refine ⟨by rw [hf]; exact hd.1, fun i r e => ?_⟩
  exact zMR_of (hn r (List.mem_of_getElem? e)) (fun k hk => h i k (List.getElem?_eq_some_iff.mp e).1 hk) (hd.2 i r e)
theorem zMf_of {p : Nat} {rf : Nat → Nat} (hf : mI S' (z + 214) 2 = mI S (z + 214) 2) (h : mI S' (z + 215) = mI S (z + 215)) (hd : zMf z S p rf) : zMf z S' p rf := ⟨by rw [hf]; exact hd.1, fun i hi => by rw [h]; exact hd.2 i hi⟩
theorem zMt_of {t : List Nat} (hf : mI S' (z + 214) 9 = mI S (z + 214) 9) (h : mI S' (z + 218) = mI S (z + 218)) (hd : zMt z S t) : zMt z S' t := ⟨by rw [hf]; exact hd.1, fun i b hi => by rw [h]; exact hd.2 i b hi⟩
theorem n4_of (hs : xOk s) : ∀ r, r ∈ xL s → aN r ≤ 4 := fun r hr => (hs.2.2.2.1 r hr).1.2
theorem d4_of (hs : xOk s) : xD s = true → aN (xR s) ≤ 4 := fun e => (hs.2.2.1 e).1.2
/-- the number that is thrown does not matter -/
theorem zMo_th (h : zMo z s S) : zMo z s (sI S (z + 214) 0 x) := by
  obtain ⟨hS, hl, hf, hd, ht⟩ := h
  have e : ∀ q, q ≠ 0 → mI (sI S (z + 214) 0 x) (z + 214) q = mI S (z + 214) q := fun q hq => by rw [mI_sI, if_neg (by omega)]
  have e2 : ∀ q, q ≠ z + 214 → mI (sI S (z + 214) 0 x) q = mI S q := fun q hq => by rw [mI_sI_r, if_neg hq]
  have w := e2 (z + 216) (by omega)
  refine ⟨hS, ⟨by rw [e 4 (by omega)]; exact hl.1, by rw [w]; exact hl.2⟩, zMf_of (e 2 (by omega)) (e2 _ (by omega)) hf, ⟨by rw [e 3 (by omega)]; exact hd.1, by rw [w]; exact hd.2⟩, zMt_of (e 9 (by omega)) (e2 _ (by omega)) ht⟩
theorem zMo_w {ls : List Rc} (hs : xOk s) (h : zMo z s S) (hw : zMw z S S') (hl : zMl z S' ls) (h24 : ∀ k, k < 41 → mI S' (z + 216) (41 * 24 + k) = mI S (z + 216) (41 * 24 + k)) : zMo z (wList s ls) S' :=
  ⟨zMw_St hw h.1, hl, zMf_of (hw.2.2 2 (by omega)) hw.2.1 h.2.2.1, zMd_of (hw.2.2 3 (by omega)) h24 (d4_of (s := s) hs) h.2.2.2.1, zMt_of (hw.2.2 9 (by omega)) (hw.1.2 _ (by omega)) h.2.2.2.2⟩
theorem zFr_th : zFr (z + 214) (z + 220) S (sI S (z + 214) 0 x) := zFr_sI (by omega) (by omega)
theorem m_copy_L (ha : a < 30) (hb : b < 30) (hab : a ≠ b) : ∀ (m fu j : Nat) (S : Mem), zSt z S → j + m = 41 → m < fu → F_X6_copy_L2 fu (z + 214) (nI a) (nI b) (nI j) S = some (sF S (z + 216) (fun k => if 41 * b + j ≤ k ∧ k < 41 * b + 41 then mI S (z + 216) (41 * a + (k - 41 * b)) else mI S (z + 216) k)) := by
  intro m
  induction m with
  | zero =>
    intro fu j S h hj hf
    obtain ⟨fu, rfl⟩ : ∃ f, fu = f + 1 := ⟨fu - 1, by omega⟩
    have h1 : nI 41 ≤ nI j := nI_le (by omega) (by omega)
    simp only [F_X6_copy_L2, l_0, l_1, l_2, l_3, l_4, l_5, l_6, l_7, l_8, l_9, l_10, l_11, l_12, l_13, l_14, l_15, l_16, l_17, l_18, l_19, l_20, l_21, l_24, l_25, l_26, l_27, l_31, l_33, l_41, l_65, l_67, l_71, l_84, l_120, l_127, l_128, l_130, l_160, l_162, l_200, l_255, l_256, l_999, l_1000, l_8000, l_9999, l_10000, l_8001, l_m1, h1, ↓reduceIte]
    rw [sF_id]
    funext k
    rw [if_neg (by omega)]
  | succ m ih =>
    intro fu j S h hj hf
    obtain ⟨fu, rfl⟩ : ∃ f, fu = f + 1 := ⟨fu - 1, by omega⟩
    have h1 : ¬ nI 41 ≤ nI j := nI_ge (by omega) (by omega)
    have e1 := t_a216 (k := 41 * a + j) h (by omega)
    have e2 := t_s216 (k := 41 * b + j) (x := mI S (z + 216) (41 * a + j)) h (by omega)
    simp only [F_X6_copy_L2, l_0, l_1, l_2, l_3, l_4, l_5, l_6, l_7, l_8, l_9, l_10, l_11, l_12, l_13, l_14, l_15, l_16, l_17, l_18, l_19, l_20, l_21, l_24, l_25, l_26, l_27, l_31, l_33, l_41, l_65, l_67, l_71, l_84, l_120, l_127, l_128, l_130, l_160, l_162, l_200, l_255, l_256, l_999, l_1000, l_8000, l_9999, l_10000, l_8001, l_m1, h1, ↓reduceIte, t_r214_5 h, nI_mul, nI_add, e1, e2, bd2_some, bdx_inl, bdx_inr, bdc_inl, bdc_inr, obd_some]
    rw [ih fu (j + 1) _ (by rw [zSt_sI]; exact h) (by omega) (by omega), sF_sI]
    congr 2
    funext k
    rw [mI_sI, mI_sI]
    by_cases hk : k = 41 * b + j
    · subst hk
      rw [if_neg (by omega), if_pos ⟨rfl, rfl⟩, if_pos (by omega), show 41 * b + j - 41 * b = j by omega]
    · by_cases hk2 : 41 * b + (j + 1) ≤ k ∧ k < 41 * b + 41
      · rw [if_pos hk2, if_neg (by omega), if_pos (by omega)]
      · rw [if_neg hk2, if_neg (by omega), if_neg (by omega)]
theorem m_copy (h : zSt z S) (ha : a < 30) (hb : b < 30) (hab : a ≠ b) : F_X6_copy (z + 214) (nI a) (nI b) S = some (sF S (z + 216) (cpW (mI S (z + 216)) a b)) := by
  have := m_copy_L (z := z) ha hb hab 41 FU 0 S h rfl (by decide)
  unfold F_X6_copy
  simp only [l_0, l_1, l_2, l_3, l_4, l_5, l_6, l_7, l_8, l_9, l_10, l_11, l_12, l_13, l_14, l_15, l_16, l_17, l_18, l_19, l_20, l_21, l_24, l_25, l_26, l_27, l_31, l_33, l_41, l_65, l_67, l_71, l_84, l_120, l_127, l_128, l_130, l_160, l_162, l_200, l_255, l_256, l_999, l_1000, l_8000, l_9999, l_10000, l_8001, l_m1, this]
  rfl
theorem cpW_row (hk : k < 41) : cpW W a b (41 * j + k) = if j = b then W (41 * a + k) else W (41 * j + k) := by
  unfold cpW
  by_cases c : j = b
  · subst c
    rw [if_pos (by omega), if_pos rfl, show 41 * j + k - 41 * j = k by omega]
  · rw [if_neg c, if_neg (by omega)]
theorem m_copy' (h : zSt z S) (ha : a < 30) (hb : b < 30) (hab : a ≠ b) : ∃ S', F_X6_copy (z + 214) (nI a) (nI b) S = some S' ∧ zMw z S S' ∧ mI S' (z + 214) 4 = mI S (z + 214) 4 ∧ ∀ q k, k < 41 → mI S' (z + 216) (41 * q + k) = if q = b then mI S (z + 216) (41 * a + k) else mI S (z + 216) (41 * q + k) :=
  ⟨_, m_copy h ha hb hab, zMw_sF, by rw [mI_sF, if_neg (by omega)], fun q k hk => by rw [mI_sF, if_pos rfl, cpW_row hk]⟩
theorem m_open_L (hn : n < 24) : ∀ (m fu j : Nat) (S : Mem), zSt z S → j = i + m → j ≤ n → m < fu → mI S (z + 214) 4 = nI n → ∃ S', F_X6_open_L5 fu (z + 214) (nI i) (nI j) S = some S' ∧ zMw z S S' ∧ mI S' (z + 214) 4 = nI (n + 1) ∧ ∀ q k, k < 41 → mI S' (z + 216) (41 * q + k) = if i < q ∧ q ≤ j then mI S (z + 216) (41 * (q - 1) + k) else mI S (z + 216) (41 * q + k) := by
  intro m
  induction m with
  | zero =>
    intro fu j S h hj hjn hf h4
    obtain ⟨fu, rfl⟩ : ∃ f, fu = f + 1 := ⟨fu - 1, by omega⟩
    have h1 : nI j ≤ nI i := nI_le (by omega) (by omega)
    refine ⟨sI S (z + 214) 4 (nI (n + 1)), ?_, zMw_s4, by rw [mI_sI, if_pos ⟨rfl, rfl⟩], fun q k hk => ?_⟩
    · simp only [F_X6_open_L5, l_0, l_1, l_2, l_3, l_4, l_5, l_6, l_7, l_8, l_9, l_10, l_11, l_12, l_13, l_14, l_15, l_16, l_17, l_18, l_19, l_20, l_21, l_24, l_25, l_26, l_27, l_31, l_33, l_41, l_65, l_67, l_71, l_84, l_120, l_127, l_128, l_130, l_160, l_162, l_200, l_255, l_256, l_999, l_1000, l_8000, l_9999, l_10000, l_8001, l_m1, h1, t_g214 h, h4, nI_add, t_p214 h, bd2_some, bdx_inl, bdx_inr, bdc_inl, bdc_inr, obd_some, ↓reduceIte]
    · rw [mI_sI, if_neg (by omega), if_neg (by omega)]
  | succ m ih =>
    intro fu j S h hj hjn hf h4
    obtain ⟨fu, rfl⟩ : ∃ f, fu = f + 1 := ⟨fu - 1, by omega⟩
    obtain ⟨j, rfl⟩ : ∃ f, j = f + 1 := ⟨j - 1, by omega⟩
    have h1 : ¬ nI (j + 1) ≤ nI i := nI_ge (by omega) (by omega)
    have e1 : nI (j + 1) - nI 1 = nI j := nI_sub1 (by omega)
    obtain ⟨S1, a1, a2, a3, a4⟩ := m_copy' (a := j) (b := j + 1) h (by omega) (by omega) (by omega)
    obtain ⟨S2, b1, b2, b3, b4⟩ := ih fu j S1 (zMw_St a2 h) (by omega) (by omega) (by omega) (by rw [a3]; exact h4)
    refine ⟨S2, ?_, zMw_trans a2 b2, b3, fun q k hk => ?_⟩
    · simp only [F_X6_open_L5, l_0, l_1, l_2, l_3, l_4, l_5, l_6, l_7, l_8, l_9, l_10, l_11, l_12, l_13, l_14, l_15, l_16, l_17, l_18, l_19, l_20, l_21, l_24, l_25, l_26, l_27, l_31, l_33, l_41, l_65, l_67, l_71, l_84, l_120, l_127, l_128, l_130, l_160, l_162, l_200, l_255, l_256, l_999, l_1000, l_8000, l_9999, l_10000, l_8001, l_m1, h1, t_k214 h, e1, a1, nI_m1, bd2_some, bdx_inl, bdx_inr, bdc_inl, bdc_inr, obd_some, ↓reduceIte]
      exact b1
    · rw [b4 q k hk]
      by_cases c : i < q ∧ q ≤ j
      · rw [if_pos c, if_pos (by omega), a4 _ k hk, if_neg (by omega)]
      · rw [if_neg c, a4 q k hk]
        by_cases c2 : q = j + 1
        · subst c2
          rw [if_pos rfl, if_pos (by omega), show j + 1 - 1 = j by omega]
        · rw [if_neg c2, if_neg (by omega)]
theorem m_open (h : zSt z S) (hn : n < 24) (hi : i ≤ n) (h4 : mI S (z + 214) 4 = nI n) : ∃ S', F_X6_open (z + 214) (nI i) S = some S' ∧ zMw z S S' ∧ mI S' (z + 214) 4 = nI (n + 1) ∧ ∀ q k, k < 41 → mI S' (z + 216) (41 * q + k) = if i < q ∧ q ≤ n then mI S (z + 216) (41 * (q - 1) + k) else mI S (z + 216) (41 * q + k) := by
  obtain ⟨S1, a1, a2⟩ := m_open_L (i := i) (z := z) hn (n - i) FU n S h (by omega) (Nat.le_refl _) (by show n - i < 4000; omega) h4
  refine ⟨S1, ?_, a2⟩
  simp only [F_X6_open, l_0, l_1, l_2, l_3, l_4, l_5, l_6, l_7, l_8, l_9, l_10, l_11, l_12, l_13, l_14, l_15, l_16, l_17, l_18, l_19, l_20, l_21, l_24, l_25, l_26, l_27, l_31, l_33, l_41, l_65, l_67, l_71, l_84, l_120, l_127, l_128, l_130, l_160, l_162, l_200, l_255, l_256, l_999, l_1000, l_8000, l_9999, l_10000, l_8001, l_m1, t_g214 h, h4, bd2_some, bdx_inl, bdx_inr, bdc_inl, bdc_inr, obd_some]
  exact a1
theorem m_close_L (hn : n < 24) : ∀ (m fu j : Nat) (S : Mem), zSt z S → j + m = n → m < fu → mI S (z + 214) 4 = nI n → ∃ S', F_X6_close_L12 fu (z + 214) (nI j) S = some S' ∧ zMw z S S' ∧ mI S' (z + 214) 4 = nI n ∧ ∀ q k, k < 41 → mI S' (z + 216) (41 * q + k) = if j ≤ q ∧ q < n then mI S (z + 216) (41 * (q + 1) + k) else mI S (z + 216) (41 * q + k) := by
  intro m
  induction m with
  | zero =>
    intro fu j S h hj hf h4
    obtain ⟨fu, rfl⟩ : ∃ f, fu = f + 1 := ⟨fu - 1, by omega⟩
    have h1 : nI n ≤ nI j := nI_le (by omega) (by omega)
    refine ⟨S, ?_, zMw_refl, h4, fun q k hk => ?_⟩
    · simp only [F_X6_close_L12, l_0, l_1, l_2, l_3, l_4, l_5, l_6, l_7, l_8, l_9, l_10, l_11, l_12, l_13, l_14, l_15, l_16, l_17, l_18, l_19, l_20, l_21, l_24, l_25, l_26, l_27, l_31, l_33, l_41, l_65, l_67, l_71, l_84, l_120, l_127, l_128, l_130, l_160, l_162, l_200, l_255, l_256, l_999, l_1000, l_8000, l_9999, l_10000, l_8001, l_m1, t_g214 h, h4, h1, bd2_some, bdx_inl, bdx_inr, bdc_inl, bdc_inr, obd_some, ↓reduceIte]
    · rw [if_neg (by omega)]
  | succ m ih =>
    intro fu j S h hj hf h4
    obtain ⟨fu, rfl⟩ : ∃ f, fu = f + 1 := ⟨fu - 1, by omega⟩
    have h1 : ¬ nI n ≤ nI j := nI_ge (by omega) (by omega)
    obtain ⟨S1, a1, a2, a3, a4⟩ := m_copy' (a := j + 1) (b := j) h (by omega) (by omega) (by omega)
    obtain ⟨S2, b1, b2, b3, b4⟩ := ih fu (j + 1) S1 (zMw_St a2 h) (by omega) (by omega) (by rw [a3]; exact h4)
    refine ⟨S2, ?_, zMw_trans a2 b2, b3, fun q k hk => ?_⟩
    · simp only [F_X6_close_L12, l_0, l_1, l_2, l_3, l_4, l_5, l_6, l_7, l_8, l_9, l_10, l_11, l_12, l_13, l_14, l_15, l_16, l_17, l_18, l_19, l_20, l_21, l_24, l_25, l_26, l_27, l_31, l_33, l_41, l_65, l_67, l_71, l_84, l_120, l_127, l_128, l_130, l_160, l_162, l_200, l_255, l_256, l_999, l_1000, l_8000, l_9999, l_10000, l_8001, l_m1, t_g214 h, h4, h1, t_k214 h, nI_add, a1, bd2_some, bdx_inl, bdx_inr, bdc_inl, bdc_inr, obd_some, ↓reduceIte]
      exact b1
    · rw [b4 q k hk]
      by_cases c : j + 1 ≤ q ∧ q < n
      · rw [if_pos c, if_pos (by omega), a4 _ k hk, if_neg (by omega)]
      · rw [if_neg c, a4 q k hk]
        by_cases c2 : q = j
        · subst c2
          rw [if_pos rfl, if_pos (by omega)]
        · rw [if_neg c2, if_neg (by omega)]
theorem m_close (h : zSt z S) (hn : n < 24) (hi : i ≤ n) (h4 : mI S (z + 214) 4 = nI (n + 1)) : ∃ S', F_X6_close (z + 214) (nI i) S = some S' ∧ zMw z S S' ∧ mI S' (z + 214) 4 = nI n ∧ ∀ q k, k < 41 → mI S' (z + 216) (41 * q + k) = if i ≤ q ∧ q < n then mI S (z + 216) (41 * (q + 1) + k) else mI S (z + 216) (41 * q + k) := by
  have e1 : nI (n + 1) - nI 1 = nI n := nI_sub1 (by omega)
  obtain ⟨S1, a1, a2, a3, a4⟩ := m_close_L (z := z) hn (n - i) FU i (sI S (z + 214) 4 (nI n)) h (by omega) (by show n - i < 4000; omega) (by rw [mI_sI, if_pos ⟨rfl, rfl⟩])
  refine ⟨S1, ?_, zMw_trans zMw_s4 a2, a3, fun q k hk => ?_⟩
  · simp only [F_X6_close, l_0, l_1, l_2, l_3, l_4, l_5, l_6, l_7, l_8, l_9, l_10, l_11, l_12, l_13, l_14, l_15, l_16, l_17, l_18, l_19, l_20, l_21, l_24, l_25, l_26, l_27, l_31, l_33, l_41, l_65, l_67, l_71, l_84, l_120, l_127, l_128, l_130, l_160, l_162, l_200, l_255, l_256, l_999, l_1000, l_8000, l_9999, l_10000, l_8001, l_m1, t_g214 h, h4, e1, t_p214 h, bd2_some, bdx_inl, bdx_inr, bdc_inl, bdc_inr, obd_some]
    exact a1
  · have w : mI (sI S (z + 214) 4 (nI n)) (z + 216) = mI S (z + 216) := by rw [mI_sI_r, if_neg (by omega)]
    rw [a4 q k hk, w]
theorem zMl_ins (hn : ∀ t, t ∈ ls → aN t ≤ 4) (hr4 : aN r ≤ 4) (hi : i ≤ ls.length) (hl : zMl z S ls) (h4 : mI S' (z + 214) 4 = nI (ls.length + 1)) (hr : zMR (mI S' (z + 216)) (41 * i) r) (hq : ∀ q k, k < 41 → q ≠ i → q ≤ ls.length → mI S' (z + 216) (41 * q + k) = if i < q then mI S (z + 216) (41 * (q - 1) + k) else mI S (z + 216) (41 * q + k)) : zMl z S' (ls.insertIdx i r) := by
  refine ⟨by rw [h4, List.length_insertIdx_of_le_length hi], fun q t e => ?_⟩
  rw [List.getElem?_insertIdx] at e
  by_cases c : q < i
  · rw [if_pos c] at e
    exact zMR_of (hn t (List.mem_of_getElem? e)) (fun k hk => by rw [hq q k hk (by omega) (by omega), if_neg (by omega)]) (hl.2 q t e)
  · rw [if_neg c] at e
    by_cases c2 : q = i
    · rw [if_pos c2, if_pos (by omega)] at e
      cases e
      subst c2
      exact hr
    · rw [if_neg c2] at e
      have := (List.getElem?_eq_some_iff.mp e).1
      exact zMR_of (hn t (List.mem_of_getElem? e)) (fun k hk => by rw [hq q k hk c2 (by omega), if_pos (by omega)]) (hl.2 (q - 1) t e)
theorem zMl_del (hn : ∀ t, t ∈ ls → aN t ≤ 4) (hi : i < ls.length) (hl : zMl z S ls) (h4 : mI S' (z + 214) 4 = nI (ls.length - 1)) (hq : ∀ q k, k < 41 → q < ls.length - 1 → mI S' (z + 216) (41 * q + k) = if i ≤ q then mI S (z + 216) (41 * (q + 1) + k) else mI S (z + 216) (41 * q + k)) : zMl z S' (ls.eraseIdx i) := by
  have hl' := List.length_eraseIdx_of_lt hi
  refine ⟨by rw [h4, hl'], fun q t e => ?_⟩
  have hq' : q < ls.length - 1 := by rw [← hl']; exact (List.getElem?_eq_some_iff.mp e).1
  rw [List.getElem?_eraseIdx] at e
  by_cases c : q < i
  · rw [if_pos c] at e
    exact zMR_of (hn t (List.mem_of_getElem? e)) (fun k hk => by rw [hq q k hk hq', if_neg (by omega)]) (hl.2 q t e)
  · rw [if_neg c] at e
    exact zMR_of (hn t (List.mem_of_getElem? e)) (fun k hk => by rw [hq q k hk hq', if_pos (by omega)]) (hl.2 (q + 1) t e)
/-- a row is put in at a place -/
theorem m_insJ (h : zSt z S) (hl : zMl z S ls) (hn : ∀ t, t ∈ ls → aN t ≤ 4) (h2 : ls.length < 24) (hi : i ≤ ls.length) (hs1 : 24 ≤ a) (hs2 : a < 30) (hr4 : aN r ≤ 4) (hr : zMR (mI S (z + 216)) (41 * a) r) : ∃ S1 S', F_X6_open (z + 214) (nI i) S = some S1 ∧ zSt z S1 ∧ F_X6_copy (z + 214) (nI a) (nI i) S1 = some S' ∧ zMw z S S' ∧ zMl z S' (ls.insertIdx i r) ∧ ∀ q k, 24 ≤ q → k < 41 → mI S' (z + 216) (41 * q + k) = mI S (z + 216) (41 * q + k) := by
  obtain ⟨S1, a1, a2, a3, a4⟩ := m_open h h2 hi hl.1
  obtain ⟨S2, b1, b2, b3, b4⟩ := m_copy' (a := a) (b := i) (zMw_St a2 h) hs2 (by omega) (by omega)
  have ha : ∀ k, k < 41 → mI S1 (z + 216) (41 * a + k) = mI S (z + 216) (41 * a + k) := fun k hk => by rw [a4 a k hk, if_neg (by omega)]
  refine ⟨S1, S2, a1, zMw_St a2 h, b1, zMw_trans a2 b2, zMl_ins (S := S) hn hr4 hi hl (by rw [b3]; exact a3) ?_ ?_, fun q k hq hk => ?_⟩
  · exact zMR_of hr4 (fun k hk => by rw [b4 i k hk, if_pos rfl, ha k hk]) hr
  · intro q k hk hq hq2
    rw [b4 q k hk, if_neg hq, a4 q k hk]
    by_cases c : i < q
    · rw [if_pos c, if_pos ⟨c, hq2⟩]
    · rw [if_neg c, if_neg (fun w => c w.1)]
  · rw [b4 q k hk, if_neg (by omega), a4 q k hk, if_neg (by omega)]
theorem m_enter_L (h : zSt z S) (hl : zMl z S ls) (h2 : ls.length < 24) (hs1 : 24 ≤ a) (hs2 : a < 30) (hP : aP r < 2147483648) (hr : mI S (z + 216) (41 * a) = nI (aP r)) (hB : ∀ t, t ∈ ls → aP t < 2147483648) : ∀ (m fu j : Nat), j + m = ls.length → m < fu → F_X6_enter_L2 fu (z + 214) (nI a) (nI j) S = F_X6_enter_J31 (z + 214) (nI a) (nI (j + ipos (ls.drop j) (aP r))) S := by
  intro m
  induction m with
  | zero =>
    intro fu j hj hf
    obtain ⟨fu, rfl⟩ : ∃ f, fu = f + 1 := ⟨fu - 1, by omega⟩
    have h1 : nI ls.length ≤ nI j := nI_le (by omega) (by omega)
    rw [List.drop_eq_nil_of_le (by omega)]
    simp only [F_X6_enter_L2, l_0, l_1, l_2, l_3, l_4, l_5, l_6, l_7, l_8, l_9, l_10, l_11, l_12, l_13, l_14, l_15, l_16, l_17, l_18, l_19, l_20, l_21, l_24, l_25, l_26, l_27, l_31, l_33, l_41, l_65, l_67, l_71, l_84, l_120, l_127, l_128, l_130, l_160, l_162, l_200, l_255, l_256, l_999, l_1000, l_8000, l_9999, l_10000, l_8001, l_m1, t_g214 h, hl.1, h1, ipos, Nat.add_zero, bd2_some, bdx_inl, bdx_inr, bdc_inl, bdc_inr, obd_some, ↓reduceIte]
  | succ m ih =>
    intro fu j hj hf
    obtain ⟨fu, rfl⟩ : ∃ f, fu = f + 1 := ⟨fu - 1, by omega⟩
    have h1 : ¬ nI ls.length ≤ nI j := nI_ge (by omega) (by omega)
    have h4 : j < ls.length := by omega
    have e1 := m_get (i := j) (k := 0) h (by omega)
    have e2 := m_get (i := a) (k := 0) h (by omega)
    have hc := (hl.2 j ls[j] (List.getElem?_eq_getElem h4)).1.1
    have hb := hB _ (List.getElem_mem h4)
    rw [Nat.add_zero (41 * j)] at e1
    rw [Nat.add_zero (41 * a)] at e2
    rw [hc] at e1
    rw [hr] at e2
    rw [List.drop_eq_getElem_cons h4, ipos]
    by_cases c : aP ls[j] ≤ aP r
    · have c' : ¬ nI (aP r) < nI (aP ls[j]) := nI_nlt c (by omega)
      rw [if_pos c]
      have := ih fu (j + 1) (by omega) (by omega)
      rw [show j + (ipos (ls.drop (j + 1)) (aP r) + 1) = j + 1 + ipos (ls.drop (j + 1)) (aP r) by omega, ← this]
      simp only [F_X6_enter_L2, l_0, l_1, l_2, l_3, l_4, l_5, l_6, l_7, l_8, l_9, l_10, l_11, l_12, l_13, l_14, l_15, l_16, l_17, l_18, l_19, l_20, l_21, l_24, l_25, l_26, l_27, l_31, l_33, l_41, l_65, l_67, l_71, l_84, l_120, l_127, l_128, l_130, l_160, l_162, l_200, l_255, l_256, l_999, l_1000, l_8000, l_9999, l_10000, l_8001, l_m1, t_g214 h, t_k214 h, hl.1, h1, e1, e2, c', nI_add, bd2_some, bdx_inl, bdx_inr, bdc_inl, bdc_inr, obd_some, ↓reduceIte]
    · have c' : nI (aP r) < nI (aP ls[j]) := nI_lt (by omega) (by omega)
      rw [if_neg c]
      simp only [F_X6_enter_L2, l_0, l_1, l_2, l_3, l_4, l_5, l_6, l_7, l_8, l_9, l_10, l_11, l_12, l_13, l_14, l_15, l_16, l_17, l_18, l_19, l_20, l_21, l_24, l_25, l_26, l_27, l_31, l_33, l_41, l_65, l_67, l_71, l_84, l_120, l_127, l_128, l_130, l_160, l_162, l_200, l_255, l_256, l_999, l_1000, l_8000, l_9999, l_10000, l_8001, l_m1, t_g214 h, t_k214 h, hl.1, h1, e1, e2, c', Nat.add_zero, bd2_some, bdx_inl, bdx_inr, bdc_inl, bdc_inr, obd_some, ↓reduceIte]
theorem m_enter (h : zSt z S) (hl : zMl z S ls) (hn : ∀ t, t ∈ ls → aN t ≤ 4) (h2 : ls.length < 24) (hs1 : 24 ≤ a) (hs2 : a < 30) (hr4 : aN r ≤ 4) (hP : aP r < 2147483648) (hB : ∀ t, t ∈ ls → aP t < 2147483648) (hr : zMR (mI S (z + 216)) (41 * a) r) : ∃ S', F_X6_enter (z + 214) (nI a) S = some (nI (ipos ls (aP r)), S') ∧ zMw z S S' ∧ zMl z S' (insR ls r) ∧ ∀ q k, 24 ≤ q → k < 41 → mI S' (z + 216) (41 * q + k) = mI S (z + 216) (41 * q + k) := by
  have := m_enter_L (r := r) h hl h2 hs1 hs2 hP hr.1.1 hB ls.length FU 0 (by omega) (by show ls.length < 4000; omega)
  rw [Nat.zero_add, List.drop_zero] at this
  obtain ⟨S1, S2, a1, a2, a3, a4, a5, a6⟩ := m_insJ (i := ipos ls (aP r)) h hl hn h2 (ipos_le ls _) hs1 hs2 hr4 hr
  refine ⟨S2, ?_, a4, a5, a6⟩
  unfold F_X6_enter
  refine Eq.trans this ?_
  simp only [F_X6_enter_J31, t_k214 h, a1, t_k214 a2, a3, bd2_some, bdx_inl, bdx_inr, bdc_inl, bdc_inr, obd_some]
end M1
