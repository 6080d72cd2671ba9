set_option maxRecDepth 20000
section M2
variable {S S' S1 S2 : Mem} {z n a b i j k o o' : Nat} {r : Rc} {s : As} {x y : Int32} {W W' : Nat → Int32} {ls : List Rc}
theorem m_em1 {fu : Nat} (h : zSt z S) (ha : a < 30) (hj : j < 41) : F_X6_empty_L2 (fu + 1) (z + 214) (nI a) x (nI j) S = F_X6_empty_L2 fu (z + 214) (nI a) x (nI (j + 1)) (sI S (z + 216) (41 * a + j) (emV j)) := by
  have h1 : ¬ nI 41 ≤ nI j := nI_ge (by omega) (by omega)
  by_cases c1 : j < 15
  · have c1' : nI j < nI 15 := nI_lt c1 (by omega)
    have e : emV j = nI 0 := if_neg (by omega)
    have pp := m_put (i := a) (k := j) (x := nI 0) h (by omega)
    rw [e]
    simp only [F_X6_empty_L2, F_X6_empty_J37, F_X6_empty_J38, l_0, l_1, l_2, l_3, l_4, l_5, l_6, l_7, l_8, l_9, l_10, l_11, l_12, l_13, l_14, l_15, l_16, l_17, l_18, l_19, l_20, l_21, l_24, l_25, l_26, l_27, l_31, l_33, l_41, l_65, l_67, l_71, l_84, l_120, l_127, l_128, l_130, l_160, l_162, l_200, l_255, l_256, l_999, l_1000, l_8000, l_9999, l_10000, l_8001, l_m1, h1, c1', t_k214 h, pp, nI_add, bd2_some, bdx_inl, bdx_inr, bdc_inl, bdc_inr, obd_some, ↓reduceIte]
  have c1' : ¬ nI j < nI 15 := nI_nlt (by omega) (by omega)
  by_cases c2 : 21 ≤ j
  · have c2' : nI 21 ≤ nI j := nI_le c2 (by omega)
    have e : emV j = nI 0 := if_neg (by omega)
    have pp := m_put (i := a) (k := j) (x := nI 0) h (by omega)
    rw [e]
    simp only [F_X6_empty_L2, F_X6_empty_J37, F_X6_empty_J38, l_0, l_1, l_2, l_3, l_4, l_5, l_6, l_7, l_8, l_9, l_10, l_11, l_12, l_13, l_14, l_15, l_16, l_17, l_18, l_19, l_20, l_21, l_24, l_25, l_26, l_27, l_31, l_33, l_41, l_65, l_67, l_71, l_84, l_120, l_127, l_128, l_130, l_160, l_162, l_200, l_255, l_256, l_999, l_1000, l_8000, l_9999, l_10000, l_8001, l_m1, h1, c1', c2', t_k214 h, pp, nI_add, bd2_some, bdx_inl, bdx_inr, bdc_inl, bdc_inr, obd_some, ↓reduceIte]
  have c2' : ¬ nI 21 ≤ nI j := nI_ge (by omega) (by omega)
  have pr : prem (nI j - nI 15) (nI 3) = some (nI ((j - 15) % 3)) := by
    rcases (show j = 15 ∨ j = 16 ∨ j = 17 ∨ j = 18 ∨ j = 19 ∨ j = 20 by omega) with e | e | e | e | e | e <;> subst e <;> decide
  by_cases c3 : 2 ≤ (j - 15) % 3
  · have c3' : nI 2 ≤ nI ((j - 15) % 3) := nI_le c3 (by omega)
    have e : emV j = nI 0 := if_neg (by omega)
    have pp := m_put (i := a) (k := j) (x := nI 0) h (by omega)
    rw [e]
    simp only [F_X6_empty_L2, F_X6_empty_J37, F_X6_empty_J38, l_0, l_1, l_2, l_3, l_4, l_5, l_6, l_7, l_8, l_9, l_10, l_11, l_12, l_13, l_14, l_15, l_16, l_17, l_18, l_19, l_20, l_21, l_24, l_25, l_26, l_27, l_31, l_33, l_41, l_65, l_67, l_71, l_84, l_120, l_127, l_128, l_130, l_160, l_162, l_200, l_255, l_256, l_999, l_1000, l_8000, l_9999, l_10000, l_8001, l_m1, h1, c1', c2', pr, c3', t_k214 h, pp, nI_add, bd2_some, bdx_inl, bdx_inr, bdc_inl, bdc_inr, obd_some, ↓reduceIte]
  · have c3' : ¬ nI 2 ≤ nI ((j - 15) % 3) := nI_ge (by omega) (by omega)
    have e : emV j = m1 := if_pos (by omega)
    have pp := m_put (i := a) (k := j) (x := m1) h (by omega)
    rw [e]
    simp only [F_X6_empty_L2, F_X6_empty_J37, F_X6_empty_J38, l_0, l_1, l_2, l_3, l_4, l_5, l_6, l_7, l_8, l_9, l_10, l_11, l_12, l_13, l_14, l_15, l_16, l_17, l_18, l_19, l_20, l_21, l_24, l_25, l_26, l_27, l_31, l_33, l_41, l_65, l_67, l_71, l_84, l_120, l_127, l_128, l_130, l_160, l_162, l_200, l_255, l_256, l_999, l_1000, l_8000, l_9999, l_10000, l_8001, l_m1, h1, c1', c2', pr, c3', t_k214 h, pp, nI_add, bd2_some, bdx_inl, bdx_inr, bdc_inl, bdc_inr, obd_some, ↓reduceIte]
theorem m_empty_L (ha : a < 30) : ∀ (m fu j : Nat) (S : Mem), zSt z S → j + m = 41 → m < fu → F_X6_empty_L2 fu (z + 214) (nI a) x (nI j) S = some (sF S (z + 216) (fun k => if k = 41 * a then x else if 41 * a + j ≤ k ∧ k < 41 * a + 41 then emV (k - 41 * a) else mI S (z + 216) k)) := by
  intro m
  induction m with
  | zero =>
    intro fu j S h hj hf
    obtain ⟨fu, rfl⟩ : ∃ f, fu = f + 1 := ⟨fu - 1, by omega⟩
    have h1 : nI 41 ≤ nI j := nI_le (by omega) (by omega)
    have pp := m_put (i := a) (k := 0) (x := x) h (by omega)
    simp only [F_X6_empty_L2, l_0, l_1, l_2, l_3, l_4, l_5, l_6, l_7, l_8, l_9, l_10, l_11, l_12, l_13, l_14, l_15, l_16, l_17, l_18, l_19, l_20, l_21, l_24, l_25, l_26, l_27, l_31, l_33, l_41, l_65, l_67, l_71, l_84, l_120, l_127, l_128, l_130, l_160, l_162, l_200, l_255, l_256, l_999, l_1000, l_8000, l_9999, l_10000, l_8001, l_m1, h1, t_k214 h, pp, bd2_some, bdx_inl, bdx_inr, bdc_inl, bdc_inr, obd_some, ↓reduceIte]
    rw [sI_asF]
    congr 2
    funext k
    by_cases c : k = 41 * a
    · subst c
      simp only [va_up, Nat.add_zero, ↓reduceIte]
    · simp only [va_up, Nat.add_zero, c, ↓reduceIte]
      rw [if_neg (by omega)]
  | succ m ih =>
    intro fu j S h hj hf
    obtain ⟨fu, rfl⟩ : ∃ f, fu = f + 1 := ⟨fu - 1, by omega⟩
    rw [m_em1 h ha (by omega), ih fu (j + 1) _ (by rw [zSt_sI]; exact h) (by omega) (by omega), sF_sI]
    congr 2
    funext k
    rw [mI_sI]
    by_cases c : k = 41 * a
    · rw [if_pos c, if_pos c]
    · rw [if_neg c, if_neg c]
      by_cases hk : k = 41 * a + j
      · subst hk
        rw [if_neg (by omega), if_pos ⟨rfl, rfl⟩, if_pos (by omega), show 41 * a + j - 41 * a = j by omega]
      · by_cases hk2 : 41 * a + (j + 1) ≤ k ∧ k < 41 * a + 41
        · rw [if_pos hk2, if_pos (by omega)]
        · rw [if_neg hk2, if_neg (by omega), if_neg (by omega)]
theorem m_empty (h : zSt z S) (ha : a < 30) : ∃ S', F_X6_empty (z + 214) (nI a) x S = some S' ∧ zMw z S S' ∧ mI S' (z + 214) 4 = mI S (z + 214) 4 ∧ ∀ q k, k < 41 → mI S' (z + 216) (41 * q + k) = if q = a then (if k = 0 then x else emV k) else mI S (z + 216) (41 * q + k) := by
  have := m_empty_L (z := z) (x := x) ha 41 FU 0 S h rfl (by decide)
  refine ⟨_, this, zMw_sF, by rw [mI_sF, if_neg (by omega)], fun q k hk => ?_⟩
  rw [mI_sF, if_pos rfl]
  by_cases c : q = a
  · subst c
    rw [if_pos rfl]
    by_cases c2 : k = 0
    · subst c2
      rw [if_pos rfl]
      exact if_pos rfl
    · rw [if_neg c2]
      show (if 41 * q + k = 41 * q then _ else _) = _
      rw [if_neg (by omega), if_pos (by omega), show 41 * q + k - 41 * q = k by omega]
  · rw [if_neg c]
    show (if 41 * q + k = 41 * a then _ else _) = _
    rw [if_neg (by omega), if_neg (by omega)]
theorem m_addA (h : zSt z S) (ha : a < 30) (hn : mI S (z + 216) (41 * a + 1) = nI n) (h4 : n < 4) : ∃ S', F_X6_addAllele (z + 214) (nI a) x y S = some S' ∧ zMw z S S' ∧ mI S' (z + 214) 4 = mI S (z + 214) 4 ∧ ∀ q k, k < 41 → mI S' (z + 216) (41 * q + k) = if q = a then (if k = 1 then nI (n + 1) else if k = 6 + n then y else if k = 2 + n then x else mI S (z + 216) (41 * q + k)) else mI S (z + 216) (41 * q + k) := by
  have g1 := m_get (i := a) (k := 1) h (by omega)
  rw [hn] at g1
  have p1 := m_put (i := a) (k := 2 + n) (x := x) h (by omega)
  obtain ⟨S1, e1⟩ : ∃ T, T = sI S (z + 216) (41 * a + (2 + n)) x := ⟨_, rfl⟩
  have h1 : zSt z S1 := by rw [e1]; exact h
  have p2 := m_put (i := a) (k := 6 + n) (x := y) h1 (by omega)
  obtain ⟨S2, e2⟩ : ∃ T, T = sI S1 (z + 216) (41 * a + (6 + n)) y := ⟨_, rfl⟩
  have h2 : zSt z S2 := by rw [e2]; exact h1
  have p3 := m_put (i := a) (k := 1) (x := nI (n + 1)) h2 (by omega)
  rw [← e1] at p1
  rw [← e2] at p2
  have w1 : zMw z S S1 := by rw [e1]; exact zMw_sI rfl
  have w2 : zMw z S1 S2 := by rw [e2]; exact zMw_sI rfl
  refine ⟨sI S2 (z + 216) (41 * a + 1) (nI (n + 1)), ?_, zMw_trans w1 (zMw_trans w2 (zMw_sI rfl)), ?_, fun q k hk => ?_⟩
  · simp only [F_X6_addAllele, l_0, l_1, l_2, l_3, l_4, l_5, l_6, l_7, l_8, l_9, l_10, l_11, l_12, l_13, l_14, l_15, l_16, l_17, l_18, l_19, l_20, l_21, l_24, l_25, l_26, l_27, l_31, l_33, l_41, l_65, l_67, l_71, l_84, l_120, l_127, l_128, l_130, l_160, l_162, l_200, l_255, l_256, l_999, l_1000, l_8000, l_9999, l_10000, l_8001, l_m1, t_k214 h, t_k214 h1, t_k214 h2, g1, p1, p2, nI_add, p3, bd2_some, bdx_inl, bdx_inr, bdc_inl, bdc_inr, obd_some]
  · rw [mI_sI, if_neg (by omega), e2, mI_sI, if_neg (by omega), e1, mI_sI, if_neg (by omega)]
  · rw [mI_sI, e2, mI_sI, e1, mI_sI]
    by_cases c : q = a
    · subst c
      rw [if_pos rfl]
      by_cases c1 : k = 1
      · rw [if_pos (by omega), if_pos c1]
      · rw [if_neg (by omega), if_neg c1]
        by_cases c2 : k = 6 + n
        · rw [if_pos (by omega), if_pos c2]
        · rw [if_neg (by omega), if_neg c2]
          by_cases c3 : k = 2 + n
          · rw [if_pos (by omega), if_pos c3]
          · rw [if_neg (by omega), if_neg c3]
    · rw [if_neg c, if_neg (by omega), if_neg (by omega), if_neg (by omega)]
theorem m_find_L {l b n : Nat} {L B : Nat → Nat} (h : zSt z S) (ha : a < 30) (hn : mI S (z + 216) (41 * a + 1) = nI n) (h4 : n ≤ 4) (hA : ∀ i, i < n → mI S (z + 216) (41 * a + (6 + i)) = nI (B i) ∧ mI S (z + 216) (41 * a + (2 + i)) = nI (L i) ∧ B i < 2147483648 ∧ L i < 2147483648) (hb : b < 2147483648) (hl : l < 2147483648) :
    ∀ (m fu j : Nat), j + m = n → m < fu → F_X6_findAllele_L3 fu (z + 214) (nI a) (nI l) (nI b) (nI j) S = some (fI (fndA n L B l b m j), S) := by
  intro m
  have g1 := m_get (i := a) (k := 1) h (by omega)
  rw [hn] at g1
  induction m with
  | zero =>
    intro fu j hj hf
    obtain ⟨fu, rfl⟩ : ∃ f, fu = f + 1 := ⟨fu - 1, by omega⟩
    have h1 : nI n ≤ nI j := nI_le (by omega) (by omega)
    simp only [F_X6_findAllele_L3, l_0, l_1, l_2, l_3, l_4, l_5, l_6, l_7, l_8, l_9, l_10, l_11, l_12, l_13, l_14, l_15, l_16, l_17, l_18, l_19, l_20, l_21, l_24, l_25, l_26, l_27, l_31, l_33, l_41, l_65, l_67, l_71, l_84, l_120, l_127, l_128, l_130, l_160, l_162, l_200, l_255, l_256, l_999, l_1000, l_8000, l_9999, l_10000, l_8001, l_m1, t_k214 h, g1, h1, bd2_some, bdx_inl, bdx_inr, bdc_inl, bdc_inr, obd_some, ↓reduceIte, fndA, fI]
  | succ m ih =>
    intro fu j hj hf
    obtain ⟨fu, rfl⟩ : ∃ f, fu = f + 1 := ⟨fu - 1, by omega⟩
    have h1 : ¬ nI n ≤ nI j := nI_ge (by omega) (by omega)
    obtain ⟨a1, a2, a3, a4⟩ := hA j (by omega)
    have ih' := ih fu (j + 1) (by omega) (by omega)
    have g2 := m_get (i := a) (k := 2 + j) h (by omega)
    have g3 := m_get (i := a) (k := 6 + j) h (by omega)
    rw [a2] at g2
    rw [a1] at g3
    by_cases e2 : L j = l
    · have e2' : nI (L j) = nI l := by rw [e2]
      by_cases e1 : B j = b
      · have e1' : nI (B j) = nI b := by rw [e1]
        rw [fndA, if_pos ⟨e2, e1⟩]
        simp only [F_X6_findAllele_L3, l_0, l_1, l_2, l_3, l_4, l_5, l_6, l_7, l_8, l_9, l_10, l_11, l_12, l_13, l_14, l_15, l_16, l_17, l_18, l_19, l_20, l_21, l_24, l_25, l_26, l_27, l_31, l_33, l_41, l_65, l_67, l_71, l_84, l_120, l_127, l_128, l_130, l_160, l_162, l_200, l_255, l_256, l_999, l_1000, l_8000, l_9999, l_10000, l_8001, l_m1, t_k214 h, g1, h1, nI_add, g2, g3, e1', e2', fI, bd2_some, bdx_inl, bdx_inr, bdc_inl, bdc_inr, obd_some, ↓reduceIte]
      · have e1' : ¬ nI (B j) = nI b := fun q => e1 ((nI_eq a3 hb).mp q)
        rw [fndA, if_neg (fun q => e1 q.2), ← ih']
        simp only [F_X6_findAllele_L3, F_X6_findAllele_J44, l_0, l_1, l_2, l_3, l_4, l_5, l_6, l_7, l_8, l_9, l_10, l_11, l_12, l_13, l_14, l_15, l_16, l_17, l_18, l_19, l_20, l_21, l_24, l_25, l_26, l_27, l_31, l_33, l_41, l_65, l_67, l_71, l_84, l_120, l_127, l_128, l_130, l_160, l_162, l_200, l_255, l_256, l_999, l_1000, l_8000, l_9999, l_10000, l_8001, l_m1, t_k214 h, g1, h1, nI_add, g2, g3, e1', e2', bd2_some, bdx_inl, bdx_inr, bdc_inl, bdc_inr, obd_some, ↓reduceIte]
    · have e2' : ¬ nI (L j) = nI l := fun q => e2 ((nI_eq a4 hl).mp q)
      rw [fndA, if_neg (fun q => e2 q.1), ← ih']
      simp only [F_X6_findAllele_L3, F_X6_findAllele_J44, l_0, l_1, l_2, l_3, l_4, l_5, l_6, l_7, l_8, l_9, l_10, l_11, l_12, l_13, l_14, l_15, l_16, l_17, l_18, l_19, l_20, l_21, l_24, l_25, l_26, l_27, l_31, l_33, l_41, l_65, l_67, l_71, l_84, l_120, l_127, l_128, l_130, l_160, l_162, l_200, l_255, l_256, l_999, l_1000, l_8000, l_9999, l_10000, l_8001, l_m1, t_k214 h, g1, h1, nI_add, g2, e2', bd2_some, bdx_inl, bdx_inr, bdc_inl, bdc_inr, obd_some, ↓reduceIte]
theorem m_find {l b n : Nat} {L B : Nat → Nat} (h : zSt z S) (ha : a < 30) (hn : mI S (z + 216) (41 * a + 1) = nI n) (h4 : n ≤ 4) (hA : ∀ i, i < n → mI S (z + 216) (41 * a + (6 + i)) = nI (B i) ∧ mI S (z + 216) (41 * a + (2 + i)) = nI (L i) ∧ B i < 2147483648 ∧ L i < 2147483648) (hb : b < 2147483648) (hl : l < 2147483648) : F_X6_findAllele (z + 214) (nI a) (nI l) (nI b) S = some (fI (fnd n L B l b), S) :=
  m_find_L h ha hn h4 hA hb hl n FU 0 (by omega) (by show n < 4000; omega)
theorem m_find_any {n : Nat} (h : zSt z S) (ha : a < 30) (hn : mI S (z + 216) (41 * a + 1) = nI n) (h4 : n ≤ 4) : ∀ (m fu j : Nat), j + m = n → m < fu → ∃ w, F_X6_findAllele_L3 fu (z + 214) (nI a) x y (nI j) S = some (w, S) := by
  intro m
  have g1 := m_get (i := a) (k := 1) h (by omega)
  rw [hn] at g1
  induction m with
  | zero =>
    intro fu j hj hf
    obtain ⟨fu, rfl⟩ : ∃ f, fu = f + 1 := ⟨fu - 1, by omega⟩
    have h1 : nI n ≤ nI j := nI_le (by omega) (by omega)
    exact ⟨m1, by simp only [F_X6_findAllele_L3, l_0, l_1, l_2, l_3, l_4, l_5, l_6, l_7, l_8, l_9, l_10, l_11, l_12, l_13, l_14, l_15, l_16, l_17, l_18, l_19, l_20, l_21, l_24, l_25, l_26, l_27, l_31, l_33, l_41, l_65, l_67, l_71, l_84, l_120, l_127, l_128, l_130, l_160, l_162, l_200, l_255, l_256, l_999, l_1000, l_8000, l_9999, l_10000, l_8001, l_m1, t_k214 h, g1, h1, bd2_some, bdx_inl, bdx_inr, bdc_inl, bdc_inr, obd_some, ↓reduceIte]⟩
  | succ m ih =>
    intro fu j hj hf
    obtain ⟨fu, rfl⟩ : ∃ f, fu = f + 1 := ⟨fu - 1, by omega⟩
    have h1 : ¬ nI n ≤ nI j := nI_ge (by omega) (by omega)
    obtain ⟨w, ih'⟩ := ih fu (j + 1) (by omega) (by omega)
    have g2 := m_get (i := a) (k := 2 + j) h (by omega)
    have g3 := m_get (i := a) (k := 6 + j) h (by omega)
    by_cases e2 : mI S (z + 216) (41 * a + (2 + j)) = x
    · by_cases e1 : mI S (z + 216) (41 * a + (6 + j)) = y
      · exact ⟨nI j, by simp only [F_X6_findAllele_L3, l_0, l_1, l_2, l_3, l_4, l_5, l_6, l_7, l_8, l_9, l_10, l_11, l_12, l_13, l_14, l_15, l_16, l_17, l_18, l_19, l_20, l_21, l_24, l_25, l_26, l_27, l_31, l_33, l_41, l_65, l_67, l_71, l_84, l_120, l_127, l_128, l_130, l_160, l_162, l_200, l_255, l_256, l_999, l_1000, l_8000, l_9999, l_10000, l_8001, l_m1, t_k214 h, g1, h1, nI_add, g2, g3, e1, e2, bd2_some, bdx_inl, bdx_inr, bdc_inl, bdc_inr, obd_some, ↓reduceIte]⟩
      · refine ⟨w, Eq.trans ?_ ih'⟩
        simp only [F_X6_findAllele_L3, F_X6_findAllele_J44, l_0, l_1, l_2, l_3, l_4, l_5, l_6, l_7, l_8, l_9, l_10, l_11, l_12, l_13, l_14, l_15, l_16, l_17, l_18, l_19, l_20, l_21, l_24, l_25, l_26, l_27, l_31, l_33, l_41, l_65, l_67, l_71, l_84, l_120, l_127, l_128, l_130, l_160, l_162, l_200, l_255, l_256, l_999, l_1000, l_8000, l_9999, l_10000, l_8001, l_m1, t_k214 h, g1, h1, nI_add, g2, g3, e1, e2, bd2_some, bdx_inl, bdx_inr, bdc_inl, bdc_inr, obd_some, ↓reduceIte]
    · refine ⟨w, Eq.trans ?_ ih'⟩
      simp only [F_X6_findAllele_L3, F_X6_findAllele_J44, l_0, l_1, l_2, l_3, l_4, l_5, l_6, l_7, l_8, l_9, l_10, l_11, l_12, l_13, l_14, l_15, l_16, l_17, l_18, l_19, l_20, l_21, l_24, l_25, l_26, l_27, l_31, l_33, l_41, l_65, l_67, l_71, l_84, l_120, l_127, l_128, l_130, l_160, l_162, l_200, l_255, l_256, l_999, l_1000, l_8000, l_9999, l_10000, l_8001, l_m1, t_k214 h, g1, h1, nI_add, g2, e2, bd2_some, bdx_inl, bdx_inr, bdc_inl, bdc_inr, obd_some, ↓reduceIte]
theorem m_from_L {p q l : Nat} {rf : Nat → Nat} (h : zSt z S) (hf : zMf z S p rf) (hp : p ≤ 160) (hq : 1 ≤ q) (hl : q + l ≤ p + 1) : ∀ (m fu j : Nat), j + m = l → m < fu → F_X6_referenceFrom_L5 fu (z + 214) (nI q) (nI l) (nI (rn rf q j)) (nI j) S = some (nI (rn rf q l), S) := by
  intro m
  induction m with
  | zero =>
    intro fu j hj hf'
    obtain ⟨fu, rfl⟩ : ∃ f, fu = f + 1 := ⟨fu - 1, by omega⟩
    have e : j = l := by omega
    subst e
    have h1 : nI j ≤ nI j := nI_le (by omega) (by omega)
    simp only [F_X6_referenceFrom_L5, h1, ↓reduceIte]
  | succ m ih =>
    intro fu j hj hf'
    obtain ⟨fu, rfl⟩ : ∃ f, fu = f + 1 := ⟨fu - 1, by omega⟩
    have h1 : ¬ nI l ≤ nI j := nI_ge (by omega) (by omega)
    have e1 := t_a215 (k := q + j) h (by omega)
    have e2 := hf.2 (q + j - 1) (by omega)
    rw [show q + j - 1 + 1 = q + j by omega] at e2
    rw [e2] at e1
    have := ih fu (j + 1) (by omega) (by omega)
    rw [rn] at this
    simp only [F_X6_referenceFrom_L5, l_0, l_1, l_2, l_3, l_4, l_5, l_6, l_7, l_8, l_9, l_10, l_11, l_12, l_13, l_14, l_15, l_16, l_17, l_18, l_19, l_20, l_21, l_24, l_25, l_26, l_27, l_31, l_33, l_41, l_65, l_67, l_71, l_84, l_120, l_127, l_128, l_130, l_160, l_162, l_200, l_255, l_256, l_999, l_1000, l_8000, l_9999, l_10000, l_8001, l_m1, h1, t_r214_1 h, nI_mul, nI_add, e1, bd2_some, bdx_inl, bdx_inr, bdc_inl, bdc_inr, obd_some, ↓reduceIte]
    exact this
theorem m_from {p q l : Nat} {rf : Nat → Nat} (h : zSt z S) (hf : zMf z S p rf) (hp : p ≤ 160) (hq : 1 ≤ q) (hl : q + l ≤ p + 1) : F_X6_referenceFrom (z + 214) (nI q) (nI l) S = some (nI (rn rf q l), S) :=
  m_from_L h hf hp hq hl l FU 0 (by omega) (by show l < 4000; omega)
theorem m_pairs (h : n ≤ 4) : F_X6_pairs (nI n) S = some (nI (prs n), S) := by
  rcases (show n = 0 ∨ n = 1 ∨ n = 2 ∨ n = 3 ∨ n = 4 by omega) with e | e | e | e | e <;> subst e <;> rfl
theorem m_pair (hj : j < 4) (hk : k < 4) : F_X6_pair (nI j) (nI k) S = some (nI (prn j k), S) := by
  rcases (show j = 0 ∨ j = 1 ∨ j = 2 ∨ j = 3 by omega) with e | e | e | e <;> subst e <;>
  rcases (show k = 0 ∨ k = 1 ∨ k = 2 ∨ k = 3 by omega) with e | e | e | e <;> subst e <;> rfl
theorem m_mask {b : Int64} {n : Nat} (hn : n ≤ 8) : (b &&& (((1 : Int64) <<< ((nI 2 * nI n).toInt64 &&& 63)) - 1)).toInt32 = nI (b.toBitVec.toNat % 4 ^ n) := by
  have e : ∀ n, n < 9 → ((1 : Int64) <<< ((nI 2 * nI n).toInt64 &&& 63)) - 1 = Int64.ofNat (2 ^ (2 * n) - 1) := by decide +kernel
  rw [e n (by omega)]
  apply i_ext
  apply BitVec.eq_of_toNat_eq
  rw [Int64.toBitVec_toInt32, BitVec.signExtend_eq_setWidth_of_le _ (by decide), BitVec.toNat_setWidth, Int64.toBitVec_and]
  show (b.toBitVec &&& BitVec.ofNat 64 (2 ^ (2 * n) - 1)).toNat % 2 ^ 32 = _
  have hp : 2 ^ (2 * n) ≤ 2 ^ 32 := Nat.pow_le_pow_right (by omega) (by omega)
  rw [BitVec.toNat_and, BitVec.toNat_ofNat, Nat.mod_eq_of_lt (show 2 ^ (2 * n) - 1 < 2 ^ 64 by omega), Nat.and_two_pow_sub_one_eq_mod, nI_bv, BitVec.toNat_ofNat, four_two]
/-- the draft's row has changed -/
theorem zMo_d {d : Bool} {r' : Rc} (hs : xOk s) (h : zMo z s S) (hF : zFr (z + 214) (z + 217) S S') (h5 : mI S' (z + 215) = mI S (z + 215)) (hf : ∀ q, q ≠ 0 → q ≠ 3 → mI S' (z + 214) q = mI S (z + 214) q) (hr : ∀ i k, i < 24 → k < 41 → mI S' (z + 216) (41 * i + k) = mI S (z + 216) (41 * i + k)) (hd : zMd z S' d r') : zMo z (wDraft s d r') S' :=
  ⟨zSt_Fr hF h.1, zMl_of (hf 4 (by omega) (by omega)) (fun i k hi hk => hr i k (by have := hs.2.2.2.2.1; have hi' : i < (xL s).length := hi; omega) hk) (n4_of (s := s) hs) h.2.1, zMf_of (hf 2 (by omega) (by omega)) h5 h.2.2.1, hd, zMt_of (hf 9 (by omega) (by omega)) (hF.2 _ (by omega)) h.2.2.2.2⟩
end M2
