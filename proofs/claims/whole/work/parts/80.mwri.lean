set_option maxRecDepth 20000
/-- the bytes written so far -/
def zOu (z : Nat) (S : Mem) (t : List Nat) : Prop := mI S (z + 214) 7 = nI t.length ∧ ∀ i b, t[i]? = some b → mI S (z + 217) i = nI b
/-- only written bytes differ -/
def zWo (z : Nat) (S S' : Mem) : Prop := zFr (z + 214) (z + 218) S S' ∧ mI S' (z + 215) = mI S (z + 215) ∧ mI S' (z + 216) = mI S (z + 216) ∧ ∀ q, q ≠ 7 → mI S' (z + 214) q = mI S (z + 214) q
section M11
variable {S S' S0 S1 S2 : Mem} {z n a b i j k o o' e q x m : Nat} {r : Rc} {s : As} {W W' R : Nat → Int32} {ls : List Rc} {t u : List Nat} {f : Nat → Nat}
theorem zWo_refl : zWo z S S := ⟨zFr_refl, rfl, rfl, fun _ _ => rfl⟩
theorem zWo_trans (h : zWo z S S1) (h' : zWo z S1 S2) : zWo z S S2 := ⟨zFr_trans h.1 h'.1, h'.2.1.trans h.2.1, h'.2.2.1.trans h.2.2.1, fun q hq => (h'.2.2.2 q hq).trans (h.2.2.2 q hq)⟩
theorem zWo_St (h : zWo z S S1) (hS : zSt z S) : zSt z S1 := zSt_Fr h.1 hS
theorem m_write (h : zSt z S) (ho : zOu z S t) (hl : t.length < 130) : ∃ S', F_X6_write (z + 214) (nI x) S = some S' ∧ zOu z S' (t ++ [x % 256]) ∧ zWo z S S' := by
  obtain ⟨S1, e1⟩ : ∃ T, T = sI S (z + 217) t.length (nI (x % 256)) := ⟨_, rfl⟩
  have h1 : zSt z S1 := by rw [e1]; exact h
  have p1 := t_s217 (k := t.length) (x := nI (x % 256)) h (by omega)
  rw [← e1] at p1
  have g1 : mI S1 (z + 214) 7 = nI t.length := by rw [e1, mI_sI, if_neg (by omega)]; exact ho.1
  refine ⟨sI S1 (z + 214) 7 (nI (t.length + 1)), ?_, ⟨?_, fun i b hb => ?_⟩, ?_, ?_, ?_, fun q hq => ?_⟩
  · simp only [F_X6_write, l_0, l_1, l_2, l_3, l_4, l_5, l_6, l_7, l_8, l_9, l_10, l_11, l_12, l_13, l_14, l_15, l_16, l_17, l_18, l_19, l_20, l_21, l_24, l_25, l_26, l_27, l_31, l_33, l_41, l_65, l_67, l_71, l_84, l_120, l_127, l_128, l_130, l_160, l_162, l_200, l_255, l_256, l_999, l_1000, l_8000, l_9999, l_10000, l_8001, l_m1, t_r214_6 h, t_g214 h, ho.1, b_and255, p1, t_g214 h1, g1, nI_add, t_p214 h1, bd2_some, bdx_inl, bdx_inr, bdc_inl, bdc_inr, obd_some]
  · rw [mI_sI, if_pos ⟨rfl, rfl⟩, List.length_append]; rfl
  · rw [mI_sI, if_neg (by omega), e1, mI_sI]
    rw [List.getElem?_append] at hb
    by_cases c : i < t.length
    · rw [if_pos c] at hb
      rw [if_neg (by omega)]
      exact ho.2 i b hb
    · rw [if_neg c] at hb
      have : i - t.length = 0 := by
        rcases Nat.eq_zero_or_pos (i - t.length) with e | e
        · exact e
        · rw [List.getElem?_eq_none (show [x % 256].length ≤ i - t.length from e)] at hb; cases hb
      rw [this] at hb
      cases hb
      rw [if_pos ⟨rfl, by omega⟩]
  · rw [e1]
    exact zFr_trans (zFr_sI (by omega) (by omega)) (zFr_sI (by omega) (by omega))
  · rw [mI_sI_r, if_neg (by omega), e1, mI_sI_r, if_neg (by omega)]
  · rw [mI_sI_r, if_neg (by omega), e1, mI_sI_r, if_neg (by omega)]
  · rw [mI_sI, if_neg (by omega), e1, mI_sI, if_neg (by omega)]
def bOne (f : Nat → Nat) (w : Bool) (i : Nat) : List Nat := if w = true then [f i % 256, f i / 256] else [f i]
theorem bOne_len (f : Nat → Nat) (w : Bool) (i : Nat) : (bOne f w i).length ≤ 2 := by
  unfold bOne
  split
  · exact Nat.le_refl _
  · exact Nat.le_succ _
theorem m_wr66 {w : Bool} (hi : i < 30) (hon : o + n ≤ 41) (hf : ∀ j, j < n → f j ≤ 9999 ∧ (w = false → f j ≤ 127)) : ∀ (m fu j : Nat) (S : Mem) (t : List Nat), zSt z S → zOu z S t → (∀ j, j < n → mI S (z + 216) (41 * i + (o + j)) = nI (f j)) → j + m = n → m < fu → t.length + 2 * m ≤ 130 → ∃ S', F_X6_writeRow_L66 fu (z + 214) (nI i) (nI o) (nI n) (bI w) (nI j) S = some S' ∧ zOu z S' (t ++ (List.range m).flatMap (fun k => bOne f w (j + k))) ∧ zWo z S S' := by
  intro m
  induction m with
  | zero =>
    intro fu j S t h ho hw hj hfu hl
    obtain ⟨fu, rfl⟩ : ∃ f, fu = f + 1 := ⟨fu - 1, by omega⟩
    have c : nI n ≤ nI j := nI_le (by omega) (by omega)
    refine ⟨S, by simp only [F_X6_writeRow_L66, c, ↓reduceIte], ?_, zWo_refl⟩
    rw [List.range_zero, List.flatMap_nil, List.append_nil]
    exact ho
  | succ m ih =>
    intro fu j S t h ho hw hj hfu hl
    obtain ⟨fu, rfl⟩ : ∃ f, fu = f + 1 := ⟨fu - 1, by omega⟩
    have c : ¬ nI n ≤ nI j := nI_ge (by omega) (by omega)
    have g1 := m_get (i := i) (k := o + j) h (by omega)
    rw [hw j (by omega)] at g1
    obtain ⟨hf1, hf2⟩ := hf j (by omega)
    obtain ⟨S1, p1, p2, p3⟩ := m_write (x := f j) h ho (by omega)
    have h1 := zWo_St p3 h
    have hr : (List.range (m + 1)).flatMap (fun k => bOne f w (j + k)) = bOne f w j ++ (List.range m).flatMap (fun k => bOne f w (j + 1 + k)) := by
      rw [List.range_succ_eq_map, List.flatMap_cons, List.flatMap_map]
      congr 2
      funext k
      rw [show j + (k + 1) = j + 1 + k by omega]
    cases w with
    | false =>
      have e1 : bOne f false j = [f j % 256] := by
        show [f j] = [f j % 256]
        rw [Nat.mod_eq_of_lt (by have := hf2 rfl; omega)]
      obtain ⟨S2, q1, q2, q3⟩ := ih fu (j + 1) S1 (t ++ [f j % 256]) h1 p2 (fun k hk => by rw [p3.2.2.1]; exact hw k hk) (by omega) (by omega) (by rw [List.length_append]; simp only [List.length_cons, List.length_nil]; omega)
      refine ⟨S2, Eq.trans ?_ q1, ?_, zWo_trans p3 q3⟩
      · simp only [F_X6_writeRow_L66, F_X6_writeRow_J106, l_0, l_1, l_2, l_3, l_4, l_5, l_6, l_7, l_8, l_9, l_10, l_11, l_12, l_13, l_14, l_15, l_16, l_17, l_18, l_19, l_20, l_21, l_24, l_25, l_26, l_27, l_31, l_33, l_41, l_65, l_67, l_71, l_84, l_120, l_127, l_128, l_130, l_160, l_162, l_200, l_255, l_256, l_999, l_1000, l_8000, l_9999, l_10000, l_8001, l_m1, c, t_k214 h, nI_add, g1, p1, bI, bd2_some, bdx_inl, bdx_inr, bdc_inl, bdc_inr, obd_some, ↓reduceIte, Bool.false_eq_true]
      · rw [hr, e1, ← List.append_assoc]
        exact q2
    | true =>
      have g2 := m_get (i := i) (k := o + j) h1 (by omega)
      rw [p3.2.2.1, hw j (by omega)] at g2
      have e0 : nI (f j) >>> (nI 8 &&& nI 31) = nI (f j / 256) := by rw [b_31 (by omega), b_shr (by omega) (by omega)]
      obtain ⟨S2, p4, p5, p6⟩ := m_write (x := f j / 256) h1 p2 (by rw [List.length_append]; simp only [List.length_cons, List.length_nil]; omega)
      have h2 := zWo_St p6 h1
      have e1 : bOne f true j = [f j % 256] ++ [f j / 256 % 256] := by
        show [f j % 256, f j / 256] = [f j % 256, f j / 256 % 256]
        rw [Nat.mod_eq_of_lt (show f j / 256 < 256 by omega)]
      obtain ⟨S3, q1, q2, q3⟩ := ih fu (j + 1) S2 (t ++ [f j % 256] ++ [f j / 256 % 256]) h2 p5 (fun k hk => by rw [p6.2.2.1, p3.2.2.1]; exact hw k hk) (by omega) (by omega) (by rw [List.length_append, List.length_append]; simp only [List.length_cons, List.length_nil]; omega)
      refine ⟨S3, Eq.trans ?_ q1, ?_, zWo_trans p3 (zWo_trans p6 q3)⟩
      · simp only [F_X6_writeRow_L66, F_X6_writeRow_J106, l_0, l_1, l_2, l_3, l_4, l_5, l_6, l_7, l_8, l_9, l_10, l_11, l_12, l_13, l_14, l_15, l_16, l_17, l_18, l_19, l_20, l_21, l_24, l_25, l_26, l_27, l_31, l_33, l_41, l_65, l_67, l_71, l_84, l_120, l_127, l_128, l_130, l_160, l_162, l_200, l_255, l_256, l_999, l_1000, l_8000, l_9999, l_10000, l_8001, l_m1, c, t_k214 h, nI_add, g1, p1, bI, ne10, t_k214 h1, g2, e0, p4, bd2_some, bdx_inl, bdx_inr, bdc_inl, bdc_inr, obd_some, ↓reduceIte]
      · rw [hr, e1, ← List.append_assoc, ← List.append_assoc]
        exact q2
theorem m_wr6 (h : zSt z S) (hi : i < 30) (hon : o + n ≤ 41) (hw : ∀ j, j < n → mI S (z + 216) (41 * i + (o + j)) = nI (f j)) (hf : ∀ j, j < n → f j ≤ 9999) : ∀ (m fu j : Nat), j + m = n → m < fu → F_X6_writeRow_L6 fu (z + 214) (nI i) (nI o) (nI n) (bI (decide (∃ i, i < j ∧ 127 < f i))) (nI j) S = F_X6_writeRow_J59 (z + 214) (nI i) (nI o) (nI n) (bI (bWide f n)) (z + 214) (nI (16 * n)) (nI (if bWide f n = true then 2 else 1)) S := by
  intro m
  induction m with
  | zero =>
    intro fu j hj hfu
    obtain ⟨fu, rfl⟩ : ∃ f, fu = f + 1 := ⟨fu - 1, by omega⟩
    have c : nI n ≤ nI j := nI_le (by omega) (by omega)
    have e : j = n := by omega
    subst e
    rw [show decide (∃ i, i < j ∧ 127 < f i) = bWide f j from rfl]
    cases bWide f j with
    | true => simp only [F_X6_writeRow_L6, l_0, l_1, l_2, l_3, l_4, l_5, l_6, l_7, l_8, l_9, l_10, l_11, l_12, l_13, l_14, l_15, l_16, l_17, l_18, l_19, l_20, l_21, l_24, l_25, l_26, l_27, l_31, l_33, l_41, l_65, l_67, l_71, l_84, l_120, l_127, l_128, l_130, l_160, l_162, l_200, l_255, l_256, l_999, l_1000, l_8000, l_9999, l_10000, l_8001, l_m1, c, bI, ne10, nI_mul, ↓reduceIte]
    | false => simp only [F_X6_writeRow_L6, l_0, l_1, l_2, l_3, l_4, l_5, l_6, l_7, l_8, l_9, l_10, l_11, l_12, l_13, l_14, l_15, l_16, l_17, l_18, l_19, l_20, l_21, l_24, l_25, l_26, l_27, l_31, l_33, l_41, l_65, l_67, l_71, l_84, l_120, l_127, l_128, l_130, l_160, l_162, l_200, l_255, l_256, l_999, l_1000, l_8000, l_9999, l_10000, l_8001, l_m1, c, bI, nI_mul, ↓reduceIte, Bool.false_eq_true]
  | succ m ih =>
    intro fu j hj hfu
    obtain ⟨fu, rfl⟩ : ∃ f, fu = f + 1 := ⟨fu - 1, by omega⟩
    have c : ¬ nI n ≤ nI j := nI_ge (by omega) (by omega)
    have g1 := m_get (i := i) (k := o + j) h (by omega)
    rw [hw j (by omega)] at g1
    have hf1 := hf j (by omega)
    have IH := ih fu (j + 1) (by omega) (by omega)
    by_cases c1 : ∃ i, i < j ∧ 127 < f i
    · rw [show bI (decide (∃ i, i < j ∧ 127 < f i)) = nI 1 by rw [decide_eq_true c1]; rfl]
      rw [show bI (decide (∃ i, i < j + 1 ∧ 127 < f i)) = nI 1 by
        rw [decide_eq_true (by obtain ⟨i, h1, h2⟩ := c1; exact ⟨i, by omega, h2⟩)]; rfl] at IH
      refine Eq.trans ?_ IH
      simp only [F_X6_writeRow_L6, F_X6_writeRow_J31, F_X6_writeRow_J36, l_0, l_1, l_2, l_3, l_4, l_5, l_6, l_7, l_8, l_9, l_10, l_11, l_12, l_13, l_14, l_15, l_16, l_17, l_18, l_19, l_20, l_21, l_24, l_25, l_26, l_27, l_31, l_33, l_41, l_65, l_67, l_71, l_84, l_120, l_127, l_128, l_130, l_160, l_162, l_200, l_255, l_256, l_999, l_1000, l_8000, l_9999, l_10000, l_8001, l_m1, c, ne10, nI_add, ↓reduceIte]
    · rw [show bI (decide (∃ i, i < j ∧ 127 < f i)) = nI 0 by rw [decide_eq_false c1]; rfl]
      by_cases c2 : f j ≤ 127
      · have c2' : nI (f j) ≤ nI 127 := nI_le c2 (by omega)
        rw [show bI (decide (∃ i, i < j + 1 ∧ 127 < f i)) = nI 0 by
          rw [decide_eq_false (by
            rintro ⟨i, h1, h2⟩
            by_cases q : i = j
            · subst q; omega
            · exact c1 ⟨i, by omega, h2⟩)]; rfl] at IH
        refine Eq.trans ?_ IH
        simp only [F_X6_writeRow_L6, F_X6_writeRow_J31, F_X6_writeRow_J36, l_0, l_1, l_2, l_3, l_4, l_5, l_6, l_7, l_8, l_9, l_10, l_11, l_12, l_13, l_14, l_15, l_16, l_17, l_18, l_19, l_20, l_21, l_24, l_25, l_26, l_27, l_31, l_33, l_41, l_65, l_67, l_71, l_84, l_120, l_127, l_128, l_130, l_160, l_162, l_200, l_255, l_256, l_999, l_1000, l_8000, l_9999, l_10000, l_8001, l_m1, c, t_k214 h, nI_add, g1, c2', bd2_some, bdx_inl, bdx_inr, bdc_inl, bdc_inr, obd_some, ↓reduceIte]
      · have c2' : ¬ nI (f j) ≤ nI 127 := nI_ge (by omega) (by omega)
        rw [show bI (decide (∃ i, i < j + 1 ∧ 127 < f i)) = nI 1 by
          rw [decide_eq_true ⟨j, by omega, by omega⟩]; rfl] at IH
        refine Eq.trans ?_ IH
        simp only [F_X6_writeRow_L6, F_X6_writeRow_J31, F_X6_writeRow_J36, l_0, l_1, l_2, l_3, l_4, l_5, l_6, l_7, l_8, l_9, l_10, l_11, l_12, l_13, l_14, l_15, l_16, l_17, l_18, l_19, l_20, l_21, l_24, l_25, l_26, l_27, l_31, l_33, l_41, l_65, l_67, l_71, l_84, l_120, l_127, l_128, l_130, l_160, l_162, l_200, l_255, l_256, l_999, l_1000, l_8000, l_9999, l_10000, l_8001, l_m1, c, t_k214 h, nI_add, g1, c2', bd2_some, bdx_inl, bdx_inr, bdc_inl, bdc_inr, obd_some, ↓reduceIte]
theorem bWide_f (h : bWide f n = false) : ∀ j, j < n → f j ≤ 127 := by
  intro j hj
  have := of_decide_eq_false h
  exact Nat.not_lt.mp (fun q => this ⟨j, hj, q⟩)
theorem m_wrow (h : zSt z S) (ho : zOu z S t) (hi : i < 30) (hon : o + n ≤ 41) (hn : n ≤ 10) (hw : ∀ j, j < n → mI S (z + 216) (41 * i + (o + j)) = nI (f j)) (hf : ∀ j, j < n → f j ≤ 9999) (hl : t.length + 2 * n + 1 ≤ 130) : ∃ S', F_X6_writeRow (z + 214) (nI i) (nI o) (nI n) S = some S' ∧ zOu z S' (t ++ bRow f n) ∧ zWo z S S' := by
  have M := m_wr6 h hi hon hw hf n FU 0 (by omega) (by show n < 4000; omega)
  have key : ∀ k, k = 0 → bI (decide (∃ i, i < k ∧ 127 < f i)) = nI 0 := by
    intro k hk
    rw [decide_eq_false (by rintro ⟨i, h1, h2⟩; omega)]
    rfl
  rw [key 0 rfl] at M
  obtain ⟨w, ew⟩ : ∃ w, w = bWide f n := ⟨_, rfl⟩
  rw [← ew] at M
  have hx : 16 * n + (if w = true then 2 else 1) < 256 := by split <;> omega
  obtain ⟨S1, p1, p2, p3⟩ := m_write (x := 16 * n + if w = true then 2 else 1) h ho (by omega)
  have h1 := zWo_St p3 h
  obtain ⟨S2, q1, q2, q3⟩ := m_wr66 (w := w) (f := f) hi hon (fun j hj => ⟨hf j hj, fun e => bWide_f (by rw [← ew]; exact e) j hj⟩) n FU 0 S1 _ h1 p2 (fun k hk => by rw [p3.2.2.1]; exact hw k hk) (by omega) (by show n < 4000; omega) (by rw [List.length_append]; simp only [List.length_cons, List.length_nil]; omega)
  refine ⟨S2, ?_, ?_, zWo_trans p3 q3⟩
  · unfold F_X6_writeRow
    refine Eq.trans M ?_
    simp only [F_X6_writeRow_J59, l_0, l_1, l_2, l_3, l_4, l_5, l_6, l_7, l_8, l_9, l_10, l_11, l_12, l_13, l_14, l_15, l_16, l_17, l_18, l_19, l_20, l_21, l_24, l_25, l_26, l_27, l_31, l_33, l_41, l_65, l_67, l_71, l_84, l_120, l_127, l_128, l_130, l_160, l_162, l_200, l_255, l_256, l_999, l_1000, l_8000, l_9999, l_10000, l_8001, l_m1, t_k214 h, nI_add, p1, bd2_some, bdx_inl, bdx_inr, bdc_inl, bdc_inr, obd_some]
    exact q1
  · rw [Nat.mod_eq_of_lt hx, List.append_assoc] at q2
    have : [16 * n + if w = true then 2 else 1] ++ (List.range n).flatMap (fun k => bOne f w (0 + k)) = bRow f n := by
      unfold bRow
      rw [← ew, List.singleton_append]
      congr 2
      funext k
      rw [Nat.zero_add]
      rfl
    rw [this] at q2
    exact q2
theorem m_letter (h : b < 4) : F_X6_letter (nI b) S = some (nI (ltr b), S) := by
  rcases (show b = 0 ∨ b = 1 ∨ b = 2 ∨ b = 3 by omega) with e | e | e | e <;> subst e <;> rfl
theorem m_w100 {K : Nat → Int32 → Int32 → Int32 → Mem → Option Mem} {v2 : Int32} {l B : Nat} (hi : i < 30) (ha : a < 4) (hB : B < 65536) : ∀ (m fu : Nat) (S : Mem) (t : List Nat), zSt z S → zOu z S t → mI S (z + 216) (41 * i + (6 + a)) = nI B → m ≤ 8 → m < fu → t.length + m ≤ 130 → ∃ S', F_X6_writeOut_L100 K fu (z + 214) (nI i) v2 (nI a) (gI m) S = K (z + 214) (nI i) v2 (nI (a + 1)) S' ∧ zOu z S' (t ++ (List.range m).map (fun k => ltr (B / 4 ^ (m - 1 - k) % 4))) ∧ zWo z S S' := by
  intro m
  induction m with
  | zero =>
    intro fu S t h ho hw hm hfu hl
    obtain ⟨fu, rfl⟩ : ∃ f, fu = f + 1 := ⟨fu - 1, by omega⟩
    have c : gI 0 < nI 0 := by decide
    refine ⟨S, by simp only [F_X6_writeOut_L100, l_0, l_1, l_2, l_3, l_4, l_5, l_6, l_7, l_8, l_9, l_10, l_11, l_12, l_13, l_14, l_15, l_16, l_17, l_18, l_19, l_20, l_21, l_24, l_25, l_26, l_27, l_31, l_33, l_41, l_65, l_67, l_71, l_84, l_120, l_127, l_128, l_130, l_160, l_162, l_200, l_255, l_256, l_999, l_1000, l_8000, l_9999, l_10000, l_8001, l_m1, c, nI_add, ↓reduceIte], ?_, zWo_refl⟩
    rw [List.range_zero, List.map_nil, List.append_nil]
    exact ho
  | succ m ih =>
    intro fu S t h ho hw hm hfu hl
    obtain ⟨fu, rfl⟩ : ∃ f, fu = f + 1 := ⟨fu - 1, by omega⟩
    have c : ¬ nI m < nI 0 := nI_nlt (by omega) (by omega)
    have g1 := m_get (i := i) (k := 6 + a) h (by omega)
    rw [hw] at g1
    have e1 : nI B >>> (nI (2 * m) &&& nI 31) &&& nI 3 = nI (B / 4 ^ m % 4) := by rw [b_31 (by omega), b_shr (by omega) (by omega), b_and3, four_two]
    have lt := m_letter (S := S) (show B / 4 ^ m % 4 < 4 by omega)
    have l256 := ltr_lt (B / 4 ^ m % 4)
    obtain ⟨S1, p1, p2, p3⟩ := m_write (x := ltr (B / 4 ^ m % 4)) h ho (by omega)
    have h1 := zWo_St p3 h
    obtain ⟨S2, q1, q2, q3⟩ := ih fu S1 _ h1 p2 (by rw [p3.2.2.1]; exact hw) (by omega) (by omega) (by rw [List.length_append]; simp only [List.length_cons, List.length_nil]; omega)
    refine ⟨S2, Eq.trans ?_ q1, ?_, zWo_trans p3 q3⟩
    · rw [show gI (m + 1) = nI m from rfl]
      simp only [F_X6_writeOut_L100, l_0, l_1, l_2, l_3, l_4, l_5, l_6, l_7, l_8, l_9, l_10, l_11, l_12, l_13, l_14, l_15, l_16, l_17, l_18, l_19, l_20, l_21, l_24, l_25, l_26, l_27, l_31, l_33, l_41, l_65, l_67, l_71, l_84, l_120, l_127, l_128, l_130, l_160, l_162, l_200, l_255, l_256, l_999, l_1000, l_8000, l_9999, l_10000, l_8001, l_m1, c, t_k214 h, nI_add, nI_mul, g1, e1, lt, p1, gI_m, bd2_some, bdx_inl, bdx_inr, bdc_inl, bdc_inr, obd_some, ↓reduceIte]
    · rw [Nat.mod_eq_of_lt l256, List.append_assoc] at q2
      rw [List.range_succ_eq_map, List.map_cons, List.map_map, show m + 1 - 1 - 0 = m by omega]
      rw [List.singleton_append] at q2
      have : (List.range m).map ((fun k => ltr (B / 4 ^ (m + 1 - 1 - k) % 4)) ∘ Nat.succ) = (List.range m).map (fun k => ltr (B / 4 ^ (m - 1 - k) % 4)) := by
        congr 1
        funext k
        show ltr (B / 4 ^ (m + 1 - 1 - (k + 1)) % 4) = _
        rw [show m + 1 - 1 - (k + 1) = m - 1 - k by omega]
      rw [this]
      exact q2
theorem m_wal (hi : i < 30) (hr : zMR W (41 * i) r) (hw : aWr r) (hL : ∀ j, j < aN r → 1 ≤ aL r j) (hB : ∀ j, j < aN r → aB r j < 65536) : ∀ (m fu j : Nat) (S : Mem) (t : List Nat), zSt z S → zOu z S t → mI S (z + 216) = W → j + m = aN r → m < fu → t.length + 9 * m ≤ 120 → ∃ S' fu', F_X6_writeOut_L67 fu (z + 214) (nI i) (nI (aN r)) (nI j) S = F_X6_writeOut_L67 (fu' + 1) (z + 214) (nI i) (nI (aN r)) (nI (aN r)) S' ∧ zOu z S' (t ++ (List.range m).flatMap (fun k => bAl (aL r (j + k)) (aB r (j + k)))) ∧ zWo z S S' := by
  intro m
  have n4 := hw.1
  induction m with
  | zero =>
    intro fu j S t h ho hW hj hfu hl
    obtain ⟨fu, rfl⟩ : ∃ f, fu = f + 1 := ⟨fu - 1, by omega⟩
    have e : j = aN r := by omega
    subst e
    refine ⟨S, fu, rfl, ?_, zWo_refl⟩
    rw [List.range_zero, List.flatMap_nil, List.append_nil]
    exact ho
  | succ m ih =>
    intro fu j S t h ho hW hj hfu hl
    obtain ⟨fu, rfl⟩ : ∃ f, fu = f + 1 := ⟨fu - 1, by omega⟩
    have c : ¬ nI (aN r) ≤ nI j := nI_ge (by omega) (by omega)
    have hl1 := hL j (by omega)
    have hl8 := (hw.2.1 j (by omega)).1
    have g1 := m_get (i := i) (k := 2 + j) h (by omega)
    rw [hW, (hr.2.1 j (by omega)).2.1] at g1
    obtain ⟨S1, p1, p2, p3⟩ := m_write (x := 16 * aL r j + 7) h ho (by omega)
    have h1 := zWo_St p3 h
    have len1 : (t ++ [(16 * aL r j + 7) % 256]).length = t.length + 1 := by rw [List.length_append]; rfl
    obtain ⟨S2, q1, q2, q3⟩ := m_w100 (K := F_X6_writeOut_L67 fu) (v2 := nI (aN r)) (l := aL r j) hi (show j < 4 by omega) (hB j (by omega)) (aL r j) FU S1 _ h1 p2 (by rw [p3.2.2.1, hW]; exact (hr.2.1 j (by omega)).1) hl8 (by show aL r j < 4000; omega) (by omega)
    have h2 := zWo_St q3 h1
    have eb : t ++ [(16 * aL r j + 7) % 256] ++ (List.range (aL r j)).map (fun k => ltr (aB r j / 4 ^ (aL r j - 1 - k) % 4)) = t ++ bAl (aL r j) (aB r j) := by
      rw [Nat.mod_eq_of_lt (by omega), List.append_assoc, List.singleton_append]
      rfl
    rw [eb] at q2
    have lenb : (bAl (aL r j) (aB r j)).length = 1 + aL r j := bAl_len _ _
    obtain ⟨S3, fu', w1, w2, w3⟩ := ih fu (j + 1) S2 _ h2 q2 (by rw [q3.2.2.1, p3.2.2.1]; exact hW) (by omega) (by omega) (by rw [List.length_append, lenb]; omega)
    refine ⟨S3, fu', Eq.trans ?_ w1, ?_, zWo_trans p3 (zWo_trans q3 w3)⟩
    · have e1 : nI (aL r j) - nI 1 = gI (aL r j) := gI_of _
      refine Eq.trans ?_ q1
      simp only [F_X6_writeOut_L67, l_0, l_1, l_2, l_3, l_4, l_5, l_6, l_7, l_8, l_9, l_10, l_11, l_12, l_13, l_14, l_15, l_16, l_17, l_18, l_19, l_20, l_21, l_24, l_25, l_26, l_27, l_31, l_33, l_41, l_65, l_67, l_71, l_84, l_120, l_127, l_128, l_130, l_160, l_162, l_200, l_255, l_256, l_999, l_1000, l_8000, l_9999, l_10000, l_8001, l_m1, c, t_k214 h, nI_add, nI_mul, g1, p1, e1, bd2_some, bdx_inl, bdx_inr, bdc_inl, bdc_inr, obd_some, ↓reduceIte]
    · have hrr : (List.range (m + 1)).flatMap (fun k => bAl (aL r (j + k)) (aB r (j + k))) = bAl (aL r j) (aB r j) ++ (List.range m).flatMap (fun k => bAl (aL r (j + 1 + k)) (aB r (j + 1 + k))) := by
        rw [List.range_succ_eq_map, List.flatMap_cons, List.flatMap_map]
        congr 2
        funext k
        rw [show j + (k + 1) = j + 1 + k by omega]
      rw [hrr, ← List.append_assoc]
      exact w2
end M11
