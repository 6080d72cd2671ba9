set_option maxRecDepth 20000
section M14
variable {S S' S0 S1 S2 : Mem} {z n a b i j k o o' e q x m : Nat} {r : Rc} {s : As} {W W' R : Nat → Int32} {ls : List Rc} {t u : List Nat} {f : Nat → Nat}
theorem zMt_Mw (h : zMw z S S') (ht : zMt z S t) : zMt z S' t := zMt_of (h.2.2 9 (by omega)) (h.1.2 _ (by omega)) ht
theorem m_byte (h : zSt z S) (ht : zMt z S t) (hl : t.length ≤ 120) (hi : i < 2147483648) : F_X6_byteAt (z + 214) (nI i) S = some (nI (pb t i), S) := by
  by_cases c : t.length ≤ i
  · have c' : nI t.length ≤ nI i := nI_le c hi
    have e : pb t i = 0 := by unfold pb; rw [List.getD_eq_getElem?_getD, List.getElem?_eq_none c]; rfl
    rw [e]
    simp only [F_X6_byteAt, l_0, l_1, l_2, l_3, l_4, l_5, l_6, l_7, l_8, l_9, l_10, l_11, l_12, l_13, l_14, l_15, l_16, l_17, l_18, l_19, l_20, l_21, l_24, l_25, l_26, l_27, l_31, l_33, l_41, l_65, l_67, l_71, l_84, l_120, l_127, l_128, l_130, l_160, l_162, l_200, l_255, l_256, l_999, l_1000, l_8000, l_9999, l_10000, l_8001, l_m1, t_g214 h, ht.1, c', bd2_some, bdx_inl, bdx_inr, bdc_inl, bdc_inr, obd_some, ↓reduceIte]
  · have c' : ¬ nI t.length ≤ nI i := nI_ge (by omega) (by omega)
    have e1 := t_a218 (k := i) h (by omega)
    rw [ht.2 i (pb t i) (by unfold pb; rw [List.getD_eq_getElem?_getD, List.getElem?_eq_getElem (show i < t.length by omega)]; rfl)] at e1
    simp only [F_X6_byteAt, l_0, l_1, l_2, l_3, l_4, l_5, l_6, l_7, l_8, l_9, l_10, l_11, l_12, l_13, l_14, l_15, l_16, l_17, l_18, l_19, l_20, l_21, l_24, l_25, l_26, l_27, l_31, l_33, l_41, l_65, l_67, l_71, l_84, l_120, l_127, l_128, l_130, l_160, l_162, l_200, l_255, l_256, l_999, l_1000, l_8000, l_9999, l_10000, l_8001, l_m1, t_g214 h, ht.1, c', t_r214_8 h, e1, bd2_some, bdx_inl, bdx_inr, bdc_inl, bdc_inr, obd_some, ↓reduceIte]
theorem m_two (h : zSt z S) (ht : zMt z S t) (hl : t.length ≤ 120) (hi : i < 2147483647) : F_X6_twoAt (z + 214) (nI i) S = some (nI (p2 t i), S) := by
  have e1 := m_byte (i := i) h ht hl (by omega)
  have e2 := m_byte (i := i + 1) h ht hl (by omega)
  simp only [F_X6_twoAt, l_0, l_1, l_2, l_3, l_4, l_5, l_6, l_7, l_8, l_9, l_10, l_11, l_12, l_13, l_14, l_15, l_16, l_17, l_18, l_19, l_20, l_21, l_24, l_25, l_26, l_27, l_31, l_33, l_41, l_65, l_67, l_71, l_84, l_120, l_127, l_128, l_130, l_160, l_162, l_200, l_255, l_256, l_999, l_1000, l_8000, l_9999, l_10000, l_8001, l_m1, t_k214 h, e1, nI_add, e2, nI_mul, p2, bd2_some, bdx_inl, bdx_inr, bdc_inl, bdc_inr, obd_some]
theorem m_rrow_L (ht : zMt z S0 t) (hl : t.length ≤ 120) (hi : i < 10000) (hon : o + n ≤ 41) : ∀ (m fu j : Nat) (S : Mem) (R : Nat → Int32), zR5 z S0 S R → j + m = n → m < fu → ∃ S' R', F_X6_readRow_L22 fu (z + 214) (nI i) (nI o) (nI n) (bI (pW t i)) (nI j) S = some (nI (pNx t i n), S') ∧ zR5 z S0 S' R' ∧ (∀ k, j ≤ k → k < n → R' (o + k) = nI (pRw t i k)) ∧ ∀ k, (k < o + j ∨ o + n ≤ k) → R' k = R k := by
  intro m
  induction m with
  | zero =>
    intro fu j S R h hj hf
    obtain ⟨fu, rfl⟩ : ∃ f, fu = f + 1 := ⟨fu - 1, by omega⟩
    have c : nI n ≤ nI j := nI_le (by omega) (by omega)
    refine ⟨S, R, ?_, h, fun k h1 h2 => by omega, fun _ _ => rfl⟩
    unfold pNx
    cases pW t i with
    | true => simp only [F_X6_readRow_L22, l_0, l_1, l_2, l_3, l_4, l_5, l_6, l_7, l_8, l_9, l_10, l_11, l_12, l_13, l_14, l_15, l_16, l_17, l_18, l_19, l_20, l_21, l_24, l_25, l_26, l_27, l_31, l_33, l_41, l_65, l_67, l_71, l_84, l_120, l_127, l_128, l_130, l_160, l_162, l_200, l_255, l_256, l_999, l_1000, l_8000, l_9999, l_10000, l_8001, l_m1, c, bI, ne10, nI_add, nI_mul, ↓reduceIte]
    | false => simp only [F_X6_readRow_L22, l_0, l_1, l_2, l_3, l_4, l_5, l_6, l_7, l_8, l_9, l_10, l_11, l_12, l_13, l_14, l_15, l_16, l_17, l_18, l_19, l_20, l_21, l_24, l_25, l_26, l_27, l_31, l_33, l_41, l_65, l_67, l_71, l_84, l_120, l_127, l_128, l_130, l_160, l_162, l_200, l_255, l_256, l_999, l_1000, l_8000, l_9999, l_10000, l_8001, l_m1, c, bI, nI_add, ↓reduceIte, Bool.false_eq_true]
  | succ m ih =>
    intro fu j S R h hj hf
    obtain ⟨fu, rfl⟩ : ∃ f, fu = f + 1 := ⟨fu - 1, by omega⟩
    have c : ¬ nI n ≤ nI j := nI_ge (by omega) (by omega)
    have htS := zMt_Mw h.2.1 ht
    obtain ⟨S1, p1, pp2⟩ := r5_put (k := o + j) (x := nI (pRw t i j)) h (by omega)
    obtain ⟨S2, R2, q1, q2, q3, q4⟩ := ih fu (j + 1) S1 _ pp2 (by omega) (by omega)
    refine ⟨S2, R2, Eq.trans ?_ q1, q2, fun k h1 h2 => ?_, fun k hk => ?_⟩
    · cases e : pW t i with
      | true =>
        have b1 := m_two (i := i + 1 + 2 * j) h.1 htS hl (by omega)
        have ev : p2 t (i + 1 + 2 * j) = pRw t i j := by unfold pRw; rw [e, if_pos rfl]
        rw [ev] at b1
        simp only [F_X6_readRow_L22, F_X6_readRow_J65, l_0, l_1, l_2, l_3, l_4, l_5, l_6, l_7, l_8, l_9, l_10, l_11, l_12, l_13, l_14, l_15, l_16, l_17, l_18, l_19, l_20, l_21, l_24, l_25, l_26, l_27, l_31, l_33, l_41, l_65, l_67, l_71, l_84, l_120, l_127, l_128, l_130, l_160, l_162, l_200, l_255, l_256, l_999, l_1000, l_8000, l_9999, l_10000, l_8001, l_m1, c, bI, ne10, t_k214 h.1, nI_add, nI_mul, b1, p1, bd2_some, bdx_inl, bdx_inr, bdc_inl, bdc_inr, obd_some, ↓reduceIte]
      | false =>
        have b1 := m_byte (i := i + 1 + j) h.1 htS hl (by omega)
        have ev : pb t (i + 1 + j) = pRw t i j := by unfold pRw; rw [e]; rfl
        rw [ev] at b1
        simp only [F_X6_readRow_L22, F_X6_readRow_J65, l_0, l_1, l_2, l_3, l_4, l_5, l_6, l_7, l_8, l_9, l_10, l_11, l_12, l_13, l_14, l_15, l_16, l_17, l_18, l_19, l_20, l_21, l_24, l_25, l_26, l_27, l_31, l_33, l_41, l_65, l_67, l_71, l_84, l_120, l_127, l_128, l_130, l_160, l_162, l_200, l_255, l_256, l_999, l_1000, l_8000, l_9999, l_10000, l_8001, l_m1, c, bI, t_k214 h.1, nI_add, b1, p1, bd2_some, bdx_inl, bdx_inr, bdc_inl, bdc_inr, obd_some, ↓reduceIte, Bool.false_eq_true]
    · by_cases c1 : k = j
      · subst c1
        rw [q4 (o + k) (by omega)]
        simp only [va_up, ↓reduceIte]
      · exact q3 k (by omega) h2
    · rw [q4 k (by omega)]
      have : ¬ k = o + j := by omega
      simp only [va_up, this, ↓reduceIte]
theorem m_rrow (ht : zMt z S0 t) (hl : t.length ≤ 120) (hi : i < 10000) (hon : o + n ≤ 41) (h : zR5 z S0 S R) : ∃ S' R', F_X6_readRow (z + 214) (nI i) (nI o) (nI n) S = some (nI (pNx t i n), S') ∧ zR5 z S0 S' R' ∧ (∀ k, k < n → R' (o + k) = nI (pRw t i k)) ∧ ∀ k, (k < o ∨ o + n ≤ k) → R' k = R k := by
  obtain ⟨S1, R1, q1, q2, q3, q4⟩ := m_rrow_L (o := o) ht hl hi hon n FU 0 S R h (by omega) (by show n < 4000; omega)
  have b1 := m_byte (i := i) h.1 (zMt_Mw h.2.1 ht) hl (by omega)
  refine ⟨S1, R1, ?_, q2, fun k hk => q3 k (by omega) hk, fun k hk => q4 k (by omega)⟩
  by_cases c : pb t i % 16 = 2
  · have e : pW t i = true := decide_eq_true c
    rw [e] at q1
    have c' : nI (pb t i % 16) = nI 2 := by rw [c]
    simp only [F_X6_readRow, F_X6_readRow_J17, l_0, l_1, l_2, l_3, l_4, l_5, l_6, l_7, l_8, l_9, l_10, l_11, l_12, l_13, l_14, l_15, l_16, l_17, l_18, l_19, l_20, l_21, l_24, l_25, l_26, l_27, l_31, l_33, l_41, l_65, l_67, l_71, l_84, l_120, l_127, l_128, l_130, l_160, l_162, l_200, l_255, l_256, l_999, l_1000, l_8000, l_9999, l_10000, l_8001, l_m1, t_k214 h.1, b1, b_and15, c', bd2_some, bdx_inl, bdx_inr, bdc_inl, bdc_inr, obd_some, ↓reduceIte]
    exact q1
  · have e : pW t i = false := decide_eq_false c
    rw [e] at q1
    have c' : ¬ nI (pb t i % 16) = nI 2 := fun q => c ((nI_eq (by omega) (by omega)).mp q)
    simp only [F_X6_readRow, F_X6_readRow_J17, l_0, l_1, l_2, l_3, l_4, l_5, l_6, l_7, l_8, l_9, l_10, l_11, l_12, l_13, l_14, l_15, l_16, l_17, l_18, l_19, l_20, l_21, l_24, l_25, l_26, l_27, l_31, l_33, l_41, l_65, l_67, l_71, l_84, l_120, l_127, l_128, l_130, l_160, l_162, l_200, l_255, l_256, l_999, l_1000, l_8000, l_9999, l_10000, l_8001, l_m1, t_k214 h.1, b1, b_and15, c', bd2_some, bdx_inl, bdx_inr, bdc_inl, bdc_inr, obd_some, ↓reduceIte]
    exact q1
theorem m_let (h : x < 256) : F_X6_baseOf (nI x) S = some (nI (pLet x), S) := by
  unfold pLet
  by_cases c1 : x = 67
  · subst c1; rfl
  · have c1' : ¬ nI x = nI 67 := fun q => c1 ((nI_eq (by omega) (by omega)).mp q)
    by_cases c2 : x = 71
    · subst c2; rfl
    · have c2' : ¬ nI x = nI 71 := fun q => c2 ((nI_eq (by omega) (by omega)).mp q)
      by_cases c3 : x = 84
      · subst c3; rfl
      · have c3' : ¬ nI x = nI 84 := fun q => c3 ((nI_eq (by omega) (by omega)).mp q)
        simp only [F_X6_baseOf, l_0, l_1, l_2, l_3, l_4, l_5, l_6, l_7, l_8, l_9, l_10, l_11, l_12, l_13, l_14, l_15, l_16, l_17, l_18, l_19, l_20, l_21, l_24, l_25, l_26, l_27, l_31, l_33, l_41, l_65, l_67, l_71, l_84, l_120, l_127, l_128, l_130, l_160, l_162, l_200, l_255, l_256, l_999, l_1000, l_8000, l_9999, l_10000, l_8001, l_m1, c1, c2, c3, c1', c2', c3', ↓reduceIte]
theorem m_t92 {K : Nat → Int32 → Int32 → Int32 → Mem → Option (Int32 × Mem)} {v1 v3 : Int32} {l : Nat} (h : zSt z S) (ht : zMt z S t) (hl : t.length ≤ 120) (hb : ∀ b, b ∈ t → b < 256) (hi : i < 10000) (hl8 : l ≤ 8) : ∀ (m fu j : Nat), j + m = l → m < fu → ∃ fu', F_X6_taken_L92 K fu (z + 214) v1 (nI i) v3 (nI l) (nI (pBs t (i + 1) j)) (nI j) S = F_X6_taken_L92 K (fu' + 1) (z + 214) v1 (nI i) v3 (nI l) (nI (pBs t (i + 1) l)) (nI l) S := by
  intro m
  induction m with
  | zero =>
    intro fu j hj hf
    obtain ⟨fu, rfl⟩ : ∃ f, fu = f + 1 := ⟨fu - 1, by omega⟩
    have e : j = l := by omega
    subst e
    exact ⟨fu, rfl⟩
  | succ m ih =>
    intro fu j hj hf
    obtain ⟨fu, rfl⟩ : ∃ f, fu = f + 1 := ⟨fu - 1, by omega⟩
    have c : ¬ nI l ≤ nI j := nI_ge (by omega) (by omega)
    obtain ⟨fu', q⟩ := ih fu (j + 1) (by omega) (by omega)
    have b1 := m_byte (i := i + 1 + j) h ht hl (by omega)
    have b2 := m_let (S := S) (pb_lt hb (i + 1 + j))
    refine ⟨fu', Eq.trans ?_ q⟩
    rw [pBs]
    simp only [F_X6_taken_L92, l_0, l_1, l_2, l_3, l_4, l_5, l_6, l_7, l_8, l_9, l_10, l_11, l_12, l_13, l_14, l_15, l_16, l_17, l_18, l_19, l_20, l_21, l_24, l_25, l_26, l_27, l_31, l_33, l_41, l_65, l_67, l_71, l_84, l_120, l_127, l_128, l_130, l_160, l_162, l_200, l_255, l_256, l_999, l_1000, l_8000, l_9999, l_10000, l_8001, l_m1, c, t_k214 h, nI_add, b1, b2, nI_mul, bd2_some, bdx_inl, bdx_inr, bdc_inl, bdc_inr, obd_some, ↓reduceIte]
/-- the alleles of row 25 so far -/
def zAr (R : Nat → Int32) (a : Nat) (L B : Nat → Nat) : Prop := R 1 = nI a ∧ ∀ j, j < a → R (6 + j) = nI (B j) ∧ R (2 + j) = nI (L j) ∧ 1 ≤ L j ∧ L j ≤ 8 ∧ B j < 65536
theorem m_t57 (ht : zMt z S0 t) (hl : t.length ≤ 120) (hb : ∀ b, b ∈ t → b < 256) (hn : n ≤ 4) : ∀ (m fu a i : Nat) (L B : Nat → Nat) (S : Mem) (R : Nat → Int32), zR5 z S0 S R → zAr R a L B → a + m = n → m < fu → i ≤ 5 + 9 * a →
    (∀ i' L' B', pAl t m a i L B = some (i', L', B') → ∃ S' R' fu', F_X6_taken_L57 fu (z + 214) (nI n) (nI i) (nI a) S = F_X6_taken_L57 (fu' + 1) (z + 214) (nI n) (nI i') (nI n) S' ∧ zR5 z S0 S' R' ∧ zAr R' n L' B' ∧ (∀ k, (k = 0 ∨ 10 ≤ k) → R' k = R k) ∧ i' ≤ 5 + 9 * n) ∧
    (pAl t m a i L B = none → ∃ S' R', F_X6_taken_L57 fu (z + 214) (nI n) (nI i) (nI a) S = some (nI 0, S') ∧ zR5 z S0 S' R') := by
  intro m
  induction m with
  | zero =>
    intro fu a i L B S R h hA ha hf hi
    obtain ⟨fu, rfl⟩ : ∃ f, fu = f + 1 := ⟨fu - 1, by omega⟩
    have e : a = n := by omega
    subst e
    refine ⟨fun i' L' B' e => ?_, fun e => by cases e⟩
    cases e
    exact ⟨S, R, fu, rfl, h, hA, fun _ _ => rfl, hi⟩
  | succ m ih =>
    intro fu a i L B S R h hA ha hf hi
    obtain ⟨fu, rfl⟩ : ∃ f, fu = f + 1 := ⟨fu - 1, by omega⟩
    have c : ¬ nI n ≤ nI a := nI_ge (by omega) (by omega)
    have htS := zMt_Mw h.2.1 ht
    have b1 := m_byte (i := i) h.1 htS hl (by omega)
    have xlt := pb_lt hb i
    have e1 : nI (pb t i) >>> (nI 4 &&& nI 31) = nI (pb t i / 16) := by rw [b_31 (by omega), b_shr (by omega) (by omega)]
    rw [pAl]
    by_cases c2 : pb t i / 16 < 1
    · have c2' : nI (pb t i / 16) < nI 1 := nI_lt c2 (by omega)
      rw [if_pos (Or.inl c2)]
      refine ⟨fun _ _ _ e => (by cases e), fun _ => ⟨S, R, ?_, h⟩⟩
      simp only [F_X6_taken_L57, l_0, l_1, l_2, l_3, l_4, l_5, l_6, l_7, l_8, l_9, l_10, l_11, l_12, l_13, l_14, l_15, l_16, l_17, l_18, l_19, l_20, l_21, l_24, l_25, l_26, l_27, l_31, l_33, l_41, l_65, l_67, l_71, l_84, l_120, l_127, l_128, l_130, l_160, l_162, l_200, l_255, l_256, l_999, l_1000, l_8000, l_9999, l_10000, l_8001, l_m1, c, t_k214 h.1, b1, e1, c2', bd2_some, bdx_inl, bdx_inr, bdc_inl, bdc_inr, obd_some, ↓reduceIte]
    have c2' : ¬ nI (pb t i / 16) < nI 1 := nI_nlt (by omega) (by omega)
    by_cases c3 : 8 < pb t i / 16
    · have c3' : ¬ nI (pb t i / 16) ≤ nI 8 := nI_ge c3 (by omega)
      rw [if_pos (Or.inr c3)]
      refine ⟨fun _ _ _ e => (by cases e), fun _ => ⟨S, R, ?_, h⟩⟩
      simp only [F_X6_taken_L57, l_0, l_1, l_2, l_3, l_4, l_5, l_6, l_7, l_8, l_9, l_10, l_11, l_12, l_13, l_14, l_15, l_16, l_17, l_18, l_19, l_20, l_21, l_24, l_25, l_26, l_27, l_31, l_33, l_41, l_65, l_67, l_71, l_84, l_120, l_127, l_128, l_130, l_160, l_162, l_200, l_255, l_256, l_999, l_1000, l_8000, l_9999, l_10000, l_8001, l_m1, c, t_k214 h.1, b1, e1, c2', c3', bd2_some, bdx_inl, bdx_inr, bdc_inl, bdc_inr, obd_some, ↓reduceIte]
    have c3' : nI (pb t i / 16) ≤ nI 8 := nI_le (by omega) (by omega)
    rw [if_neg (show ¬ (pb t i / 16 < 1 ∨ 8 < pb t i / 16) by omega)]
    obtain ⟨l, el⟩ : ∃ l, l = pb t i / 16 := ⟨_, rfl⟩
    rw [← el] at e1 c2 c2' c3 c3' ⊢
    obtain ⟨fu', q⟩ := m_t92 (K := F_X6_taken_L57 fu) (v1 := nI n) (v3 := nI a) (l := l) h.1 htS hl hb (show i < 10000 by omega) (by omega) l FU 0 (by omega) (by show l < 4000; omega)
    have st : F_X6_taken_L57 (fu + 1) (z + 214) (nI n) (nI i) (nI a) S = F_X6_taken_L92 (F_X6_taken_L57 fu) (fu' + 1) (z + 214) (nI n) (nI i) (nI a) (nI l) (nI (pBs t (i + 1) l)) (nI l) S := by
      rw [← q]
      rw [F_X6_taken_L57, if_neg c, t_k214 h.1, obd_some, b1, bd2_some]
      show (if nI (pb t i) >>> (nI 4 &&& nI 31) < nI 1 then _ else if nI (pb t i) >>> (nI 4 &&& nI 31) ≤ nI 8 then F_X6_taken_L92 (F_X6_taken_L57 fu) FU (z + 214) (nI n) (nI i) (nI a) (nI (pb t i) >>> (nI 4 &&& nI 31)) (nI 0) (nI 0) S else _) = _
      rw [e1, if_neg c2', if_pos c3']
      rfl
    rw [st]
    have blt : pBs t (i + 1) l < 65536 := by
      have h1 := pBs_lt t (i + 1) l
      have := p4_8 (show l ≤ 8 by omega)
      omega
    have hW : ∀ k, k < 41 → mI S (z + 216) (41 * 25 + k) = R k := h.2.2.2.1
    have fd := m_find (a := 25) (l := l) (b := pBs t (i + 1) l) (n := a) (L := L) (B := B) h.1 (by omega) (by rw [hW 1 (by omega)]; exact hA.1) (by omega) (fun j hj => by
      obtain ⟨s1, s2, s3, s4, s5⟩ := hA.2 j hj
      rw [hW _ (by omega), hW _ (by omega)]
      exact ⟨s1, s2, by omega, by omega⟩) (by omega) (by omega)
    have cl : nI l ≤ nI l := nI_le (Nat.le_refl _) (by omega)
    cases e : fnd a L B l (pBs t (i + 1) l) with
    | some k =>
      rw [e] at fd
      have hk := fnd_some e
      have d5 : ¬ nI k < nI 0 := nI_nlt (by omega) (by omega)
      have fd' : F_X6_findAllele (z + 214) (nI 25) (nI l) (nI (pBs t (i + 1) l)) S = some (nI k, S) := fd
      rw [if_neg (by intro w; cases w)]
      refine ⟨fun _ _ _ e => (by cases e), fun _ => ⟨S, R, ?_, h⟩⟩
      simp only [F_X6_taken_L92, l_0, l_1, l_2, l_3, l_4, l_5, l_6, l_7, l_8, l_9, l_10, l_11, l_12, l_13, l_14, l_15, l_16, l_17, l_18, l_19, l_20, l_21, l_24, l_25, l_26, l_27, l_31, l_33, l_41, l_65, l_67, l_71, l_84, l_120, l_127, l_128, l_130, l_160, l_162, l_200, l_255, l_256, l_999, l_1000, l_8000, l_9999, l_10000, l_8001, l_m1, cl, t_k214 h.1, fd', d5, bd2_some, bdx_inl, bdx_inr, bdc_inl, bdc_inr, obd_some, ↓reduceIte]
    | none =>
      rw [e] at fd
      have fd' : F_X6_findAllele (z + 214) (nI 25) (nI l) (nI (pBs t (i + 1) l)) S = some (m1, S) := fd
      rw [if_pos rfl]
      obtain ⟨S1, a1, a2⟩ := r5_add (x := nI l) (y := nI (pBs t (i + 1) l)) (n := a) h hA.1 (by omega)
      have st2 : F_X6_taken_L92 (F_X6_taken_L57 fu) (fu' + 1) (z + 214) (nI n) (nI i) (nI a) (nI l) (nI (pBs t (i + 1) l)) (nI l) S = F_X6_taken_L57 fu (z + 214) (nI n) (nI (i + 1 + l)) (nI (a + 1)) S1 := by
        rw [F_X6_taken_L92, if_pos cl, t_k214 h.1, obd_some]
        show bd2 (F_X6_findAllele (z + 214) (nI 25) (nI l) (nI (pBs t (i + 1) l)) S) _ = _
        rw [fd', bd2_some, if_pos (show m1 < 0 from m1_lt), t_k214 h.1, obd_some]
        show (F_X6_addAllele (z + 214) (nI 25) (nI l) (nI (pBs t (i + 1) l)) S).bind _ = _
        rw [a1, obd_some]
        show F_X6_taken_L57 fu (z + 214) (nI n) (nI i + nI 1 + nI l) (nI a + nI 1) S1 = _
        rw [nI_add, nI_add, nI_add]
      rw [st2]
      have hA1 : zAr (fun k => if k = 1 then nI (a + 1) else if k = 6 + a then nI (pBs t (i + 1) l) else if k = 2 + a then nI l else R k) (a + 1) (va_up L a l) (va_up B a (pBs t (i + 1) l)) := by
        refine ⟨rfl, fun j hj => ?_⟩
        by_cases cj : j = a
        · subst cj
          refine ⟨?_, ?_, ?_, ?_, ?_⟩
          · dsimp only; rw [if_neg (by omega), if_pos rfl]; simp only [va_up, ↓reduceIte]
          · dsimp only; rw [if_neg (by omega), if_neg (by omega), if_pos rfl]; simp only [va_up, ↓reduceIte]
          · simp only [va_up, ↓reduceIte]; omega
          · simp only [va_up, ↓reduceIte]; omega
          · simp only [va_up, ↓reduceIte]; exact blt
        · obtain ⟨s1, s2, s3, s4, s5⟩ := hA.2 j (by omega)
          refine ⟨?_, ?_, ?_, ?_, ?_⟩
          · dsimp only; rw [if_neg (by omega), if_neg (by omega), if_neg (by omega), s1]; simp only [va_up, cj, ↓reduceIte]
          · dsimp only; rw [if_neg (by omega), if_neg (by omega), if_neg (by omega), s2]; simp only [va_up, cj, ↓reduceIte]
          · simp only [va_up, cj, ↓reduceIte]; exact s3
          · simp only [va_up, cj, ↓reduceIte]; exact s4
          · simp only [va_up, cj, ↓reduceIte]; exact s5
      obtain ⟨I1, I2⟩ := ih fu (a + 1) (i + 1 + l) _ _ S1 _ a2 hA1 (by omega) (by omega) (by omega)
      refine ⟨fun i' L' B' e => ?_, I2⟩
      obtain ⟨S2, R2, fu2, w1, w2, w3, w4, w5⟩ := I1 i' L' B' e
      refine ⟨S2, R2, fu2, w1, w2, w3, fun k hk => ?_, w5⟩
      refine (w4 k hk).trans ?_
      rw [if_neg (by omega), if_neg (by omega), if_neg (by omega)]
end M14
