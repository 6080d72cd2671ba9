set_option maxRecDepth 20000
def zMA (z : Nat) (S : Mem) (a n : Nat) (L B : Nat → Nat) : Prop := mI S (z + 216) (41 * a + 1) = nI n ∧ n ≤ 4 ∧ ∀ i, i < n → mI S (z + 216) (41 * a + (6 + i)) = nI (B i) ∧ mI S (z + 216) (41 * a + (2 + i)) = nI (L i) ∧ 1 ≤ L i ∧ L i ≤ 8 ∧ B i < 65536
def bI (b : Bool) : Int32 := if b = true then nI 1 else nI 0
section M7
variable {S S' S1 S2 : Mem} {z n a b i j k o o' e p : Nat} {r : Rc} {s : As} {x y : Int32} {W W' : Nat → Int32} {ls : List Rc} {L B L' B' : Nat → Nat} {rf : Nat → Nat}
theorem zMA_ok (hr : zMR (mI S (z + 216)) (41 * a) r) (h : aOk p rf r) : zMA z S a (aN r) (aL r) (aB r) := by
  refine ⟨hr.1.2.2, h.1.2, fun i hi => ?_⟩
  have h1 := hr.2.1 i hi
  have h2 := h.2.1.1 i hi
  have := p4_8 h2.2.1
  exact ⟨h1.1, h1.2.1, h2.1, h2.2.1, by omega⟩
theorem m_short_L (h : zSt z S) (ha : a < 30) (hA : zMA z S a n L B) : ∀ (m fu j w : Nat), j + m = n → m < fu → w ≤ 9 → (1 < w ↔ ∀ i, i < j → 1 < L i) → ∃ w', F_X6_shortest_L5 fu (z + 214) (nI a) (nI w) (nI j) S = some (nI w', S) ∧ w' ≤ 9 ∧ (1 < w' ↔ ∀ i, i < n → 1 < L i) := by
  intro m
  have n4 := hA.2.1
  have g1 := m_get (i := a) (k := 1) h (by omega)
  rw [hA.1] at g1
  induction m with
  | zero =>
    intro fu j w hj hf hw hww
    obtain ⟨fu, rfl⟩ : ∃ f, fu = f + 1 := ⟨fu - 1, by omega⟩
    have h1 : nI n ≤ nI j := nI_le (by omega) (by omega)
    have e : j = n := by omega
    subst e
    exact ⟨w, by simp only [F_X6_shortest_L5, l_0, l_1, l_2, l_3, l_4, l_5, l_6, l_7, l_8, l_9, l_10, l_11, l_12, l_13, l_14, l_15, l_16, l_17, l_18, l_19, l_20, l_21, l_24, l_25, l_26, l_27, l_31, l_33, l_41, l_65, l_67, l_71, l_84, l_120, l_127, l_128, l_130, l_160, l_162, l_200, l_255, l_256, l_999, l_1000, l_8000, l_9999, l_10000, l_8001, l_m1, t_k214 h, g1, h1, bd2_some, bdx_inl, bdx_inr, bdc_inl, bdc_inr, obd_some, ↓reduceIte], hw, hww⟩
  | succ m ih =>
    intro fu j w hj hf hw hww
    obtain ⟨fu, rfl⟩ : ∃ f, fu = f + 1 := ⟨fu - 1, by omega⟩
    have h1 : ¬ nI n ≤ nI j := nI_ge (by omega) (by omega)
    obtain ⟨s1, s2, s3, s4, s5⟩ := hA.2.2 j (by omega)
    have g2 := m_get (i := a) (k := 2 + j) h (by omega)
    rw [s2] at g2
    by_cases c : w ≤ L j
    · have c' : nI w ≤ nI (L j) := nI_le c (by omega)
      obtain ⟨w', q1, q2, q3⟩ := ih fu (j + 1) w (by omega) (by omega) hw (by
        rw [hww]
        refine ⟨fun q i hi => ?_, fun q i hi => q i (by omega)⟩
        by_cases e : i = j
        · subst e
          have := hww.mpr q
          omega
        · exact q i (by omega))
      refine ⟨w', Eq.trans ?_ q1, q2, q3⟩
      simp only [F_X6_shortest_L5, F_X6_shortest_J39, l_0, l_1, l_2, l_3, l_4, l_5, l_6, l_7, l_8, l_9, l_10, l_11, l_12, l_13, l_14, l_15, l_16, l_17, l_18, l_19, l_20, l_21, l_24, l_25, l_26, l_27, l_31, l_33, l_41, l_65, l_67, l_71, l_84, l_120, l_127, l_128, l_130, l_160, l_162, l_200, l_255, l_256, l_999, l_1000, l_8000, l_9999, l_10000, l_8001, l_m1, t_k214 h, g1, h1, nI_add, g2, c', bd2_some, bdx_inl, bdx_inr, bdc_inl, bdc_inr, obd_some, ↓reduceIte]
    · have c' : ¬ nI w ≤ nI (L j) := nI_ge (by omega) (by omega)
      obtain ⟨w', q1, q2, q3⟩ := ih fu (j + 1) (L j) (by omega) (by omega) (by omega) (by
        refine ⟨fun q i hi => ?_, fun q => q j (by omega)⟩
        by_cases e : i = j
        · subst e; exact q
        · exact hww.mp (by omega) i (by omega))
      refine ⟨w', Eq.trans ?_ q1, q2, q3⟩
      simp only [F_X6_shortest_L5, F_X6_shortest_J39, l_0, l_1, l_2, l_3, l_4, l_5, l_6, l_7, l_8, l_9, l_10, l_11, l_12, l_13, l_14, l_15, l_16, l_17, l_18, l_19, l_20, l_21, l_24, l_25, l_26, l_27, l_31, l_33, l_41, l_65, l_67, l_71, l_84, l_120, l_127, l_128, l_130, l_160, l_162, l_200, l_255, l_256, l_999, l_1000, l_8000, l_9999, l_10000, l_8001, l_m1, t_k214 h, g1, h1, nI_add, g2, c', bd2_some, bdx_inl, bdx_inr, bdc_inl, bdc_inr, obd_some, ↓reduceIte]
theorem m_short (h : zSt z S) (ha : a < 30) (hA : zMA z S a n L B) : ∃ w, F_X6_shortest (z + 214) (nI a) S = some (nI w, S) ∧ w ≤ 9 ∧ (1 < w ↔ aTwo n L = true) := by
  obtain ⟨w, q1, q2, q3⟩ := m_short_L h ha hA n FU 0 9 (by omega) (by have := hA.2.1; show n < 4000; omega) (by omega) ⟨fun _ i hi => by omega, fun _ => by omega⟩
  exact ⟨w, q1, q2, by rw [q3, aTwo_t]⟩
def edg (L B : Nat → Nat) (e i : Nat) : Nat := if e = 0 then B i % 4 else fst L B i
theorem edg_lt : edg L B e i < 4 := by
  unfold edg fst
  split <;> omega
theorem m_edge (h : zSt z S) (ha : a < 30) (hA : zMA z S a n L B) (hj : j < n) (he : e < 2) : F_X6_edge (z + 214) (nI a) (nI j) (nI e) S = some (nI (edg L B e j), S) := by
  have n4 := hA.2.1
  obtain ⟨s1, s2, s3, s4, s5⟩ := hA.2.2 j hj
  have g2 := m_get (i := a) (k := 2 + j) h (by omega)
  have g6 := m_get (i := a) (k := 6 + j) h (by omega)
  rw [s2] at g2
  rw [s1] at g6
  rcases (show e = 0 ∨ e = 1 by omega) with q | q <;> subst q
  · simp only [F_X6_edge, l_0, l_1, l_2, l_3, l_4, l_5, l_6, l_7, l_8, l_9, l_10, l_11, l_12, l_13, l_14, l_15, l_16, l_17, l_18, l_19, l_20, l_21, l_24, l_25, l_26, l_27, l_31, l_33, l_41, l_65, l_67, l_71, l_84, l_120, l_127, l_128, l_130, l_160, l_162, l_200, l_255, l_256, l_999, l_1000, l_8000, l_9999, l_10000, l_8001, l_m1, t_k214 h, nI_add, g6, b_and3, edg, bd2_some, bdx_inl, bdx_inr, bdc_inl, bdc_inr, obd_some, ↓reduceIte]
  · have e4 : nI (B j) >>> (nI (2 * L j) - nI 2 &&& nI 31) &&& nI 3 = nI (fst L B j) := by
      rw [nI_sub (by omega), show 2 * L j - 2 = 2 * (L j - 1) by omega, b_31 (by omega), b_shr (by omega) (by omega), b_and3, four_two]
      rfl
    have e5 : edg L B 1 j = fst L B j := if_neg (by omega)
    rw [e5]
    simp only [F_X6_edge, l_0, l_1, l_2, l_3, l_4, l_5, l_6, l_7, l_8, l_9, l_10, l_11, l_12, l_13, l_14, l_15, l_16, l_17, l_18, l_19, l_20, l_21, l_24, l_25, l_26, l_27, l_31, l_33, l_41, l_65, l_67, l_71, l_84, l_120, l_127, l_128, l_130, l_160, l_162, l_200, l_255, l_256, l_999, l_1000, l_8000, l_9999, l_10000, l_8001, l_m1, ne10, t_k214 h, nI_add, nI_mul, g6, g2, e4, bd2_some, bdx_inl, bdx_inr, bdc_inl, bdc_inr, obd_some, ↓reduceIte]
theorem m_same_L (h : zSt z S) (ha : a < 30) (hA : zMA z S a n L B) (he : e < 2) (hn : 1 ≤ n) : ∀ (m fu j : Nat), 1 ≤ j → j + m = n → m < fu → F_X6_same_L5 fu (z + 214) (nI a) (nI e) (bI (decide (∀ i, i < j → edg L B e i = edg L B e 0))) (nI j) S = some (bI (decide (∀ i, i < n → edg L B e i = edg L B e 0)), S) := by
  intro m
  have n4 := hA.2.1
  have g1 := m_get (i := a) (k := 1) h (by omega)
  rw [hA.1] at g1
  induction m with
  | zero =>
    intro fu j h0 hj hf
    obtain ⟨fu, rfl⟩ : ∃ f, fu = f + 1 := ⟨fu - 1, by omega⟩
    have h1 : nI n ≤ nI j := nI_le (by omega) (by omega)
    have e : j = n := by omega
    subst e
    have rt : ∀ b, rtZ (bI b) S = some (bI b, S) := by
      intro b
      cases b
      · exact if_pos (Or.inl rfl)
      · exact if_pos (Or.inr rfl)
    simp only [F_X6_same_L5, l_0, l_1, l_2, l_3, l_4, l_5, l_6, l_7, l_8, l_9, l_10, l_11, l_12, l_13, l_14, l_15, l_16, l_17, l_18, l_19, l_20, l_21, l_24, l_25, l_26, l_27, l_31, l_33, l_41, l_65, l_67, l_71, l_84, l_120, l_127, l_128, l_130, l_160, l_162, l_200, l_255, l_256, l_999, l_1000, l_8000, l_9999, l_10000, l_8001, l_m1, t_k214 h, g1, h1, rt, bd2_some, bdx_inl, bdx_inr, bdc_inl, bdc_inr, obd_some, ↓reduceIte]
  | succ m ih =>
    intro fu j h0 hj hf
    obtain ⟨fu, rfl⟩ : ∃ f, fu = f + 1 := ⟨fu - 1, by omega⟩
    have h1 : ¬ nI n ≤ nI j := nI_ge (by omega) (by omega)
    have ej := m_edge (e := e) h ha hA (show j < n by omega) he
    have e0 := m_edge (e := e) h ha hA (show 0 < n by omega) he
    have IH := ih fu (j + 1) (by omega) (by omega) (by omega)
    have l1 := edg_lt (L := L) (B := B) (e := e) (i := j)
    have l2 := edg_lt (L := L) (B := B) (e := e) (i := 0)
    by_cases c : ∀ i, i < j → edg L B e i = edg L B e 0
    · have t1 : bI (decide (∀ i, i < j → edg L B e i = edg L B e 0)) = nI 1 := by rw [decide_eq_true c]; rfl
      rw [t1]
      by_cases c2 : edg L B e j = edg L B e 0
      · have c2' : nI (edg L B e j) = nI (edg L B e 0) := by rw [c2]
        rw [show decide (∀ i, i < j + 1 → edg L B e i = edg L B e 0) = true from decide_eq_true (fun i hi => by
          by_cases q : i = j
          · subst q; exact c2
          · exact c i (by omega))] at IH
        refine Eq.trans ?_ IH
        simp only [F_X6_same_L5, F_X6_same_J43, l_0, l_1, l_2, l_3, l_4, l_5, l_6, l_7, l_8, l_9, l_10, l_11, l_12, l_13, l_14, l_15, l_16, l_17, l_18, l_19, l_20, l_21, l_24, l_25, l_26, l_27, l_31, l_33, l_41, l_65, l_67, l_71, l_84, l_120, l_127, l_128, l_130, l_160, l_162, l_200, l_255, l_256, l_999, l_1000, l_8000, l_9999, l_10000, l_8001, l_m1, t_k214 h, g1, h1, ne10, ej, e0, c2', nI_add, bI, bd2_some, bdx_inl, bdx_inr, bdc_inl, bdc_inr, obd_some, ↓reduceIte]
      · have c2' : ¬ nI (edg L B e j) = nI (edg L B e 0) := fun q => c2 ((nI_eq (by omega) (by omega)).mp q)
        rw [show decide (∀ i, i < j + 1 → edg L B e i = edg L B e 0) = false from decide_eq_false (fun q => c2 (q j (by omega)))] at IH
        refine Eq.trans ?_ IH
        simp only [F_X6_same_L5, F_X6_same_J42, F_X6_same_J43, l_0, l_1, l_2, l_3, l_4, l_5, l_6, l_7, l_8, l_9, l_10, l_11, l_12, l_13, l_14, l_15, l_16, l_17, l_18, l_19, l_20, l_21, l_24, l_25, l_26, l_27, l_31, l_33, l_41, l_65, l_67, l_71, l_84, l_120, l_127, l_128, l_130, l_160, l_162, l_200, l_255, l_256, l_999, l_1000, l_8000, l_9999, l_10000, l_8001, l_m1, t_k214 h, g1, h1, ne10, ej, e0, c2', nI_add, bI, bd2_some, bdx_inl, bdx_inr, bdc_inl, bdc_inr, obd_some, ↓reduceIte, Bool.false_eq_true]
    · have t1 : bI (decide (∀ i, i < j → edg L B e i = edg L B e 0)) = nI 0 := by rw [decide_eq_false c]; rfl
      rw [t1]
      rw [show decide (∀ i, i < j + 1 → edg L B e i = edg L B e 0) = false from decide_eq_false (fun q => c (fun i hi => q i (by omega)))] at IH
      refine Eq.trans ?_ IH
      simp only [F_X6_same_L5, F_X6_same_J42, F_X6_same_J43, l_0, l_1, l_2, l_3, l_4, l_5, l_6, l_7, l_8, l_9, l_10, l_11, l_12, l_13, l_14, l_15, l_16, l_17, l_18, l_19, l_20, l_21, l_24, l_25, l_26, l_27, l_31, l_33, l_41, l_65, l_67, l_71, l_84, l_120, l_127, l_128, l_130, l_160, l_162, l_200, l_255, l_256, l_999, l_1000, l_8000, l_9999, l_10000, l_8001, l_m1, t_k214 h, g1, h1, nI_add, bI, bd2_some, bdx_inl, bdx_inr, bdc_inl, bdc_inr, obd_some, ↓reduceIte, Bool.false_eq_true]
theorem m_same (h : zSt z S) (ha : a < 30) (hA : zMA z S a n L B) (he : e < 2) (hn : 1 ≤ n) : F_X6_same (z + 214) (nI a) (nI e) S = some (bI (decide (∀ i, i < n → edg L B e i = edg L B e 0)), S) := by
  have := m_same_L h ha hA he hn (n - 1) FU 1 (by omega) (by omega) (by have := hA.2.1; show n - 1 < 4000; omega)
  have key : ∀ k, k = 1 → bI (decide (∀ i, i < k → edg L B e i = edg L B e 0)) = nI 1 := by
    intro k hk
    rw [decide_eq_true (fun i hi => by rw [show i = 0 by omega])]
    rfl
  rw [key 1 rfl] at this
  exact this
/-- the alleles of a row are changed one by one -/
theorem m_upd_L {v2 v3 v4 x : Int32} {R : Nat → Int32} (ha : a < 30) (n4 : n ≤ 4) (hst : ∀ (fu j : Nat) (S : Mem), zSt z S → mI S (z + 215) = R → mI S (z + 216) (41 * a + 1) = nI n → j < n → mI S (z + 216) (41 * a + (6 + j)) = nI (B j) → mI S (z + 216) (41 * a + (2 + j)) = nI (L j) → F_X6_step_L70 (fu + 1) (z + 214) (nI a) v2 v3 v4 (nI j) S = F_X6_step_L70 fu (z + 214) (nI a) v2 v3 v4 (nI (j + 1)) (sI (sI S (z + 216) (41 * a + (6 + j)) (nI (B' j))) (z + 216) (41 * a + (2 + j)) (nI (L' j))))
    (hend : ∀ (fu : Nat) (S : Mem), zSt z S → mI S (z + 216) (41 * a + 1) = nI n → F_X6_step_L70 (fu + 1) (z + 214) (nI a) v2 v3 v4 (nI n) S = some (nI 1, sI S (z + 216) (41 * a) x)) : ∀ (m fu j : Nat) (S : Mem), zSt z S → mI S (z + 215) = R → mI S (z + 216) (41 * a + 1) = nI n → j + m = n → m < fu → (∀ i, j ≤ i → i < n → mI S (z + 216) (41 * a + (6 + i)) = nI (B i) ∧ mI S (z + 216) (41 * a + (2 + i)) = nI (L i)) → ∃ S', F_X6_step_L70 fu (z + 214) (nI a) v2 v3 v4 (nI j) S = some (nI 1, S') ∧ zMw z S S' ∧ mI S' (z + 214) 4 = mI S (z + 214) 4 ∧ mI S' (z + 216) (41 * a) = x ∧ (∀ i, j ≤ i → i < n → mI S' (z + 216) (41 * a + (6 + i)) = nI (B' i) ∧ mI S' (z + 216) (41 * a + (2 + i)) = nI (L' i)) ∧ (∀ k, k ≠ 41 * a → (k < 41 * a + (2 + j) ∨ (41 * a + (2 + n) ≤ k ∧ k < 41 * a + (6 + j)) ∨ 41 * a + (6 + n) ≤ k) → mI S' (z + 216) k = mI S (z + 216) k) := by
  intro m
  induction m with
  | zero =>
    intro fu j S h hR hn hj hf hA
    obtain ⟨fu, rfl⟩ : ∃ f, fu = f + 1 := ⟨fu - 1, by omega⟩
    have e : j = n := by omega
    subst e
    refine ⟨_, hend fu S h hn, zMw_sI rfl, by rw [mI_sI, if_neg (by omega)], by rw [mI_sI, if_pos ⟨rfl, rfl⟩], fun i h1 h2 => by omega, fun k h1 h2 => by rw [mI_sI, if_neg (fun w => h1 w.2)]⟩
  | succ m ih =>
    intro fu j S h hR hn hj hf hA
    obtain ⟨fu, rfl⟩ : ∃ f, fu = f + 1 := ⟨fu - 1, by omega⟩
    have st := hst fu j S h hR hn (by omega) (hA j (by omega) (by omega)).1 (hA j (by omega) (by omega)).2
    obtain ⟨S1, e1⟩ : ∃ T, T = sI (sI S (z + 216) (41 * a + (6 + j)) (nI (B' j))) (z + 216) (41 * a + (2 + j)) (nI (L' j)) := ⟨_, rfl⟩
    rw [← e1] at st
    have h1 : zSt z S1 := by rw [e1]; exact h
    have w1 : zMw z S S1 := by rw [e1]; exact zMw_trans (zMw_sI rfl) (zMw_sI rfl)
    have r1 : ∀ k, k ≠ 41 * a + (6 + j) → k ≠ 41 * a + (2 + j) → mI S1 (z + 216) k = mI S (z + 216) k := fun k k1 k2 => by rw [e1, mI_sI, if_neg (fun w => k2 w.2), mI_sI, if_neg (fun w => k1 w.2)]
    obtain ⟨S2, q1, q2, q3, q4, q5, q6⟩ := ih fu (j + 1) S1 h1 (by rw [w1.2.1]; exact hR) (by rw [r1 _ (by omega) (by omega)]; exact hn) (by omega) (by omega) (fun i hi1 hi2 => by rw [r1 _ (by omega) (by omega), r1 _ (by omega) (by omega)]; exact hA i (by omega) hi2)
    refine ⟨S2, st.trans q1, zMw_trans w1 q2, ?_, q4, fun i h1 h2 => ?_, fun k k1 k2 => ?_⟩
    · rw [q3, e1, mI_sI, if_neg (by omega), mI_sI, if_neg (by omega)]
    · by_cases c : i = j
      · subst c
        rw [q6 _ (by omega) (by omega), q6 _ (by omega) (by omega)]
        refine ⟨?_, ?_⟩
        · rw [e1, mI_sI, if_neg (by omega), mI_sI, if_pos ⟨rfl, rfl⟩]
        · rw [e1, mI_sI, if_pos ⟨rfl, rfl⟩]
      · exact q5 i (by omega) h2
    · rw [q6 k k1 (by omega), r1 k (by omega) (by omega)]
theorem zMR_al {q : Nat} (hn4 : aN r ≤ 4) (hr : zMR W o r) (h0 : W' o = nI q) (hA : ∀ i, i < aN r → W' (o + (6 + i)) = nI (B' i) ∧ W' (o + (2 + i)) = nI (L' i)) (hk : W' (o + 1) = W (o + 1)) (hk2 : ∀ k, 10 ≤ k → k < 41 → W' (o + k) = W (o + k)) : zMR W' o (wAl r q L' B') := by
  obtain ⟨⟨r1, r2, r3⟩, r4, ⟨r5, r6, r7, r8⟩, ⟨r9, r10⟩, r11⟩ := hr
  have p10 := prs_le hn4
  refine ⟨⟨h0, (hk2 10 (by omega) (by omega)).trans r2, hk.trans r3⟩, fun i hi => ⟨(hA i hi).1, (hA i hi).2, ?_⟩, ⟨(hk2 15 (by omega) (by omega)).trans r5, (hk2 16 (by omega) (by omega)).trans r6, (hk2 18 (by omega) (by omega)).trans r7, (hk2 19 (by omega) (by omega)).trans r8⟩, ⟨(hk2 17 (by omega) (by omega)).trans r9, (hk2 20 (by omega) (by omega)).trans r10⟩, fun i hi => ⟨?_, ?_⟩⟩
  · have hi' : i < aN r := hi
    exact (hk2 _ (by omega) (by omega)).trans (r4 i hi).2.2
  · have hi' : i < prs (aN r) := hi
    exact (hk2 _ (by omega) (by omega)).trans (r11 i hi).1
  · have hi' : i < prs (aN r) := hi
    exact (hk2 _ (by omega) (by omega)).trans (r11 i hi).2
/-- after a step the row holds the changed record -/
theorem m_upd {v2 v3 v4 : Int32} {R : Nat → Int32} {q : Nat} (h : zSt z S) (hR : mI S (z + 215) = R) (ha : a < 30) (hr : zMR (mI S (z + 216)) (41 * a) r) (n4 : aN r ≤ 4) (hst : ∀ (fu j : Nat) (S : Mem), zSt z S → mI S (z + 215) = R → mI S (z + 216) (41 * a + 1) = nI (aN r) → j < aN r → mI S (z + 216) (41 * a + (6 + j)) = nI (aB r j) → mI S (z + 216) (41 * a + (2 + j)) = nI (aL r j) → F_X6_step_L70 (fu + 1) (z + 214) (nI a) v2 v3 v4 (nI j) S = F_X6_step_L70 fu (z + 214) (nI a) v2 v3 v4 (nI (j + 1)) (sI (sI S (z + 216) (41 * a + (6 + j)) (nI (B' j))) (z + 216) (41 * a + (2 + j)) (nI (L' j))))
    (hend : ∀ (fu : Nat) (S : Mem), zSt z S → mI S (z + 216) (41 * a + 1) = nI (aN r) → F_X6_step_L70 (fu + 1) (z + 214) (nI a) v2 v3 v4 (nI (aN r)) S = some (nI 1, sI S (z + 216) (41 * a) (nI q))) : ∃ S', F_X6_step_L70 FU (z + 214) (nI a) v2 v3 v4 (nI 0) S = some (nI 1, S') ∧ zMw z S S' ∧ mI S' (z + 214) 4 = mI S (z + 214) 4 ∧ zMR (mI S' (z + 216)) (41 * a) (wAl r q L' B') ∧ ∀ k, (k < 41 * a ∨ 41 * a + 41 ≤ k) → mI S' (z + 216) k = mI S (z + 216) k := by
  obtain ⟨S1, q1, q2, q3, q4, q5, q6⟩ := m_upd_L (z := z) (a := a) (x := nI q) ha n4 hst hend (aN r) FU 0 S h hR hr.1.2.2 (by omega) (by show aN r < 4000; omega) (fun i _ hi => ⟨(hr.2.1 i hi).1, (hr.2.1 i hi).2.1⟩)
  refine ⟨S1, q1, q2, q3, zMR_al n4 hr q4 (fun i hi => q5 i (by omega) hi) (q6 _ (by omega) (by omega)) (fun k k1 k2 => q6 _ (by omega) (by omega)), fun k hk => q6 _ (by omega) (by omega)⟩
end M7
