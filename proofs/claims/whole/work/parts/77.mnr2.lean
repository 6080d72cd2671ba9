set_option maxRecDepth 20000
section M8
variable {S S' S1 S2 : Mem} {z n a b i j k o o' e p : Nat} {r : Rc} {s : As} {x y : Int32} {W W' : Nat → Int32} {ls : List Rc} {L B L' B' : Nat → Nat} {rf : Nat → Nat} {v2 : Int32}
theorem st_get (h : zSt z S) (ha : a < 30) (n4 : n ≤ 4) (hj : j < n) (h1 : mI S (z + 216) (41 * a + 1) = nI n) (h6 : mI S (z + 216) (41 * a + (6 + j)) = nI (B j)) (h2 : mI S (z + 216) (41 * a + (2 + j)) = nI (L j)) : F_X6_get (z + 214) (nI a) (nI 1) S = some (nI n, S) ∧ F_X6_get (z + 214) (nI a) (nI (2 + j)) S = some (nI (L j), S) ∧ F_X6_get (z + 214) (nI a) (nI (6 + j)) S = some (nI (B j), S) := by
  have g1 := m_get (i := a) (k := 1) h (by omega)
  have g2 := m_get (i := a) (k := 2 + j) h (by omega)
  have g6 := m_get (i := a) (k := 6 + j) h (by omega)
  rw [h1] at g1
  rw [h2] at g2
  rw [h6] at g6
  exact ⟨g1, g2, g6⟩
theorem st_1 {fu : Nat} (h : zSt z S) (ha : a < 30) (n4 : n ≤ 4) (hj : j < n) (h1 : mI S (z + 216) (41 * a + 1) = nI n) (h6 : mI S (z + 216) (41 * a + (6 + j)) = nI (B j)) (h2 : mI S (z + 216) (41 * a + (2 + j)) = nI (L j)) (l1 : 1 ≤ L j) (b1 : B j < 65536) : F_X6_step_L70 (fu + 1) (z + 214) (nI a) v2 (nI 1) (nI 1) (nI j) S = F_X6_step_L70 fu (z + 214) (nI a) v2 (nI 1) (nI 1) (nI (j + 1)) (sI (sI S (z + 216) (41 * a + (6 + j)) (nI (B j / 4))) (z + 216) (41 * a + (2 + j)) (nI (L j - 1))) := by
  obtain ⟨g1, g2, g6⟩ := st_get h ha n4 hj h1 h6 h2
  have c : ¬ nI n ≤ nI j := nI_ge (by omega) (by omega)
  have e1 : nI (L j) - nI 1 = nI (L j - 1) := nI_sub1 l1
  have e2 : nI (B j) >>> (nI 2 &&& nI 31) = nI (B j / 4) := by rw [b_31 (by omega), b_shr (by omega) (by omega)]
  have p6 := m_put (i := a) (k := 6 + j) (x := nI (B j / 4)) h (by omega)
  have hS1 : zSt z (sI S (z + 216) (41 * a + (6 + j)) (nI (B j / 4))) := h
  have p2 := m_put (i := a) (k := 2 + j) (x := nI (L j - 1)) hS1 (by omega)
  simp only [F_X6_step_L70, F_X6_step_J129, F_X6_step_J144, F_X6_step_J145, F_X6_step_J180, F_X6_step_J203, l_0, l_1, l_2, l_3, l_4, l_5, l_6, l_7, l_8, l_9, l_10, l_11, l_12, l_13, l_14, l_15, l_16, l_17, l_18, l_19, l_20, l_21, l_24, l_25, l_26, l_27, l_31, l_33, l_41, l_65, l_67, l_71, l_84, l_120, l_127, l_128, l_130, l_160, l_162, l_200, l_255, l_256, l_999, l_1000, l_8000, l_9999, l_10000, l_8001, l_m1, t_k214 h, g1, c, nI_add, g2, g6, ne10, e1, e2, p6, t_k214 hS1, p2, bd2_some, bdx_inl, bdx_inr, bdc_inl, bdc_inr, obd_some, ↓reduceIte]
theorem st_2 {fu q : Nat} (h : zSt z S) (ha : a < 30) (n4 : n ≤ 4) (hj : j < n) (h1 : mI S (z + 216) (41 * a + 1) = nI n) (h6 : mI S (z + 216) (41 * a + (6 + j)) = nI (B j)) (h2 : mI S (z + 216) (41 * a + (2 + j)) = nI (L j)) (l1 : 1 ≤ L j) (l8 : L j ≤ 8) (b1 : B j < 4 ^ L j) (hq : 1 < q) (hq2 : q ≤ 160) (hR : mI S (z + 215) (q - 1) = nI (rf (q - 1))) : F_X6_step_L70 (fu + 1) (z + 214) (nI a) (nI q) (nI 0) (nI 1) (nI j) S = F_X6_step_L70 fu (z + 214) (nI a) (nI q) (nI 0) (nI 1) (nI (j + 1)) (sI (sI S (z + 216) (41 * a + (6 + j)) (nI (B j / 4 + rf (q - 1) * 4 ^ (L j - 1)))) (z + 216) (41 * a + (2 + j)) (nI (L j))) := by
  obtain ⟨g1, g2, g6⟩ := st_get h ha n4 hj h1 h6 h2
  have c : ¬ nI n ≤ nI j := nI_ge (by omega) (by omega)
  have e1 : nI (L j) - nI 1 = nI (L j - 1) := nI_sub1 l1
  have := p4_8 l8
  have e2 : nI (B j) >>> (nI 2 &&& nI 31) = nI (B j / 4) := by rw [b_31 (by omega), b_shr (by omega) (by omega)]
  have e3 : nI q - nI 1 = nI (q - 1) := nI_sub1 (by omega)
  have r1 := t_a215 (k := q - 1) h (by omega)
  rw [hR] at r1
  have e4 : nI (B j / 4) ||| (nI (rf (q - 1)) <<< (nI (2 * (L j - 1)) &&& nI 31)) = nI (B j / 4 + rf (q - 1) * 4 ^ (L j - 1)) := by
    have hb : B j / 4 < 2 ^ (2 * (L j - 1)) := by
      rw [four_two]
      have : 4 ^ L j = 4 * 4 ^ (L j - 1) := by rw [← p4_s, show L j - 1 + 1 = L j by omega]
      omega
    rw [b_31 (by omega), b_shl (by omega), b_orAdd' hb, four_two]
  have e5 : nI (L j - 1 + 1) = nI (L j) := by rw [show L j - 1 + 1 = L j by omega]
  have p6 := m_put (i := a) (k := 6 + j) (x := nI (B j / 4 + rf (q - 1) * 4 ^ (L j - 1))) h (by omega)
  have hS1 : zSt z (sI S (z + 216) (41 * a + (6 + j)) (nI (B j / 4 + rf (q - 1) * 4 ^ (L j - 1)))) := h
  have p2 := m_put (i := a) (k := 2 + j) (x := nI (L j)) hS1 (by omega)
  simp only [F_X6_step_L70, F_X6_step_J129, F_X6_step_J144, F_X6_step_J145, F_X6_step_J180, F_X6_step_J203, l_0, l_1, l_2, l_3, l_4, l_5, l_6, l_7, l_8, l_9, l_10, l_11, l_12, l_13, l_14, l_15, l_16, l_17, l_18, l_19, l_20, l_21, l_24, l_25, l_26, l_27, l_31, l_33, l_41, l_65, l_67, l_71, l_84, l_120, l_127, l_128, l_130, l_160, l_162, l_200, l_255, l_256, l_999, l_1000, l_8000, l_9999, l_10000, l_8001, l_m1, t_k214 h, g1, c, nI_add, nI_mul, g2, g6, ne10, e1, e2, t_r214_1 h, e3, r1, e4, p6, t_k214 hS1, e5, p2, bd2_some, bdx_inl, bdx_inr, bdc_inl, bdc_inr, obd_some, ↓reduceIte]
theorem st_3 {fu : Nat} (h : zSt z S) (ha : a < 30) (n4 : n ≤ 4) (hj : j < n) (h1 : mI S (z + 216) (41 * a + 1) = nI n) (h6 : mI S (z + 216) (41 * a + (6 + j)) = nI (B j)) (h2 : mI S (z + 216) (41 * a + (2 + j)) = nI (L j)) (l1 : 1 ≤ L j) (l8 : L j ≤ 8) : F_X6_step_L70 (fu + 1) (z + 214) (nI a) v2 (nI 1) (nI 0) (nI j) S = F_X6_step_L70 fu (z + 214) (nI a) v2 (nI 1) (nI 0) (nI (j + 1)) (sI (sI S (z + 216) (41 * a + (6 + j)) (nI (B j % 4 ^ (L j - 1)))) (z + 216) (41 * a + (2 + j)) (nI (L j - 1))) := by
  obtain ⟨g1, g2, g6⟩ := st_get h ha n4 hj h1 h6 h2
  have c : ¬ nI n ≤ nI j := nI_ge (by omega) (by omega)
  have e1 : nI (L j) - nI 1 = nI (L j - 1) := nI_sub1 l1
  have e2 : nI (B j) &&& ((nI 1 <<< (nI (2 * (L j - 1)) &&& nI 31)) - nI 1) = nI (B j % 4 ^ (L j - 1)) := by rw [b_low (by omega), b_andLow]
  have p6 := m_put (i := a) (k := 6 + j) (x := nI (B j % 4 ^ (L j - 1))) h (by omega)
  have hS1 : zSt z (sI S (z + 216) (41 * a + (6 + j)) (nI (B j % 4 ^ (L j - 1)))) := h
  have p2 := m_put (i := a) (k := 2 + j) (x := nI (L j - 1)) hS1 (by omega)
  simp only [F_X6_step_L70, F_X6_step_J129, F_X6_step_J144, F_X6_step_J145, F_X6_step_J180, F_X6_step_J203, l_0, l_1, l_2, l_3, l_4, l_5, l_6, l_7, l_8, l_9, l_10, l_11, l_12, l_13, l_14, l_15, l_16, l_17, l_18, l_19, l_20, l_21, l_24, l_25, l_26, l_27, l_31, l_33, l_41, l_65, l_67, l_71, l_84, l_120, l_127, l_128, l_130, l_160, l_162, l_200, l_255, l_256, l_999, l_1000, l_8000, l_9999, l_10000, l_8001, l_m1, t_k214 h, g1, c, nI_add, nI_mul, g2, g6, e1, e2, p6, t_k214 hS1, p2, bd2_some, bdx_inl, bdx_inr, bdc_inl, bdc_inr, obd_some, ↓reduceIte]
theorem st_e {fu : Nat} {v3 v4 x : Int32} (h : zSt z S) (ha : a < 30) (n4 : n ≤ 4) (h1 : mI S (z + 216) (41 * a + 1) = nI n) (hx : (if v4 = nI 0 then v2 + nI 1 else if v3 = nI 0 then v2 - nI 1 else v2) = x) : F_X6_step_L70 (fu + 1) (z + 214) (nI a) v2 v3 v4 (nI n) S = some (nI 1, sI S (z + 216) (41 * a) x) := by
  have g1 := m_get (i := a) (k := 1) h (by omega)
  rw [h1] at g1
  have c : nI n ≤ nI n := nI_le (by omega) (by omega)
  have p0 := m_put (i := a) (k := 0) (x := x) h (by omega)
  rw [Nat.add_zero (41 * a)] at p0
  by_cases c4 : v4 = nI 0
  · rw [if_pos c4] at hx
    simp only [F_X6_step_L70, F_X6_step_J237, l_0, l_1, l_2, l_3, l_4, l_5, l_6, l_7, l_8, l_9, l_10, l_11, l_12, l_13, l_14, l_15, l_16, l_17, l_18, l_19, l_20, l_21, l_24, l_25, l_26, l_27, l_31, l_33, l_41, l_65, l_67, l_71, l_84, l_120, l_127, l_128, l_130, l_160, l_162, l_200, l_255, l_256, l_999, l_1000, l_8000, l_9999, l_10000, l_8001, l_m1, t_k214 h, g1, c, c4, hx, p0, bd2_some, bdx_inl, bdx_inr, bdc_inl, bdc_inr, obd_some, ↓reduceIte]
  · rw [if_neg c4] at hx
    by_cases c3 : v3 = nI 0
    · rw [if_pos c3] at hx
      simp only [F_X6_step_L70, F_X6_step_J237, l_0, l_1, l_2, l_3, l_4, l_5, l_6, l_7, l_8, l_9, l_10, l_11, l_12, l_13, l_14, l_15, l_16, l_17, l_18, l_19, l_20, l_21, l_24, l_25, l_26, l_27, l_31, l_33, l_41, l_65, l_67, l_71, l_84, l_120, l_127, l_128, l_130, l_160, l_162, l_200, l_255, l_256, l_999, l_1000, l_8000, l_9999, l_10000, l_8001, l_m1, t_k214 h, g1, c, c4, c3, hx, p0, bd2_some, bdx_inl, bdx_inr, bdc_inl, bdc_inr, obd_some, ↓reduceIte]
    · rw [if_neg c3] at hx
      simp only [F_X6_step_L70, F_X6_step_J237, l_0, l_1, l_2, l_3, l_4, l_5, l_6, l_7, l_8, l_9, l_10, l_11, l_12, l_13, l_14, l_15, l_16, l_17, l_18, l_19, l_20, l_21, l_24, l_25, l_26, l_27, l_31, l_33, l_41, l_65, l_67, l_71, l_84, l_120, l_127, l_128, l_130, l_160, l_162, l_200, l_255, l_256, l_999, l_1000, l_8000, l_9999, l_10000, l_8001, l_m1, t_k214 h, g1, c, c4, c3, hx, p0, bd2_some, bdx_inl, bdx_inr, bdc_inl, bdc_inr, obd_some, ↓reduceIte]
/-- what a step leaves -/
def zSp (z : Nat) (S S' : Mem) (a : Nat) (r' : Rc) : Prop := zMw z S S' ∧ mI S' (z + 214) 4 = mI S (z + 214) 4 ∧ zMR (mI S' (z + 216)) (41 * a) r' ∧ ∀ k, (k < 41 * a ∨ 41 * a + 41 ≤ k) → mI S' (z + 216) k = mI S (z + 216) k
theorem m_step (h4 : ∀ i, rf i < 4) (hp : p ≤ 160) (h : zSt z S) (hf : zMf z S p rf) (ha : a < 30) (hr : zMR (mI S (z + 216)) (41 * a) r) (ok : aOk p rf r) :
    match rStep rf r with
    | none => F_X6_step (z + 214) (nI a) S = some (nI 0, S)
    | some r' => ∃ S', F_X6_step (z + 214) (nI a) S = some (nI 1, S') ∧ zSp z S S' a r' := by
  have hA := zMA_ok hr ok
  have n4 := ok.1.2
  have n1 : 1 ≤ aN r := by have := ok.1.1; omega
  have g0 := m_get (i := a) (k := 0) h (by omega)
  rw [Nat.add_zero (41 * a), hr.1.1] at g0
  obtain ⟨w, w1, w2, w3⟩ := m_short h ha hA
  have s0 := m_same (e := 0) h ha hA (by omega) n1
  have s1 := m_same (e := 1) h ha hA (by omega) n1
  rw [show decide (∀ i, i < aN r → edg (aL r) (aB r) 0 i = edg (aL r) (aB r) 0 0) = aEnd (aN r) (aB r) from rfl] at s0
  rw [show decide (∀ i, i < aN r → edg (aL r) (aB r) 1 i = edg (aL r) (aB r) 1 0) = aFst (aN r) (aL r) (aB r) from rfl] at s1
  have hP1 := ok.2.2.1.1
  have hP2 := (ok31 hp ok).1
  have st : F_X6_step (z + 214) (nI a) S = F_X6_step_J21 (z + 214) (nI a) (nI (aP r)) (bI (aTwo (aN r) (aL r))) S := by
    by_cases c : aTwo (aN r) (aL r) = true
    · have c' : ¬ nI w ≤ nI 1 := nI_ge (w3.mpr c) (by omega)
      rw [c]
      simp only [F_X6_step, l_0, l_1, l_2, l_3, l_4, l_5, l_6, l_7, l_8, l_9, l_10, l_11, l_12, l_13, l_14, l_15, l_16, l_17, l_18, l_19, l_20, l_21, l_24, l_25, l_26, l_27, l_31, l_33, l_41, l_65, l_67, l_71, l_84, l_120, l_127, l_128, l_130, l_160, l_162, l_200, l_255, l_256, l_999, l_1000, l_8000, l_9999, l_10000, l_8001, l_m1, t_k214 h, g0, w1, c', bI, bd2_some, bdx_inl, bdx_inr, bdc_inl, bdc_inr, obd_some, ↓reduceIte]
    · have c' : nI w ≤ nI 1 := nI_le (Nat.not_lt.mp (fun q => c (w3.mp q))) (by omega)
      rw [Bool.not_eq_true] at c
      rw [c]
      simp only [F_X6_step, l_0, l_1, l_2, l_3, l_4, l_5, l_6, l_7, l_8, l_9, l_10, l_11, l_12, l_13, l_14, l_15, l_16, l_17, l_18, l_19, l_20, l_21, l_24, l_25, l_26, l_27, l_31, l_33, l_41, l_65, l_67, l_71, l_84, l_120, l_127, l_128, l_130, l_160, l_162, l_200, l_255, l_256, l_999, l_1000, l_8000, l_9999, l_10000, l_8001, l_m1, t_k214 h, g0, w1, c', bI, bd2_some, bdx_inl, bdx_inr, bdc_inl, bdc_inr, obd_some, ↓reduceIte, Bool.false_eq_true]
  rw [st]
  by_cases cE : aEnd (aN r) (aB r) = true ∧ (aTwo (aN r) (aL r) = true ∨ 1 < aP r)
  · rw [cE.1] at s0
    have s0' : F_X6_same (z + 214) (nI a) (nI 0) S = some (nI 1, S) := s0
    by_cases cT : aTwo (aN r) (aL r) = true
    · rw [show rStep rf r = some (wAl r (aP r) (fun i => aL r i - 1) (fun i => aB r i / 4)) from by unfold rStep; rw [if_pos cE, if_pos cT]]
      obtain ⟨S1, q1, q2⟩ := m_upd (v2 := nI (aP r)) (v3 := nI 1) (v4 := nI 1) (R := mI S (z + 215)) (q := aP r) (L' := fun i => aL r i - 1) (B' := fun i => aB r i / 4) h rfl ha hr n4 (fun fu j S hS _ h1 hj h6 h2 => st_1 hS ha n4 hj h1 h6 h2 (hA.2.2 j hj).2.2.1 (hA.2.2 j hj).2.2.2.2) (fun fu S hS h1 => st_e hS ha n4 h1 (by rw [if_neg ne10, if_neg ne10]))
      refine ⟨S1, ?_, q2⟩
      rw [cT]
      simp only [F_X6_step_J21, F_X6_step_J40, F_X6_step_J45, F_X6_step_J67, l_0, l_1, l_2, l_3, l_4, l_5, l_6, l_7, l_8, l_9, l_10, l_11, l_12, l_13, l_14, l_15, l_16, l_17, l_18, l_19, l_20, l_21, l_24, l_25, l_26, l_27, l_31, l_33, l_41, l_65, l_67, l_71, l_84, l_120, l_127, l_128, l_130, l_160, l_162, l_200, l_255, l_256, l_999, l_1000, l_8000, l_9999, l_10000, l_8001, l_m1, t_k214 h, s0', ne10, bI, bd2_some, bdx_inl, bdx_inr, bdc_inl, bdc_inr, obd_some, ↓reduceIte]
      exact q1
    · have hP : 1 < aP r := by
        rcases cE.2 with q | q
        · exact absurd q cT
        · exact q
      rw [show rStep rf r = some (wAl r (aP r - 1) (aL r) (fun i => aB r i / 4 + rf (aP r - 1) * 4 ^ (aL r i - 1))) from by unfold rStep; rw [if_pos cE, if_neg cT]]
      have hR : mI S (z + 215) (aP r - 1) = nI (rf (aP r - 1)) := by
        have := hf.2 (aP r - 2) (by have := ok.2.2.1.2.1; have := (ok.2.1.1 0 n1).1; omega)
        rw [show aP r - 2 + 1 = aP r - 1 by omega] at this
        exact this
      obtain ⟨S1, q1, q2⟩ := m_upd (v2 := nI (aP r)) (v3 := nI 0) (v4 := nI 1) (R := mI S (z + 215)) (q := aP r - 1) (L' := aL r) (B' := fun i => aB r i / 4 + rf (aP r - 1) * 4 ^ (aL r i - 1)) h rfl ha hr n4 (fun fu j T hT hR' h1 hj h6 h2 => st_2 hT ha n4 hj h1 h6 h2 (hA.2.2 j hj).2.2.1 (hA.2.2 j hj).2.2.2.1 (ok.2.1.1 j hj).2.2 hP hP2 (by rw [hR']; exact hR)) (fun fu S hS h1 => st_e hS ha n4 h1 (by rw [if_neg ne10, if_pos rfl, nI_sub1 (by omega)]))
      refine ⟨S1, ?_, q2⟩
      rw [Bool.not_eq_true] at cT
      have c' : ¬ nI (aP r) ≤ nI 1 := nI_ge (by omega) (by omega)
      rw [cT]
      simp only [F_X6_step_J21, F_X6_step_J40, F_X6_step_J45, F_X6_step_J67, l_0, l_1, l_2, l_3, l_4, l_5, l_6, l_7, l_8, l_9, l_10, l_11, l_12, l_13, l_14, l_15, l_16, l_17, l_18, l_19, l_20, l_21, l_24, l_25, l_26, l_27, l_31, l_33, l_41, l_65, l_67, l_71, l_84, l_120, l_127, l_128, l_130, l_160, l_162, l_200, l_255, l_256, l_999, l_1000, l_8000, l_9999, l_10000, l_8001, l_m1, t_k214 h, s0', ne10, c', bI, bd2_some, bdx_inl, bdx_inr, bdc_inl, bdc_inr, obd_some, ↓reduceIte, Bool.false_eq_true]
      exact q1
  · have go : F_X6_step_J21 (z + 214) (nI a) (nI (aP r)) (bI (aTwo (aN r) (aL r))) S = F_X6_step_J45 (z + 214) (nI a) (nI (aP r)) (bI (aTwo (aN r) (aL r))) (nI 0) S := by
      by_cases cE' : aEnd (aN r) (aB r) = true
      · have cT : ¬ aTwo (aN r) (aL r) = true := fun q => cE ⟨cE', Or.inl q⟩
        have cP : ¬ 1 < aP r := fun q => cE ⟨cE', Or.inr q⟩
        rw [cE'] at s0
        have s0' : F_X6_same (z + 214) (nI a) (nI 0) S = some (nI 1, S) := s0
        rw [Bool.not_eq_true] at cT
        have c' : nI (aP r) ≤ nI 1 := nI_le (by omega) (by omega)
        rw [cT]
        simp only [F_X6_step_J21, F_X6_step_J44, l_0, l_1, l_2, l_3, l_4, l_5, l_6, l_7, l_8, l_9, l_10, l_11, l_12, l_13, l_14, l_15, l_16, l_17, l_18, l_19, l_20, l_21, l_24, l_25, l_26, l_27, l_31, l_33, l_41, l_65, l_67, l_71, l_84, l_120, l_127, l_128, l_130, l_160, l_162, l_200, l_255, l_256, l_999, l_1000, l_8000, l_9999, l_10000, l_8001, l_m1, t_k214 h, s0', ne10, c', bI, bd2_some, bdx_inl, bdx_inr, bdc_inl, bdc_inr, obd_some, ↓reduceIte, Bool.false_eq_true]
      · rw [Bool.not_eq_true] at cE'
        rw [cE'] at s0
        have s0' : F_X6_same (z + 214) (nI a) (nI 0) S = some (nI 0, S) := s0
        simp only [F_X6_step_J21, F_X6_step_J44, l_0, l_1, l_2, l_3, l_4, l_5, l_6, l_7, l_8, l_9, l_10, l_11, l_12, l_13, l_14, l_15, l_16, l_17, l_18, l_19, l_20, l_21, l_24, l_25, l_26, l_27, l_31, l_33, l_41, l_65, l_67, l_71, l_84, l_120, l_127, l_128, l_130, l_160, l_162, l_200, l_255, l_256, l_999, l_1000, l_8000, l_9999, l_10000, l_8001, l_m1, t_k214 h, s0', bd2_some, bdx_inl, bdx_inr, bdc_inl, bdc_inr, obd_some, ↓reduceIte]
    rw [go]
    by_cases cT : aTwo (aN r) (aL r) = true
    · by_cases cF : aFst (aN r) (aL r) (aB r) = true
      · rw [show rStep rf r = some (wAl r (aP r + 1) (fun i => aL r i - 1) (fun i => aB r i % 4 ^ (aL r i - 1))) from by unfold rStep; rw [if_neg cE, if_pos ⟨cT, cF⟩]]
        rw [cF] at s1
        have s1' : F_X6_same (z + 214) (nI a) (nI 1) S = some (nI 1, S) := s1
        obtain ⟨S1, q1, q2⟩ := m_upd (v2 := nI (aP r)) (v3 := nI 1) (v4 := nI 0) (R := mI S (z + 215)) (q := aP r + 1) (L' := fun i => aL r i - 1) (B' := fun i => aB r i % 4 ^ (aL r i - 1)) h rfl ha hr n4 (fun fu j S hS _ h1 hj h6 h2 => st_3 hS ha n4 hj h1 h6 h2 (hA.2.2 j hj).2.2.1 (hA.2.2 j hj).2.2.2.1) (fun fu S hS h1 => st_e hS ha n4 h1 (by rw [if_pos rfl, nI_add]))
        refine ⟨S1, ?_, q2⟩
        rw [cT]
        simp only [F_X6_step_J45, F_X6_step_J67, l_0, l_1, l_2, l_3, l_4, l_5, l_6, l_7, l_8, l_9, l_10, l_11, l_12, l_13, l_14, l_15, l_16, l_17, l_18, l_19, l_20, l_21, l_24, l_25, l_26, l_27, l_31, l_33, l_41, l_65, l_67, l_71, l_84, l_120, l_127, l_128, l_130, l_160, l_162, l_200, l_255, l_256, l_999, l_1000, l_8000, l_9999, l_10000, l_8001, l_m1, t_k214 h, s1', ne10, bI, bd2_some, bdx_inl, bdx_inr, bdc_inl, bdc_inr, obd_some, ↓reduceIte]
        exact q1
      · rw [show rStep rf r = none from by unfold rStep; rw [if_neg cE, if_neg (fun q => cF q.2)]]
        rw [Bool.not_eq_true] at cF
        rw [cF] at s1
        have s1' : F_X6_same (z + 214) (nI a) (nI 1) S = some (nI 0, S) := s1
        rw [cT]
        simp only [F_X6_step_J45, F_X6_step_J67, l_0, l_1, l_2, l_3, l_4, l_5, l_6, l_7, l_8, l_9, l_10, l_11, l_12, l_13, l_14, l_15, l_16, l_17, l_18, l_19, l_20, l_21, l_24, l_25, l_26, l_27, l_31, l_33, l_41, l_65, l_67, l_71, l_84, l_120, l_127, l_128, l_130, l_160, l_162, l_200, l_255, l_256, l_999, l_1000, l_8000, l_9999, l_10000, l_8001, l_m1, t_k214 h, s1', ne10, bI, bd2_some, bdx_inl, bdx_inr, bdc_inl, bdc_inr, obd_some, ↓reduceIte]
    · rw [show rStep rf r = none from by unfold rStep; rw [if_neg cE, if_neg (fun q => cT q.1)]]
      rw [Bool.not_eq_true] at cT
      rw [cT]
      simp only [F_X6_step_J45, l_0, l_1, l_2, l_3, l_4, l_5, l_6, l_7, l_8, l_9, l_10, l_11, l_12, l_13, l_14, l_15, l_16, l_17, l_18, l_19, l_20, l_21, l_24, l_25, l_26, l_27, l_31, l_33, l_41, l_65, l_67, l_71, l_84, l_120, l_127, l_128, l_130, l_160, l_162, l_200, l_255, l_256, l_999, l_1000, l_8000, l_9999, l_10000, l_8001, l_m1, bI, ↓reduceIte, Bool.false_eq_true]
theorem m_trim_L (h4 : ∀ i, rf i < 4) (hp : p ≤ 160) (ha : a < 30) {v1 : Int32} : ∀ (m fu : Nat) (S : Mem) (r : Rc), zSt z S → zMf z S p rf → zMR (mI S (z + 216)) (41 * 25) r → aOk p rf r → mu r ≤ m → m + 1 < fu → ∃ S' fu', F_X6_normalise_L27 fu (z + 214) v1 (nI 1) S = F_X6_normalise_L27 (fu' + 1) (z + 214) v1 (nI 0) S' ∧ zSp z S S' 25 (rTrim rf (m + 1) r) := by
  intro m
  induction m with
  | zero =>
    intro fu S r h hf hr ok hm
    have := ok.2.2.1.1
    unfold mu at hm
    omega
  | succ m ih =>
    intro fu S r h hf hr ok hm hfu
    obtain ⟨fu, rfl⟩ : ∃ f, fu = f + 1 := ⟨fu - 1, by omega⟩
    obtain ⟨fu, rfl⟩ : ∃ f, fu = f + 1 := ⟨fu - 1, by omega⟩
    have M := m_step (a := 25) h4 hp h hf (by omega) hr ok
    rw [rTrim]
    cases e : rStep rf r with
    | none =>
      rw [e] at M
      refine ⟨S, fu, ?_, zMw_refl, rfl, hr, fun _ _ => rfl⟩
      have M' : F_X6_step (z + 214) (nI 25) S = some (nI 0, S) := M
      rw [F_X6_normalise_L27, if_neg (show ¬ nI 1 = 0 from ne10), t_k214 h, obd_some]
      show bd2 (F_X6_step (z + 214) (nI 25) S) _ = _
      rw [M', bd2_some]
    | some r' =>
      rw [e] at M
      obtain ⟨S1, q1, q2⟩ := M
      obtain ⟨ok', hmu⟩ := step_ok h4 ok e
      have hS1 := zMw_St q2.1 h
      obtain ⟨S2, fu', w1, w2⟩ := ih (fu + 1) S1 r' hS1 (zMf_of (q2.1.2.2 2 (by omega)) q2.1.2.1 hf) q2.2.2.1 ok' (by omega) (by omega)
      refine ⟨S2, fu', Eq.trans ?_ w1, zMw_trans q2.1 w2.1, w2.2.1.trans q2.2.1, w2.2.2.1, fun k hk => (w2.2.2.2 k hk).trans (q2.2.2.2 k hk)⟩
      rw [F_X6_normalise_L27, if_neg (show ¬ nI 1 = 0 from ne10), t_k214 h, obd_some]
      show bd2 (F_X6_step (z + 214) (nI 25) S) _ = _
      rw [q1, bd2_some]
theorem M_normalise {i : Int32} (hs : xOk s) (h : zMo z s S) : ∃ S', F_X6_normalise (z + 214) i S = some ((o_normalise s i).2.1, S') ∧ zMo z (o_normalise s i).2.2 S' ∧ zFr (z + 214) (z + 220) S S' ∧ mI S' (z + 214) 0 = (o_normalise s i).1 := by
  obtain ⟨hS, hl, hf, hd, ht⟩ := id h
  have hl24 := hs.2.2.2.2.1
  by_cases c : i < nI 0 ∨ nI (xL s).length ≤ i
  · rw [show o_normalise s i = (nI 1, nI 0, s) from if_pos c]
    refine ⟨sI S (z + 214) 0 (nI 1), ?_, zMo_th h, zFr_th, by rw [mI_sI, if_pos ⟨rfl, rfl⟩]⟩
    simp only [F_X6_normalise, l_0, l_1, l_2, l_3, l_4, l_5, l_6, l_7, l_8, l_9, l_10, l_11, l_12, l_13, l_14, l_15, l_16, l_17, l_18, l_19, l_20, l_21, l_24, l_25, l_26, l_27, l_31, l_33, l_41, l_65, l_67, l_71, l_84, l_120, l_127, l_128, l_130, l_160, l_162, l_200, l_255, l_256, l_999, l_1000, l_8000, l_9999, l_10000, l_8001, l_m1, t_g214 hS, hl.1, m_out, c, ne10, t_k214 hS, m_th1 hS, bd2_some, bdx_inl, bdx_inr, bdc_inl, bdc_inr, obd_some, ↓reduceIte]
  obtain ⟨i', rfl, -, b3⟩ := in_of' (by omega) (fun e => c (Or.inl e)) (fun e => c (Or.inr e)) (by omega)
  have t1 : tn (nI i') = i' := tn_nI (by omega)
  obtain ⟨g1, g2⟩ := xAt_ok hs b3
  rw [show o_normalise s (nI i') = (nI 0, nI (ipos ((xL s).eraseIdx i') (aP (rTrim (xF s) 1000 (xAt s i')))), wList s (insR ((xL s).eraseIdx i') (rTrim (xF s) 1000 (xAt s i')))) from by unfold o_normalise; rw [if_neg c, t1]]
  have h1 := zMo_th (x := nI 0) h
  have hS1 := h1.1
  obtain ⟨S2, a1, a2, a3, a4⟩ := m_copy' (a := i') (b := 25) hS1 (by omega) (by omega) (by omega)
  have hS2 := zMw_St a2 hS1
  have hr2 : zMR (mI S2 (z + 216)) (41 * 25) (xAt s i') := zMR_of g2.1.2 (fun k hk => by rw [a4 25 k hk, if_pos rfl]) (h1.2.1.2 i' _ g1)
  have hf2 : zMf z S2 (xP s) (xF s) := zMf_of (a2.2.2 2 (by omega)) a2.2.1 h1.2.2.1
  have hmu := mu_le hs.1 g2
  obtain ⟨S3, fu', w1, w2, w3, w4, w5⟩ := m_trim_L (a := 25) (v1 := nI i') hs.2.1 hs.1 (by omega) 999 FU S2 (xAt s i') hS2 hf2 hr2 g2 (by omega) (by show 999 + 1 < 4000; omega)
  rw [show 999 + 1 = 1000 from rfl] at w4
  have hS3 := zMw_St w2 hS2
  have ok3 := trim_ok hs.2.1 1000 _ g2
  have W3 : zMw z (sI S (z + 214) 0 (nI 0)) S3 := zMw_trans a2 w2
  have R3 : ∀ q k, q ≠ 25 → k < 41 → mI S3 (z + 216) (41 * q + k) = mI (sI S (z + 214) 0 (nI 0)) (z + 216) (41 * q + k) := fun q k hq hk => by rw [w5 _ (by omega), a4 q k hk, if_neg hq]
  have hM3 : zMo z s S3 := zMo_w (s := s) hs h1 W3 (zMl_of (by rw [w3, a3]) (fun i k hi hk => R3 i k (by have hi' : i < (xL s).length := hi; omega) hk) (n4_of hs) h1.2.1) (fun k hk => R3 24 k (by omega) hk)
  obtain ⟨S4, d1, d2, d3, d4⟩ := m_del hs hM3 b3
  have hS4 := zMw_St d2 hS3
  have hle := List.length_eraseIdx_of_lt b3
  have hmem : ∀ t, t ∈ (xL s).eraseIdx i' → aOk (xP s) (xF s) t := fun t ht => hs.2.2.2.1 t (List.mem_of_mem_eraseIdx ht)
  have o2 := ok31 hs.1 ok3
  obtain ⟨S5, q1, q2, q3, q4⟩ := m_enter (a := 25) (r := rTrim (xF s) 1000 (xAt s i')) (ls := (xL s).eraseIdx i') hS4 d3 (fun t ht => (hmem t ht).1.2) (by omega) (by omega) (by omega) ok3.1.2 o2.2.1 (fun t ht => (ok31 hs.1 (hmem t ht)).2.1) (zMR_of ok3.1.2 (fun k hk => d4 25 k (by omega) hk) w4)
  refine ⟨S5, ?_, zMo_w hs h1 (zMw_trans W3 (zMw_trans d2 q2)) q3 (fun k hk => by rw [q4 24 k (Nat.le_refl _) hk, d4 24 k (Nat.le_refl _) hk, R3 24 k (by omega) hk]), zFr_trans zFr_th (zFr_mono (zMw_trans W3 (zMw_trans d2 q2)).1 (by omega) (by omega)), ?_⟩
  · have st : F_X6_normalise (z + 214) (nI i') S = F_X6_normalise_L27 FU (z + 214) (nI i') (nI 1) S2 := by
      simp only [F_X6_normalise, l_0, l_1, l_2, l_3, l_4, l_5, l_6, l_7, l_8, l_9, l_10, l_11, l_12, l_13, l_14, l_15, l_16, l_17, l_18, l_19, l_20, l_21, l_24, l_25, l_26, l_27, l_31, l_33, l_41, l_65, l_67, l_71, l_84, l_120, l_127, l_128, l_130, l_160, l_162, l_200, l_255, l_256, l_999, l_1000, l_8000, l_9999, l_10000, l_8001, l_m1, t_g214 hS, hl.1, m_out, c, t_k214 hS, m_th0 hS, t_k214 hS1, a1, bd2_some, bdx_inl, bdx_inr, bdc_inl, bdc_inr, obd_some, ↓reduceIte]
    rw [st, w1, F_X6_normalise_L27, if_pos (show nI 0 = 0 from rfl), t_k214 hS3, obd_some, d1, obd_some, t_k214 hS4, obd_some]
    show bd2 (F_X6_enter (z + 214) (nI 25) S4) _ = _
    rw [q1, bd2_some]
  · rw [q2.2.2 0 (by omega), d2.2.2 0 (by omega), W3.2.2 0 (by omega), mI_sI, if_pos ⟨rfl, rfl⟩]
end M8
