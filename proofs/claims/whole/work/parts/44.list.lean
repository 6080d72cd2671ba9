set_option maxRecDepth 20000
/-! copies, the list, the reference's rows -/
theorem ltc {n N k : Nat} (h : n < N) (hN : N ≤ k) : n < k := Nat.lt_of_lt_of_le h hN
section CW
variable {S S' : Mem} {v w n lo hi z : Nat} {x b l : Int32} {r : Rc}
theorem v_c1 (h : zVar S v) (h' : zVar S w) : pcp S (w + 1) (nI 0) (v + 1) (nI 0) (nI 4) = some (sF S (v + 1) (va_cpy (mI S (w + 1)) (mI S (v + 1)) 0 0 4)) := e_pcp h'.2.2.1.1 h.2.2.1.1 h'.2.2.1.2 h.2.2.1.2 (by decide) (by decide) (by decide) (by decide)
theorem v_c2 (h : zVar S v) (h' : zVar S w) : pcp S (w + 2) (nI 0) (v + 2) (nI 0) (nI 4) = some (sF S (v + 2) (va_cpy (mI S (w + 2)) (mI S (v + 2)) 0 0 4)) := e_pcp h'.2.2.2.1.1 h.2.2.2.1.1 h'.2.2.2.1.2 h.2.2.2.1.2 (by decide) (by decide) (by decide) (by decide)
theorem v_c3 (h : zVar S v) (h' : zVar S w) : pcp S (w + 3) (nI 0) (v + 3) (nI 0) (nI 4) = some (sF S (v + 3) (va_cpy (mI S (w + 3)) (mI S (v + 3)) 0 0 4)) := e_pcp h'.2.2.2.2.1.1 h.2.2.2.2.1.1 h'.2.2.2.2.1.2 h.2.2.2.2.1.2 (by decide) (by decide) (by decide) (by decide)
theorem v_c4 (h : zVar S v) (h' : zVar S w) : pcp S (w + 4) (nI 0) (v + 4) (nI 0) (nI 4) = some (sF S (v + 4) (va_cpy (mI S (w + 4)) (mI S (v + 4)) 0 0 4)) := e_pcp h'.2.2.2.2.2.1.1 h.2.2.2.2.2.1.1 h'.2.2.2.2.2.1.2 h.2.2.2.2.2.1.2 (by decide) (by decide) (by decide) (by decide)
theorem v_c6 {a c : Nat} (h : zVar S v) (h' : zVar S w) (hc : a + c ≤ 20) : pcp S (w + 6) (nI a) (v + 6) (nI a) (nI c) = some (sF S (v + 6) (va_cpy (mI S (w + 6)) (mI S (v + 6)) a a c)) := e_pcp h'.2.2.2.2.2.2.2.1 h.2.2.2.2.2.2.2.1 h'.2.2.2.2.2.2.2.2 h.2.2.2.2.2.2.2.2 hc hc (by decide) (by decide)
theorem cpy_in {f g : Nat → Int32} {c k : Nat} (h : k < c) : va_cpy f g 0 0 c k = f k := by
  unfold va_cpy
  rw [if_pos (by omega)]
  congr 1
  omega
theorem prs_le {n : Nat} (h : n ≤ 4) : prs n ≤ 10 := by
  rcases (show n = 0 ∨ n = 1 ∨ n = 2 ∨ n = 3 ∨ n = 4 by omega) with e | e | e | e | e <;> subst e <;> decide
theorem c_copy (h : zVar S v) (h' : zVar S w) (hd : v + 7 ≤ w ∨ w + 7 ≤ v) (hr : zCR S w r) (hn : aN r ≤ 4) (hH : ∀ i, i < 2 → aH r i ≤ 1) : ∃ S', F_X4_copy v w S = some S' ∧ zFr v (v + 7) S S' ∧ zCR S' v r := by
  obtain ⟨⟨h1, h2, h3⟩, h4, h5, h6, h7⟩ := hr
  have b0 : zBo (mI S (w + 5) 0) := by rw [h6 0 (by omega)]; exact zBo_of (hH 0 (by omega))
  have b1 : zBo (mI S (w + 5) 1) := by rw [h6 1 (by omega)]; exact zBo_of (hH 1 (by omega))
  have d : ∀ t u, t < 7 → u < 7 → (w + t = v + u) = False := fun t u ht hu => eq_false (by omega)
  have d0 : ∀ u, u < 7 → (w = v + u) = False := fun u hu => eq_false (by omega)
  have d1 : ∀ t, t < 7 → (w + t = v) = False := fun t ht => eq_false (by omega)
  have d2 : (w = v) = False := eq_false (by omega)
  have ee : F_X4_copy v w S = some (sI (sI (sF (sF (sF (sF (sF (sI (sI (sI S v 0 (mI S w 0)) v 1 (mI S w 1)) v 2 (mI S w 2)) (v + 1) (va_cpy (mI S (w + 1)) (mI S (v + 1)) 0 0 4)) (v + 2) (va_cpy (mI S (w + 2)) (mI S (v + 2)) 0 0 4)) (v + 3) (va_cpy (mI S (w + 3)) (mI S (v + 3)) 0 0 4)) (v + 4) (va_cpy (mI S (w + 4)) (mI S (v + 4)) 0 0 4)) (v + 6) (va_cpy (mI S (w + 6)) (mI S (v + 6)) 0 0 20)) (v + 5) 0 (mI S (w + 5) 0)) (v + 5) 1 (mI S (w + 5) 1)) := by
    have g20 : 0 + 20 ≤ 20 := by decide
    simp only [F_X4_copy, l_0, l_1, l_2, l_3, l_4, l_5, l_6, l_7, l_8, l_9, l_10, l_11, l_12, l_13, l_14, l_15, l_16, l_17, l_18, l_19, l_20, l_21, l_24, l_25, l_26, l_27, l_31, l_33, l_41, l_65, l_67, l_71, l_84, l_120, l_127, l_128, l_130, l_160, l_162, l_200, l_255, l_256, l_999, l_1000, l_8000, l_9999, l_10000, l_8001, l_m1, v_pk, v_gI, v_pI, v_g3, v_a1, v_s1, v_g4, v_a2, v_s2, v_g5, v_a3, v_s3, v_g6, v_a4, v_s4, v_g7, v_a5, v_s5, v_g8, v_a6, v_s6, zVar_sI, zVar_sF, zVar_zI, zBo_0, zBo_1, h, h', bd2_some, bdx_inl, bdx_inr, bdc_inl, bdc_inr, obd_some, v_c1, v_c2, v_c3, v_c4, v_c6, g20, Nat.reduceAdd, Nat.reduceLeDiff]
    rw [FU_3]
    simp only [F_X4_copy_L97, l_0, l_1, l_2, l_3, l_4, l_5, l_6, l_7, l_8, l_9, l_10, l_11, l_12, l_13, l_14, l_15, l_16, l_17, l_18, l_19, l_20, l_21, l_24, l_25, l_26, l_27, l_31, l_33, l_41, l_65, l_67, l_71, l_84, l_120, l_127, l_128, l_130, l_160, l_162, l_200, l_255, l_256, l_999, l_1000, l_8000, l_9999, l_10000, l_8001, l_m1, v_pk, v_gI, v_pI, v_g3, v_a1, v_s1, v_g4, v_a2, v_s2, v_g5, v_a3, v_s3, v_g6, v_a4, v_s4, v_g7, v_a5, v_s5, v_g8, v_a6, v_s6, zVar_sI, zVar_sF, zVar_zI, zBo_0, zBo_1, h, h', bd2_some, bdx_inl, bdx_inr, bdc_inl, bdc_inr, obd_some, Nat.reducePow, Nat.reduceLT, Nat.reduceLeDiff, Nat.reduceAdd, Nat.reduceMul, Nat.reduceSub, Nat.reduceEqDiff, ↓reduceIte, nI_add, nI_mul, i_le, i_lt, i_eq, i_m1lt, i_ltm1, i_lem1, i_eqm1, i_m1eq, mI_sI_r, mI_sF, Nat.left_eq_add, Nat.add_eq_left, Nat.add_left_cancel_iff, Nat.reduceEqDiff, false_and, true_and, and_true, and_false, Nat.succ_ne_zero, Nat.add_eq_zero_iff, Nat.one_ne_zero, Nat.zero_ne_one, ne_eq, not_false_eq_true, d, d0, d1, d2, b0, b1]
  refine ⟨_, ee, ?_, ?_⟩
  · iterate 2 refine zFr_trans ?_ (zFr_sI (by omega) (by omega))
    iterate 5 refine zFr_trans ?_ (zFr_sF (by omega) (by omega))
    iterate 2 refine zFr_trans ?_ (zFr_sI (by omega) (by omega))
    exact zFr_sI (by omega) (by omega)
  · have p10 := prs_le hn
    refine ⟨?_, fun i hi => ?_, fun i hi => ?_, fun i hi => ?_, fun i hi => ?_⟩
    · simp [mI_sI, mI_sF, h1, h2, h3]
    · have hi4 : i < 4 := by omega
      obtain ⟨q1, q2, q3⟩ := h4 i hi
      simp [mI_sI, mI_sF, cpy_in, hi4, q1, q2, q3]
    · simp [mI_sI, mI_sF, cpy_in, hi, h5 i hi]
    · rcases (show i = 0 ∨ i = 1 by omega) with e | e <;> subst e
      · simp [mI_sI, mI_sF, h6 0 (by omega)]
      · simp [mI_sI, mI_sF, h6 1 (by omega)]
    · have hi4 : i < 20 := by omega
      have hi5 : 10 + i < 20 := by omega
      obtain ⟨q1, q2⟩ := h7 i hi
      simp [mI_sI, mI_sF, cpy_in, hi4, hi5, q1, q2]
/-! the list's rows -/
theorem c_open_L {z at' sp : Nat} (hsp : sp < 24) : ∀ (m fu j : Nat) (S : Mem) (p : Nat → Nat) (sz : Nat), zSt z S → (∀ i, i < 24 → p i < 24 ∧ mR S (z + 4) i = some (z + 5 + 7 * p i)) → mI S (z + 3) 1 = nI sz → at' + m = j → j < 24 → m < fu →
    ∃ S', F_X2_open_L15 fu (z + 3) (nI at') (z + 5 + 7 * sp) (nI j) S = some (z + 5 + 7 * sp, S') ∧ zSt z S' ∧ mI S' = up2 (mI S) (z + 3) 1 (nI (sz + 1)) ∧ mJ S' = mJ S ∧ mD S' = mD S ∧ mX S' = mX S ∧ ∀ i, i < 24 → mR S' (z + 4) i = some (z + 5 + 7 * (if i = at' then sp else if at' < i ∧ i ≤ j then p (i - 1) else p i)) := by
  intro m
  induction m with
  | zero =>
    intro fu j S p sz h hp hz hj hjN hf
    obtain ⟨fu, rfl⟩ : ∃ f, fu = f + 1 := ⟨fu - 1, by omega⟩
    have h1 : nI j ≤ nI at' := nI_le (by omega) (by omega)
    have h2 : at' < 24 := by omega
    have hv : zVar S (z + 5 + 7 * sp) := t_vi h (by omega)
    refine ⟨sI (sR S (z + 4) at' (some (z + 5 + 7 * sp))) (z + 3) 1 (nI (sz + 1)), ?_, ?_, ?_, rfl, rfl, rfl, ?_⟩
    · have h3 : zSt z (sR S (z + 4) at' (some (z + 5 + 7 * sp))) := zSt_sR h
      simp only [F_X2_open_L15, l_0, l_1, l_2, l_3, l_4, l_5, l_6, l_7, l_8, l_9, l_10, l_11, l_12, l_13, l_14, l_15, l_16, l_17, l_18, l_19, l_20, l_21, l_24, l_25, l_26, l_27, l_31, l_33, l_41, l_65, l_67, l_71, l_84, l_120, l_127, l_128, l_130, l_160, l_162, l_200, l_255, l_256, l_999, l_1000, l_8000, l_9999, l_10000, l_8001, l_m1, t_k0, t_g0, t_p0, t_z0, t_k1, t_g1, t_p1, t_z1, t_k3, t_g3, t_p3, t_z3, t_k187, t_g187, t_p187, t_z187, t_k210, t_g210, t_p210, t_z210, t_k212, t_g212, t_p212, t_z212, t_k214, t_g214, t_p214, t_z214, t_r0_0, t_r0_1, t_r0_2, t_r0_4, t_r0_5, t_r0_6, t_r0_7, t_r1_0, t_r3_0, t_r187_0, t_r187_1, t_r187_2, t_r187_3, t_r210_0, t_r212_0, t_r214_1, t_r214_5, t_r214_6, t_r214_8, t_r214_10, t_a2, t_s2, t_a209, t_s209, t_a211, t_s211, t_a213, t_s213, t_a215, t_s215, t_a216, t_s216, t_a217, t_s217, t_a218, t_s218, t_a219, t_s219, t_a4, t_s4, zSt_sI, zSt_sF, zSt_zI, zSt_sJ, zSt_sD, zBo_0, zBo_1, h, h1, h2, hv, h3, bd2_some, bdx_inl, bdx_inr, bdc_inl, bdc_inr, obd_some, ↓reduceIte, mI_sR, hz, nI_add]
    · rw [zSt_sI]; exact zSt_sR h
    · rfl
    · intro i hi
      show mR (sR S (z + 4) at' (some (z + 5 + 7 * sp))) (z + 4) i = _
      rw [mR_sR]
      by_cases e : i = at'
      · rw [if_pos ⟨rfl, e⟩, if_pos e]
      · rw [if_neg (by omega), if_neg e, if_neg (by omega), (hp i hi).2]
  | succ m ih =>
    intro fu j S p sz h hp hz hj hjN hf
    obtain ⟨fu, rfl⟩ : ∃ f, fu = f + 1 := ⟨fu - 1, by omega⟩
    have h1 : ¬ nI j ≤ nI at' := nI_ge (by omega) (by omega)
    have hj1 : 1 ≤ j := by omega
    obtain ⟨j', rfl⟩ : ∃ q, j = q + 1 := ⟨j - 1, by omega⟩
    have h2 : j' < 24 := by omega
    have e1 : nI (j' + 1) - nI 1 = nI j' := nI_sub1 hj1
    have e2 : nI (j' + 1) + m1 = nI j' := nI_m1 j'
    have hv : zVar S (z + 5 + 7 * p j') := t_vi h (by have := (hp j' h2).1; omega)
    have e3 := (hp j' h2).2
    obtain ⟨S', q1, q2, q3, q4, q5, q6, q7⟩ := ih fu j' (sR S (z + 4) (j' + 1) (some (z + 5 + 7 * p j'))) (va_up p (j' + 1) (p j')) sz (zSt_sR h) (by
      intro i hi
      rw [mR_sR]
      by_cases e : i = j' + 1
      · subst e
        rw [if_pos ⟨rfl, rfl⟩]
        simp only [va_up, if_true]
        exact ⟨(hp j' h2).1, trivial⟩
      · rw [if_neg (by omega)]
        simp only [va_up, e, if_false]
        exact hp i hi) hz (by omega) (by omega) (by omega)
    refine ⟨S', ?_, q2, q3, q4, q5, q6, ?_⟩
    · simp only [F_X2_open_L15, l_0, l_1, l_2, l_3, l_4, l_5, l_6, l_7, l_8, l_9, l_10, l_11, l_12, l_13, l_14, l_15, l_16, l_17, l_18, l_19, l_20, l_21, l_24, l_25, l_26, l_27, l_31, l_33, l_41, l_65, l_67, l_71, l_84, l_120, l_127, l_128, l_130, l_160, l_162, l_200, l_255, l_256, l_999, l_1000, l_8000, l_9999, l_10000, l_8001, l_m1, t_k0, t_g0, t_p0, t_z0, t_k1, t_g1, t_p1, t_z1, t_k3, t_g3, t_p3, t_z3, t_k187, t_g187, t_p187, t_z187, t_k210, t_g210, t_p210, t_z210, t_k212, t_g212, t_p212, t_z212, t_k214, t_g214, t_p214, t_z214, t_r0_0, t_r0_1, t_r0_2, t_r0_4, t_r0_5, t_r0_6, t_r0_7, t_r1_0, t_r3_0, t_r187_0, t_r187_1, t_r187_2, t_r187_3, t_r210_0, t_r212_0, t_r214_1, t_r214_5, t_r214_6, t_r214_8, t_r214_10, t_a2, t_s2, t_a209, t_s209, t_a211, t_s211, t_a213, t_s213, t_a215, t_s215, t_a216, t_s216, t_a217, t_s217, t_a218, t_s218, t_a219, t_s219, t_a4, t_s4, zSt_sI, zSt_sF, zSt_zI, zSt_sJ, zSt_sD, zBo_0, zBo_1, h, h1, h2, hjN, hv, e1, e2, e3, bd2_some, bdx_inl, bdx_inr, bdc_inl, bdc_inr, obd_some, ↓reduceIte]
      exact q1
    · intro i hi
      rw [q7 i hi]
      congr 3
      by_cases c1 : i = at'
      · simp [c1]
      · by_cases c2 : i = j' + 1
        · subst c2
          have c3 : at' < j' + 1 := by omega
          have c4 : ¬ j' + 1 = at' := by omega
          have c5 : ¬ j' + 1 ≤ j' := by omega
          simp [c3, c4, va_up]
        · by_cases c3 : at' < i ∧ i ≤ j'
          · have c4 : i ≤ j' + 1 := by omega
            have c5 : ¬ i - 1 = j' + 1 := by omega
            simp [c1, c3.1, c3.2, c4, va_up, c5]
          · have c4 : ¬ (at' < i ∧ i ≤ j' + 1) := by omega
            simp only [c1, c3, c4, if_false, va_up, c2]
/-- a row is made free at an index -/
theorem c_open {at' sz : Nat} {p : Nat → Nat} (h : zSt z S) (hp : zPm z S p) (hz : mI S (z + 3) 1 = nI sz) (h1 : at' ≤ sz) (h2 : sz < 24) :
    ∃ S' p', F_X2_open (z + 3) (nI at') S = some (z + 5 + 7 * p sz, S') ∧ zSt z S' ∧ mI S' = up2 (mI S) (z + 3) 1 (nI (sz + 1)) ∧ mJ S' = mJ S ∧ mD S' = mD S ∧ mX S' = mX S ∧ zPm z S' p' ∧ (∀ i, i < 24 → p' i = if i = at' then p sz else if at' < i ∧ i ≤ sz then p (i - 1) else p i) := by
  obtain ⟨S', q1, q2, q3, q4, q5, q6, q7⟩ := c_open_L (at' := at') (sp := p sz) (hp.1 sz h2).1 (sz - at') FU sz S p sz h hp.1 hz (by omega) h2 (by show sz - at' < 4000; omega)
  refine ⟨S', fun i => if i = at' then p sz else if at' < i ∧ i ≤ sz then p (i - 1) else p i, ?_, q2, q3, q4, q5, q6, ⟨fun i hi => ⟨?_, q7 i hi⟩, ?_⟩, fun i hi => rfl⟩
  · have e3 := (hp.1 sz h2).2
    simp only [F_X2_open, l_0, l_1, l_2, l_3, l_4, l_5, l_6, l_7, l_8, l_9, l_10, l_11, l_12, l_13, l_14, l_15, l_16, l_17, l_18, l_19, l_20, l_21, l_24, l_25, l_26, l_27, l_31, l_33, l_41, l_65, l_67, l_71, l_84, l_120, l_127, l_128, l_130, l_160, l_162, l_200, l_255, l_256, l_999, l_1000, l_8000, l_9999, l_10000, l_8001, l_m1, t_k0, t_g0, t_p0, t_z0, t_k1, t_g1, t_p1, t_z1, t_k3, t_g3, t_p3, t_z3, t_k187, t_g187, t_p187, t_z187, t_k210, t_g210, t_p210, t_z210, t_k212, t_g212, t_p212, t_z212, t_k214, t_g214, t_p214, t_z214, t_r0_0, t_r0_1, t_r0_2, t_r0_4, t_r0_5, t_r0_6, t_r0_7, t_r1_0, t_r3_0, t_r187_0, t_r187_1, t_r187_2, t_r187_3, t_r210_0, t_r212_0, t_r214_1, t_r214_5, t_r214_6, t_r214_8, t_r214_10, t_a2, t_s2, t_a209, t_s209, t_a211, t_s211, t_a213, t_s213, t_a215, t_s215, t_a216, t_s216, t_a217, t_s217, t_a218, t_s218, t_a219, t_s219, t_a4, t_s4, zSt_sI, zSt_sF, zSt_zI, zSt_sJ, zSt_sD, zBo_0, zBo_1, h, h2, hz, e3, bd2_some, bdx_inl, bdx_inr, bdc_inl, bdc_inr, obd_some]
    exact q1
  · show (if i = at' then p sz else if at' < i ∧ i ≤ sz then p (i - 1) else p i) < 24
    split
    · exact (hp.1 sz h2).1
    · split
      · exact (hp.1 (i - 1) (by omega)).1
      · exact (hp.1 i hi).1
  · intro i j hi hj
    show (if i = at' then p sz else if at' < i ∧ i ≤ sz then p (i - 1) else p i) = (if j = at' then p sz else if at' < j ∧ j ≤ sz then p (j - 1) else p j) → i = j
    have key : ∀ q, (if q = at' then p sz else if at' < q ∧ q ≤ sz then p (q - 1) else p q) = p (if q = at' then sz else if at' < q ∧ q ≤ sz then q - 1 else q) := by
      intro q
      split
      · rfl
      · split <;> rfl
    have lt : ∀ q, q < 24 → (if q = at' then sz else if at' < q ∧ q ≤ sz then q - 1 else q) < 24 := by
      intro q hq
      split
      · omega
      · split <;> omega
    rw [key, key]
    intro e
    have := hp.2 _ _ (lt i hi) (lt j hj) e
    by_cases c1 : i = at' <;> by_cases c2 : j = at' <;> by_cases c3 : at' < i ∧ i ≤ sz <;> by_cases c4 : at' < j ∧ j ≤ sz <;> simp only [c1, c2, c3, c4, if_true, if_false, and_self] at this <;> omega
theorem c_close_L {z at' sp sz : Nat} (hsp : sp < 24) : ∀ (m fu j : Nat) (S : Mem) (p : Nat → Nat), zSt z S → (∀ i, i < 24 → p i < 24 ∧ mR S (z + 4) i = some (z + 5 + 7 * p i)) → mI S (z + 3) 1 = nI sz → j + m + 1 = sz → sz ≤ 24 → at' ≤ j → m < fu →
    ∃ S', F_X2_close_L9 fu (z + 3) (z + 5 + 7 * sp) (nI j) S = some S' ∧ zSt z S' ∧ mI S' = up2 (mI S) (z + 3) 1 (nI (sz - 1)) ∧ mJ S' = mJ S ∧ mD S' = mD S ∧ mX S' = mX S ∧ ∀ i, i < 24 → mR S' (z + 4) i = some (z + 5 + 7 * (if i + 1 = sz then sp else if j ≤ i ∧ i + 1 < sz then p (i + 1) else p i)) := by
  intro m
  induction m with
  | zero =>
    intro fu j S p h hp hz hj hjN ha hf
    obtain ⟨fu, rfl⟩ : ∃ f, fu = f + 1 := ⟨fu - 1, by omega⟩
    obtain ⟨sz', rfl⟩ : ∃ q, sz = q + 1 := ⟨sz - 1, by omega⟩
    have e1 : nI (sz' + 1) - nI 1 = nI sz' := nI_sub1 (by omega)
    have h1 : nI sz' ≤ nI j := nI_le (by omega) (by omega)
    have h2 : sz' < 24 := by omega
    have hv : zVar S (z + 5 + 7 * sp) := t_vi h (by omega)
    refine ⟨sR (sI S (z + 3) 1 (nI sz')) (z + 4) sz' (some (z + 5 + 7 * sp)), ?_, ?_, ?_, rfl, rfl, rfl, ?_⟩
    · have hv' : zVar (sI S (z + 3) 1 (nI sz')) (z + 5 + 7 * sp) := hv
      simp only [F_X2_close_L9, l_0, l_1, l_2, l_3, l_4, l_5, l_6, l_7, l_8, l_9, l_10, l_11, l_12, l_13, l_14, l_15, l_16, l_17, l_18, l_19, l_20, l_21, l_24, l_25, l_26, l_27, l_31, l_33, l_41, l_65, l_67, l_71, l_84, l_120, l_127, l_128, l_130, l_160, l_162, l_200, l_255, l_256, l_999, l_1000, l_8000, l_9999, l_10000, l_8001, l_m1, t_k0, t_g0, t_p0, t_z0, t_k1, t_g1, t_p1, t_z1, t_k3, t_g3, t_p3, t_z3, t_k187, t_g187, t_p187, t_z187, t_k210, t_g210, t_p210, t_z210, t_k212, t_g212, t_p212, t_z212, t_k214, t_g214, t_p214, t_z214, t_r0_0, t_r0_1, t_r0_2, t_r0_4, t_r0_5, t_r0_6, t_r0_7, t_r1_0, t_r3_0, t_r187_0, t_r187_1, t_r187_2, t_r187_3, t_r210_0, t_r212_0, t_r214_1, t_r214_5, t_r214_6, t_r214_8, t_r214_10, t_a2, t_s2, t_a209, t_s209, t_a211, t_s211, t_a213, t_s213, t_a215, t_s215, t_a216, t_s216, t_a217, t_s217, t_a218, t_s218, t_a219, t_s219, t_a4, t_s4, zSt_sI, zSt_sF, zSt_zI, zSt_sJ, zSt_sD, zBo_0, zBo_1, h, h1, h2, hv', bd2_some, bdx_inl, bdx_inr, bdc_inl, bdc_inr, obd_some, ↓reduceIte, hz, e1, mI_sI, and_self]
    · exact zSt_sR h
    · rfl
    · intro i hi
      show mR (sR (sI S (z + 3) 1 (nI sz')) (z + 4) sz' (some (z + 5 + 7 * sp))) (z + 4) i = _
      rw [mR_sR]
      by_cases e : i = sz'
      · rw [if_pos ⟨rfl, e⟩, if_pos (by omega)]
      · rw [if_neg (by omega), if_neg (by omega), if_neg (by omega)]
        exact (hp i hi).2
  | succ m ih =>
    intro fu j S p h hp hz hj hjN ha hf
    obtain ⟨fu, rfl⟩ : ∃ f, fu = f + 1 := ⟨fu - 1, by omega⟩
    have e1 : nI sz - nI 1 = nI (sz - 1) := nI_sub1 (by omega)
    have h1 : ¬ nI (sz - 1) ≤ nI j := nI_ge (by omega) (by omega)
    have h2 : j < 24 := by omega
    have h3 : j + 1 < 24 := by omega
    have hv : zVar S (z + 5 + 7 * p (j + 1)) := t_vi h (by have := (hp (j + 1) h3).1; omega)
    have e3 := (hp (j + 1) h3).2
    obtain ⟨S', q1, q2, q3, q4, q5, q6, q7⟩ := ih fu (j + 1) (sR S (z + 4) j (some (z + 5 + 7 * p (j + 1)))) (va_up p j (p (j + 1))) (zSt_sR h) (by
      intro i hi
      rw [mR_sR]
      by_cases e : i = j
      · subst e
        rw [if_pos ⟨rfl, rfl⟩]
        simp only [va_up, if_true]
        exact ⟨(hp (i + 1) h3).1, trivial⟩
      · rw [if_neg (by omega)]
        simp only [va_up, e, if_false]
        exact hp i hi) hz (by omega) (by omega) (by omega) (by omega)
    refine ⟨S', ?_, q2, q3, q4, q5, q6, ?_⟩
    · simp only [F_X2_close_L9, l_0, l_1, l_2, l_3, l_4, l_5, l_6, l_7, l_8, l_9, l_10, l_11, l_12, l_13, l_14, l_15, l_16, l_17, l_18, l_19, l_20, l_21, l_24, l_25, l_26, l_27, l_31, l_33, l_41, l_65, l_67, l_71, l_84, l_120, l_127, l_128, l_130, l_160, l_162, l_200, l_255, l_256, l_999, l_1000, l_8000, l_9999, l_10000, l_8001, l_m1, t_k0, t_g0, t_p0, t_z0, t_k1, t_g1, t_p1, t_z1, t_k3, t_g3, t_p3, t_z3, t_k187, t_g187, t_p187, t_z187, t_k210, t_g210, t_p210, t_z210, t_k212, t_g212, t_p212, t_z212, t_k214, t_g214, t_p214, t_z214, t_r0_0, t_r0_1, t_r0_2, t_r0_4, t_r0_5, t_r0_6, t_r0_7, t_r1_0, t_r3_0, t_r187_0, t_r187_1, t_r187_2, t_r187_3, t_r210_0, t_r212_0, t_r214_1, t_r214_5, t_r214_6, t_r214_8, t_r214_10, t_a2, t_s2, t_a209, t_s209, t_a211, t_s211, t_a213, t_s213, t_a215, t_s215, t_a216, t_s216, t_a217, t_s217, t_a218, t_s218, t_a219, t_s219, t_a4, t_s4, zSt_sI, zSt_sF, zSt_zI, zSt_sJ, zSt_sD, zBo_0, zBo_1, h, h1, h2, h3, hz, hv, e1, e3, bd2_some, bdx_inl, bdx_inr, bdc_inl, bdc_inr, obd_some, ↓reduceIte, nI_add]
      exact q1
    · intro i hi
      rw [q7 i hi]
      congr 3
      by_cases c1 : i + 1 = sz
      · rw [if_pos c1, if_pos c1]
      · rw [if_neg c1, if_neg c1]
        by_cases c2 : i = j
        · subst c2
          rw [if_neg (by omega), if_pos (by omega)]
          simp [va_up]
        · by_cases c3 : j + 1 ≤ i ∧ i + 1 < sz
          · rw [if_pos c3, if_pos (by omega)]
            simp only [va_up]
            rw [if_neg (by omega)]
          · rw [if_neg c3, if_neg (by omega)]
            simp only [va_up]
            rw [if_neg c2]
theorem c_close {at' sz : Nat} {p : Nat → Nat} (h : zSt z S) (hp : zPm z S p) (hz : mI S (z + 3) 1 = nI sz) (h1 : at' < sz) (h2 : sz ≤ 24) :
    ∃ S' p', F_X2_close (z + 3) (nI at') S = some S' ∧ zSt z S' ∧ mI S' = up2 (mI S) (z + 3) 1 (nI (sz - 1)) ∧ mJ S' = mJ S ∧ mD S' = mD S ∧ mX S' = mX S ∧ zPm z S' p' ∧ (∀ i, i < 24 → p' i = if i + 1 = sz then p at' else if at' ≤ i ∧ i + 1 < sz then p (i + 1) else p i) := by
  obtain ⟨S', q1, q2, q3, q4, q5, q6, q7⟩ := c_close_L (at' := at') (sp := p at') (sz := sz) (hp.1 at' (by omega)).1 (sz - at' - 1) FU at' S p h hp.1 hz (by omega) h2 (by omega) (by show sz - at' - 1 < 4000; omega)
  refine ⟨S', fun i => if i + 1 = sz then p at' else if at' ≤ i ∧ i + 1 < sz then p (i + 1) else p i, ?_, q2, q3, q4, q5, q6, ⟨fun i hi => ⟨?_, q7 i hi⟩, ?_⟩, fun i hi => rfl⟩
  · have h3 : at' < 24 := by omega
    have e3 := (hp.1 at' h3).2
    simp only [F_X2_close, l_0, l_1, l_2, l_3, l_4, l_5, l_6, l_7, l_8, l_9, l_10, l_11, l_12, l_13, l_14, l_15, l_16, l_17, l_18, l_19, l_20, l_21, l_24, l_25, l_26, l_27, l_31, l_33, l_41, l_65, l_67, l_71, l_84, l_120, l_127, l_128, l_130, l_160, l_162, l_200, l_255, l_256, l_999, l_1000, l_8000, l_9999, l_10000, l_8001, l_m1, t_k0, t_g0, t_p0, t_z0, t_k1, t_g1, t_p1, t_z1, t_k3, t_g3, t_p3, t_z3, t_k187, t_g187, t_p187, t_z187, t_k210, t_g210, t_p210, t_z210, t_k212, t_g212, t_p212, t_z212, t_k214, t_g214, t_p214, t_z214, t_r0_0, t_r0_1, t_r0_2, t_r0_4, t_r0_5, t_r0_6, t_r0_7, t_r1_0, t_r3_0, t_r187_0, t_r187_1, t_r187_2, t_r187_3, t_r210_0, t_r212_0, t_r214_1, t_r214_5, t_r214_6, t_r214_8, t_r214_10, t_a2, t_s2, t_a209, t_s209, t_a211, t_s211, t_a213, t_s213, t_a215, t_s215, t_a216, t_s216, t_a217, t_s217, t_a218, t_s218, t_a219, t_s219, t_a4, t_s4, zSt_sI, zSt_sF, zSt_zI, zSt_sJ, zSt_sD, zBo_0, zBo_1, h, h3, e3, bd2_some, bdx_inl, bdx_inr, bdc_inl, bdc_inr, obd_some]
    exact q1
  · show (if i + 1 = sz then p at' else if at' ≤ i ∧ i + 1 < sz then p (i + 1) else p i) < 24
    split
    · exact (hp.1 at' (by omega)).1
    · split
      · exact (hp.1 (i + 1) (by omega)).1
      · exact (hp.1 i hi).1
  · intro i j hi hj
    show (if i + 1 = sz then p at' else if at' ≤ i ∧ i + 1 < sz then p (i + 1) else p i) = (if j + 1 = sz then p at' else if at' ≤ j ∧ j + 1 < sz then p (j + 1) else p j) → i = j
    have key : ∀ q, (if q + 1 = sz then p at' else if at' ≤ q ∧ q + 1 < sz then p (q + 1) else p q) = p (if q + 1 = sz then at' else if at' ≤ q ∧ q + 1 < sz then q + 1 else q) := by
      intro q
      split
      · rfl
      · split <;> rfl
    have lt : ∀ q, q < 24 → (if q + 1 = sz then at' else if at' ≤ q ∧ q + 1 < sz then q + 1 else q) < 24 := by
      intro q hq
      split
      · omega
      · split <;> omega
    rw [key, key]
    intro e
    have := hp.2 _ _ (lt i hi) (lt j hj) e
    by_cases c1 : i + 1 = sz <;> by_cases c2 : j + 1 = sz <;> by_cases c3 : at' ≤ i ∧ i + 1 < sz <;> by_cases c4 : at' ≤ j ∧ j + 1 < sz <;> simp only [c1, c2, c3, c4, if_true, if_false, and_self] at this <;> omega
/-- all but the list and its Variants is as it was -/
def zLF (z : Nat) (S S' : Mem) : Prop := zSt z S' ∧ (∀ a, a < z + 3 ∨ z + 173 ≤ a → mI S' a = mI S a) ∧ mJ S' = mJ S ∧ mD S' = mD S ∧ mX S' = mX S
theorem c_erase {at' : Nat} {p : Nat → Nat} {ls : List Rc} (h : zSt z S) (hp : zLv z S p ls) (h1 : at' < ls.length) (h2 : ls.length ≤ 24) :
    ∃ S' p', F_X2_close (z + 3) (nI at') S = some S' ∧ zLF z S S' ∧ (∀ a, a ≠ z + 3 → mI S' a = mI S a) ∧ zLv z S' p' (ls.eraseIdx at') ∧ ∀ i, i < at' → p' i = p i := by
  obtain ⟨S', p', q1, q2, q3, q4, q5, q6, q7, q8⟩ := c_close h hp.1 hp.2.1 h1 h2
  have hrow : ∀ a, a ≠ z + 3 → mI S' a = mI S a := fun a ha => by rw [q3]; exact up2_row _ _ ha
  refine ⟨S', p', q1, ⟨q2, fun a ha => hrow a (by omega), q4, q5, q6⟩, hrow, ⟨q7, ?_, ?_⟩, ?_⟩
  · rw [q3, up2_self, List.length_eraseIdx_of_lt h1]
  · intro i r hi
    have hlen : i < (ls.eraseIdx at').length := (List.getElem?_eq_some_iff.mp hi).1
    rw [List.length_eraseIdx_of_lt h1] at hlen
    rw [List.getElem?_eraseIdx] at hi
    rw [q8 i (by omega), if_neg (by omega)]
    by_cases c : i < at'
    · rw [if_pos c] at hi
      rw [if_neg (by omega)]
      exact zCR_of (fun t ht => hrow _ (by omega)) (hp.2.2 i r hi)
    · rw [if_neg c] at hi
      rw [if_pos (by omega)]
      exact zCR_of (fun t ht => hrow _ (by omega)) (hp.2.2 (i + 1) r hi)
  · intro i hi
    rw [q8 i (by omega), if_neg (by omega), if_neg (by omega)]
/-- a row is made free: what then comes into it -/
theorem c_room {at' : Nat} {p : Nat → Nat} {ls : List Rc} (h : zSt z S) (hp : zLv z S p ls) (h1 : at' ≤ ls.length) (h2 : ls.length < 24) :
    ∃ S' v p', F_X2_open (z + 3) (nI at') S = some (v, S') ∧ zLF z S S' ∧ (∀ a, a ≠ z + 3 → mI S' a = mI S a) ∧ zVar S' v ∧ z + 5 ≤ v ∧ v + 7 ≤ z + 173 ∧
      ∀ S'' r, zFr v (v + 7) S' S'' → zCR S'' v r → zLv z S'' p' (ls.insertIdx at' r) := by
  obtain ⟨S', p', q1, q2, q3, q4, q5, q6, q7, q8⟩ := c_open h hp.1 hp.2.1 h1 h2
  have hrow : ∀ a, a ≠ z + 3 → mI S' a = mI S a := fun a ha => by rw [q3]; exact up2_row _ _ ha
  have hb := (hp.1.1 ls.length h2).1
  refine ⟨S', z + 5 + 7 * p ls.length, p', q1, ⟨q2, fun a ha => hrow a (by omega), q4, q5, q6⟩, hrow, t_vi q2 (by omega), by omega, by omega, ?_⟩
  intro S'' r hF hr
  have hR := zFr_R hF
  refine ⟨⟨fun i hi => ?_, q7.2⟩, ?_, ?_⟩
  · rw [hR]; exact q7.1 i hi
  · rw [hF.2 (z + 3) (by omega), q3, up2_self, List.length_insertIdx_of_le_length h1]
  · intro i t hi
    have hlen : i < (ls.insertIdx at' r).length := (List.getElem?_eq_some_iff.mp hi).1
    rw [List.length_insertIdx_of_le_length h1] at hlen
    rw [List.getElem?_insertIdx] at hi
    rw [q8 i (by omega)]
    by_cases c1 : i < at'
    · rw [if_pos c1] at hi
      rw [if_neg (by omega), if_neg (by omega)]
      have ne : p i ≠ p ls.length := fun e => by have := hp.1.2 _ _ (by omega) h2 e; omega
      exact zCR_Fr hF (by omega) (zCR_of (fun t ht => hrow _ (by omega)) (hp.2.2 i t hi))
    · rw [if_neg c1] at hi
      by_cases c2 : i = at'
      · rw [if_pos c2] at hi
        rw [if_pos (by omega)] at hi
        cases hi
        rw [if_pos c2]
        exact hr
      · rw [if_neg c2] at hi
        rw [if_neg c2, if_pos (by omega)]
        have ne : p (i - 1) ≠ p ls.length := fun e => by have := hp.1.2 _ _ (by omega) h2 e; omega
        exact zCR_Fr hF (by omega) (zCR_of (fun t ht => hrow _ (by omega)) (hp.2.2 (i - 1) t hi))
theorem c_insJ {w at' : Nat} {p : Nat → Nat} {ls : List Rc} (h : zSt z S) (hp : zLv z S p ls) (h1 : at' ≤ ls.length) (h2 : ls.length < 24) (hw' : ∀ T, zSt z T → zVar T w) (hw2 : z + 173 ≤ w) (hr : zCR S w r) (hn : aN r ≤ 4) (hH : ∀ i, i < 2 → aH r i ≤ 1) :
    ∃ S' p', F_X2_insert_J32 (z + 3) w (nI at') S = some (nI at', S') ∧ zLF z S S' ∧ zLv z S' p' (ls.insertIdx at' r) := by
  obtain ⟨S1, v, p', q1, q2, q3, q4, q5, q6, q7⟩ := c_room h hp h1 h2
  have hw : zVar S w := hw' S h
  have hw1 : zVar S1 w := hw' S1 q2.1
  obtain ⟨S2, e1, e2, e3⟩ := c_copy q4 hw1 (by omega) (zCR_of (fun t ht => q3 _ (by omega)) hr) hn hH
  refine ⟨S2, p', ?_, ?_, q7 S2 r e2 e3⟩
  · simp only [F_X2_insert_J32, t_k0, t_g0, t_p0, t_z0, t_k1, t_g1, t_p1, t_z1, t_k3, t_g3, t_p3, t_z3, t_k187, t_g187, t_p187, t_z187, t_k210, t_g210, t_p210, t_z210, t_k212, t_g212, t_p212, t_z212, t_k214, t_g214, t_p214, t_z214, t_r0_0, t_r0_1, t_r0_2, t_r0_4, t_r0_5, t_r0_6, t_r0_7, t_r1_0, t_r3_0, t_r187_0, t_r187_1, t_r187_2, t_r187_3, t_r210_0, t_r212_0, t_r214_1, t_r214_5, t_r214_6, t_r214_8, t_r214_10, t_a2, t_s2, t_a209, t_s209, t_a211, t_s211, t_a213, t_s213, t_a215, t_s215, t_a216, t_s216, t_a217, t_s217, t_a218, t_s218, t_a219, t_s219, t_a4, t_s4, zSt_sI, zSt_sF, zSt_zI, zSt_sJ, zSt_sD, zBo_0, zBo_1, h, q1, bd2_some, bdx_inl, bdx_inr, bdc_inl, bdc_inr, obd_some, v_pk q4, e1]
  · obtain ⟨a1, a2, a3, a4, a5⟩ := q2
    exact ⟨zSt_Fr e2 a1, fun a ha => (e2.2 a (by omega)).trans (a2 a ha), (zFr_J e2).trans a3, (zFr_D e2).trans a4, (zFr_X e2).trans a5⟩
theorem c_ins_L {w : Nat} {p : Nat → Nat} {ls : List Rc} (h : zSt z S) (hp : zLv z S p ls) (h2 : ls.length < 24) (hw : zVar S w) (hP : aP r < 2147483648) (hr : mI S w 0 = nI (aP r)) (hB : ∀ t, t ∈ ls → aP t < 2147483648) :
    ∀ (m fu j : Nat), j + m = ls.length → m < fu → F_X2_insert_L2 fu (z + 3) w (nI j) S = F_X2_insert_J32 (z + 3) w (nI (j + ipos (ls.drop j) (aP r))) S := by
  intro m
  induction m with
  | zero =>
    intro fu j hj hf
    obtain ⟨fu, rfl⟩ : ∃ f, fu = f + 1 := ⟨fu - 1, by omega⟩
    have h1 : nI ls.length ≤ nI j := nI_le (by omega) (by omega)
    rw [List.drop_eq_nil_of_le (by omega)]
    simp only [F_X2_insert_L2, l_0, l_1, l_2, l_3, l_4, l_5, l_6, l_7, l_8, l_9, l_10, l_11, l_12, l_13, l_14, l_15, l_16, l_17, l_18, l_19, l_20, l_21, l_24, l_25, l_26, l_27, l_31, l_33, l_41, l_65, l_67, l_71, l_84, l_120, l_127, l_128, l_130, l_160, l_162, l_200, l_255, l_256, l_999, l_1000, l_8000, l_9999, l_10000, l_8001, l_m1, t_k0, t_g0, t_p0, t_z0, t_k1, t_g1, t_p1, t_z1, t_k3, t_g3, t_p3, t_z3, t_k187, t_g187, t_p187, t_z187, t_k210, t_g210, t_p210, t_z210, t_k212, t_g212, t_p212, t_z212, t_k214, t_g214, t_p214, t_z214, t_r0_0, t_r0_1, t_r0_2, t_r0_4, t_r0_5, t_r0_6, t_r0_7, t_r1_0, t_r3_0, t_r187_0, t_r187_1, t_r187_2, t_r187_3, t_r210_0, t_r212_0, t_r214_1, t_r214_5, t_r214_6, t_r214_8, t_r214_10, t_a2, t_s2, t_a209, t_s209, t_a211, t_s211, t_a213, t_s213, t_a215, t_s215, t_a216, t_s216, t_a217, t_s217, t_a218, t_s218, t_a219, t_s219, t_a4, t_s4, zSt_sI, zSt_sF, zSt_zI, zSt_sJ, zSt_sD, zBo_0, zBo_1, h, hp.2.1, h1, bd2_some, bdx_inl, bdx_inr, bdc_inl, bdc_inr, obd_some, ↓reduceIte, ipos, Nat.add_zero]
  | succ m ih =>
    intro fu j hj hf
    obtain ⟨fu, rfl⟩ : ∃ f, fu = f + 1 := ⟨fu - 1, by omega⟩
    have h1 : ¬ nI ls.length ≤ nI j := nI_ge (by omega) (by omega)
    have h3 : j < 24 := by omega
    have h4 : j < ls.length := by omega
    obtain ⟨p1, p2⟩ := hp.1.1 j h3
    have hv : zVar S (z + 5 + 7 * p j) := t_vi h (by omega)
    have hc := hp.2.2 j ls[j] (List.getElem?_eq_getElem h4)
    have hb := hB _ (List.getElem_mem h4)
    rw [List.drop_eq_getElem_cons h4]
    simp only [F_X2_insert_L2, l_0, l_1, l_2, l_3, l_4, l_5, l_6, l_7, l_8, l_9, l_10, l_11, l_12, l_13, l_14, l_15, l_16, l_17, l_18, l_19, l_20, l_21, l_24, l_25, l_26, l_27, l_31, l_33, l_41, l_65, l_67, l_71, l_84, l_120, l_127, l_128, l_130, l_160, l_162, l_200, l_255, l_256, l_999, l_1000, l_8000, l_9999, l_10000, l_8001, l_m1, t_k0, t_g0, t_p0, t_z0, t_k1, t_g1, t_p1, t_z1, t_k3, t_g3, t_p3, t_z3, t_k187, t_g187, t_p187, t_z187, t_k210, t_g210, t_p210, t_z210, t_k212, t_g212, t_p212, t_z212, t_k214, t_g214, t_p214, t_z214, t_r0_0, t_r0_1, t_r0_2, t_r0_4, t_r0_5, t_r0_6, t_r0_7, t_r1_0, t_r3_0, t_r187_0, t_r187_1, t_r187_2, t_r187_3, t_r210_0, t_r212_0, t_r214_1, t_r214_5, t_r214_6, t_r214_8, t_r214_10, t_a2, t_s2, t_a209, t_s209, t_a211, t_s211, t_a213, t_s213, t_a215, t_s215, t_a216, t_s216, t_a217, t_s217, t_a218, t_s218, t_a219, t_s219, t_a4, t_s4, zSt_sI, zSt_sF, zSt_zI, zSt_sJ, zSt_sD, zBo_0, zBo_1, h, hp.2.1, h1, h3, p2, bd2_some, bdx_inl, bdx_inr, bdc_inl, bdc_inr, obd_some, ↓reduceIte, v_gI hv, v_gI hw, hr, hc.1.1, i_lt hP hb, ipos]
    by_cases c : aP r < aP ls[j]
    · have c' : ¬ aP ls[j] ≤ aP r := by omega
      simp only [c, c', ↓reduceIte, Nat.add_zero]
    · have c' : aP ls[j] ≤ aP r := by omega
      simp only [c, c', ↓reduceIte, nI_add]
      rw [ih fu (j + 1) (by omega) (by omega)]
      congr 2
      omega
theorem ipos_le (ls : List Rc) (q : Nat) : ipos ls q ≤ ls.length := by
  induction ls with
  | nil => exact Nat.le_refl _
  | cons x xs ih =>
    unfold ipos
    split
    · simp only [List.length_cons]; omega
    · omega
theorem c_insert {w : Nat} {p : Nat → Nat} {ls : List Rc} (h : zSt z S) (hp : zLv z S p ls) (h2 : ls.length < 24) (hw' : ∀ T, zSt z T → zVar T w) (hw2 : z + 173 ≤ w) (hr : zCR S w r) (hn : aN r ≤ 4) (hH : ∀ i, i < 2 → aH r i ≤ 1) (hP : aP r < 2147483648) (hB : ∀ t, t ∈ ls → aP t < 2147483648) :
    ∃ S' p', F_X2_insert (z + 3) w S = some (nI (ipos ls (aP r)), S') ∧ zLF z S S' ∧ zLv z S' p' (insR ls r) := by
  obtain ⟨S', p', q1, q2, q3⟩ := c_insJ (at' := ipos ls (aP r)) h hp (ipos_le ls _) h2 hw' hw2 hr hn hH
  refine ⟨S', p', ?_, q2, q3⟩
  have := c_ins_L (r := r) h hp h2 (hw' S h) hP hr.1.1 hB ls.length FU 0 (by omega) (by show ls.length < 4000; omega)
  rw [Nat.zero_add] at this
  exact this.trans q1
/-! the reference's row -/
theorem c_covers {x y : Int32} (h : zSt z S) : F_X3_covers (z + 1) x y S = some (if x < nI 1 ∨ mI S (z + 1) 1 - y + nI 1 < x then nI 0 else nI 1, S) := by
  simp only [F_X3_covers, l_0, l_1, l_2, l_3, l_4, l_5, l_6, l_7, l_8, l_9, l_10, l_11, l_12, l_13, l_14, l_15, l_16, l_17, l_18, l_19, l_20, l_21, l_24, l_25, l_26, l_27, l_31, l_33, l_41, l_65, l_67, l_71, l_84, l_120, l_127, l_128, l_130, l_160, l_162, l_200, l_255, l_256, l_999, l_1000, l_8000, l_9999, l_10000, l_8001, l_m1, t_k0, t_g0, t_p0, t_z0, t_k1, t_g1, t_p1, t_z1, t_k3, t_g3, t_p3, t_z3, t_k187, t_g187, t_p187, t_z187, t_k210, t_g210, t_p210, t_z210, t_k212, t_g212, t_p212, t_z212, t_k214, t_g214, t_p214, t_z214, t_r0_0, t_r0_1, t_r0_2, t_r0_4, t_r0_5, t_r0_6, t_r0_7, t_r1_0, t_r3_0, t_r187_0, t_r187_1, t_r187_2, t_r187_3, t_r210_0, t_r212_0, t_r214_1, t_r214_5, t_r214_6, t_r214_8, t_r214_10, t_a2, t_s2, t_a209, t_s209, t_a211, t_s211, t_a213, t_s213, t_a215, t_s215, t_a216, t_s216, t_a217, t_s217, t_a218, t_s218, t_a219, t_s219, t_a4, t_s4, zSt_sI, zSt_sF, zSt_zI, zSt_sJ, zSt_sD, zBo_0, zBo_1, h, bd2_some, bdx_inl, bdx_inr, bdc_inl, bdc_inr, obd_some]
  by_cases h1 : x < nI 1 <;> by_cases h2 : mI S (z + 1) 1 - y + nI 1 < x <;> simp [h1, h2]
end CW
