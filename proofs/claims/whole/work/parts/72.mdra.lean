set_option maxRecDepth 20000
section M3
variable {S S' S1 S2 : Mem} {z n a b i j k o o' : Nat} {r : Rc} {s : As} {x y : Int32} {W W' : Nat → Int32} {ls : List Rc}
theorem md_f (hd : zMd z S (xD s) (xR s)) (c : xD s = false) : mI S (z + 214) 3 = nI 0 := by rw [hd.1, c]; rfl
theorem md_t (hd : zMd z S (xD s) (xR s)) (c : xD s = true) : mI S (z + 214) 3 = nI 1 := by rw [hd.1, c]; rfl
theorem gI_m (d : Nat) : nI d + m1 = gI d := by
  cases d with
  | zero => decide
  | succ d => exact nI_m1 d
theorem m_ref_L {b : Int64} : ∀ (m fu q : Nat) (S : Mem), zSt z S → mI S (z + 214) 2 = nI q → q + m ≤ 160 → m ≤ 16 → m < fu → ∃ S', F_X6_reference_L70 fu (z + 214) b (gI m) S = some (nI (q + m), S') ∧ zFr (z + 214) (z + 216) S S' ∧ (∀ p, p ≠ 2 → mI S' (z + 214) p = mI S (z + 214) p) ∧ mI S' (z + 214) 2 = nI (q + m) ∧ ∀ i, mI S' (z + 215) i = if q < i ∧ i ≤ q + m then nI (dg b (q + m - i)) else mI S (z + 215) i := by
  intro m
  induction m with
  | zero =>
    intro fu q S h h2 hq h16 hf
    obtain ⟨fu, rfl⟩ : ∃ f, fu = f + 1 := ⟨fu - 1, by omega⟩
    have c : gI 0 < nI 0 := by decide
    refine ⟨S, ?_, zFr_refl, fun _ _ => rfl, h2, fun i => by rw [if_neg (by omega)]⟩
    simp only [F_X6_reference_L70, l_0, l_1, l_2, l_3, l_4, l_5, l_6, l_7, l_8, l_9, l_10, l_11, l_12, l_13, l_14, l_15, l_16, l_17, l_18, l_19, l_20, l_21, l_24, l_25, l_26, l_27, l_31, l_33, l_41, l_65, l_67, l_71, l_84, l_120, l_127, l_128, l_130, l_160, l_162, l_200, l_255, l_256, l_999, l_1000, l_8000, l_9999, l_10000, l_8001, l_m1, c, t_g214 h, h2, Nat.add_zero, bd2_some, bdx_inl, bdx_inr, bdc_inl, bdc_inr, obd_some, ↓reduceIte]
  | succ m ih =>
    intro fu q S h h2 hq h16 hf
    obtain ⟨fu, rfl⟩ : ∃ f, fu = f + 1 := ⟨fu - 1, by omega⟩
    have c : ¬ nI m < nI 0 := nI_nlt (by omega) (by omega)
    obtain ⟨S1, e1⟩ : ∃ T, T = sI S (z + 214) 2 (nI (q + 1)) := ⟨_, rfl⟩
    have h1 : zSt z S1 := by rw [e1]; exact h
    have g2 : mI S1 (z + 214) 2 = nI (q + 1) := by rw [e1, mI_sI, if_pos ⟨rfl, rfl⟩]
    have p1 := t_p214 (j := 2) (x := nI (q + 1)) h
    rw [← e1] at p1
    have p2 := t_s215 (k := q + 1) (x := nI (dg b m)) h1 (by omega)
    obtain ⟨S2, e2⟩ : ∃ T, T = sI S1 (z + 215) (q + 1) (nI (dg b m)) := ⟨_, rfl⟩
    rw [← e2] at p2
    have h2' : zSt z S2 := by rw [e2]; exact h1
    obtain ⟨S3, b1, b2, b3, b4, b5⟩ := ih fu (q + 1) S2 h2' (by rw [e2, mI_sI, if_neg (by omega)]; exact g2) (by omega) (by omega) (by omega)
    have F1 : zFr (z + 214) (z + 216) S S1 := by rw [e1]; exact zFr_sI (by omega) (by omega)
    have F2 : zFr (z + 214) (z + 216) S1 S2 := by rw [e2]; exact zFr_sI (by omega) (by omega)
    rw [show q + 1 + m = q + (m + 1) by omega] at b1 b4 b5
    refine ⟨S3, ?_, zFr_trans F1 (zFr_trans F2 b2), fun p hp => ?_, b4, fun i => ?_⟩
    · have e : gI (m + 1) = nI m := rfl
      have d := m_dg (b := b) (d := m) (by omega)
      rw [e]
      simp only [F_X6_reference_L70, l_0, l_1, l_2, l_3, l_4, l_5, l_6, l_7, l_8, l_9, l_10, l_11, l_12, l_13, l_14, l_15, l_16, l_17, l_18, l_19, l_20, l_21, l_24, l_25, l_26, l_27, l_31, l_33, l_41, l_65, l_67, l_71, l_84, l_120, l_127, l_128, l_130, l_160, l_162, l_200, l_255, l_256, l_999, l_1000, l_8000, l_9999, l_10000, l_8001, l_m1, c, t_g214 h, h2, nI_add, p1, t_r214_1 h1, t_g214 h1, g2, d, p2, gI_m, bd2_some, bdx_inl, bdx_inr, bdc_inl, bdc_inr, obd_some, ↓reduceIte]
      exact b1
    · rw [b3 p hp, e2, mI_sI, if_neg (by omega), e1, mI_sI, if_neg (by omega)]
    · rw [b5 i, e2, mI_sI]
      by_cases c1 : i = q + 1
      · subst c1
        rw [if_neg (by omega), if_pos ⟨rfl, rfl⟩, if_pos (by omega), show q + (m + 1) - (q + 1) = m by omega]
      · rw [if_neg (show ¬ (z + 215 = z + 215 ∧ i = q + 1) from fun w => c1 w.2), e1, mI_sI, if_neg (show ¬ (z + 215 = z + 214 ∧ i = 2) from fun w => by omega)]
        by_cases c2 : q < i ∧ i ≤ q + (m + 1)
        · rw [if_pos c2, if_pos (by omega)]
        · rw [if_neg c2, if_neg (by omega)]
theorem M_reference {b : Int64} {n : Int32} (hs : xOk s) (h : zMo z s S) : ∃ S', F_X6_reference (z + 214) b n S = some ((o_reference s b n).2.1, S') ∧ zMo z (o_reference s b n).2.2 S' ∧ zFr (z + 214) (z + 220) S S' ∧ mI S' (z + 214) 0 = (o_reference s b n).1 := by
  obtain ⟨hS, hl, hf, hd, ht⟩ := id h
  by_cases c : n < nI 1 ∨ nI 16 < n
  · rw [show o_reference s b n = (nI 1, nI 0, s) from if_pos c]
    refine ⟨sI S (z + 214) 0 (nI 1), ?_, zMo_th h, zFr_th, by rw [mI_sI, if_pos ⟨rfl, rfl⟩]⟩
    rcases c with c | c
    · simp only [F_X6_reference, F_X6_reference_J11, F_X6_reference_J16, F_X6_reference_J56, F_X6_reference_J57, l_0, l_1, l_2, l_3, l_4, l_5, l_6, l_7, l_8, l_9, l_10, l_11, l_12, l_13, l_14, l_15, l_16, l_17, l_18, l_19, l_20, l_21, l_24, l_25, l_26, l_27, l_31, l_33, l_41, l_65, l_67, l_71, l_84, l_120, l_127, l_128, l_130, l_160, l_162, l_200, l_255, l_256, l_999, l_1000, l_8000, l_9999, l_10000, l_8001, l_m1, c, ne10, t_k214 hS, m_th1 hS, bd2_some, bdx_inl, bdx_inr, bdc_inl, bdc_inr, obd_some, ↓reduceIte]
    · have c0 : ¬ n < nI 1 := fun q => by
        have := Int32.lt_trans c q
        exact absurd this (by decide)
      have c' : ¬ n ≤ nI 16 := Int32.not_le.mpr c
      simp only [F_X6_reference, F_X6_reference_J11, F_X6_reference_J16, F_X6_reference_J56, F_X6_reference_J57, l_0, l_1, l_2, l_3, l_4, l_5, l_6, l_7, l_8, l_9, l_10, l_11, l_12, l_13, l_14, l_15, l_16, l_17, l_18, l_19, l_20, l_21, l_24, l_25, l_26, l_27, l_31, l_33, l_41, l_65, l_67, l_71, l_84, l_120, l_127, l_128, l_130, l_160, l_162, l_200, l_255, l_256, l_999, l_1000, l_8000, l_9999, l_10000, l_8001, l_m1, c0, c', ne10, t_k214 hS, m_th1 hS, bd2_some, bdx_inl, bdx_inr, bdc_inl, bdc_inr, obd_some, ↓reduceIte]
  have c1 : ¬ n < nI 1 := fun q => c (Or.inl q)
  have c2 : ¬ nI 16 < n := fun q => c (Or.inr q)
  obtain ⟨nn, rfl, b1, b2⟩ := in_of (by omega) c1 c2 (by omega)
  have t1 : tn (nI nn) = nn := tn_nI (by omega)
  have c2' : nI nn ≤ nI 16 := Int32.not_lt.mp c2
  have hp := hs.1
  have hl24 := hs.2.2.2.2.1
  by_cases d : xD s = true ∨ (xL s).length ≠ 0 ∨ 160 < xP s + nn
  · rw [show o_reference s b (nI nn) = (nI 2, nI 0, s) from by unfold o_reference; rw [if_neg c, t1, if_pos d]]
    refine ⟨sI S (z + 214) 0 (nI 2), ?_, zMo_th h, zFr_th, by rw [mI_sI, if_pos ⟨rfl, rfl⟩]⟩
    by_cases d3 : 160 < xP s + nn
    · have d3' : nI 160 < nI (xP s + nn) := nI_lt d3 (by omega)
      simp only [F_X6_reference, F_X6_reference_J16, F_X6_reference_J52, F_X6_reference_J57, l_0, l_1, l_2, l_3, l_4, l_5, l_6, l_7, l_8, l_9, l_10, l_11, l_12, l_13, l_14, l_15, l_16, l_17, l_18, l_19, l_20, l_21, l_24, l_25, l_26, l_27, l_31, l_33, l_41, l_65, l_67, l_71, l_84, l_120, l_127, l_128, l_130, l_160, l_162, l_200, l_255, l_256, l_999, l_1000, l_8000, l_9999, l_10000, l_8001, l_m1, c1, c2', t_g214 hS, hf.1, nI_add, d3', ne10, t_k214 hS, m_th2 hS, bd2_some, bdx_inl, bdx_inr, bdc_inl, bdc_inr, obd_some, ↓reduceIte]
    · have d3' : ¬ nI 160 < nI (xP s + nn) := nI_nlt (by omega) (by omega)
      by_cases d1 : xD s = true
      · simp only [F_X6_reference, F_X6_reference_J16, F_X6_reference_J52, F_X6_reference_J57, l_0, l_1, l_2, l_3, l_4, l_5, l_6, l_7, l_8, l_9, l_10, l_11, l_12, l_13, l_14, l_15, l_16, l_17, l_18, l_19, l_20, l_21, l_24, l_25, l_26, l_27, l_31, l_33, l_41, l_65, l_67, l_71, l_84, l_120, l_127, l_128, l_130, l_160, l_162, l_200, l_255, l_256, l_999, l_1000, l_8000, l_9999, l_10000, l_8001, l_m1, c1, c2', t_g214 hS, hf.1, nI_add, d3', md_t hd d1, ne10, t_k214 hS, m_th2 hS, bd2_some, bdx_inl, bdx_inr, bdc_inl, bdc_inr, obd_some, ↓reduceIte]
      · rw [Bool.not_eq_true] at d1
        have d2 : (xL s).length ≠ 0 := by
          rcases d with e | e | e
          · rw [d1] at e; cases e
          · exact e
          · omega
        have d2' : ¬ nI (xL s).length ≤ nI 0 := nI_ge (by omega) (by omega)
        simp only [F_X6_reference, F_X6_reference_J16, F_X6_reference_J52, F_X6_reference_J57, l_0, l_1, l_2, l_3, l_4, l_5, l_6, l_7, l_8, l_9, l_10, l_11, l_12, l_13, l_14, l_15, l_16, l_17, l_18, l_19, l_20, l_21, l_24, l_25, l_26, l_27, l_31, l_33, l_41, l_65, l_67, l_71, l_84, l_120, l_127, l_128, l_130, l_160, l_162, l_200, l_255, l_256, l_999, l_1000, l_8000, l_9999, l_10000, l_8001, l_m1, c1, c2', t_g214 hS, hf.1, nI_add, d3', md_f hd d1, hl.1, d2', ne10, t_k214 hS, m_th2 hS, bd2_some, bdx_inl, bdx_inr, bdc_inl, bdc_inr, obd_some, ↓reduceIte]
  have d1 : xD s = false := by
    cases e : xD s with
    | true => exact absurd (Or.inl e) d
    | false => rfl
  have d2 : (xL s).length = 0 := Classical.byContradiction (fun q => d (Or.inr (Or.inl q)))
  have d3 : ¬ 160 < xP s + nn := fun q => d (Or.inr (Or.inr q))
  have d3' : ¬ nI 160 < nI (xP s + nn) := nI_nlt (by omega) (by omega)
  have d2' : nI (xL s).length ≤ nI 0 := nI_le (by omega) (by omega)
  rw [show o_reference s b (nI nn) = (nI 0, nI (xP s + nn), (xP s + nn, (fun i => if xP s < i ∧ i ≤ xP s + nn then dg b (xP s + nn - i) else xF s i), s.2.2)) from by unfold o_reference; rw [if_neg c, t1, if_neg d]]
  have h1 : zSt z (sI S (z + 214) 0 (nI 0)) := hS
  obtain ⟨S1, q1, q2, q3, q4, q5⟩ := m_ref_L (b := b) nn FU (xP s) (sI S (z + 214) 0 (nI 0)) h1 (by rw [mI_sI, if_neg (by omega)]; exact hf.1) (by omega) b2 (by show nn < 4000; omega)
  have h0 := zMo_th (x := nI 0) h
  refine ⟨S1, ?_, ⟨zSt_Fr q2 h1, zMl_of (q3 4 (by omega)) (fun i k hi hk => by rw [q2.2 _ (by omega)]) (n4_of (s := s) hs) h0.2.1, ⟨q4, fun i hi => ?_⟩, zMd_of (q3 3 (by omega)) (fun k hk => by rw [q2.2 _ (by omega)]) (d4_of (s := s) hs) h0.2.2.2.1, zMt_of (q3 9 (by omega)) (q2.2 _ (by omega)) h0.2.2.2.2⟩, zFr_trans zFr_th (zFr_mono q2 (by omega) (by omega)), by rw [q3 0 (by omega), mI_sI, if_pos ⟨rfl, rfl⟩]⟩
  · simp only [F_X6_reference, F_X6_reference_J16, F_X6_reference_J56, F_X6_reference_J57, l_0, l_1, l_2, l_3, l_4, l_5, l_6, l_7, l_8, l_9, l_10, l_11, l_12, l_13, l_14, l_15, l_16, l_17, l_18, l_19, l_20, l_21, l_24, l_25, l_26, l_27, l_31, l_33, l_41, l_65, l_67, l_71, l_84, l_120, l_127, l_128, l_130, l_160, l_162, l_200, l_255, l_256, l_999, l_1000, l_8000, l_9999, l_10000, l_8001, l_m1, c1, c2', t_g214 hS, hf.1, nI_add, d3', md_f hd d1, hl.1, d2', ne10, t_k214 hS, m_th0 hS, gI_of, bd2_some, bdx_inl, bdx_inr, bdc_inl, bdc_inr, obd_some, ↓reduceIte]
    exact q1
  · have hi' : i < xP s + nn := hi
    rw [q5 (i + 1)]
    show _ = nI (if xP s < i + 1 ∧ i + 1 ≤ xP s + nn then dg b (xP s + nn - (i + 1)) else xF s (i + 1))
    by_cases e : xP s < i + 1
    · rw [if_pos ⟨e, by omega⟩, if_pos ⟨e, by omega⟩]
    · rw [if_neg (fun w => e w.1), if_neg (fun w => e w.1), mI_sI, if_neg (by omega)]
      exact hf.2 i (by omega)
theorem M_draft {p l : Int32} (hs : xOk s) (h : zMo z s S) : ∃ S', F_X6_draft (z + 214) p l S = some S' ∧ zMo z (o_draft s p l).2 S' ∧ zFr (z + 214) (z + 220) S S' ∧ mI S' (z + 214) 0 = (o_draft s p l).1 := by
  obtain ⟨hS, hl, hf, hd, ht⟩ := id h
  have hp := hs.1
  by_cases c : l < nI 1 ∨ nI 8 < l ∨ p < nI 1 ∨ nI (xP s) - l + nI 1 < p
  · rw [show o_draft s p l = (nI 1, s) from if_pos c]
    refine ⟨sI S (z + 214) 0 (nI 1), ?_, zMo_th h, zFr_th, by rw [mI_sI, if_pos ⟨rfl, rfl⟩]⟩
    by_cases c1 : l < nI 1
    · simp only [F_X6_draft, F_X6_draft_J28, F_X6_draft_J33, l_0, l_1, l_2, l_3, l_4, l_5, l_6, l_7, l_8, l_9, l_10, l_11, l_12, l_13, l_14, l_15, l_16, l_17, l_18, l_19, l_20, l_21, l_24, l_25, l_26, l_27, l_31, l_33, l_41, l_65, l_67, l_71, l_84, l_120, l_127, l_128, l_130, l_160, l_162, l_200, l_255, l_256, l_999, l_1000, l_8000, l_9999, l_10000, l_8001, l_m1, c1, ne10, t_k214 hS, m_th1 hS, bd2_some, bdx_inl, bdx_inr, bdc_inl, bdc_inr, obd_some, ↓reduceIte]
    · by_cases c2 : nI 8 < l
      · simp only [F_X6_draft, F_X6_draft_J28, F_X6_draft_J33, l_0, l_1, l_2, l_3, l_4, l_5, l_6, l_7, l_8, l_9, l_10, l_11, l_12, l_13, l_14, l_15, l_16, l_17, l_18, l_19, l_20, l_21, l_24, l_25, l_26, l_27, l_31, l_33, l_41, l_65, l_67, l_71, l_84, l_120, l_127, l_128, l_130, l_160, l_162, l_200, l_255, l_256, l_999, l_1000, l_8000, l_9999, l_10000, l_8001, l_m1, c1, c2, ne10, t_k214 hS, m_th1 hS, bd2_some, bdx_inl, bdx_inr, bdc_inl, bdc_inr, obd_some, ↓reduceIte]
      · by_cases c3 : p < nI 1
        · simp only [F_X6_draft, F_X6_draft_J28, F_X6_draft_J33, l_0, l_1, l_2, l_3, l_4, l_5, l_6, l_7, l_8, l_9, l_10, l_11, l_12, l_13, l_14, l_15, l_16, l_17, l_18, l_19, l_20, l_21, l_24, l_25, l_26, l_27, l_31, l_33, l_41, l_65, l_67, l_71, l_84, l_120, l_127, l_128, l_130, l_160, l_162, l_200, l_255, l_256, l_999, l_1000, l_8000, l_9999, l_10000, l_8001, l_m1, c1, c2, c3, ne10, t_k214 hS, m_th1 hS, bd2_some, bdx_inl, bdx_inr, bdc_inl, bdc_inr, obd_some, ↓reduceIte]
        · have c4 : ¬ p ≤ nI (xP s) - l + nI 1 := Int32.not_le.mpr (by
            rcases c with e | e | e | e
            · exact absurd e c1
            · exact absurd e c2
            · exact absurd e c3
            · exact e)
          simp only [F_X6_draft, F_X6_draft_J28, F_X6_draft_J33, l_0, l_1, l_2, l_3, l_4, l_5, l_6, l_7, l_8, l_9, l_10, l_11, l_12, l_13, l_14, l_15, l_16, l_17, l_18, l_19, l_20, l_21, l_24, l_25, l_26, l_27, l_31, l_33, l_41, l_65, l_67, l_71, l_84, l_120, l_127, l_128, l_130, l_160, l_162, l_200, l_255, l_256, l_999, l_1000, l_8000, l_9999, l_10000, l_8001, l_m1, c1, c2, c3, t_g214 hS, hf.1, c4, ne10, t_k214 hS, m_th1 hS, bd2_some, bdx_inl, bdx_inr, bdc_inl, bdc_inr, obd_some, ↓reduceIte]
  have c1 : ¬ l < nI 1 := fun q => c (Or.inl q)
  have c2 : ¬ nI 8 < l := fun q => c (Or.inr (Or.inl q))
  have c3 : ¬ p < nI 1 := fun q => c (Or.inr (Or.inr (Or.inl q)))
  have c4 : ¬ nI (xP s) - l + nI 1 < p := fun q => c (Or.inr (Or.inr (Or.inr q)))
  have c4' : p ≤ nI (xP s) - l + nI 1 := Int32.not_lt.mp c4
  obtain ⟨ln, rfl, b1, b2⟩ := in_of (by omega) c1 c2 (by omega)
  obtain ⟨e1, e2⟩ := nI_tn (x := p) (fun q => c3 (Int32.lt_trans q (by decide)))
  obtain ⟨pn, epn⟩ : ∃ k, k = tn p := ⟨_, rfl⟩
  rw [← epn] at e1 e2
  subst e1
  rw [lt_sub1 hp (by omega) (by omega)] at c4
  rw [nI_ltI (by omega) (by omega)] at c3
  rw [show o_draft s (nI pn) (nI ln) = (nI 0, wDraft s true (newDraft (xF s) pn ln)) from by unfold o_draft; rw [if_neg c, tn_nI (by omega), tn_nI (by omega)]]
  obtain ⟨S1, g1⟩ : ∃ T, T = sI (sI S (z + 214) 0 (nI 0)) (z + 214) 3 (nI 1) := ⟨_, rfl⟩
  have h1 : zSt z S1 := by rw [g1]; exact hS
  have k1 := t_z214 (j := 3) (x := nI 1) (show zSt z (sI S (z + 214) 0 (nI 0)) from hS) zBo_1
  rw [← g1] at k1
  have W1 : mI S1 (z + 216) = mI S (z + 216) := by rw [g1, mI_sI_r, if_neg (by omega), mI_sI_r, if_neg (by omega)]
  have R1 : mI S1 (z + 215) = mI S (z + 215) := by rw [g1, mI_sI_r, if_neg (by omega), mI_sI_r, if_neg (by omega)]
  have F1 : ∀ q, q ≠ 0 → q ≠ 3 → mI S1 (z + 214) q = mI S (z + 214) q := fun q h1 h2 => by rw [g1, mI_sI, if_neg (by omega), mI_sI, if_neg (by omega)]
  obtain ⟨S2, a1, a2, a3, a4⟩ := m_empty (a := 24) (x := nI pn) h1 (by omega)
  have h2 := zMw_St a2 h1
  have hf2 : zMf z S2 (xP s) (xF s) := zMf_of (by rw [a2.2.2 2 (by omega), F1 2 (by omega) (by omega)]) (by rw [a2.2.1, R1]) hf
  have q1 := m_from (q := pn) (l := ln) h2 hf2 hp (by omega) (by omega)
  obtain ⟨S3, d1, d2, d3, d4⟩ := m_addA (a := 24) (x := nI ln) (y := nI (rn (xF s) pn ln)) (n := 0) h2 (by omega) (by rw [a4 24 1 (by omega), if_pos rfl, if_neg (by omega)]; rfl) (by omega)
  have row : ∀ k, k < 41 → mI S3 (z + 216) (41 * 24 + k) = if k = 1 then nI 1 else if k = 6 then nI (rn (xF s) pn ln) else if k = 2 then nI ln else if k = 0 then nI pn else emV k := by
    intro k hk
    rw [d4 24 k hk, if_pos rfl, a4 24 k hk, if_pos rfl]
  have em : ∀ k, k < 41 → k ≠ 1 → k ≠ 6 → k ≠ 2 → k ≠ 0 → mI S3 (z + 216) (41 * 24 + k) = emV k := by
    intro k hk k1 k2 k3 k4
    rw [row k hk, if_neg k1, if_neg k2, if_neg k3, if_neg k4]
  refine ⟨S3, ?_, zMo_d hs h ?_ ?_ ?_ ?_ ⟨?_, fun _ => ⟨⟨⟨?_, ?_, ?_⟩, fun i hi => ?_, ⟨?_, ?_, ?_, ?_⟩, ⟨?_, ?_⟩, fun i hi => ⟨?_, ?_⟩⟩, fun i hi => ?_, fun i hi => ?_⟩⟩, ?_, ?_⟩
  · simp only [F_X6_draft, F_X6_draft_J33, l_0, l_1, l_2, l_3, l_4, l_5, l_6, l_7, l_8, l_9, l_10, l_11, l_12, l_13, l_14, l_15, l_16, l_17, l_18, l_19, l_20, l_21, l_24, l_25, l_26, l_27, l_31, l_33, l_41, l_65, l_67, l_71, l_84, l_120, l_127, l_128, l_130, l_160, l_162, l_200, l_255, l_256, l_999, l_1000, l_8000, l_9999, l_10000, l_8001, l_m1, c1, c2, t_g214 hS, hf.1, c4', t_k214 hS, m_th0 hS, k1, t_k214 h1, a1, t_k214 h2, q1, d1, bd2_some, bdx_inl, bdx_inr, bdc_inl, bdc_inr, obd_some, ↓reduceIte]
    have c3' : ¬ nI pn < nI 1 := nI_nlt (by omega) (by omega)
    rw [if_neg c3']
  · refine zFr_trans ?_ (zFr_trans a2.1 d2.1)
    rw [g1]
    exact zFr_trans (zFr_sI (by omega) (by omega)) (zFr_sI (by omega) (by omega))
  · rw [d2.2.1, a2.2.1, R1]
  · intro q h1 h2
    by_cases e : q = 4
    · subst e; rw [d3, a3, F1 4 h1 h2]
    · rw [d2.2.2 q e, a2.2.2 q e, F1 q h1 h2]
  · intro i k hi hk
    rw [d4 i k hk, if_neg (by omega), a4 i k hk, if_neg (by omega), W1]
  · rw [d2.2.2 3 (by omega), a2.2.2 3 (by omega), g1, mI_sI, if_pos ⟨rfl, rfl⟩]; rfl
  · exact row 0 (by omega)
  · exact em 10 (by omega) (by omega) (by omega) (by omega) (by omega)
  · exact row 1 (by omega)
  · have : i = 0 := by
      have hi' : i < 1 := hi
      omega
    subst this
    exact ⟨row 6 (by omega), row 2 (by omega), em 11 (by omega) (by omega) (by omega) (by omega) (by omega)⟩
  · exact em 15 (by omega) (by omega) (by omega) (by omega) (by omega)
  · exact em 16 (by omega) (by omega) (by omega) (by omega) (by omega)
  · exact em 18 (by omega) (by omega) (by omega) (by omega) (by omega)
  · exact em 19 (by omega) (by omega) (by omega) (by omega) (by omega)
  · exact em 17 (by omega) (by omega) (by omega) (by omega) (by omega)
  · exact em 20 (by omega) (by omega) (by omega) (by omega) (by omega)
  · have hi' : i < 1 := Nat.lt_of_lt_of_eq hi (show prs 1 = 1 from rfl)
    refine (em (21 + i) (by omega) (by omega) (by omega) (by omega) (by omega)).trans (if_neg (by omega))
  · have hi' : i < 1 := Nat.lt_of_lt_of_eq hi (show prs 1 = 1 from rfl)
    refine (em (31 + i) (by omega) (by omega) (by omega) (by omega) (by omega)).trans (if_neg (by omega))
  · exact (em (21 + i) (by omega) (by omega) (by omega) (by omega) (by omega)).trans (if_neg (by omega))
  · exact (em (11 + i) (by omega) (by omega) (by omega) (by omega) (by omega)).trans (if_neg (by omega))
  · refine zFr_trans ?_ (zFr_trans (zFr_mono a2.1 (by omega) (by omega)) (zFr_mono d2.1 (by omega) (by omega)))
    rw [g1]
    exact zFr_trans (zFr_sI (by omega) (by omega)) (zFr_sI (by omega) (by omega))
  · rw [d2.2.2 0 (by omega), a2.2.2 0 (by omega), g1, mI_sI, if_neg (by omega), mI_sI, if_pos ⟨rfl, rfl⟩]
end M3
