set_option maxRecDepth 20000
section M10
variable {S S' S0 S1 S2 : Mem} {z n a b i j k o o' e q : Nat} {r : Rc} {s : As} {x y : Int32} {W W' R : Nat → Int32} {ls : List Rc}
theorem m_spl_L {p : Nat} {rf : Nat → Nat} (ok : aOk p rf r) : ∀ (m fu j : Nat) (ls : List Rc) (S : Mem), zSt z S → zMl z S ls → zMR (mI S (z + 216)) (41 * 26) r → (∀ t, t ∈ ls → aN t ≤ 4) → i + j ≤ ls.length → ls.length + m ≤ 24 → j + m + 1 = aN r → m < fu → ∃ S', F_X6_split_L74 fu (z + 214) (nI i) (nI (aN r - 1)) (nI (j + 1)) S = some (nI (aN r - 1), S') ∧ zMw z S S' ∧ zMl z S' (spl r i m j ls) ∧ ∀ k, k < 41 → mI S' (z + 216) (41 * 24 + k) = mI S (z + 216) (41 * 24 + k) := by
  intro m
  have n4 := ok.1.2
  induction m with
  | zero =>
    intro fu j ls S h hl hr hn hi hlen hj hf
    obtain ⟨fu, rfl⟩ : ∃ f, fu = f + 1 := ⟨fu - 1, by omega⟩
    have c : nI (aN r - 1) < nI (j + 1) := nI_lt (by omega) (by omega)
    exact ⟨S, by simp only [F_X6_split_L74, c, ↓reduceIte], zMw_refl, hl, fun _ _ => rfl⟩
  | succ m ih =>
    intro fu j ls S h hl hr hn hi hlen hj hf
    obtain ⟨fu, rfl⟩ : ∃ f, fu = f + 1 := ⟨fu - 1, by omega⟩
    have c : ¬ nI (aN r - 1) < nI (j + 1) := nI_nlt (by omega) (by omega)
    obtain ⟨S1, R, a1, a2, a3⟩ := m_part (a := j + 1) h hr ok (by omega) (by omega)
    have hl1 : zMl z S1 ls := zMl_of a2.2.2.1 (fun q k hq hk => a2.2.2.2.2 q k (by omega) hk) hn hl
    obtain ⟨S2, S3, b1, b2, b3, b4, b5, b6⟩ := m_insJ (i := i + j) (a := 25) (r := aPart r (j + 1)) a2.1 hl1 hn (by omega) hi (by omega) (by omega) (show 2 ≤ 4 by omega) a3
    have h3 := zMw_St b4 a2.1
    have e1 : nI (i + (j + 1)) - nI 1 = nI (i + j) := nI_sub1 (by omega)
    have hlen3 : (ls.insertIdx (i + j) (aPart r (j + 1))).length = ls.length + 1 := List.length_insertIdx_of_le_length hi _
    obtain ⟨S4, q1, q2, q3, q4⟩ := ih fu (j + 1) (ls.insertIdx (i + j) (aPart r (j + 1))) S3 h3 b5 (zMR_of n4 (fun k hk => by rw [b6 26 k (by omega) hk, a2.2.2.2.2 26 k (by omega) hk]) hr) (fun t ht => by
      rcases (List.mem_insertIdx hi).mp ht with e | e
      · rw [e]; show 2 ≤ 4; omega
      · exact hn t e) (by omega) (by omega) (by omega) (by omega)
    refine ⟨S4, Eq.trans ?_ q1, zMw_trans a2.2.1 (zMw_trans b4 q2), q3, fun k hk => by rw [q4 k hk, b6 24 k (by omega) hk, a2.2.2.2.2 24 k (by omega) hk]⟩
    simp only [F_X6_split_L74, l_0, l_1, l_2, l_3, l_4, l_5, l_6, l_7, l_8, l_9, l_10, l_11, l_12, l_13, l_14, l_15, l_16, l_17, l_18, l_19, l_20, l_21, l_24, l_25, l_26, l_27, l_31, l_33, l_41, l_65, l_67, l_71, l_84, l_120, l_127, l_128, l_130, l_160, l_162, l_200, l_255, l_256, l_999, l_1000, l_8000, l_9999, l_10000, l_8001, l_m1, c, t_k214 h, a1, t_k214 a2.1, nI_add, e1, b1, t_k214 b2, b3, bd2_some, bdx_inl, bdx_inr, bdc_inl, bdc_inr, obd_some, ↓reduceIte]
theorem M_split {i : Int32} (hs : xOk s) (h : zMo z s S) : ∃ S', F_X6_split (z + 214) i S = some ((o_split s i).2.1, S') ∧ zMo z (o_split s i).2.2 S' ∧ zFr (z + 214) (z + 220) S S' ∧ mI S' (z + 214) 0 = (o_split s i).1 := by
  obtain ⟨hS, hl, hf, hd, ht⟩ := id h
  have hl24 := hs.2.2.2.2.1
  by_cases c : i < nI 0 ∨ nI (xL s).length ≤ i
  · rw [show o_split s i = (nI 1, nI 0, s) from if_pos c]
    refine ⟨sI S (z + 214) 0 (nI 1), ?_, zMo_th h, zFr_th, by rw [mI_sI, if_pos ⟨rfl, rfl⟩]⟩
    have c1 : nI 0 < nI 2 := by decide
    simp only [F_X6_split, F_X6_split_J25, F_X6_split_J46, F_X6_split_J51, l_0, l_1, l_2, l_3, l_4, l_5, l_6, l_7, l_8, l_9, l_10, l_11, l_12, l_13, l_14, l_15, l_16, l_17, l_18, l_19, l_20, l_21, l_24, l_25, l_26, l_27, l_31, l_33, l_41, l_65, l_67, l_71, l_84, l_120, l_127, l_128, l_130, l_160, l_162, l_200, l_255, l_256, l_999, l_1000, l_8000, l_9999, l_10000, l_8001, l_m1, t_g214 hS, hl.1, m_out, c, c1, ne10, t_k214 hS, m_th1 hS, bd2_some, bdx_inl, bdx_inr, bdc_inl, bdc_inr, obd_some, ↓reduceIte]
  obtain ⟨i', rfl, -, b3⟩ := in_of' (by omega) (fun e => c (Or.inl e)) (fun e => c (Or.inr e)) (by omega)
  have t1 : tn (nI i') = i' := tn_nI (by omega)
  obtain ⟨g1, g2⟩ := xAt_ok hs b3
  have hr := hl.2 i' _ g1
  have n2 := g2.1.1
  have n4 := g2.1.2
  have r1 := m_get (i := i') (k := 1) hS (by omega)
  rw [hr.1.2.2] at r1
  have e1 : nI (aN (xAt s i')) - nI 1 = nI (aN (xAt s i') - 1) := nI_sub1 (by omega)
  by_cases c2 : aN (xAt s i') < 3 ∨ 24 < (xL s).length + aN (xAt s i') - 2
  · rw [show o_split s (nI i') = (nI 2, nI 0, s) from by unfold o_split; rw [if_neg c, t1, if_pos c2]]
    refine ⟨sI S (z + 214) 0 (nI 2), ?_, zMo_th h, zFr_th, by rw [mI_sI, if_pos ⟨rfl, rfl⟩]⟩
    by_cases c3 : aN (xAt s i') < 3
    · have c3' : nI (aN (xAt s i') - 1) < nI 2 := nI_lt (by omega) (by omega)
      simp only [F_X6_split, F_X6_split_J25, F_X6_split_J46, F_X6_split_J51, l_0, l_1, l_2, l_3, l_4, l_5, l_6, l_7, l_8, l_9, l_10, l_11, l_12, l_13, l_14, l_15, l_16, l_17, l_18, l_19, l_20, l_21, l_24, l_25, l_26, l_27, l_31, l_33, l_41, l_65, l_67, l_71, l_84, l_120, l_127, l_128, l_130, l_160, l_162, l_200, l_255, l_256, l_999, l_1000, l_8000, l_9999, l_10000, l_8001, l_m1, t_g214 hS, hl.1, m_out, c, r1, e1, c3', ne10, t_k214 hS, m_th2 hS, bd2_some, bdx_inl, bdx_inr, bdc_inl, bdc_inr, obd_some, ↓reduceIte]
    · have c3' : ¬ nI (aN (xAt s i') - 1) < nI 2 := nI_nlt (by omega) (by omega)
      have e2 : nI ((xL s).length + (aN (xAt s i') - 1)) - nI 1 = nI ((xL s).length + (aN (xAt s i') - 1) - 1) := nI_sub1 (by omega)
      have c4 : ¬ nI ((xL s).length + (aN (xAt s i') - 1) - 1) ≤ nI 24 := nI_ge (by omega) (by omega)
      simp only [F_X6_split, F_X6_split_J25, F_X6_split_J46, F_X6_split_J51, l_0, l_1, l_2, l_3, l_4, l_5, l_6, l_7, l_8, l_9, l_10, l_11, l_12, l_13, l_14, l_15, l_16, l_17, l_18, l_19, l_20, l_21, l_24, l_25, l_26, l_27, l_31, l_33, l_41, l_65, l_67, l_71, l_84, l_120, l_127, l_128, l_130, l_160, l_162, l_200, l_255, l_256, l_999, l_1000, l_8000, l_9999, l_10000, l_8001, l_m1, t_g214 hS, hl.1, m_out, c, r1, e1, c3', nI_add, e2, c4, ne10, t_k214 hS, m_th2 hS, bd2_some, bdx_inl, bdx_inr, bdc_inl, bdc_inr, obd_some, ↓reduceIte]
  rw [show o_split s (nI i') = (nI 0, nI (aN (xAt s i') - 1), wList s (spl (xAt s i') i' (aN (xAt s i') - 1) 0 ((xL s).eraseIdx i'))) from by unfold o_split; rw [if_neg c, t1, if_neg c2]]
  have c3 : ¬ aN (xAt s i') < 3 := fun q => c2 (Or.inl q)
  have c3' : ¬ nI (aN (xAt s i') - 1) < nI 2 := nI_nlt (by omega) (by omega)
  have e2 : nI ((xL s).length + (aN (xAt s i') - 1)) - nI 1 = nI ((xL s).length + (aN (xAt s i') - 1) - 1) := nI_sub1 (by omega)
  have c4 : nI ((xL s).length + (aN (xAt s i') - 1) - 1) ≤ nI 24 := nI_le (by omega) (by omega)
  have h1 := zMo_th (x := nI 0) h
  have hS1 := h1.1
  obtain ⟨S2, a1, a2, a3, a4⟩ := m_copy' (a := i') (b := 26) hS1 (by omega) (by omega) (by omega)
  have hS2 := zMw_St a2 hS1
  have hr2 : zMR (mI S2 (z + 216)) (41 * 26) (xAt s i') := zMR_of n4 (fun k hk => by rw [a4 26 k hk, if_pos rfl]) (h1.2.1.2 i' _ g1)
  have R2 : ∀ q k, q ≠ 26 → k < 41 → mI S2 (z + 216) (41 * q + k) = mI (sI S (z + 214) 0 (nI 0)) (z + 216) (41 * q + k) := fun q k hq hk => by rw [a4 q k hk, if_neg hq]
  have hM2 : zMo z s S2 := zMo_w (s := s) hs h1 a2 (zMl_of a3 (fun i k hi hk => R2 i k (by have hi' : i < (xL s).length := hi; omega) hk) (n4_of hs) h1.2.1) (fun k hk => R2 24 k (by omega) hk)
  obtain ⟨S4, d1, d2, d3, d4⟩ := m_del hs hM2 b3
  have hS4 := zMw_St d2 hS2
  have hle := List.length_eraseIdx_of_lt b3
  obtain ⟨S5, q1, q2, q3, q4⟩ := m_spl_L (z := z) (i := i') g2 (aN (xAt s i') - 1) FU 0 ((xL s).eraseIdx i') S4 hS4 d3 (zMR_of n4 (fun k hk => d4 26 k (by omega) hk) hr2) (fun t ht => n4_of hs t (List.mem_of_mem_eraseIdx ht)) (by omega) (by omega) (by omega) (by show aN (xAt s i') - 1 < 4000; omega)
  refine ⟨S5, ?_, zMo_w hs h1 (zMw_trans a2 (zMw_trans d2 q2)) q3 (fun k hk => by rw [q4 k hk, d4 24 k (Nat.le_refl _) hk, R2 24 k (by omega) hk]), zFr_trans zFr_th (zFr_mono (zMw_trans a2 (zMw_trans d2 q2)).1 (by omega) (by omega)), ?_⟩
  · simp only [F_X6_split, F_X6_split_J25, F_X6_split_J51, l_0, l_1, l_2, l_3, l_4, l_5, l_6, l_7, l_8, l_9, l_10, l_11, l_12, l_13, l_14, l_15, l_16, l_17, l_18, l_19, l_20, l_21, l_24, l_25, l_26, l_27, l_31, l_33, l_41, l_65, l_67, l_71, l_84, l_120, l_127, l_128, l_130, l_160, l_162, l_200, l_255, l_256, l_999, l_1000, l_8000, l_9999, l_10000, l_8001, l_m1, t_g214 hS, hl.1, m_out, c, r1, e1, c3', nI_add, e2, c4, t_k214 hS, m_th0 hS, t_k214 hS1, a1, t_k214 hS2, d1, bd2_some, bdx_inl, bdx_inr, bdc_inl, bdc_inr, obd_some, ↓reduceIte]
    exact q1
  · rw [q2.2.2 0 (by omega), d2.2.2 0 (by omega), a2.2.2 0 (by omega), mI_sI, if_pos ⟨rfl, rfl⟩]
end M10
