set_option maxRecDepth 20000
section M13
variable {S S' S0 S1 S2 : Mem} {z n a b i j k o o' e q x m : Nat} {r : Rc} {s : As} {W W' R : Nat → Int32} {ls : List Rc} {t u : List Nat} {f : Nat → Nat}
def zTi (z : Nat) (S S' : Mem) : Prop := zFr (z + 214) (z + 219) S S' ∧ mI S' (z + 215) = mI S (z + 215) ∧ mI S' (z + 216) = mI S (z + 216) ∧ ∀ q, q ≠ 9 → mI S' (z + 214) q = mI S (z + 214) q
theorem zTi_refl : zTi z S S := ⟨zFr_refl, rfl, rfl, fun _ _ => rfl⟩
theorem zTi_trans (h : zTi z S S1) (h' : zTi z S1 S2) : zTi z S S2 := ⟨zFr_trans h.1 h'.1, h'.2.1.trans h.2.1, h'.2.2.1.trans h.2.2.1, fun q hq => (h'.2.2.2 q hq).trans (h.2.2.2 q hq)⟩
theorem m_type_L {b : Int64} : ∀ (m fu : Nat) (S : Mem) (t : List Nat), zSt z S → zMt z S t → m ≤ 8 → m < fu → t.length + m ≤ 130 → ∃ S', F_X6_type_L54 fu (z + 214) b (gI m) S = some S' ∧ zMt z S' (t ++ (List.range m).map (fun k => by8 b (m - 1 - k))) ∧ zTi z S S' := by
  intro m
  induction m with
  | zero =>
    intro fu S t h ht hm hfu hl
    obtain ⟨fu, rfl⟩ : ∃ f, fu = f + 1 := ⟨fu - 1, by omega⟩
    have c : gI 0 < nI 0 := by decide
    refine ⟨S, by simp only [F_X6_type_L54, l_0, l_1, l_2, l_3, l_4, l_5, l_6, l_7, l_8, l_9, l_10, l_11, l_12, l_13, l_14, l_15, l_16, l_17, l_18, l_19, l_20, l_21, l_24, l_25, l_26, l_27, l_31, l_33, l_41, l_65, l_67, l_71, l_84, l_120, l_127, l_128, l_130, l_160, l_162, l_200, l_255, l_256, l_999, l_1000, l_8000, l_9999, l_10000, l_8001, l_m1, c, ↓reduceIte], ?_, zTi_refl⟩
    rw [List.range_zero, List.map_nil, List.append_nil]
    exact ht
  | succ m ih =>
    intro fu S t h ht hm hfu hl
    obtain ⟨fu, rfl⟩ : ∃ f, fu = f + 1 := ⟨fu - 1, by omega⟩
    have c : ¬ nI m < nI 0 := nI_nlt (by omega) (by omega)
    have d := m_by (b := b) (d := m) (by omega)
    obtain ⟨S1, e1⟩ : ∃ T, T = sI S (z + 218) t.length (nI (by8 b m)) := ⟨_, rfl⟩
    have h1 : zSt z S1 := by rw [e1]; exact h
    have p1 := t_s218 (k := t.length) (x := nI (by8 b m)) h (by omega)
    rw [← e1] at p1
    have g1 : mI S1 (z + 214) 9 = nI t.length := by rw [e1, mI_sI, if_neg (by omega)]; exact ht.1
    obtain ⟨S2, e2⟩ : ∃ T, T = sI S1 (z + 214) 9 (nI (t.length + 1)) := ⟨_, rfl⟩
    have h2 : zSt z S2 := by rw [e2]; exact h1
    have p2 := t_p214 (j := 9) (x := nI (t.length + 1)) h1
    rw [← e2] at p2
    have ht2 : zMt z S2 (t ++ [by8 b m]) := by
      refine ⟨by rw [e2, mI_sI, if_pos ⟨rfl, rfl⟩, List.length_append]; rfl, fun i b' hb => ?_⟩
      rw [e2, mI_sI, if_neg (by omega), e1, mI_sI]
      rw [List.getElem?_append] at hb
      by_cases c : i < t.length
      · rw [if_pos c] at hb
        rw [if_neg (by omega)]
        exact ht.2 i b' hb
      · rw [if_neg c] at hb
        have : i - t.length = 0 := by
          rcases Nat.eq_zero_or_pos (i - t.length) with e | e
          · exact e
          · rw [List.getElem?_eq_none (show [by8 b m].length ≤ i - t.length from e)] at hb; cases hb
        rw [this] at hb
        cases hb
        rw [if_pos ⟨rfl, by omega⟩]
    have w2 : zTi z S S2 := by
      rw [e2, e1]
      exact ⟨zFr_trans (zFr_sI (by omega) (by omega)) (zFr_sI (by omega) (by omega)), by rw [mI_sI_r, if_neg (by omega), mI_sI_r, if_neg (by omega)], by rw [mI_sI_r, if_neg (by omega), mI_sI_r, if_neg (by omega)], fun q hq => by rw [mI_sI, if_neg (by omega), mI_sI, if_neg (by omega)]⟩
    obtain ⟨S3, q1, q2, q3⟩ := ih fu S2 _ h2 ht2 (by omega) (by omega) (by rw [List.length_append]; simp only [List.length_cons, List.length_nil]; omega)
    refine ⟨S3, Eq.trans ?_ q1, ?_, zTi_trans w2 q3⟩
    · rw [show gI (m + 1) = nI m from rfl]
      simp only [F_X6_type_L54, l_0, l_1, l_2, l_3, l_4, l_5, l_6, l_7, l_8, l_9, l_10, l_11, l_12, l_13, l_14, l_15, l_16, l_17, l_18, l_19, l_20, l_21, l_24, l_25, l_26, l_27, l_31, l_33, l_41, l_65, l_67, l_71, l_84, l_120, l_127, l_128, l_130, l_160, l_162, l_200, l_255, l_256, l_999, l_1000, l_8000, l_9999, l_10000, l_8001, l_m1, c, t_r214_8 h, t_g214 h, ht.1, d, p1, t_g214 h1, g1, nI_add, p2, gI_m, bd2_some, bdx_inl, bdx_inr, bdc_inl, bdc_inr, obd_some, ↓reduceIte]
    · rw [List.append_assoc, List.singleton_append] at q2
      rw [List.range_succ_eq_map, List.map_cons, List.map_map, show m + 1 - 1 - 0 = m by omega]
      have : (List.range m).map ((fun k => by8 b (m + 1 - 1 - k)) ∘ Nat.succ) = (List.range m).map (fun k => by8 b (m - 1 - k)) := by
        congr 1
        funext k
        show by8 b (m + 1 - 1 - (k + 1)) = _
        rw [show m + 1 - 1 - (k + 1) = m - 1 - k by omega]
      rw [this]
      exact q2
theorem M_type {b : Int64} {n : Int32} (hs : xOk s) (h : zMo z s S) : ∃ S', F_X6_type (z + 214) b n S = some S' ∧ zMo z (o_type s b n).2 S' ∧ zFr (z + 214) (z + 220) S S' ∧ mI S' (z + 214) 0 = (o_type s b n).1 := by
  obtain ⟨hS, hl, hf, hd, ht⟩ := id h
  by_cases c : n < nI 1 ∨ nI 8 < n
  · rw [show o_type s b n = (nI 1, s) from if_pos c]
    refine ⟨sI S (z + 214) 0 (nI 1), ?_, zMo_th h, zFr_th, by rw [mI_sI, if_pos ⟨rfl, rfl⟩]⟩
    rcases c with c | c
    · simp only [F_X6_type, F_X6_type_J11, F_X6_type_J16, F_X6_type_J41, F_X6_type_J42, l_0, l_1, l_2, l_3, l_4, l_5, l_6, l_7, l_8, l_9, l_10, l_11, l_12, l_13, l_14, l_15, l_16, l_17, l_18, l_19, l_20, l_21, l_24, l_25, l_26, l_27, l_31, l_33, l_41, l_65, l_67, l_71, l_84, l_120, l_127, l_128, l_130, l_160, l_162, l_200, l_255, l_256, l_999, l_1000, l_8000, l_9999, l_10000, l_8001, l_m1, c, ne10, t_k214 hS, m_th1 hS, bd2_some, bdx_inl, bdx_inr, bdc_inl, bdc_inr, obd_some, ↓reduceIte]
    · have c0 : ¬ n < nI 1 := fun q => by
        have := Int32.lt_trans c q
        exact absurd this (by decide)
      have c' : ¬ n ≤ nI 8 := Int32.not_le.mpr c
      simp only [F_X6_type, F_X6_type_J11, F_X6_type_J16, F_X6_type_J41, F_X6_type_J42, l_0, l_1, l_2, l_3, l_4, l_5, l_6, l_7, l_8, l_9, l_10, l_11, l_12, l_13, l_14, l_15, l_16, l_17, l_18, l_19, l_20, l_21, l_24, l_25, l_26, l_27, l_31, l_33, l_41, l_65, l_67, l_71, l_84, l_120, l_127, l_128, l_130, l_160, l_162, l_200, l_255, l_256, l_999, l_1000, l_8000, l_9999, l_10000, l_8001, l_m1, c0, c', ne10, t_k214 hS, m_th1 hS, bd2_some, bdx_inl, bdx_inr, bdc_inl, bdc_inr, obd_some, ↓reduceIte]
  have c1 : ¬ n < nI 1 := fun q => c (Or.inl q)
  have c2 : ¬ nI 8 < n := fun q => c (Or.inr q)
  obtain ⟨nn, rfl, b1, b2⟩ := in_of (by omega) c1 c2 (by omega)
  have t1 : tn (nI nn) = nn := tn_nI (by omega)
  have c2' : nI nn ≤ nI 8 := Int32.not_lt.mp c2
  have hT := hs.2.2.2.2.2.1
  by_cases d : 120 < (xT s).length + nn
  · rw [show o_type s b (nI nn) = (nI 2, s) from by unfold o_type; rw [if_neg c, t1, if_pos d]]
    refine ⟨sI S (z + 214) 0 (nI 2), ?_, zMo_th h, zFr_th, by rw [mI_sI, if_pos ⟨rfl, rfl⟩]⟩
    have d' : ¬ nI ((xT s).length + nn) ≤ nI 120 := nI_ge (by omega) (by omega)
    simp only [F_X6_type, F_X6_type_J16, F_X6_type_J42, l_0, l_1, l_2, l_3, l_4, l_5, l_6, l_7, l_8, l_9, l_10, l_11, l_12, l_13, l_14, l_15, l_16, l_17, l_18, l_19, l_20, l_21, l_24, l_25, l_26, l_27, l_31, l_33, l_41, l_65, l_67, l_71, l_84, l_120, l_127, l_128, l_130, l_160, l_162, l_200, l_255, l_256, l_999, l_1000, l_8000, l_9999, l_10000, l_8001, l_m1, c1, c2', t_g214 hS, ht.1, nI_add, d', ne10, t_k214 hS, m_th2 hS, bd2_some, bdx_inl, bdx_inr, bdc_inl, bdc_inr, obd_some, ↓reduceIte]
  rw [show o_type s b (nI nn) = (nI 0, wTyped s (xT s ++ (List.range nn).map (fun i => by8 b (nn - 1 - i)))) from by unfold o_type; rw [if_neg c, t1, if_neg d]]
  have d' : nI ((xT s).length + nn) ≤ nI 120 := nI_le (by omega) (by omega)
  have h1 := zMo_th (x := nI 0) h
  obtain ⟨S1, q1, q2, q3⟩ := m_type_L (b := b) nn FU (sI S (z + 214) 0 (nI 0)) (xT s) h1.1 h1.2.2.2.2 b2 (by show nn < 4000; omega) (by omega)
  refine ⟨S1, ?_, ⟨zSt_Fr q3.1 h1.1, ⟨by rw [q3.2.2.2 4 (by omega)]; exact h1.2.1.1, by rw [q3.2.2.1]; exact h1.2.1.2⟩, zMf_of (q3.2.2.2 2 (by omega)) q3.2.1 h1.2.2.1, ⟨by rw [q3.2.2.2 3 (by omega)]; exact h1.2.2.2.1.1, by rw [q3.2.2.1]; exact h1.2.2.2.1.2⟩, q2⟩, zFr_trans zFr_th (zFr_mono q3.1 (by omega) (by omega)), ?_⟩
  · simp only [F_X6_type, F_X6_type_J16, F_X6_type_J41, F_X6_type_J42, l_0, l_1, l_2, l_3, l_4, l_5, l_6, l_7, l_8, l_9, l_10, l_11, l_12, l_13, l_14, l_15, l_16, l_17, l_18, l_19, l_20, l_21, l_24, l_25, l_26, l_27, l_31, l_33, l_41, l_65, l_67, l_71, l_84, l_120, l_127, l_128, l_130, l_160, l_162, l_200, l_255, l_256, l_999, l_1000, l_8000, l_9999, l_10000, l_8001, l_m1, c1, c2', t_g214 hS, ht.1, nI_add, d', t_k214 hS, m_th0 hS, gI_of, bd2_some, bdx_inl, bdx_inr, bdc_inl, bdc_inr, obd_some, ↓reduceIte]
    exact q1
  · rw [q3.2.2.2 0 (by omega), mI_sI, if_pos ⟨rfl, rfl⟩]
end M13
