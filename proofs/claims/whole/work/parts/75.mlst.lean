set_option maxRecDepth 20000
section M6
variable {S S' S1 S2 : Mem} {z n a b i j k o o' : Nat} {r : Rc} {s : As} {x y : Int32} {W W' : Nat → Int32} {ls : List Rc}
theorem l_32 : (32 : Int32) = nI 32 := rfl
theorem th_W {w : Nat} (h : w ≠ z + 214) : mI (sI S (z + 214) 0 x) w = mI S w := by rw [mI_sI_r, if_neg h]
theorem th_f {q : Nat} (h : q ≠ 0) : mI (sI S (z + 214) 0 x) (z + 214) q = mI S (z + 214) q := by rw [mI_sI, if_neg (by omega)]
theorem M_add (hs : xOk s) (h : zMo z s S) : ∃ S', F_X6_add (z + 214) S = some ((o_add s).2.1, S') ∧ zMo z (o_add s).2.2 S' ∧ zFr (z + 214) (z + 220) S S' ∧ mI S' (z + 214) 0 = (o_add s).1 := by
  obtain ⟨hS, hl, hf, hd, ht⟩ := id h
  have bad : F_X6_add (z + 214) S = some (nI 0, sI S (z + 214) 0 (nI 1)) → o_add s = (nI 1, nI 0, s) → ∃ S', F_X6_add (z + 214) S = some ((o_add s).2.1, S') ∧ zMo z (o_add s).2.2 S' ∧ zFr (z + 214) (z + 220) S S' ∧ mI S' (z + 214) 0 = (o_add s).1 := by
    intro e1 e2
    rw [e2]
    exact ⟨_, e1, zMo_th h, zFr_th, by rw [mI_sI, if_pos ⟨rfl, rfl⟩]⟩
  have hl24 := hs.2.2.2.2.1
  by_cases d : xD s = false
  · refine bad ?_ (if_pos (Or.inl d))
    simp only [F_X6_add, F_X6_add_J28, F_X6_add_J33, l_0, l_1, l_2, l_3, l_4, l_5, l_6, l_7, l_8, l_9, l_10, l_11, l_12, l_13, l_14, l_15, l_16, l_17, l_18, l_19, l_20, l_21, l_24, l_25, l_26, l_27, l_31, l_33, l_41, l_65, l_67, l_71, l_84, l_120, l_127, l_128, l_130, l_160, l_162, l_200, l_255, l_256, l_999, l_1000, l_8000, l_9999, l_10000, l_8001, l_m1, t_g214 hS, md_f hd d, ne10, t_k214 hS, m_th1 hS, bd2_some, bdx_inl, bdx_inr, bdc_inl, bdc_inr, obd_some, ↓reduceIte]
  rw [Bool.not_eq_false] at d
  obtain ⟨hr, hK, hD⟩ := hd.2 d
  have gn := hr.1.2.2
  have g1 := m_get (i := 24) (k := 1) hS (by omega)
  rw [gn] at g1
  have hok := hs.2.2.1 d
  have n4 := hok.1.2
  by_cases c1 : aN (xR s) < 2
  · have c1' : nI (aN (xR s)) < nI 2 := nI_lt c1 (by omega)
    refine bad ?_ (if_pos (Or.inr (Or.inl c1)))
    simp only [F_X6_add, F_X6_add_J28, F_X6_add_J33, l_0, l_1, l_2, l_3, l_4, l_5, l_6, l_7, l_8, l_9, l_10, l_11, l_12, l_13, l_14, l_15, l_16, l_17, l_18, l_19, l_20, l_21, l_24, l_25, l_26, l_27, l_31, l_33, l_41, l_65, l_67, l_71, l_84, l_120, l_127, l_128, l_130, l_160, l_162, l_200, l_255, l_256, l_999, l_1000, l_8000, l_9999, l_10000, l_8001, l_m1, t_g214 hS, md_t hd d, g1, c1', ne10, t_k214 hS, m_th1 hS, bd2_some, bdx_inl, bdx_inr, bdc_inl, bdc_inr, obd_some, ↓reduceIte]
  have c1' : ¬ nI (aN (xR s)) < nI 2 := nI_nlt (by omega) (by omega)
  by_cases c2 : (xL s).length = 24
  · have c2' : nI (xL s).length = nI 24 := by rw [c2]
    refine bad ?_ (if_pos (Or.inr (Or.inr c2)))
    simp only [F_X6_add, F_X6_add_J28, F_X6_add_J33, l_0, l_1, l_2, l_3, l_4, l_5, l_6, l_7, l_8, l_9, l_10, l_11, l_12, l_13, l_14, l_15, l_16, l_17, l_18, l_19, l_20, l_21, l_24, l_25, l_26, l_27, l_31, l_33, l_41, l_65, l_67, l_71, l_84, l_120, l_127, l_128, l_130, l_160, l_162, l_200, l_255, l_256, l_999, l_1000, l_8000, l_9999, l_10000, l_8001, l_m1, t_g214 hS, md_t hd d, g1, c1', hl.1, c2', ne10, t_k214 hS, m_th1 hS, bd2_some, bdx_inl, bdx_inr, bdc_inl, bdc_inr, obd_some, ↓reduceIte]
  have c2' : ¬ nI (xL s).length = nI 24 := fun q => c2 ((nI_eq (by omega) (by omega)).mp q)
  rw [show o_add s = (nI 0, nI (ipos (xL s) (aP (xR s))), wList (wDraft s false (xR s)) (insR (xL s) (xR s))) from if_neg (by
    rw [d]
    rintro (e | e | e)
    · cases e
    · exact c1 e
    · exact c2 e)]
  have h1 : zSt z (sI S (z + 214) 0 (nI 0)) := hS
  obtain ⟨S1, e1⟩ : ∃ T, T = sI (sI S (z + 214) 0 (nI 0)) (z + 214) 3 (nI 0) := ⟨_, rfl⟩
  have k1 := t_z214 (j := 3) (x := nI 0) h1 zBo_0
  rw [← e1] at k1
  have hS1 : zSt z S1 := by rw [e1]; exact h1
  have W1 : ∀ q, q ≠ z + 214 → mI S1 q = mI S q := fun q hq => by rw [e1, mI_sI_r, if_neg hq, mI_sI_r, if_neg hq]
  have F1 : ∀ q, q ≠ 0 → q ≠ 3 → mI S1 (z + 214) q = mI S (z + 214) q := fun q h1 h2 => by rw [e1, mI_sI, if_neg (by omega), mI_sI, if_neg (by omega)]
  have G1 : zFr (z + 214) (z + 217) S S1 := by rw [e1]; exact zFr_trans (zFr_sI (by omega) (by omega)) (zFr_sI (by omega) (by omega))
  have hM1 : zMo z (wDraft s false (xR s)) S1 := zMo_d hs h G1 (W1 _ (by omega)) F1 (fun i k hi hk => by rw [W1 _ (by omega)]) ⟨by rw [e1, mI_sI, if_pos ⟨rfl, rfl⟩]; rfl, fun e => by cases e⟩
  have hs1 : xOk (wDraft s false (xR s)) := ⟨hs.1, hs.2.1, fun e => (by cases e), hs.2.2.2⟩
  have hP : aP (xR s) < 2147483648 := by
    have h1 := hok.2.2.1.2.1
    have := hs.1
    omega
  obtain ⟨S2, q1, q2, q3, q4⟩ := m_enter (a := 24) (r := xR s) (ls := xL s) hS1 hM1.2.1 (n4_of hs) (by omega) (by omega) (by omega) n4 hP (fun t ht => (ok31 hs.1 (hs.2.2.2.1 t ht)).2.1) (by rw [W1 _ (by omega)]; exact hr)
  refine ⟨S2, ?_, zMo_w hs1 hM1 q2 q3 (fun k hk => q4 24 k (Nat.le_refl _) hk), zFr_trans (zFr_mono G1 (by omega) (by omega)) (zFr_mono q2.1 (by omega) (by omega)), ?_⟩
  · simp only [F_X6_add, F_X6_add_J33, l_0, l_1, l_2, l_3, l_4, l_5, l_6, l_7, l_8, l_9, l_10, l_11, l_12, l_13, l_14, l_15, l_16, l_17, l_18, l_19, l_20, l_21, l_24, l_25, l_26, l_27, l_31, l_33, l_41, l_65, l_67, l_71, l_84, l_120, l_127, l_128, l_130, l_160, l_162, l_200, l_255, l_256, l_999, l_1000, l_8000, l_9999, l_10000, l_8001, l_m1, t_g214 hS, md_t hd d, g1, c1', hl.1, c2', ne10, t_k214 hS, m_th0 hS, k1, t_k214 hS1, q1, bd2_some, bdx_inl, bdx_inr, bdc_inl, bdc_inr, obd_some, ↓reduceIte]
  · rw [q2.2.2 0 (by omega), e1, mI_sI, if_neg (by omega), mI_sI, if_pos ⟨rfl, rfl⟩]
theorem m_del (hs : xOk s) (h : zMo z s S) (hi : i < (xL s).length) : ∃ S', F_X6_close (z + 214) (nI i) S = some S' ∧ zMw z S S' ∧ zMl z S' ((xL s).eraseIdx i) ∧ ∀ q k, 24 ≤ q → k < 41 → mI S' (z + 216) (41 * q + k) = mI S (z + 216) (41 * q + k) := by
  have hl24 := hs.2.2.2.2.1
  obtain ⟨m, hm⟩ : ∃ m, (xL s).length = m + 1 := ⟨(xL s).length - 1, by omega⟩
  obtain ⟨S1, a1, a2, a3, a4⟩ := m_close (n := m) (i := i) h.1 (by omega) (by omega) (by rw [h.2.1.1, hm])
  refine ⟨S1, a1, a2, zMl_del (n4_of hs) hi h.2.1 (by rw [a3, hm]; rfl) (fun q k hk hq => ?_), fun q k hq hk => ?_⟩
  · rw [a4 q k hk]
    by_cases c : i ≤ q
    · rw [if_pos c, if_pos (by omega)]
    · rw [if_neg c, if_neg (by omega)]
  · rw [a4 q k hk, if_neg (by omega)]
theorem M_remove {i : Int32} (hs : xOk s) (h : zMo z s S) : ∃ S', F_X6_remove (z + 214) i S = some S' ∧ zMo z (o_remove s i).2 S' ∧ zFr (z + 214) (z + 220) S S' ∧ mI S' (z + 214) 0 = (o_remove s i).1 := by
  obtain ⟨hS, hl, hf, hd, ht⟩ := id h
  have hl24 := hs.2.2.2.2.1
  by_cases c : i < nI 0 ∨ nI (xL s).length ≤ i
  · rw [show o_remove s i = (nI 1, s) from if_pos c]
    refine ⟨sI S (z + 214) 0 (nI 1), ?_, zMo_th h, zFr_th, by rw [mI_sI, if_pos ⟨rfl, rfl⟩]⟩
    simp only [F_X6_remove, l_0, l_1, l_2, l_3, l_4, l_5, l_6, l_7, l_8, l_9, l_10, l_11, l_12, l_13, l_14, l_15, l_16, l_17, l_18, l_19, l_20, l_21, l_24, l_25, l_26, l_27, l_31, l_33, l_41, l_65, l_67, l_71, l_84, l_120, l_127, l_128, l_130, l_160, l_162, l_200, l_255, l_256, l_999, l_1000, l_8000, l_9999, l_10000, l_8001, l_m1, t_g214 hS, hl.1, m_out, c, ne10, t_k214 hS, m_th1 hS, bd2_some, bdx_inl, bdx_inr, bdc_inl, bdc_inr, obd_some, ↓reduceIte]
  obtain ⟨i', rfl, -, b3⟩ := in_of' (by omega) (fun e => c (Or.inl e)) (fun e => c (Or.inr e)) (by omega)
  have t1 : tn (nI i') = i' := tn_nI (by omega)
  rw [show o_remove s (nI i') = (nI 0, wList s ((xL s).eraseIdx i')) from by unfold o_remove; rw [if_neg c, t1]]
  have h1 := zMo_th (x := nI 0) h
  obtain ⟨S1, a1, a2, a3, a4⟩ := m_del hs h1 b3
  refine ⟨S1, ?_, zMo_w hs h1 a2 a3 (fun k hk => a4 24 k (Nat.le_refl _) hk), zFr_trans zFr_th (zFr_mono a2.1 (by omega) (by omega)), ?_⟩
  · simp only [F_X6_remove, l_0, l_1, l_2, l_3, l_4, l_5, l_6, l_7, l_8, l_9, l_10, l_11, l_12, l_13, l_14, l_15, l_16, l_17, l_18, l_19, l_20, l_21, l_24, l_25, l_26, l_27, l_31, l_33, l_41, l_65, l_67, l_71, l_84, l_120, l_127, l_128, l_130, l_160, l_162, l_200, l_255, l_256, l_999, l_1000, l_8000, l_9999, l_10000, l_8001, l_m1, t_g214 hS, hl.1, m_out, c, ne10, t_k214 hS, m_th0 hS, t_k214 h1.1, a1, bd2_some, bdx_inl, bdx_inr, bdc_inl, bdc_inr, obd_some, ↓reduceIte]
  · rw [a2.2.2 0 (by omega), mI_sI, if_pos ⟨rfl, rfl⟩]
theorem M_records (h : zMo z s S) : ∃ S', F_X6_records (z + 214) S = some (nI (xL s).length, S') ∧ zMo z s S' ∧ zFr (z + 214) (z + 220) S S' ∧ mI S' (z + 214) 0 = nI 0 := by
  have h1 := zMo_th (x := nI 0) h
  refine ⟨sI S (z + 214) 0 (nI 0), ?_, h1, zFr_th, by rw [mI_sI, if_pos ⟨rfl, rfl⟩]⟩
  simp only [F_X6_records, l_0, l_1, l_2, l_3, l_4, l_5, l_6, l_7, l_8, l_9, l_10, l_11, l_12, l_13, l_14, l_15, l_16, l_17, l_18, l_19, l_20, l_21, l_24, l_25, l_26, l_27, l_31, l_33, l_41, l_65, l_67, l_71, l_84, l_120, l_127, l_128, l_130, l_160, l_162, l_200, l_255, l_256, l_999, l_1000, l_8000, l_9999, l_10000, l_8001, l_m1, t_p214 h.1, t_g214 h1.1, h1.2.1.1, bd2_some, bdx_inl, bdx_inr, bdc_inl, bdc_inr, obd_some]
theorem dv8 {p : Nat} (h : p < 256) : nI p / nI 8 = nI (p / 8) := by
  have : ∀ p, p < 256 → nI p / nI 8 = nI (p / 8) := by decide +kernel
  exact this p h
theorem dv32 {p : Nat} (h : p < 256) : nI p / nI 32 = nI (p / 32) := by
  have : ∀ p, p < 256 → nI p / nI 32 = nI (p / 32) := by decide +kernel
  exact this p h
theorem dv128 {p : Nat} (h : p < 256) : nI p / nI 128 = nI (p / 128) := by
  have : ∀ p, p < 256 → nI p / nI 128 = nI (p / 128) := by decide +kernel
  exact this p h
theorem pd8 {v : Int32} : pdiv v (nI 8) = some (v / nI 8) := rfl
theorem pd32 {v : Int32} : pdiv v (nI 32) = some (v / nI 32) := rfl
theorem pd128 {v : Int32} : pdiv v (nI 128) = some (v / nI 128) := rfl
theorem m_bin (h : zSt z S) (hi : i < 24) (hr : zMR (mI S (z + 216)) (41 * i) r) (hn : 1 ≤ aN r) (h1 : 1 ≤ aP r) (h2 : aP r ≤ 160) (h3 : aL r 0 ≤ 8) : F_X6_binOf (z + 214) (nI i) S = some (nI (aBin r), S) := by
  have g0 := m_get (i := i) (k := 0) h (by omega)
  have g2 := m_get (i := i) (k := 2) h (by omega)
  have e2 := (hr.2.1 0 (by omega)).2.1
  rw [Nat.add_zero (41 * i), hr.1.1] at g0
  rw [show 2 + 0 = 2 from rfl] at e2
  rw [e2] at g2
  have e3 : nI (aP r + aL r 0) - nI 1 = nI (aP r + aL r 0 - 1) := nI_sub1 (by omega)
  unfold aBin
  by_cases c1 : aP r / 8 = (aP r + aL r 0 - 1) / 8
  · rw [if_pos c1]
    have c1' : nI (aP r / 8) = nI ((aP r + aL r 0 - 1) / 8) := by rw [c1]
    simp only [F_X6_binOf, l_0, l_1, l_2, l_3, l_4, l_5, l_6, l_7, l_8, l_9, l_10, l_11, l_12, l_13, l_14, l_15, l_16, l_17, l_18, l_19, l_20, l_21, l_24, l_25, l_26, l_27, l_31, l_33, l_41, l_65, l_67, l_71, l_84, l_120, l_127, l_128, l_130, l_160, l_162, l_200, l_255, l_256, l_999, l_1000, l_8000, l_9999, l_10000, l_8001, l_m1, l_32, t_k214 h, g0, g2, nI_add, e3, pd8, pd32, pd128, dv8 (show aP r < 256 by omega), dv8 (show aP r + aL r 0 - 1 < 256 by omega), c1', bd2_some, bdx_inl, bdx_inr, bdc_inl, bdc_inr, obd_some, ↓reduceIte]
    rw [c1]
  · rw [if_neg c1]
    have c1' : ¬ nI (aP r / 8) = nI ((aP r + aL r 0 - 1) / 8) := fun q => c1 ((nI_eq (by omega) (by omega)).mp q)
    by_cases c2 : aP r / 32 = (aP r + aL r 0 - 1) / 32
    · rw [if_pos c2]
      have c2' : nI (aP r / 32) = nI ((aP r + aL r 0 - 1) / 32) := by rw [c2]
      simp only [F_X6_binOf, l_0, l_1, l_2, l_3, l_4, l_5, l_6, l_7, l_8, l_9, l_10, l_11, l_12, l_13, l_14, l_15, l_16, l_17, l_18, l_19, l_20, l_21, l_24, l_25, l_26, l_27, l_31, l_33, l_41, l_65, l_67, l_71, l_84, l_120, l_127, l_128, l_130, l_160, l_162, l_200, l_255, l_256, l_999, l_1000, l_8000, l_9999, l_10000, l_8001, l_m1, l_32, t_k214 h, g0, g2, nI_add, e3, pd8, pd32, pd128, dv8 (show aP r < 256 by omega), dv8 (show aP r + aL r 0 - 1 < 256 by omega), dv32 (show aP r < 256 by omega), dv32 (show aP r + aL r 0 - 1 < 256 by omega), c1', c2', bd2_some, bdx_inl, bdx_inr, bdc_inl, bdc_inr, obd_some, ↓reduceIte]
      rw [c2]
    · rw [if_neg c2]
      have c2' : ¬ nI (aP r / 32) = nI ((aP r + aL r 0 - 1) / 32) := fun q => c2 ((nI_eq (by omega) (by omega)).mp q)
      by_cases c3 : aP r / 128 = (aP r + aL r 0 - 1) / 128
      · rw [if_pos c3]
        have c3' : nI (aP r / 128) = nI ((aP r + aL r 0 - 1) / 128) := by rw [c3]
        simp only [F_X6_binOf, l_0, l_1, l_2, l_3, l_4, l_5, l_6, l_7, l_8, l_9, l_10, l_11, l_12, l_13, l_14, l_15, l_16, l_17, l_18, l_19, l_20, l_21, l_24, l_25, l_26, l_27, l_31, l_33, l_41, l_65, l_67, l_71, l_84, l_120, l_127, l_128, l_130, l_160, l_162, l_200, l_255, l_256, l_999, l_1000, l_8000, l_9999, l_10000, l_8001, l_m1, l_32, t_k214 h, g0, g2, nI_add, e3, pd8, pd32, pd128, dv8 (show aP r < 256 by omega), dv8 (show aP r + aL r 0 - 1 < 256 by omega), dv32 (show aP r < 256 by omega), dv32 (show aP r + aL r 0 - 1 < 256 by omega), dv128 (show aP r < 256 by omega), dv128 (show aP r + aL r 0 - 1 < 256 by omega), c1', c2', c3', bd2_some, bdx_inl, bdx_inr, bdc_inl, bdc_inr, obd_some, ↓reduceIte]
        rw [c3]
      · rw [if_neg c3]
        have c3' : ¬ nI (aP r / 128) = nI ((aP r + aL r 0 - 1) / 128) := fun q => c3 ((nI_eq (by omega) (by omega)).mp q)
        simp only [F_X6_binOf, l_0, l_1, l_2, l_3, l_4, l_5, l_6, l_7, l_8, l_9, l_10, l_11, l_12, l_13, l_14, l_15, l_16, l_17, l_18, l_19, l_20, l_21, l_24, l_25, l_26, l_27, l_31, l_33, l_41, l_65, l_67, l_71, l_84, l_120, l_127, l_128, l_130, l_160, l_162, l_200, l_255, l_256, l_999, l_1000, l_8000, l_9999, l_10000, l_8001, l_m1, l_32, t_k214 h, g0, g2, nI_add, e3, pd8, pd32, pd128, dv8 (show aP r < 256 by omega), dv8 (show aP r + aL r 0 - 1 < 256 by omega), dv32 (show aP r < 256 by omega), dv32 (show aP r + aL r 0 - 1 < 256 by omega), dv128 (show aP r < 256 by omega), dv128 (show aP r + aL r 0 - 1 < 256 by omega), c1', c2', c3', bd2_some, bdx_inl, bdx_inr, bdc_inl, bdc_inr, obd_some, ↓reduceIte]
theorem M_about {i w : Int32} (hs : xOk s) (h : zMo z s S) : ∃ S', F_X6_about (z + 214) i w S = some ((o_about s i w).2, S') ∧ zMo z s S' ∧ zFr (z + 214) (z + 220) S S' ∧ mI S' (z + 214) 0 = (o_about s i w).1 := by
  obtain ⟨hS, hl, hf, hd, ht⟩ := id h
  have hl24 := hs.2.2.2.2.1
  have bad : F_X6_about (z + 214) i w S = some (nI 0, sI S (z + 214) 0 (nI 1)) → o_about s i w = (nI 1, nI 0) → ∃ S', F_X6_about (z + 214) i w S = some ((o_about s i w).2, S') ∧ zMo z s S' ∧ zFr (z + 214) (z + 220) S S' ∧ mI S' (z + 214) 0 = (o_about s i w).1 := by
    intro e1 e2
    rw [e2]
    exact ⟨_, e1, zMo_th h, zFr_th, by rw [mI_sI, if_pos ⟨rfl, rfl⟩]⟩
  by_cases c : i < nI 0 ∨ nI (xL s).length ≤ i
  · refine bad ?_ (if_pos (by rcases c with c | c; exact Or.inl c; exact Or.inr (Or.inl c)))
    simp only [F_X6_about, F_X6_about_J20, F_X6_about_J25, l_0, l_1, l_2, l_3, l_4, l_5, l_6, l_7, l_8, l_9, l_10, l_11, l_12, l_13, l_14, l_15, l_16, l_17, l_18, l_19, l_20, l_21, l_24, l_25, l_26, l_27, l_31, l_33, l_41, l_65, l_67, l_71, l_84, l_120, l_127, l_128, l_130, l_160, l_162, l_200, l_255, l_256, l_999, l_1000, l_8000, l_9999, l_10000, l_8001, l_m1, t_g214 hS, hl.1, m_out, c, ne10, t_k214 hS, m_th1 hS, bd2_some, bdx_inl, bdx_inr, bdc_inl, bdc_inr, obd_some, ↓reduceIte]
  by_cases c2 : w < nI 0 ∨ nI 5 ≤ w
  · refine bad ?_ (if_pos (Or.inr (Or.inr c2)))
    simp only [F_X6_about, F_X6_about_J20, F_X6_about_J25, l_0, l_1, l_2, l_3, l_4, l_5, l_6, l_7, l_8, l_9, l_10, l_11, l_12, l_13, l_14, l_15, l_16, l_17, l_18, l_19, l_20, l_21, l_24, l_25, l_26, l_27, l_31, l_33, l_41, l_65, l_67, l_71, l_84, l_120, l_127, l_128, l_130, l_160, l_162, l_200, l_255, l_256, l_999, l_1000, l_8000, l_9999, l_10000, l_8001, l_m1, t_g214 hS, hl.1, m_out, c, c2, ne10, t_k214 hS, m_th1 hS, bd2_some, bdx_inl, bdx_inr, bdc_inl, bdc_inr, obd_some, ↓reduceIte]
  obtain ⟨i', rfl, -, b3⟩ := in_of' (by omega) (fun e => c (Or.inl e)) (fun e => c (Or.inr e)) (by omega)
  have t1 : tn (nI i') = i' := tn_nI (by omega)
  obtain ⟨g1, g2⟩ := xAt_ok hs b3
  have h1 := zMo_th (x := nI 0) h
  have hr := h1.2.1.2 i' _ g1
  have hS1 := h1.1
  have n1 : 1 ≤ aN (xAt s i') := by have := g2.1.1; omega
  have r0 := m_get (i := i') (k := 0) hS1 (by omega)
  have r1 := m_get (i := i') (k := 1) hS1 (by omega)
  have r2 := m_get (i := i') (k := 2) hS1 (by omega)
  have r10 := m_get (i := i') (k := 10) hS1 (by omega)
  have e2 := (hr.2.1 0 n1).2.1
  rw [Nat.add_zero (41 * i'), hr.1.1] at r0
  rw [hr.1.2.2] at r1
  rw [show 2 + 0 = 2 from rfl] at e2
  rw [e2] at r2
  rw [hr.1.2.1] at r10
  have o1 := ok31 hs.1 g2
  have hb := m_bin (i := i') hS1 (by omega) hr n1 g2.2.2.1.1 o1.1 (g2.2.1.1 0 n1).2.1
  obtain ⟨w', rfl, -, b4⟩ := in_of' (by omega) (fun e => c2 (Or.inl e)) (fun e => c2 (Or.inr e)) (by omega)
  have hspec : o_about s (nI i') (nI w') = (nI 0, if nI w' = nI 0 then nI (aP (xAt s i')) else if nI w' = nI 1 then nI (aN (xAt s i')) else if nI w' = nI 2 then nI (aL (xAt s i') 0) else if nI w' = nI 3 then nI (aQ (xAt s i')) else nI (aBin (xAt s i'))) := by
    unfold o_about
    rw [if_neg (by
      rintro (e | e | e)
      · exact c (Or.inl e)
      · exact c (Or.inr e)
      · exact c2 e), t1]
  rw [hspec]
  refine ⟨sI S (z + 214) 0 (nI 0), ?_, h1, zFr_th, by rw [mI_sI, if_pos ⟨rfl, rfl⟩]⟩
  have d1 : ¬ nI 1 = nI 0 := by decide
  have d2 : ¬ nI 2 = nI 0 := by decide
  have d3 : ¬ nI 2 = nI 1 := by decide
  have d4 : ¬ nI 3 = nI 0 := by decide
  have d5 : ¬ nI 3 = nI 1 := by decide
  have d6 : ¬ nI 3 = nI 2 := by decide
  have d7 : ¬ nI 4 = nI 0 := by decide
  have d8 : ¬ nI 4 = nI 1 := by decide
  have d9 : ¬ nI 4 = nI 2 := by decide
  have d10 : ¬ nI 4 = nI 3 := by decide
  rcases (show w' = 0 ∨ w' = 1 ∨ w' = 2 ∨ w' = 3 ∨ w' = 4 by omega) with e | e | e | e | e <;> subst e
  · simp only [F_X6_about, F_X6_about_J25, l_0, l_1, l_2, l_3, l_4, l_5, l_6, l_7, l_8, l_9, l_10, l_11, l_12, l_13, l_14, l_15, l_16, l_17, l_18, l_19, l_20, l_21, l_24, l_25, l_26, l_27, l_31, l_33, l_41, l_65, l_67, l_71, l_84, l_120, l_127, l_128, l_130, l_160, l_162, l_200, l_255, l_256, l_999, l_1000, l_8000, l_9999, l_10000, l_8001, l_m1, t_g214 hS, hl.1, m_out, c, c2, t_k214 hS, m_th0 hS, t_k214 hS1, r0, bd2_some, bdx_inl, bdx_inr, bdc_inl, bdc_inr, obd_some, ↓reduceIte]
  · simp only [F_X6_about, F_X6_about_J25, l_0, l_1, l_2, l_3, l_4, l_5, l_6, l_7, l_8, l_9, l_10, l_11, l_12, l_13, l_14, l_15, l_16, l_17, l_18, l_19, l_20, l_21, l_24, l_25, l_26, l_27, l_31, l_33, l_41, l_65, l_67, l_71, l_84, l_120, l_127, l_128, l_130, l_160, l_162, l_200, l_255, l_256, l_999, l_1000, l_8000, l_9999, l_10000, l_8001, l_m1, t_g214 hS, hl.1, m_out, c, c2, t_k214 hS, m_th0 hS, t_k214 hS1, r1, d1, bd2_some, bdx_inl, bdx_inr, bdc_inl, bdc_inr, obd_some, ↓reduceIte]
  · simp only [F_X6_about, F_X6_about_J25, l_0, l_1, l_2, l_3, l_4, l_5, l_6, l_7, l_8, l_9, l_10, l_11, l_12, l_13, l_14, l_15, l_16, l_17, l_18, l_19, l_20, l_21, l_24, l_25, l_26, l_27, l_31, l_33, l_41, l_65, l_67, l_71, l_84, l_120, l_127, l_128, l_130, l_160, l_162, l_200, l_255, l_256, l_999, l_1000, l_8000, l_9999, l_10000, l_8001, l_m1, t_g214 hS, hl.1, m_out, c, c2, t_k214 hS, m_th0 hS, t_k214 hS1, r2, d2, d3, bd2_some, bdx_inl, bdx_inr, bdc_inl, bdc_inr, obd_some, ↓reduceIte]
  · simp only [F_X6_about, F_X6_about_J25, l_0, l_1, l_2, l_3, l_4, l_5, l_6, l_7, l_8, l_9, l_10, l_11, l_12, l_13, l_14, l_15, l_16, l_17, l_18, l_19, l_20, l_21, l_24, l_25, l_26, l_27, l_31, l_33, l_41, l_65, l_67, l_71, l_84, l_120, l_127, l_128, l_130, l_160, l_162, l_200, l_255, l_256, l_999, l_1000, l_8000, l_9999, l_10000, l_8001, l_m1, t_g214 hS, hl.1, m_out, c, c2, t_k214 hS, m_th0 hS, t_k214 hS1, r10, d4, d5, d6, bd2_some, bdx_inl, bdx_inr, bdc_inl, bdc_inr, obd_some, ↓reduceIte]
  · simp only [F_X6_about, F_X6_about_J25, l_0, l_1, l_2, l_3, l_4, l_5, l_6, l_7, l_8, l_9, l_10, l_11, l_12, l_13, l_14, l_15, l_16, l_17, l_18, l_19, l_20, l_21, l_24, l_25, l_26, l_27, l_31, l_33, l_41, l_65, l_67, l_71, l_84, l_120, l_127, l_128, l_130, l_160, l_162, l_200, l_255, l_256, l_999, l_1000, l_8000, l_9999, l_10000, l_8001, l_m1, t_g214 hS, hl.1, m_out, c, c2, t_k214 hS, m_th0 hS, t_k214 hS1, hb, d7, d8, d9, d10, bd2_some, bdx_inl, bdx_inr, bdc_inl, bdc_inr, obd_some, ↓reduceIte]
theorem M_base {i a j : Int32} (hs : xOk s) (h : zMo z s S) : ∃ S', F_X6_base (z + 214) i a j S = some ((o_base s i a j).2, S') ∧ zMo z s S' ∧ zFr (z + 214) (z + 220) S S' ∧ mI S' (z + 214) 0 = (o_base s i a j).1 := by
  obtain ⟨hS, hl, hf, hd, ht⟩ := id h
  have hl24 := hs.2.2.2.2.1
  have bad : F_X6_base (z + 214) i a j S = some (nI 0, sI S (z + 214) 0 (nI 1)) → o_base s i a j = (nI 1, nI 0) → ∃ S', F_X6_base (z + 214) i a j S = some ((o_base s i a j).2, S') ∧ zMo z s S' ∧ zFr (z + 214) (z + 220) S S' ∧ mI S' (z + 214) 0 = (o_base s i a j).1 := by
    intro e1 e2
    rw [e2]
    exact ⟨_, e1, zMo_th h, zFr_th, by rw [mI_sI, if_pos ⟨rfl, rfl⟩]⟩
  have b24 : F_X6_base_J24 (z + 214) i a j S = some (nI 0, sI S (z + 214) 0 (nI 1)) := by
    by_cases e1 : j < m1
    · simp only [F_X6_base_J24, F_X6_base_J29, F_X6_base_J48, F_X6_base_J64, F_X6_base_J69, l_0, l_1, l_2, l_3, l_4, l_5, l_6, l_7, l_8, l_9, l_10, l_11, l_12, l_13, l_14, l_15, l_16, l_17, l_18, l_19, l_20, l_21, l_24, l_25, l_26, l_27, l_31, l_33, l_41, l_65, l_67, l_71, l_84, l_120, l_127, l_128, l_130, l_160, l_162, l_200, l_255, l_256, l_999, l_1000, l_8000, l_9999, l_10000, l_8001, l_m1, e1, ne10, t_k214 hS, m_th1 hS, bd2_some, bdx_inl, bdx_inr, bdc_inl, bdc_inr, obd_some, ↓reduceIte]
    · by_cases e2 : j < nI 0
      · simp only [F_X6_base_J24, F_X6_base_J29, F_X6_base_J48, F_X6_base_J64, F_X6_base_J69, l_0, l_1, l_2, l_3, l_4, l_5, l_6, l_7, l_8, l_9, l_10, l_11, l_12, l_13, l_14, l_15, l_16, l_17, l_18, l_19, l_20, l_21, l_24, l_25, l_26, l_27, l_31, l_33, l_41, l_65, l_67, l_71, l_84, l_120, l_127, l_128, l_130, l_160, l_162, l_200, l_255, l_256, l_999, l_1000, l_8000, l_9999, l_10000, l_8001, l_m1, e1, e2, ne10, t_k214 hS, m_th1 hS, bd2_some, bdx_inl, bdx_inr, bdc_inl, bdc_inr, obd_some, ↓reduceIte]
      · simp only [F_X6_base_J24, F_X6_base_J29, F_X6_base_J48, F_X6_base_J64, F_X6_base_J69, l_0, l_1, l_2, l_3, l_4, l_5, l_6, l_7, l_8, l_9, l_10, l_11, l_12, l_13, l_14, l_15, l_16, l_17, l_18, l_19, l_20, l_21, l_24, l_25, l_26, l_27, l_31, l_33, l_41, l_65, l_67, l_71, l_84, l_120, l_127, l_128, l_130, l_160, l_162, l_200, l_255, l_256, l_999, l_1000, l_8000, l_9999, l_10000, l_8001, l_m1, e1, e2, ne10, t_k214 hS, m_th1 hS, bd2_some, bdx_inl, bdx_inr, bdc_inl, bdc_inr, obd_some, ↓reduceIte]
  by_cases c : i < nI 0 ∨ nI (xL s).length ≤ i
  · refine bad ?_ (if_pos c)
    simp only [F_X6_base, l_0, l_1, l_2, l_3, l_4, l_5, l_6, l_7, l_8, l_9, l_10, l_11, l_12, l_13, l_14, l_15, l_16, l_17, l_18, l_19, l_20, l_21, l_24, l_25, l_26, l_27, l_31, l_33, l_41, l_65, l_67, l_71, l_84, l_120, l_127, l_128, l_130, l_160, l_162, l_200, l_255, l_256, l_999, l_1000, l_8000, l_9999, l_10000, l_8001, l_m1, t_g214 hS, hl.1, m_out, c, ne10, bd2_some, bdx_inl, bdx_inr, bdc_inl, bdc_inr, obd_some, ↓reduceIte]
    exact b24
  have c' := c
  obtain ⟨i', rfl, -, b3⟩ := in_of' (by omega) (fun e => c (Or.inl e)) (fun e => c (Or.inr e)) (by omega)
  have t1 : tn (nI i') = i' := tn_nI (by omega)
  obtain ⟨g1, g2⟩ := xAt_ok hs b3
  have hr := hl.2 i' _ g1
  have n4 := g2.1.2
  have r1 := m_get (i := i') (k := 1) hS (by omega)
  rw [hr.1.2.2] at r1
  by_cases c2 : a < nI 0 ∨ nI (aN (xAt s i')) ≤ a
  · refine bad ?_ (by unfold o_base; rw [if_neg c, t1, if_pos c2])
    simp only [F_X6_base, l_0, l_1, l_2, l_3, l_4, l_5, l_6, l_7, l_8, l_9, l_10, l_11, l_12, l_13, l_14, l_15, l_16, l_17, l_18, l_19, l_20, l_21, l_24, l_25, l_26, l_27, l_31, l_33, l_41, l_65, l_67, l_71, l_84, l_120, l_127, l_128, l_130, l_160, l_162, l_200, l_255, l_256, l_999, l_1000, l_8000, l_9999, l_10000, l_8001, l_m1, t_g214 hS, hl.1, m_out, c, t_k214 hS, r1, c2, ne10, bd2_some, bdx_inl, bdx_inr, bdc_inl, bdc_inr, obd_some, ↓reduceIte]
    exact b24
  have c2' := c2
  obtain ⟨a', rfl, -, b4⟩ := in_of' (by omega) (fun e => c2 (Or.inl e)) (fun e => c2 (Or.inr e)) (by omega)
  have t2 : tn (nI a') = a' := tn_nI (by omega)
  have r2 := m_get (i := i') (k := 2 + a') hS (by omega)
  obtain ⟨s1, s2, s3⟩ := hr.2.1 a' b4
  rw [s2] at r2
  have hal := g2.2.1.1 a' b4
  have st : F_X6_base (z + 214) (nI i') (nI a') j S = F_X6_base_J48 (z + 214) (nI i') (nI a') j (nI 0) (nI (aL (xAt s i') a')) S := by
    simp only [F_X6_base, F_X6_base_J29, l_0, l_1, l_2, l_3, l_4, l_5, l_6, l_7, l_8, l_9, l_10, l_11, l_12, l_13, l_14, l_15, l_16, l_17, l_18, l_19, l_20, l_21, l_24, l_25, l_26, l_27, l_31, l_33, l_41, l_65, l_67, l_71, l_84, l_120, l_127, l_128, l_130, l_160, l_162, l_200, l_255, l_256, l_999, l_1000, l_8000, l_9999, l_10000, l_8001, l_m1, t_g214 hS, hl.1, m_out, c, t_k214 hS, r1, c2, nI_add, r2, bd2_some, bdx_inl, bdx_inr, bdc_inl, bdc_inr, obd_some, ↓reduceIte]
  rw [st]
  by_cases c3 : j < m1 ∨ nI (aL (xAt s i') a') ≤ j
  · rw [show o_base s (nI i') (nI a') j = (nI 2, nI 0) from by unfold o_base; rw [if_neg c, t1, if_neg c2, t2, if_pos c3]]
    refine ⟨sI S (z + 214) 0 (nI 2), ?_, zMo_th h, zFr_th, by rw [mI_sI, if_pos ⟨rfl, rfl⟩]⟩
    by_cases e1 : j < m1
    · simp only [F_X6_base_J48, F_X6_base_J64, F_X6_base_J69, l_0, l_1, l_2, l_3, l_4, l_5, l_6, l_7, l_8, l_9, l_10, l_11, l_12, l_13, l_14, l_15, l_16, l_17, l_18, l_19, l_20, l_21, l_24, l_25, l_26, l_27, l_31, l_33, l_41, l_65, l_67, l_71, l_84, l_120, l_127, l_128, l_130, l_160, l_162, l_200, l_255, l_256, l_999, l_1000, l_8000, l_9999, l_10000, l_8001, l_m1, e1, ne10, t_k214 hS, m_th2 hS, bd2_some, bdx_inl, bdx_inr, bdc_inl, bdc_inr, obd_some, ↓reduceIte]
    · have e2 : ¬ j < nI (aL (xAt s i') a') := Int32.not_lt.mpr (by rcases c3 with q | q; exact absurd q e1; exact q)
      simp only [F_X6_base_J48, F_X6_base_J64, F_X6_base_J69, l_0, l_1, l_2, l_3, l_4, l_5, l_6, l_7, l_8, l_9, l_10, l_11, l_12, l_13, l_14, l_15, l_16, l_17, l_18, l_19, l_20, l_21, l_24, l_25, l_26, l_27, l_31, l_33, l_41, l_65, l_67, l_71, l_84, l_120, l_127, l_128, l_130, l_160, l_162, l_200, l_255, l_256, l_999, l_1000, l_8000, l_9999, l_10000, l_8001, l_m1, e1, e2, ne10, t_k214 hS, m_th2 hS, bd2_some, bdx_inl, bdx_inr, bdc_inl, bdc_inr, obd_some, ↓reduceIte]
  have e1 : ¬ j < m1 := fun e => c3 (Or.inl e)
  have e2 : j < nI (aL (xAt s i') a') := Int32.not_le.mp (fun e => c3 (Or.inr e))
  have h1 := zMo_th (x := nI 0) h
  have hS1 := h1.1
  by_cases c4 : j = m1
  · rw [show o_base s (nI i') (nI a') j = (nI 0, nI (aL (xAt s i') a')) from by unfold o_base; rw [if_neg c, t1, if_neg c2, t2, if_neg c3, if_pos c4]]
    refine ⟨sI S (z + 214) 0 (nI 0), ?_, h1, zFr_th, by rw [mI_sI, if_pos ⟨rfl, rfl⟩]⟩
    have e3 : ¬ nI 0 ≤ j := by rw [c4]; decide
    simp only [F_X6_base_J48, F_X6_base_J69, l_0, l_1, l_2, l_3, l_4, l_5, l_6, l_7, l_8, l_9, l_10, l_11, l_12, l_13, l_14, l_15, l_16, l_17, l_18, l_19, l_20, l_21, l_24, l_25, l_26, l_27, l_31, l_33, l_41, l_65, l_67, l_71, l_84, l_120, l_127, l_128, l_130, l_160, l_162, l_200, l_255, l_256, l_999, l_1000, l_8000, l_9999, l_10000, l_8001, l_m1, e1, e2, e3, t_k214 hS, m_th0 hS, bd2_some, bdx_inl, bdx_inr, bdc_inl, bdc_inr, obd_some, ↓reduceIte]
  have c5 : ¬ j < nI 0 := by
    rcases m1_iff (x := j) with e | e | e
    · exact absurd e e1
    · exact absurd e c4
    · exact e
  obtain ⟨j', rfl, -, b5⟩ := in_of' (by omega) c5 (Int32.not_le.mpr e2) (by omega)
  have t3 : tn (nI j') = j' := tn_nI (by omega)
  rw [show o_base s (nI i') (nI a') (nI j') = (nI 0, nI (aB (xAt s i') a' / 4 ^ (aL (xAt s i') a' - 1 - j') % 4)) from by unfold o_base; rw [if_neg c, t1, if_neg c2, t2, if_neg c3, if_neg c4, t3]]
  refine ⟨sI S (z + 214) 0 (nI 0), ?_, h1, zFr_th, by rw [mI_sI, if_pos ⟨rfl, rfl⟩]⟩
  have e3 : nI 0 ≤ nI j' := nI_le (by omega) (by omega)
  have r6 := m_get (i := i') (k := 6 + a') hS1 (by omega)
  rw [th_W (by omega), s1] at r6
  have := p4_8 hal.2.1
  have e4 : nI (aB (xAt s i') a') >>> (nI 2 * (nI (aL (xAt s i') a') - nI 1 - nI j') &&& nI 31) &&& nI 3 = nI (aB (xAt s i') a' / 4 ^ (aL (xAt s i') a' - 1 - j') % 4) := by
    rw [nI_sub1 (by omega), nI_sub (by omega), nI_mul, b_31 (by omega), b_shr (by omega) (by omega), b_and3, four_two]
  simp only [F_X6_base_J48, F_X6_base_J69, l_0, l_1, l_2, l_3, l_4, l_5, l_6, l_7, l_8, l_9, l_10, l_11, l_12, l_13, l_14, l_15, l_16, l_17, l_18, l_19, l_20, l_21, l_24, l_25, l_26, l_27, l_31, l_33, l_41, l_65, l_67, l_71, l_84, l_120, l_127, l_128, l_130, l_160, l_162, l_200, l_255, l_256, l_999, l_1000, l_8000, l_9999, l_10000, l_8001, l_m1, e1, e2, e3, t_k214 hS, m_th0 hS, t_k214 hS1, nI_add, r6, e4, bd2_some, bdx_inl, bdx_inr, bdc_inl, bdc_inr, obd_some, ↓reduceIte]
theorem m_bad {b e : Int32} : F_X6_isBad (z + 214) b e S = some (if bad2 b e = true then nI 1 else nI 0, S) := by
  unfold bad2
  by_cases c1 : b < nI 1
  · simp only [F_X6_isBad, F_X6_isBad_J17, l_0, l_1, l_2, l_3, l_4, l_5, l_6, l_7, l_8, l_9, l_10, l_11, l_12, l_13, l_14, l_15, l_16, l_17, l_18, l_19, l_20, l_21, l_24, l_25, l_26, l_27, l_31, l_33, l_41, l_65, l_67, l_71, l_84, l_120, l_127, l_128, l_130, l_160, l_162, l_200, l_255, l_256, l_999, l_1000, l_8000, l_9999, l_10000, l_8001, l_m1, c1, true_or, decide_true, ↓reduceIte]
  · by_cases c2 : e < b
    · simp only [F_X6_isBad, F_X6_isBad_J17, l_0, l_1, l_2, l_3, l_4, l_5, l_6, l_7, l_8, l_9, l_10, l_11, l_12, l_13, l_14, l_15, l_16, l_17, l_18, l_19, l_20, l_21, l_24, l_25, l_26, l_27, l_31, l_33, l_41, l_65, l_67, l_71, l_84, l_120, l_127, l_128, l_130, l_160, l_162, l_200, l_255, l_256, l_999, l_1000, l_8000, l_9999, l_10000, l_8001, l_m1, c1, c2, true_or, or_true, decide_true, ↓reduceIte]
    · by_cases c3 : nI 255 < e
      · have c3' : ¬ e ≤ nI 255 := Int32.not_le.mpr c3
        simp only [F_X6_isBad, F_X6_isBad_J17, l_0, l_1, l_2, l_3, l_4, l_5, l_6, l_7, l_8, l_9, l_10, l_11, l_12, l_13, l_14, l_15, l_16, l_17, l_18, l_19, l_20, l_21, l_24, l_25, l_26, l_27, l_31, l_33, l_41, l_65, l_67, l_71, l_84, l_120, l_127, l_128, l_130, l_160, l_162, l_200, l_255, l_256, l_999, l_1000, l_8000, l_9999, l_10000, l_8001, l_m1, c1, c2, c3, c3', or_true, decide_true, ↓reduceIte]
      · have c3' : e ≤ nI 255 := Int32.not_lt.mp c3
        simp only [F_X6_isBad, F_X6_isBad_J17, l_0, l_1, l_2, l_3, l_4, l_5, l_6, l_7, l_8, l_9, l_10, l_11, l_12, l_13, l_14, l_15, l_16, l_17, l_18, l_19, l_20, l_21, l_24, l_25, l_26, l_27, l_31, l_33, l_41, l_65, l_67, l_71, l_84, l_120, l_127, l_128, l_130, l_160, l_162, l_200, l_255, l_256, l_999, l_1000, l_8000, l_9999, l_10000, l_8001, l_m1, c1, c2, c3, c3', or_self, decide_false, ↓reduceIte, Bool.false_eq_true]
theorem m_spans {b e : Int32} (h : zSt z S) (hi : i < 24) (hr : zMR (mI S (z + 216)) (41 * i) r) (hn : 1 ≤ aN r) : F_X6_spans (z + 214) (nI i) b e S = some (if spn b e r = true then nI 1 else nI 0, S) := by
  have g0 := m_get (i := i) (k := 0) h (by omega)
  have g2 := m_get (i := i) (k := 2) h (by omega)
  have e2 := (hr.2.1 0 (by omega)).2.1
  rw [Nat.add_zero (41 * i), hr.1.1] at g0
  rw [show 2 + 0 = 2 from rfl] at e2
  rw [e2] at g2
  unfold spn
  by_cases c1 : e < nI (aP r)
  · have c1' : ¬ nI (aP r) ≤ e := Int32.not_le.mpr c1
    simp only [F_X6_spans, l_0, l_1, l_2, l_3, l_4, l_5, l_6, l_7, l_8, l_9, l_10, l_11, l_12, l_13, l_14, l_15, l_16, l_17, l_18, l_19, l_20, l_21, l_24, l_25, l_26, l_27, l_31, l_33, l_41, l_65, l_67, l_71, l_84, l_120, l_127, l_128, l_130, l_160, l_162, l_200, l_255, l_256, l_999, l_1000, l_8000, l_9999, l_10000, l_8001, l_m1, t_k214 h, g0, c1, c1', false_and, decide_false, Bool.false_eq_true, bd2_some, bdx_inl, bdx_inr, bdc_inl, bdc_inr, obd_some, ↓reduceIte]
  · have c1' : nI (aP r) ≤ e := Int32.not_lt.mp c1
    by_cases c2 : nI (aP r + aL r 0) ≤ b
    · have c2' : ¬ b < nI (aP r + aL r 0) := Int32.not_lt.mpr c2
      simp only [F_X6_spans, l_0, l_1, l_2, l_3, l_4, l_5, l_6, l_7, l_8, l_9, l_10, l_11, l_12, l_13, l_14, l_15, l_16, l_17, l_18, l_19, l_20, l_21, l_24, l_25, l_26, l_27, l_31, l_33, l_41, l_65, l_67, l_71, l_84, l_120, l_127, l_128, l_130, l_160, l_162, l_200, l_255, l_256, l_999, l_1000, l_8000, l_9999, l_10000, l_8001, l_m1, t_k214 h, g0, g2, nI_add, c1, c1', c2, c2', and_false, decide_false, Bool.false_eq_true, bd2_some, bdx_inl, bdx_inr, bdc_inl, bdc_inr, obd_some, ↓reduceIte]
    · have c2' : b < nI (aP r + aL r 0) := Int32.not_le.mp c2
      simp only [F_X6_spans, l_0, l_1, l_2, l_3, l_4, l_5, l_6, l_7, l_8, l_9, l_10, l_11, l_12, l_13, l_14, l_15, l_16, l_17, l_18, l_19, l_20, l_21, l_24, l_25, l_26, l_27, l_31, l_33, l_41, l_65, l_67, l_71, l_84, l_120, l_127, l_128, l_130, l_160, l_162, l_200, l_255, l_256, l_999, l_1000, l_8000, l_9999, l_10000, l_8001, l_m1, t_k214 h, g0, g2, nI_add, c1, c1', c2, c2', and_self, decide_true, bd2_some, bdx_inl, bdx_inr, bdc_inl, bdc_inr, obd_some, ↓reduceIte]
theorem m_found_L {b e : Int32} (h : zSt z S) (hl : zMl z S ls) (h2 : ls.length ≤ 24) (hB : ∀ t, t ∈ ls → 1 ≤ aN t) : ∀ (m fu j k : Nat), j + m = ls.length → m < fu → F_X6_found_L21 fu (z + 214) b e (nI k) (nI j) S = some (nI (k + cnt b e (ls.drop j)), S) := by
  intro m
  induction m with
  | zero =>
    intro fu j k hj hf
    obtain ⟨fu, rfl⟩ : ∃ f, fu = f + 1 := ⟨fu - 1, by omega⟩
    have h1 : nI ls.length ≤ nI j := nI_le (by omega) (by omega)
    rw [List.drop_eq_nil_of_le (by omega)]
    simp only [F_X6_found_L21, l_0, l_1, l_2, l_3, l_4, l_5, l_6, l_7, l_8, l_9, l_10, l_11, l_12, l_13, l_14, l_15, l_16, l_17, l_18, l_19, l_20, l_21, l_24, l_25, l_26, l_27, l_31, l_33, l_41, l_65, l_67, l_71, l_84, l_120, l_127, l_128, l_130, l_160, l_162, l_200, l_255, l_256, l_999, l_1000, l_8000, l_9999, l_10000, l_8001, l_m1, t_g214 h, hl.1, h1, bd2_some, bdx_inl, bdx_inr, bdc_inl, bdc_inr, obd_some, ↓reduceIte, cnt, Nat.add_zero]
  | succ m ih =>
    intro fu j k hj hf
    obtain ⟨fu, rfl⟩ : ∃ f, fu = f + 1 := ⟨fu - 1, by omega⟩
    have h1 : ¬ nI ls.length ≤ nI j := nI_ge (by omega) (by omega)
    have h4 : j < ls.length := by omega
    have hc := hl.2 j ls[j] (List.getElem?_eq_getElem h4)
    have hsp := m_spans (b := b) (e := e) (i := j) h (by omega) hc (hB _ (List.getElem_mem h4))
    rw [List.drop_eq_getElem_cons h4]
    by_cases c : spn b e ls[j] = true
    · rw [if_pos c] at hsp
      rw [cnt, if_pos c, ← Nat.add_assoc]
      refine Eq.trans ?_ (ih fu (j + 1) (k + 1) (by omega) (by omega))
      simp only [F_X6_found_L21, F_X6_found_J48, l_0, l_1, l_2, l_3, l_4, l_5, l_6, l_7, l_8, l_9, l_10, l_11, l_12, l_13, l_14, l_15, l_16, l_17, l_18, l_19, l_20, l_21, l_24, l_25, l_26, l_27, l_31, l_33, l_41, l_65, l_67, l_71, l_84, l_120, l_127, l_128, l_130, l_160, l_162, l_200, l_255, l_256, l_999, l_1000, l_8000, l_9999, l_10000, l_8001, l_m1, t_g214 h, hl.1, h1, t_k214 h, hsp, ne10, nI_add, bd2_some, bdx_inl, bdx_inr, bdc_inl, bdc_inr, obd_some, ↓reduceIte]
    · rw [if_neg c] at hsp
      rw [cnt, if_neg c, Nat.zero_add]
      refine Eq.trans ?_ (ih fu (j + 1) k (by omega) (by omega))
      simp only [F_X6_found_L21, F_X6_found_J48, l_0, l_1, l_2, l_3, l_4, l_5, l_6, l_7, l_8, l_9, l_10, l_11, l_12, l_13, l_14, l_15, l_16, l_17, l_18, l_19, l_20, l_21, l_24, l_25, l_26, l_27, l_31, l_33, l_41, l_65, l_67, l_71, l_84, l_120, l_127, l_128, l_130, l_160, l_162, l_200, l_255, l_256, l_999, l_1000, l_8000, l_9999, l_10000, l_8001, l_m1, t_g214 h, hl.1, h1, t_k214 h, hsp, nI_add, bd2_some, bdx_inl, bdx_inr, bdc_inl, bdc_inr, obd_some, ↓reduceIte]
theorem M_found {b e : Int32} (hs : xOk s) (h : zMo z s S) : ∃ S', F_X6_found (z + 214) b e S = some ((o_found s b e).2, S') ∧ zMo z s S' ∧ zFr (z + 214) (z + 220) S S' ∧ mI S' (z + 214) 0 = (o_found s b e).1 := by
  obtain ⟨hS, hl, hf, hd, ht⟩ := id h
  have hl24 := hs.2.2.2.2.1
  have hb := m_bad (z := z) (b := b) (e := e) (S := S)
  by_cases c : bad2 b e = true
  · rw [if_pos c] at hb
    rw [show o_found s b e = (nI 1, nI 0) from if_pos c]
    refine ⟨sI S (z + 214) 0 (nI 1), ?_, zMo_th h, zFr_th, by rw [mI_sI, if_pos ⟨rfl, rfl⟩]⟩
    simp only [F_X6_found, l_0, l_1, l_2, l_3, l_4, l_5, l_6, l_7, l_8, l_9, l_10, l_11, l_12, l_13, l_14, l_15, l_16, l_17, l_18, l_19, l_20, l_21, l_24, l_25, l_26, l_27, l_31, l_33, l_41, l_65, l_67, l_71, l_84, l_120, l_127, l_128, l_130, l_160, l_162, l_200, l_255, l_256, l_999, l_1000, l_8000, l_9999, l_10000, l_8001, l_m1, hb, ne10, t_k214 hS, m_th1 hS, bd2_some, bdx_inl, bdx_inr, bdc_inl, bdc_inr, obd_some, ↓reduceIte]
  rw [if_neg c] at hb
  have h1 := zMo_th (x := nI 0) h
  have hfd := m_found_L (b := b) (e := e) h1.1 h1.2.1 hl24 (fun t ht => by have := (hs.2.2.2.1 t ht).1.1; omega) (xL s).length FU 0 0 (by omega) (by show (xL s).length < 4000; omega)
  rw [Nat.zero_add, List.drop_zero] at hfd
  rw [show o_found s b e = (nI 0, nI (cnt b e (xL s))) from if_neg c]
  refine ⟨sI S (z + 214) 0 (nI 0), ?_, h1, zFr_th, by rw [mI_sI, if_pos ⟨rfl, rfl⟩]⟩
  simp only [F_X6_found, l_0, l_1, l_2, l_3, l_4, l_5, l_6, l_7, l_8, l_9, l_10, l_11, l_12, l_13, l_14, l_15, l_16, l_17, l_18, l_19, l_20, l_21, l_24, l_25, l_26, l_27, l_31, l_33, l_41, l_65, l_67, l_71, l_84, l_120, l_127, l_128, l_130, l_160, l_162, l_200, l_255, l_256, l_999, l_1000, l_8000, l_9999, l_10000, l_8001, l_m1, hb, t_k214 hS, m_th0 hS, bd2_some, bdx_inl, bdx_inr, bdc_inl, bdc_inr, obd_some, ↓reduceIte]
  exact hfd
theorem m_mean_L {b e x1 : Int32} (h : zSt z S) (hl : zMl z S ls) (h2 : ls.length ≤ 24) (hB : ∀ t, t ∈ ls → 1 ≤ aN t ∧ aQ t ≤ 8000) : ∀ (m fu j k : Nat) (x : UInt32), j + m = ls.length → m < fu → k ≤ j → fPos x → F_X6_mean_L16 fu (z + 214) b e x1 (nI k) x (nI j) S = F_X6_mean_J77 (nI (k + cnt b e (ls.drop j))) (sm8 b e (ls.drop j) x) (z + 214) x1 (if k + cnt b e (ls.drop j) = 0 then nI 1 else nI 0) S := by
  intro m
  induction m with
  | zero =>
    intro fu j k x hj hf hk hx
    obtain ⟨fu, rfl⟩ : ∃ f, fu = f + 1 := ⟨fu - 1, by omega⟩
    have h1 : nI ls.length ≤ nI j := nI_le (by omega) (by omega)
    rw [List.drop_eq_nil_of_le (by omega)]
    by_cases c : k = 0
    · subst c
      simp only [F_X6_mean_L16, l_0, l_1, l_2, l_3, l_4, l_5, l_6, l_7, l_8, l_9, l_10, l_11, l_12, l_13, l_14, l_15, l_16, l_17, l_18, l_19, l_20, l_21, l_24, l_25, l_26, l_27, l_31, l_33, l_41, l_65, l_67, l_71, l_84, l_120, l_127, l_128, l_130, l_160, l_162, l_200, l_255, l_256, l_999, l_1000, l_8000, l_9999, l_10000, l_8001, l_m1, t_g214 h, hl.1, h1, bd2_some, bdx_inl, bdx_inr, bdc_inl, bdc_inr, obd_some, ↓reduceIte, cnt, sm8, Nat.add_zero]
    · have c' : ¬ nI k = nI 0 := fun q => c ((nI_eq (by omega) (by omega)).mp q)
      simp only [F_X6_mean_L16, l_0, l_1, l_2, l_3, l_4, l_5, l_6, l_7, l_8, l_9, l_10, l_11, l_12, l_13, l_14, l_15, l_16, l_17, l_18, l_19, l_20, l_21, l_24, l_25, l_26, l_27, l_31, l_33, l_41, l_65, l_67, l_71, l_84, l_120, l_127, l_128, l_130, l_160, l_162, l_200, l_255, l_256, l_999, l_1000, l_8000, l_9999, l_10000, l_8001, l_m1, t_g214 h, hl.1, h1, bd2_some, bdx_inl, bdx_inr, bdc_inl, bdc_inr, obd_some, ↓reduceIte, cnt, sm8, Nat.add_zero, c, c']
  | succ m ih =>
    intro fu j k x hj hf hk hx
    obtain ⟨fu, rfl⟩ : ∃ f, fu = f + 1 := ⟨fu - 1, by omega⟩
    have h1 : ¬ nI ls.length ≤ nI j := nI_ge (by omega) (by omega)
    have h4 : j < ls.length := by omega
    have hc := hl.2 j ls[j] (List.getElem?_eq_getElem h4)
    obtain ⟨hn1, hQ⟩ := hB _ (List.getElem_mem h4)
    have hsp := m_spans (b := b) (e := e) (i := j) h (by omega) hc hn1
    rw [List.drop_eq_getElem_cons h4]
    by_cases c : spn b e ls[j] = true
    · rw [if_pos c] at hsp
      have g10 := m_get (i := j) (k := 10) h (by omega)
      rw [hc.1.2.1] at g10
      have e1 := pfmul_p (fPos_i2f (q := aQ ls[j]) (by omega))
      have e2 := pfadd_p hx (fPos_mul8 (fPos_i2f (q := aQ ls[j]) (by omega)))
      have IH := ih fu (j + 1) (k + 1) _ (by omega) (by omega) (by omega) (fPos_add hx (fPos_mul8 (fPos_i2f (q := aQ ls[j]) (by omega))))
      rw [cnt, sm8, if_pos c, if_pos c]
      rw [Nat.add_assoc] at IH
      refine Eq.trans ?_ IH
      simp only [F_X6_mean_L16, F_X6_mean_J59, l_0, l_1, l_2, l_3, l_4, l_5, l_6, l_7, l_8, l_9, l_10, l_11, l_12, l_13, l_14, l_15, l_16, l_17, l_18, l_19, l_20, l_21, l_24, l_25, l_26, l_27, l_31, l_33, l_41, l_65, l_67, l_71, l_84, l_120, l_127, l_128, l_130, l_160, l_162, l_200, l_255, l_256, l_999, l_1000, l_8000, l_9999, l_10000, l_8001, l_m1, t_g214 h, hl.1, h1, t_k214 h, hsp, ne10, g10, e1, e2, nI_add, bd2_some, bdx_inl, bdx_inr, bdc_inl, bdc_inr, obd_some, ↓reduceIte]
    · rw [if_neg c] at hsp
      have IH := ih fu (j + 1) k x (by omega) (by omega) (by omega) hx
      rw [cnt, sm8, if_neg c, if_neg c, Nat.zero_add]
      refine Eq.trans ?_ IH
      simp only [F_X6_mean_L16, F_X6_mean_J59, l_0, l_1, l_2, l_3, l_4, l_5, l_6, l_7, l_8, l_9, l_10, l_11, l_12, l_13, l_14, l_15, l_16, l_17, l_18, l_19, l_20, l_21, l_24, l_25, l_26, l_27, l_31, l_33, l_41, l_65, l_67, l_71, l_84, l_120, l_127, l_128, l_130, l_160, l_162, l_200, l_255, l_256, l_999, l_1000, l_8000, l_9999, l_10000, l_8001, l_m1, t_g214 h, hl.1, h1, t_k214 h, hsp, nI_add, bd2_some, bdx_inl, bdx_inr, bdc_inl, bdc_inr, obd_some, ↓reduceIte]
theorem M_mean {b e : Int32} (hs : xOk s) (h : zMo z s S) : ∃ S' v, F_X6_mean (z + 214) b e S = some (v, S') ∧ zMo z s S' ∧ zFr (z + 214) (z + 220) S S' ∧ mI S' (z + 214) 0 = (o_mean s b e).1 ∧ ((o_mean s b e).1 = nI 0 → v = (o_mean s b e).2) := by
  obtain ⟨hS, hl, hf, hd, ht⟩ := id h
  have hl24 := hs.2.2.2.2.1
  have hb := m_bad (z := z) (b := b) (e := e) (S := S)
  have hfd := fun x1 => m_mean_L (b := b) (e := e) (x1 := x1) hS hl hl24 (fun t ht => ⟨by have := (hs.2.2.2.1 t ht).1.1; omega, (hs.2.2.2.1 t ht).2.2.2.1⟩) (xL s).length FU 0 0 _ (by omega) (by show (xL s).length < 4000; omega) (by omega) fPos_0
  have hp := sm8_pos b e (xL s) _ (fun r hr => (hs.2.2.2.1 r hr).2.2.2.1) fPos_0
  simp only [Nat.zero_add, List.drop_zero] at hfd
  by_cases c : bad2 b e = true
  · rw [if_pos c] at hb
    rw [show o_mean s b e = (nI 1, 0) from if_pos c]
    refine ⟨sI S (z + 214) 0 (nI 1), FP.fconst0, ?_, zMo_th h, zFr_th, by rw [mI_sI, if_pos ⟨rfl, rfl⟩], fun e => absurd e ne10⟩
    simp only [F_X6_mean, l_0, l_1, l_2, l_3, l_4, l_5, l_6, l_7, l_8, l_9, l_10, l_11, l_12, l_13, l_14, l_15, l_16, l_17, l_18, l_19, l_20, l_21, l_24, l_25, l_26, l_27, l_31, l_33, l_41, l_65, l_67, l_71, l_84, l_120, l_127, l_128, l_130, l_160, l_162, l_200, l_255, l_256, l_999, l_1000, l_8000, l_9999, l_10000, l_8001, l_m1, hb, t_k214 hS, bd2_some, bdx_inl, bdx_inr, bdc_inl, bdc_inr, obd_some]
    refine (hfd (nI 1)).trans ?_
    simp only [F_X6_mean_J77, l_0, l_1, l_2, l_3, l_4, l_5, l_6, l_7, l_8, l_9, l_10, l_11, l_12, l_13, l_14, l_15, l_16, l_17, l_18, l_19, l_20, l_21, l_24, l_25, l_26, l_27, l_31, l_33, l_41, l_65, l_67, l_71, l_84, l_120, l_127, l_128, l_130, l_160, l_162, l_200, l_255, l_256, l_999, l_1000, l_8000, l_9999, l_10000, l_8001, l_m1, t_k214 hS, m_th1 hS, ne10, bd2_some, bdx_inl, bdx_inr, bdc_inl, bdc_inr, obd_some, ↓reduceIte]
  rw [if_neg c] at hb
  by_cases c2 : cnt b e (xL s) = 0
  · rw [show o_mean s b e = (nI 2, 0) from by unfold o_mean; rw [if_neg c, if_pos c2]]
    refine ⟨sI S (z + 214) 0 (nI 2), FP.fconst0, ?_, zMo_th h, zFr_th, by rw [mI_sI, if_pos ⟨rfl, rfl⟩], fun e => absurd e n20⟩
    simp only [F_X6_mean, l_0, l_1, l_2, l_3, l_4, l_5, l_6, l_7, l_8, l_9, l_10, l_11, l_12, l_13, l_14, l_15, l_16, l_17, l_18, l_19, l_20, l_21, l_24, l_25, l_26, l_27, l_31, l_33, l_41, l_65, l_67, l_71, l_84, l_120, l_127, l_128, l_130, l_160, l_162, l_200, l_255, l_256, l_999, l_1000, l_8000, l_9999, l_10000, l_8001, l_m1, hb, t_k214 hS, bd2_some, bdx_inl, bdx_inr, bdc_inl, bdc_inr, obd_some]
    refine (hfd (nI 0)).trans ?_
    simp only [F_X6_mean_J77, l_0, l_1, l_2, l_3, l_4, l_5, l_6, l_7, l_8, l_9, l_10, l_11, l_12, l_13, l_14, l_15, l_16, l_17, l_18, l_19, l_20, l_21, l_24, l_25, l_26, l_27, l_31, l_33, l_41, l_65, l_67, l_71, l_84, l_120, l_127, l_128, l_130, l_160, l_162, l_200, l_255, l_256, l_999, l_1000, l_8000, l_9999, l_10000, l_8001, l_m1, c2, t_k214 hS, m_th2 hS, ne10, bd2_some, bdx_inl, bdx_inr, bdc_inl, bdc_inr, obd_some, ↓reduceIte]
  · rw [show o_mean s b e = (nI 0, FP.fdiv (sm8 b e (xL s) FP.fconst0) (FP.i2f (nI (cnt b e (xL s))))) from by unfold o_mean; rw [if_neg c, if_neg c2]]
    have hle := cnt_le b e (xL s)
    have hd := pfdiv_p (n := cnt b e (xL s)) hp (by omega) (by omega)
    refine ⟨sI S (z + 214) 0 (nI 0), _, ?_, zMo_th h, zFr_th, by rw [mI_sI, if_pos ⟨rfl, rfl⟩], fun _ => rfl⟩
    simp only [F_X6_mean, l_0, l_1, l_2, l_3, l_4, l_5, l_6, l_7, l_8, l_9, l_10, l_11, l_12, l_13, l_14, l_15, l_16, l_17, l_18, l_19, l_20, l_21, l_24, l_25, l_26, l_27, l_31, l_33, l_41, l_65, l_67, l_71, l_84, l_120, l_127, l_128, l_130, l_160, l_162, l_200, l_255, l_256, l_999, l_1000, l_8000, l_9999, l_10000, l_8001, l_m1, hb, t_k214 hS, bd2_some, bdx_inl, bdx_inr, bdc_inl, bdc_inr, obd_some]
    refine (hfd (nI 0)).trans ?_
    simp only [F_X6_mean_J77, l_0, l_1, l_2, l_3, l_4, l_5, l_6, l_7, l_8, l_9, l_10, l_11, l_12, l_13, l_14, l_15, l_16, l_17, l_18, l_19, l_20, l_21, l_24, l_25, l_26, l_27, l_31, l_33, l_41, l_65, l_67, l_71, l_84, l_120, l_127, l_128, l_130, l_160, l_162, l_200, l_255, l_256, l_999, l_1000, l_8000, l_9999, l_10000, l_8001, l_m1, c2, t_k214 hS, m_th0 hS, hd, bd2_some, bdx_inl, bdx_inr, bdc_inl, bdc_inr, obd_some, ↓reduceIte]
end M6
