set_option maxRecDepth 20000
section M12
variable {S S' S0 S1 S2 : Mem} {z n a b i j k o o' e q x m : Nat} {r : Rc} {s : As} {W W' R : Nat → Int32} {ls : List Rc} {t u : List Nat} {f : Nat → Nat}
theorem gI_p1 (g : Nat) : gI g + nI 1 = nI g := by
  cases g with
  | zero => decide
  | succ g => exact nI_add g 1
theorem m_w164 {K : Nat → Int32 → Int32 → Int32 → Mem → Option Mem} {fu g hh : Nat} {v2 : Int32} (h : zSt z S) (ho : zOu z S t) (hi : i < 30) (hm : m < 2) (hj : j < 2) (hg : mI S (z + 216) (41 * i + (15 + 3 * m + j)) = gI g) (hg4 : g ≤ 4) (hh1 : mI S (z + 216) (41 * i + (15 + 3 * m + 2)) = nI hh) (hh2 : hh ≤ 1) (hl : t.length < 130) : ∃ S', F_X6_writeOut_L164 K (fu + 1) (z + 214) (nI i) v2 (nI m) (nI j) S = F_X6_writeOut_L164 K fu (z + 214) (nI i) v2 (nI m) (nI (j + 1)) S' ∧ zOu z S' (t ++ [2 * g + hh]) ∧ zWo z S S' := by
  have c : ¬ nI 2 ≤ nI j := nI_ge (by omega) (by omega)
  have g1 := m_get (i := i) (k := 15 + 3 * m + j) h (by omega)
  rw [hg] at g1
  have g2 := m_get (i := i) (k := 15 + 3 * m + 2) h (by omega)
  rw [hh1] at g2
  obtain ⟨S1, p1, p2, p3⟩ := m_write (x := 2 * g + hh) h ho hl
  rw [Nat.mod_eq_of_lt (by omega)] at p2
  refine ⟨S1, ?_, p2, p3⟩
  simp only [F_X6_writeOut_L164, l_0, l_1, l_2, l_3, l_4, l_5, l_6, l_7, l_8, l_9, l_10, l_11, l_12, l_13, l_14, l_15, l_16, l_17, l_18, l_19, l_20, l_21, l_24, l_25, l_26, l_27, l_31, l_33, l_41, l_65, l_67, l_71, l_84, l_120, l_127, l_128, l_130, l_160, l_162, l_200, l_255, l_256, l_999, l_1000, l_8000, l_9999, l_10000, l_8001, l_m1, c, t_k214 h, nI_mul, nI_add, g1, g2, gI_p1, p1, bd2_some, bdx_inl, bdx_inr, bdc_inl, bdc_inr, obd_some, ↓reduceIte]
theorem m_wsm {fu : Nat} (h : zSt z S) (ho : zOu z S t) (hi : i < 30) (hm : m < 2) (hr : zMR (mI S (z + 216)) (41 * i) r) (hw : aWr r) (hl : t.length + 24 ≤ 130) : ∃ S', F_X6_writeOut_L150 (fu + 1) (z + 214) (nI i) (nI (aN r)) (nI m) S = F_X6_writeOut_L150 fu (z + 214) (nI i) (nI (aN r)) (nI (m + 1)) S' ∧ zOu z S' (t ++ bSm r m) ∧ zWo z S S' := by
  have n4 := hw.1
  have p10 := prs_le n4
  obtain ⟨-, -, -, v1, v2, v3, v4, v5⟩ := id hw
  obtain ⟨-, -, ⟨r5, r6, r7, r8⟩, ⟨r9, r10⟩, r11⟩ := id hr
  have G1 : mI S (z + 216) (41 * i + (15 + 3 * m + 0)) = gI (aG r (2 * m)) := by
    rcases (show m = 0 ∨ m = 1 by omega) with e | e <;> subst e
    · exact r5
    · exact r7
  have G2 : mI S (z + 216) (41 * i + (15 + 3 * m + 1)) = gI (aG r (2 * m + 1)) := by
    rcases (show m = 0 ∨ m = 1 by omega) with e | e <;> subst e
    · exact r6
    · exact r8
  have H1 : mI S (z + 216) (41 * i + (15 + 3 * m + 2)) = nI (aH r m) := by
    rcases (show m = 0 ∨ m = 1 by omega) with e | e <;> subst e
    · exact r9
    · exact r10
  have K1 : ∀ j, j < prs (aN r) → mI S (z + 216) (41 * i + (21 + 10 * m + j)) = nI (aK r (10 * m + j)) := by
    intro j hj
    rcases (show m = 0 ∨ m = 1 by omega) with e | e <;> subst e
    · rw [show 21 + 10 * 0 + j = 21 + j by omega, show 10 * 0 + j = j by omega]; exact (r11 j hj).1
    · rw [show 21 + 10 * 1 + j = 31 + j by omega, show 10 * 1 + j = 10 + j by omega]; exact (r11 j hj).2
  have K2 : ∀ j, j < prs (aN r) → aK r (10 * m + j) ≤ 9999 := by
    intro j hj
    rcases (show m = 0 ∨ m = 1 by omega) with e | e <;> subst e
    · rw [show 10 * 0 + j = j by omega]; have := (v5 j hj).1; omega
    · rw [show 10 * 1 + j = 10 + j by omega]; have := (v5 j hj).2; omega
  obtain ⟨S1, a1, a2, a3⟩ := m_write (x := 33) h ho (by omega)
  rw [show 33 % 256 = 33 from rfl] at a2
  have h1 := zWo_St a3 h
  have L1 : (t ++ [33]).length = t.length + 1 := by rw [List.length_append]; rfl
  obtain ⟨S2, b1, b2, b3⟩ := m_w164 (K := F_X6_writeOut_L150 fu) (fu := 3997 + 1 + 1) (v2 := nI (aN r)) (j := 0) h1 a2 hi hm (by omega) (by rw [a3.2.2.1]; exact G1) (Nat.le_trans (v3 _ (by omega)) n4) (by rw [a3.2.2.1]; exact H1) (v4 m hm) (by omega)
  have h2 := zWo_St b3 h1
  have L2 : (t ++ [33] ++ [2 * aG r (2 * m) + aH r m]).length = t.length + 2 := by rw [List.length_append, L1]; rfl
  obtain ⟨S3, d1, d2, d3⟩ := m_w164 (K := F_X6_writeOut_L150 fu) (fu := 3997 + 1) (v2 := nI (aN r)) (j := 1) h2 b2 hi hm (by omega) (by rw [b3.2.2.1, a3.2.2.1]; exact G2) (Nat.le_trans (v3 _ (by omega)) n4) (by rw [b3.2.2.1, a3.2.2.1]; exact H1) (v4 m hm) (by omega)
  have h3 := zWo_St d3 h2
  have L3 : (t ++ [33] ++ [2 * aG r (2 * m) + aH r m] ++ [2 * aG r (2 * m + 1) + aH r m]).length = t.length + 3 := by rw [List.length_append, L2]; rfl
  obtain ⟨S4, e1, e2, e3⟩ := m_wrow (o := 21 + 10 * m) (n := prs (aN r)) (f := fun j => aK r (10 * m + j)) h3 d2 hi (by omega) p10 (fun j hj => by rw [d3.2.2.1, b3.2.2.1, a3.2.2.1]; exact K1 j hj) K2 (by omega)
  refine ⟨S4, ?_, ?_, zWo_trans a3 (zWo_trans b3 (zWo_trans d3 e3))⟩
  · have c : ¬ (2 : Int32) ≤ nI m := nI_ge (a := m) (b := 2) (by omega) (by omega)
    have a1' : F_X6_write (z + 214) 33 S = some S1 := a1
    rw [F_X6_writeOut_L150, if_neg c, t_k214 h, obd_some, a1', obd_some]
    show F_X6_writeOut_L164 (F_X6_writeOut_L150 fu) (3997 + 1 + 1 + 1) (z + 214) (nI i) (nI (aN r)) (nI m) (nI 0) S1 = _
    rw [b1]
    refine Eq.trans d1 ?_
    have c2 : (2 : Int32) ≤ nI (1 + 1) := by decide
    have mp := m_pairs (S := S3) n4
    rw [F_X6_writeOut_L164, if_pos c2, mp, bd2_some, t_k214 h3, obd_some]
    have e1' : F_X6_writeRow (z + 214) (nI i) (21 + 10 * nI m) (nI (prs (aN r))) S3 = some S4 := by
      rw [show (21 : Int32) + 10 * nI m = nI (21 + 10 * m) from by
        show nI 21 + nI 10 * nI m = _
        rw [nI_mul, nI_add]]
      exact e1
    rw [e1', obd_some]
    show F_X6_writeOut_L150 fu (z + 214) (nI i) (nI (aN r)) (nI m + nI 1) S4 = _
    rw [nI_add]
  · have : t ++ [33] ++ [2 * aG r (2 * m) + aH r m] ++ [2 * aG r (2 * m + 1) + aH r m] ++ bRow (fun j => aK r (10 * m + j)) (prs (aN r)) = t ++ bSm r m := by
      unfold bSm
      simp only [List.append_assoc, List.cons_append, List.nil_append]
    rw [this] at e2
    exact e2
theorem m_wout (h : zSt z S) (hi : i < 30) (hr : zMR (mI S (z + 216)) (41 * i) r) (hw : aWr r) (hL : ∀ j, j < aN r → 1 ≤ aL r j) (hB : ∀ j, j < aN r → aB r j < 65536) : ∃ S', F_X6_writeOut (z + 214) (nI i) S = some S' ∧ zOu z S' (bts r) ∧ zWo z S S' := by
  have n4 := hw.1
  have p10 := prs_le n4
  obtain ⟨-, -, hP, v1, v2, v3, v4, v5⟩ := id hw
  obtain ⟨⟨r1, r2, r3⟩, r4, -⟩ := id hr
  obtain ⟨S0, e0⟩ : ∃ T, T = sI S (z + 214) 7 (nI 0) := ⟨_, rfl⟩
  have k0 := t_p214 (j := 7) (x := nI 0) h
  rw [← e0] at k0
  have h0 : zSt z S0 := by rw [e0]; exact h
  have f0 : zWo z S S0 := by
    rw [e0]
    exact ⟨zFr_sI (by omega) (by omega), by rw [mI_sI_r, if_neg (by omega)], by rw [mI_sI_r, if_neg (by omega)], fun q hq => by rw [mI_sI, if_neg (by omega)]⟩
  have o0 : zOu z S0 [] := ⟨by rw [e0, mI_sI, if_pos ⟨rfl, rfl⟩]; rfl, fun i b hb => by simp at hb⟩
  have get : ∀ (T : Mem) (k : Nat) (v : Nat), zWo z S T → k < 41 → mI S (z + 216) (41 * i + k) = nI v → F_X6_get (z + 214) (nI i) (nI k) T = some (nI v, T) := by
    intro T k v hT hk hv
    rw [m_get (zWo_St hT h) (by omega), hT.2.2.1, hv]
  have r1' : mI S (z + 216) (41 * i + 0) = nI (aP r) := r1
  obtain ⟨S1, a1, a2, a3⟩ := m_write (x := aP r) h0 o0 (by simp)
  have f1 := zWo_trans f0 a3
  have h1 := zWo_St f1 h
  obtain ⟨S2, b1, b2, b3⟩ := m_write (x := aP r / 256) h1 a2 (by simp)
  have f2 := zWo_trans f1 b3
  have h2 := zWo_St f2 h
  obtain ⟨S3, c1, c2, c3⟩ := m_write (x := aQ r) h2 b2 (by simp)
  have f3 := zWo_trans f2 c3
  have h3 := zWo_St f3 h
  obtain ⟨S4, d1, d2, d3⟩ := m_write (x := aQ r / 256) h3 c2 (by simp)
  have f4 := zWo_trans f3 d3
  have h4 := zWo_St f4 h
  obtain ⟨S5, x1, x2, x3⟩ := m_write (x := aN r) h4 d2 (by simp)
  have f5 := zWo_trans f4 x3
  have h5 := zWo_St f5 h
  have hd : [] ++ [aP r % 256] ++ [aP r / 256 % 256] ++ [aQ r % 256] ++ [aQ r / 256 % 256] ++ [aN r % 256] = [aP r % 256, aP r / 256, aQ r % 256, aQ r / 256, aN r] := by
    rw [Nat.mod_eq_of_lt (show aP r / 256 < 256 by omega), Nat.mod_eq_of_lt (show aQ r / 256 < 256 by omega), Nat.mod_eq_of_lt (show aN r < 256 by omega)]
    rfl
  rw [hd] at x2
  obtain ⟨S6, fu', y1, y2, y3⟩ := m_wal (z := z) (W := mI S (z + 216)) hi hr hw hL hB (aN r) FU 0 S5 _ h5 x2 f5.2.2.1 (by omega) (by show aN r < 4000; omega) (by simp only [List.length_cons, List.length_nil]; omega)
  have f6 := zWo_trans f5 y3
  have h6 := zWo_St f6 h
  have lenA : ((List.range (aN r)).flatMap (fun k => bAl (aL r (0 + k)) (aB r (0 + k)))).length ≤ 36 := by
    have : ∀ m, m ≤ aN r → ((List.range m).map (fun i => (bAl (aL r (0 + i)) (aB r (0 + i))).length)).sum ≤ 9 * m := by
      intro m
      induction m with
      | zero => intro _; simp
      | succ m ih =>
        intro hm
        rw [List.range_succ, List.map_append, List.sum_append]
        have h1 := ih (by omega)
        have h2 := (hw.2.1 (0 + m) (by omega)).1
        simp only [List.map_cons, List.map_nil, List.sum_cons, List.sum_nil]
        rw [bAl_len]
        omega
    rw [List.length_flatMap]
    have := this (aN r) (Nat.le_refl _)
    omega
  obtain ⟨S7, w1, w2, w3⟩ := m_wrow (o := 11) (n := aN r) (f := aD r) h6 y2 hi (by omega) (by omega) (fun j hj => by rw [f6.2.2.1]; exact (r4 j hj).2.2) v2 (by rw [List.length_append]; simp only [List.length_cons, List.length_nil]; omega)
  have f7 := zWo_trans f6 w3
  have h7 := zWo_St f7 h
  have lenD := bRow_len (aD r) (aN r)
  have lenS0 := bSm_len r 0 n4
  obtain ⟨S8, u1, u2, u3⟩ := m_wsm (fu := 3997 + 1 + 1) (m := 0) h7 w2 hi (by omega) (by rw [f7.2.2.1]; exact hr) hw (by rw [List.length_append, List.length_append]; simp only [List.length_cons, List.length_nil]; omega)
  have f8 := zWo_trans f7 u3
  have h8 := zWo_St f8 h
  obtain ⟨S9, t1, t2, t3⟩ := m_wsm (fu := 3997 + 1) (m := 1) h8 u2 hi (by omega) (by rw [f8.2.2.1]; exact hr) hw (by rw [List.length_append, List.length_append, List.length_append]; simp only [List.length_cons, List.length_nil]; omega)
  have f9 := zWo_trans f8 t3
  refine ⟨S9, ?_, ?_, f9⟩
  · have s8 : ∀ x, x < 2147483648 → nI x >>> (nI 8 &&& nI 31) = nI (x / 256) := fun x hx => by rw [b_31 (by omega), b_shr hx (by omega)]
    have st : F_X6_writeOut (z + 214) (nI i) S = F_X6_writeOut_L67 FU (z + 214) (nI i) (nI (aN r)) (nI 0) S5 := by
      simp only [F_X6_writeOut, l_0, l_1, l_2, l_3, l_4, l_5, l_6, l_7, l_8, l_9, l_10, l_11, l_12, l_13, l_14, l_15, l_16, l_17, l_18, l_19, l_20, l_21, l_24, l_25, l_26, l_27, l_31, l_33, l_41, l_65, l_67, l_71, l_84, l_120, l_127, l_128, l_130, l_160, l_162, l_200, l_255, l_256, l_999, l_1000, l_8000, l_9999, l_10000, l_8001, l_m1, k0, t_k214 h0, get S0 0 _ f0 (by omega) r1', a1, t_k214 h1, get S1 0 _ f1 (by omega) r1', s8 (aP r) (by omega), b1, t_k214 h2, get S2 10 _ f2 (by omega) r2, c1, t_k214 h3, get S3 10 _ f3 (by omega) r2, s8 (aQ r) (by omega), d1, t_k214 h4, get S4 1 _ f4 (by omega) r3, x1, bd2_some, bdx_inl, bdx_inr, bdc_inl, bdc_inr, obd_some]
    have c : nI (aN r) ≤ nI (aN r) := nI_le (Nat.le_refl _) (by omega)
    have w1' : F_X6_writeRow (z + 214) (nI i) 11 (nI (aN r)) S6 = some S7 := w1
    rw [st, y1, F_X6_writeOut_L67, if_pos c, t_k214 h6, obd_some, w1', obd_some]
    show F_X6_writeOut_L150 (3997 + 1 + 1 + 1) (z + 214) (nI i) (nI (aN r)) (nI 0) S7 = _
    rw [u1]
    refine Eq.trans t1 ?_
    have c2 : (2 : Int32) ≤ nI (1 + 1) := by decide
    rw [F_X6_writeOut_L150, if_pos c2]
  · have e : (fun k => bAl (aL r (0 + k)) (aB r (0 + k))) = fun k => bAl (aL r k) (aB r k) := by funext k; rw [Nat.zero_add]
    rw [e] at t2
    exact t2
theorem zMo_Wo (h : zMo z s S) (hw : zWo z S S') : zMo z s S' := by
  obtain ⟨hS, hl, hf, hd, ht⟩ := h
  refine ⟨zWo_St hw hS, ⟨by rw [hw.2.2.2 4 (by omega)]; exact hl.1, by rw [hw.2.2.1]; exact hl.2⟩, zMf_of (hw.2.2.2 2 (by omega)) hw.2.1 hf, ⟨by rw [hw.2.2.2 3 (by omega)]; exact hd.1, by rw [hw.2.2.1]; exact hd.2⟩, zMt_of (hw.2.2.2 9 (by omega)) (hw.1.2 _ (by omega)) ht⟩
theorem M_written {i j : Int32} (hs : xOk s) (h : zMo z s S) : ∃ S', F_X6_written (z + 214) i j S = some ((o_written s i j).2, S') ∧ zMo z s S' ∧ zFr (z + 214) (z + 220) S S' ∧ mI S' (z + 214) 0 = (o_written s i j).1 := by
  obtain ⟨hS, hl, hf, hd, ht⟩ := id h
  have hl24 := hs.2.2.2.2.1
  by_cases c : i < nI 0 ∨ nI (xL s).length ≤ i
  · rw [show o_written s i j = (nI 1, nI 0) from if_pos c]
    refine ⟨sI S (z + 214) 0 (nI 1), ?_, zMo_th h, zFr_th, by rw [mI_sI, if_pos ⟨rfl, rfl⟩]⟩
    by_cases e1 : j < m1
    · simp only [F_X6_written, F_X6_written_J18, F_X6_written_J33, F_X6_written_J38, l_0, l_1, l_2, l_3, l_4, l_5, l_6, l_7, l_8, l_9, l_10, l_11, l_12, l_13, l_14, l_15, l_16, l_17, l_18, l_19, l_20, l_21, l_24, l_25, l_26, l_27, l_31, l_33, l_41, l_65, l_67, l_71, l_84, l_120, l_127, l_128, l_130, l_160, l_162, l_200, l_255, l_256, l_999, l_1000, l_8000, l_9999, l_10000, l_8001, l_m1, t_g214 hS, hl.1, m_out, c, e1, ne10, t_k214 hS, m_th1 hS, bd2_some, bdx_inl, bdx_inr, bdc_inl, bdc_inr, obd_some, ↓reduceIte]
    · by_cases e2 : j < mI S (z + 214) 7
      · simp only [F_X6_written, F_X6_written_J18, F_X6_written_J33, F_X6_written_J38, l_0, l_1, l_2, l_3, l_4, l_5, l_6, l_7, l_8, l_9, l_10, l_11, l_12, l_13, l_14, l_15, l_16, l_17, l_18, l_19, l_20, l_21, l_24, l_25, l_26, l_27, l_31, l_33, l_41, l_65, l_67, l_71, l_84, l_120, l_127, l_128, l_130, l_160, l_162, l_200, l_255, l_256, l_999, l_1000, l_8000, l_9999, l_10000, l_8001, l_m1, t_g214 hS, hl.1, m_out, c, e1, e2, ne10, t_k214 hS, m_th1 hS, bd2_some, bdx_inl, bdx_inr, bdc_inl, bdc_inr, obd_some, ↓reduceIte]
      · simp only [F_X6_written, F_X6_written_J18, F_X6_written_J33, F_X6_written_J38, l_0, l_1, l_2, l_3, l_4, l_5, l_6, l_7, l_8, l_9, l_10, l_11, l_12, l_13, l_14, l_15, l_16, l_17, l_18, l_19, l_20, l_21, l_24, l_25, l_26, l_27, l_31, l_33, l_41, l_65, l_67, l_71, l_84, l_120, l_127, l_128, l_130, l_160, l_162, l_200, l_255, l_256, l_999, l_1000, l_8000, l_9999, l_10000, l_8001, l_m1, t_g214 hS, hl.1, m_out, c, e1, e2, ne10, t_k214 hS, m_th1 hS, bd2_some, bdx_inl, bdx_inr, bdc_inl, bdc_inr, obd_some, ↓reduceIte]
  have cs := c
  obtain ⟨i', rfl, -, b3⟩ := in_of' (by omega) (fun e => c (Or.inl e)) (fun e => c (Or.inr e)) (by omega)
  have t1 : tn (nI i') = i' := tn_nI (by omega)
  obtain ⟨g1, g2⟩ := xAt_ok hs b3
  have hw := aWr_of hs.1 g2
  obtain ⟨S1, a1, a2, a3⟩ := m_wout (i := i') hS (by omega) (hl.2 i' _ g1) hw (fun j hj => (g2.2.1.1 j hj).1) (fun j hj => by have h1 := g2.2.1.1 j hj; have := p4_8 h1.2.1; omega)
  have hM1 := zMo_Wo h a3
  have hS1 := hM1.1
  have hlen : (bts (xAt s i')).length < 120 := bts_len hw.1 (fun i hi => (hw.2.1 i hi).1)
  have F1 : zFr (z + 214) (z + 220) S S1 := zFr_mono a3.1 (by omega) (by omega)
  have st : F_X6_written (z + 214) (nI i') j S = F_X6_written_J18 (z + 214) j (nI 0) S1 := by
    simp only [F_X6_written, l_0, l_1, l_2, l_3, l_4, l_5, l_6, l_7, l_8, l_9, l_10, l_11, l_12, l_13, l_14, l_15, l_16, l_17, l_18, l_19, l_20, l_21, l_24, l_25, l_26, l_27, l_31, l_33, l_41, l_65, l_67, l_71, l_84, l_120, l_127, l_128, l_130, l_160, l_162, l_200, l_255, l_256, l_999, l_1000, l_8000, l_9999, l_10000, l_8001, l_m1, t_g214 hS, hl.1, m_out, c, t_k214 hS, a1, bd2_some, bdx_inl, bdx_inr, bdc_inl, bdc_inr, obd_some, ↓reduceIte]
  rw [st]
  by_cases c2 : j < m1 ∨ nI (bts (xAt s i')).length ≤ j
  · rw [show o_written s (nI i') j = (nI 2, nI 0) from by unfold o_written; rw [if_neg cs, t1, if_pos c2]]
    refine ⟨sI S1 (z + 214) 0 (nI 2), ?_, zMo_th hM1, zFr_trans F1 zFr_th, by rw [mI_sI, if_pos ⟨rfl, rfl⟩]⟩
    by_cases e1 : j < m1
    · simp only [F_X6_written_J18, F_X6_written_J33, F_X6_written_J38, l_0, l_1, l_2, l_3, l_4, l_5, l_6, l_7, l_8, l_9, l_10, l_11, l_12, l_13, l_14, l_15, l_16, l_17, l_18, l_19, l_20, l_21, l_24, l_25, l_26, l_27, l_31, l_33, l_41, l_65, l_67, l_71, l_84, l_120, l_127, l_128, l_130, l_160, l_162, l_200, l_255, l_256, l_999, l_1000, l_8000, l_9999, l_10000, l_8001, l_m1, e1, ne10, t_k214 hS1, m_th2 hS1, bd2_some, bdx_inl, bdx_inr, bdc_inl, bdc_inr, obd_some, ↓reduceIte]
    · have e2 : ¬ j < nI (bts (xAt s i')).length := Int32.not_lt.mpr (by rcases c2 with q | q; exact absurd q e1; exact q)
      simp only [F_X6_written_J18, F_X6_written_J33, F_X6_written_J38, l_0, l_1, l_2, l_3, l_4, l_5, l_6, l_7, l_8, l_9, l_10, l_11, l_12, l_13, l_14, l_15, l_16, l_17, l_18, l_19, l_20, l_21, l_24, l_25, l_26, l_27, l_31, l_33, l_41, l_65, l_67, l_71, l_84, l_120, l_127, l_128, l_130, l_160, l_162, l_200, l_255, l_256, l_999, l_1000, l_8000, l_9999, l_10000, l_8001, l_m1, e1, t_g214 hS1, a2.1, e2, ne10, t_k214 hS1, m_th2 hS1, bd2_some, bdx_inl, bdx_inr, bdc_inl, bdc_inr, obd_some, ↓reduceIte]
  have e1 : ¬ j < m1 := fun e => c2 (Or.inl e)
  have e2 : j < nI (bts (xAt s i')).length := Int32.not_le.mp (fun e => c2 (Or.inr e))
  have hM2 := zMo_th (x := nI 0) hM1
  have hS2 := hM2.1
  have o2 : mI (sI S1 (z + 214) 0 (nI 0)) (z + 214) 7 = nI (bts (xAt s i')).length := by rw [mI_sI, if_neg (by omega)]; exact a2.1
  by_cases c4 : j = m1
  · rw [show o_written s (nI i') j = (nI 0, nI (bts (xAt s i')).length) from by unfold o_written; rw [if_neg cs, t1, if_neg c2, if_pos c4]]
    refine ⟨sI S1 (z + 214) 0 (nI 0), ?_, hM2, zFr_trans F1 zFr_th, by rw [mI_sI, if_pos ⟨rfl, rfl⟩]⟩
    have e3 : ¬ nI 0 ≤ j := by rw [c4]; decide
    simp only [F_X6_written_J18, F_X6_written_J38, l_0, l_1, l_2, l_3, l_4, l_5, l_6, l_7, l_8, l_9, l_10, l_11, l_12, l_13, l_14, l_15, l_16, l_17, l_18, l_19, l_20, l_21, l_24, l_25, l_26, l_27, l_31, l_33, l_41, l_65, l_67, l_71, l_84, l_120, l_127, l_128, l_130, l_160, l_162, l_200, l_255, l_256, l_999, l_1000, l_8000, l_9999, l_10000, l_8001, l_m1, e1, t_g214 hS1, a2.1, e2, e3, t_k214 hS1, m_th0 hS1, t_g214 hS2, o2, bd2_some, bdx_inl, bdx_inr, bdc_inl, bdc_inr, obd_some, ↓reduceIte]
  have c5 : ¬ j < nI 0 := by
    rcases m1_iff (x := j) with e | e | e
    · exact absurd e e1
    · exact absurd e c4
    · exact e
  obtain ⟨j', rfl, -, b5⟩ := in_of' (by omega) c5 (Int32.not_le.mpr e2) (by omega)
  have t3 : tn (nI j') = j' := tn_nI (by omega)
  have e7 : mI S1 (z + 217) j' = nI ((bts (xAt s i')).getD j' 0) := a2.2 j' _ (by rw [List.getD_eq_getElem?_getD, List.getElem?_eq_getElem b5]; rfl)
  have e8 := t_a217 (k := j') hS2 (by omega)
  rw [th_W (by omega), e7] at e8
  have e3 : nI 0 ≤ nI j' := nI_le (by omega) (by omega)
  rw [show o_written s (nI i') (nI j') = (nI 0, nI ((bts (xAt s i')).getD j' 0)) from by unfold o_written; rw [if_neg cs, t1, if_neg c2, if_neg c4, t3]]
  refine ⟨sI S1 (z + 214) 0 (nI 0), ?_, hM2, zFr_trans F1 zFr_th, by rw [mI_sI, if_pos ⟨rfl, rfl⟩]⟩
  simp only [F_X6_written_J18, F_X6_written_J38, l_0, l_1, l_2, l_3, l_4, l_5, l_6, l_7, l_8, l_9, l_10, l_11, l_12, l_13, l_14, l_15, l_16, l_17, l_18, l_19, l_20, l_21, l_24, l_25, l_26, l_27, l_31, l_33, l_41, l_65, l_67, l_71, l_84, l_120, l_127, l_128, l_130, l_160, l_162, l_200, l_255, l_256, l_999, l_1000, l_8000, l_9999, l_10000, l_8001, l_m1, e1, t_g214 hS1, a2.1, e2, e3, t_k214 hS1, m_th0 hS1, t_r214_6 hS2, e8, bd2_some, bdx_inl, bdx_inr, bdc_inl, bdc_inr, obd_some, ↓reduceIte]
end M12
