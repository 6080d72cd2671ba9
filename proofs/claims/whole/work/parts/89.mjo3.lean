set_option maxRecDepth 20000
section M20
variable {S S' S0 S1 S2 T : Mem} {z n a b i j k o o' e q x m v qx qy : Nat} {r rx ry : Rc} {s : As} {W W' R O : Nat → Int32} {ls : List Rc} {L B w : Nat → Nat} {y1 y2 : Int32}
def jD (x y : Rc) (w : Nat → Nat) (k : Nat) : Nat := if k = 0 then max (aD x 0) (aD y 0) else min 9999 ((if k < aN x then aD x k else 0) + bkD y w k)
theorem m_jd {fu : Nat} {v1 : Int32} (h : zJ z S0 S R O) (hJ : zJr z S0 O qx qy rx ry w) (hx2 : 2 ≤ aN rx) (hR : R 1 = nI n) (hn : n ≤ 4) (hk : k < n) : ∃ S', F_X6_join_L220 (fu + 1) (z + 214) v1 (nI qx) (nI qy) (nI k) S = F_X6_join_L220 fu (z + 214) v1 (nI qx) (nI qy) (nI (k + 1)) S' ∧ zJ z S0 S' (va_up R (11 + k) (nI (jD rx ry w k))) O := by
  obtain ⟨⟨q1, q2⟩, ⟨r1, r2⟩, ⟨n1, n2⟩, o1, o2, ⟨v1', v2'⟩, w0, ny2⟩ := id hJ
  have hS := zJ_St h
  have c : ¬ nI n ≤ nI k := nI_ge (by omega) (by omega)
  have g5 := zJ_get5 h (k := 1) (by omega)
  rw [hR] at g5
  have b1 := m_back (w := fun b => b) (v := 0) (k := k) h q1 r1 n1 (by omega) (fun b hb => ⟨by rw [show 4 * 0 + b = b by omega]; exact o1 b hb, by omega⟩) (by omega)
  have b2 := m_back (w := w) (v := 1) (k := k) h q2 r2 n2 (by omega) (fun b hb => ⟨by rw [show 4 * 1 + b = 4 + b by omega]; exact (o2 b hb).1, by have := (o2 b hb).2; omega⟩) (by omega)
  rw [bk_id] at b1
  obtain ⟨S1, p1, pp2⟩ := zJ_put (k := 11 + k) (y1 := nI (jD rx ry w k)) h (by omega)
  refine ⟨S1, ?_, pp2⟩
  have a0m : ¬ nI 0 ≤ m1 := by decide
  obtain ⟨dx, edx⟩ : ∃ d, d = if k < aN rx then aD rx k else 0 := ⟨_, rfl⟩
  have ldx : dx ≤ 9999 := by
    rw [edx]
    split
    · exact v1'.2.1 k (by assumption)
    · omega
  have ldy : bkD ry w k ≤ 9999 := by
    unfold bkD
    cases e : bk w (aN ry) k with
    | none => exact Nat.zero_le _
    | some a => exact v2'.2.1 a (bk_some e).1
  -- what the first record gives
  have s1 : F_X6_join_L220 (fu + 1) (z + 214) v1 (nI qx) (nI qy) (nI k) S = F_X6_join_J274 (F_X6_join_L220 fu) (z + 214) v1 (nI qx) (nI qy) (nI k) (fI (bk w (aN ry) k)) (nI dx) S := by
    by_cases cx : k < aN rx
    · rw [if_pos cx] at b1 edx
      have b1' : F_X6_back (z + 214) (nI qx) (nI 0) (nI k) S = some (nI k, S) := b1
      have d1 : nI 0 ≤ nI k := nI_le (by omega) (by omega)
      have g1 := zJ_get h (q := qx) (k := 11 + k) (by omega) (by omega) (by omega)
      rw [(r1.2.1 k cx).2.2, ← edx] at g1
      simp only [F_X6_join_L220, l_0, l_1, l_2, l_3, l_4, l_5, l_6, l_7, l_8, l_9, l_10, l_11, l_12, l_13, l_14, l_15, l_16, l_17, l_18, l_19, l_20, l_21, l_24, l_25, l_26, l_27, l_31, l_33, l_41, l_65, l_67, l_71, l_84, l_120, l_127, l_128, l_130, l_160, l_162, l_200, l_255, l_256, l_999, l_1000, l_8000, l_9999, l_10000, l_8001, l_m1, t_k214 hS, g5, c, b1', b2, d1, nI_add, g1, bd2_some, bdx_inl, bdx_inr, bdc_inl, bdc_inr, obd_some, ↓reduceIte]
    · rw [if_neg cx] at b1 edx
      have b1' : F_X6_back (z + 214) (nI qx) (nI 0) (nI k) S = some (m1, S) := b1
      rw [edx]
      simp only [F_X6_join_L220, l_0, l_1, l_2, l_3, l_4, l_5, l_6, l_7, l_8, l_9, l_10, l_11, l_12, l_13, l_14, l_15, l_16, l_17, l_18, l_19, l_20, l_21, l_24, l_25, l_26, l_27, l_31, l_33, l_41, l_65, l_67, l_71, l_84, l_120, l_127, l_128, l_130, l_160, l_162, l_200, l_255, l_256, l_999, l_1000, l_8000, l_9999, l_10000, l_8001, l_m1, t_k214 hS, g5, c, b1', b2, a0m, bd2_some, bdx_inl, bdx_inr, bdc_inl, bdc_inr, obd_some, ↓reduceIte]
  have s2 : F_X6_join_J274 (F_X6_join_L220 fu) (z + 214) v1 (nI qx) (nI qy) (nI k) (fI (bk w (aN ry) k)) (nI dx) S = F_X6_join_J296 (F_X6_join_L220 fu) (z + 214) v1 (nI qx) (nI qy) (nI k) (nI dx) (nI (bkD ry w k)) S := by
    cases e : bk w (aN ry) k with
    | none =>
      have : bkD ry w k = 0 := by unfold bkD; rw [e]
      rw [this]
      simp only [F_X6_join_J274, fI, l_0, l_1, l_2, l_3, l_4, l_5, l_6, l_7, l_8, l_9, l_10, l_11, l_12, l_13, l_14, l_15, l_16, l_17, l_18, l_19, l_20, l_21, l_24, l_25, l_26, l_27, l_31, l_33, l_41, l_65, l_67, l_71, l_84, l_120, l_127, l_128, l_130, l_160, l_162, l_200, l_255, l_256, l_999, l_1000, l_8000, l_9999, l_10000, l_8001, l_m1, a0m, ↓reduceIte]
    | some a =>
      have : bkD ry w k = aD ry a := by unfold bkD; rw [e]
      rw [this]
      have la := (bk_some e).1
      have d1 : nI 0 ≤ nI a := nI_le (by omega) (by omega)
      have g1 := zJ_get h (q := qy) (k := 11 + a) (by omega) (by omega) (by omega)
      rw [(r2.2.1 a la).2.2] at g1
      simp only [F_X6_join_J274, fI, l_0, l_1, l_2, l_3, l_4, l_5, l_6, l_7, l_8, l_9, l_10, l_11, l_12, l_13, l_14, l_15, l_16, l_17, l_18, l_19, l_20, l_21, l_24, l_25, l_26, l_27, l_31, l_33, l_41, l_65, l_67, l_71, l_84, l_120, l_127, l_128, l_130, l_160, l_162, l_200, l_255, l_256, l_999, l_1000, l_8000, l_9999, l_10000, l_8001, l_m1, d1, t_k214 hS, nI_add, g1, bd2_some, bdx_inl, bdx_inr, bdc_inl, bdc_inr, obd_some, ↓reduceIte]
  have s3 : F_X6_join_J296 (F_X6_join_L220 fu) (z + 214) v1 (nI qx) (nI qy) (nI k) (nI dx) (nI (bkD ry w k)) S = F_X6_join_J320 (F_X6_join_L220 fu) (z + 214) v1 (nI qx) (nI qy) (nI k) (nI dx) (nI (bkD ry w k)) (nI (min 9999 (dx + bkD ry w k))) S := by
    by_cases d1 : dx + bkD ry w k ≤ 9999
    · have d1' : nI (dx + bkD ry w k) ≤ nI 9999 := nI_le d1 (by omega)
      rw [Nat.min_eq_right d1]
      simp only [F_X6_join_J296, l_0, l_1, l_2, l_3, l_4, l_5, l_6, l_7, l_8, l_9, l_10, l_11, l_12, l_13, l_14, l_15, l_16, l_17, l_18, l_19, l_20, l_21, l_24, l_25, l_26, l_27, l_31, l_33, l_41, l_65, l_67, l_71, l_84, l_120, l_127, l_128, l_130, l_160, l_162, l_200, l_255, l_256, l_999, l_1000, l_8000, l_9999, l_10000, l_8001, l_m1, nI_add, d1', ↓reduceIte]
    · have d1' : ¬ nI (dx + bkD ry w k) ≤ nI 9999 := nI_ge (by omega) (by omega)
      rw [Nat.min_eq_left (by omega)]
      simp only [F_X6_join_J296, l_0, l_1, l_2, l_3, l_4, l_5, l_6, l_7, l_8, l_9, l_10, l_11, l_12, l_13, l_14, l_15, l_16, l_17, l_18, l_19, l_20, l_21, l_24, l_25, l_26, l_27, l_31, l_33, l_41, l_65, l_67, l_71, l_84, l_120, l_127, l_128, l_130, l_160, l_162, l_200, l_255, l_256, l_999, l_1000, l_8000, l_9999, l_10000, l_8001, l_m1, nI_add, d1', ↓reduceIte]
  rw [s1, s2, s3]
  unfold jD at p1
  by_cases ck : k = 0
  · subst ck
    rw [if_pos rfl] at p1
    have e1 : dx = aD rx 0 := by rw [edx, if_pos (by omega)]
    have e2 : bkD ry w 0 = aD ry 0 := by
      have : bk w (aN ry) 0 = some 0 := by
        obtain ⟨m, hm⟩ : ∃ m, aN ry = m + 1 := ⟨aN ry - 1, by omega⟩
        unfold bk
        rw [hm, bkA, if_pos w0]
      unfold bkD
      rw [this]
    rw [e1, e2]
    have d0 : nI 0 ≤ nI 0 := by decide
    by_cases d1 : aD rx 0 ≤ aD ry 0
    · have d1' : nI (aD rx 0) ≤ nI (aD ry 0) := nI_le d1 (by omega)
      rw [Nat.max_eq_right d1] at p1
      simp only [F_X6_join_J320, F_X6_join_J354, l_0, l_1, l_2, l_3, l_4, l_5, l_6, l_7, l_8, l_9, l_10, l_11, l_12, l_13, l_14, l_15, l_16, l_17, l_18, l_19, l_20, l_21, l_24, l_25, l_26, l_27, l_31, l_33, l_41, l_65, l_67, l_71, l_84, l_120, l_127, l_128, l_130, l_160, l_162, l_200, l_255, l_256, l_999, l_1000, l_8000, l_9999, l_10000, l_8001, l_m1, d0, d1', t_k214 hS, nI_add, p1, bd2_some, bdx_inl, bdx_inr, bdc_inl, bdc_inr, obd_some, ↓reduceIte]
    · have d1' : ¬ nI (aD rx 0) ≤ nI (aD ry 0) := nI_ge (by omega) (by omega)
      rw [Nat.max_eq_left (by omega)] at p1
      simp only [F_X6_join_J320, F_X6_join_J354, l_0, l_1, l_2, l_3, l_4, l_5, l_6, l_7, l_8, l_9, l_10, l_11, l_12, l_13, l_14, l_15, l_16, l_17, l_18, l_19, l_20, l_21, l_24, l_25, l_26, l_27, l_31, l_33, l_41, l_65, l_67, l_71, l_84, l_120, l_127, l_128, l_130, l_160, l_162, l_200, l_255, l_256, l_999, l_1000, l_8000, l_9999, l_10000, l_8001, l_m1, d0, d1', t_k214 hS, nI_add, p1, bd2_some, bdx_inl, bdx_inr, bdc_inl, bdc_inr, obd_some, ↓reduceIte]
  · rw [if_neg ck, ← edx] at p1
    have d0 : ¬ nI k ≤ nI 0 := nI_ge (by omega) (by omega)
    simp only [F_X6_join_J320, F_X6_join_J354, l_0, l_1, l_2, l_3, l_4, l_5, l_6, l_7, l_8, l_9, l_10, l_11, l_12, l_13, l_14, l_15, l_16, l_17, l_18, l_19, l_20, l_21, l_24, l_25, l_26, l_27, l_31, l_33, l_41, l_65, l_67, l_71, l_84, l_120, l_127, l_128, l_130, l_160, l_162, l_200, l_255, l_256, l_999, l_1000, l_8000, l_9999, l_10000, l_8001, l_m1, d0, t_k214 hS, nI_add, p1, bd2_some, bdx_inl, bdx_inr, bdc_inl, bdc_inr, obd_some, ↓reduceIte]
theorem m_jd_L {v1 : Int32} (hJ : zJr z S0 O qx qy rx ry w) (hx2 : 2 ≤ aN rx) (hn : n ≤ 4) : ∀ (m fu k : Nat) (S : Mem) (R : Nat → Int32), zJ z S0 S R O → R 1 = nI n → k + m = n → m < fu → ∃ S' R' fu', F_X6_join_L220 fu (z + 214) v1 (nI qx) (nI qy) (nI k) S = F_X6_join_L220 (fu' + 1) (z + 214) v1 (nI qx) (nI qy) (nI n) S' ∧ zJ z S0 S' R' O ∧ (∀ i, k ≤ i → i < n → R' (11 + i) = nI (jD rx ry w i)) ∧ ∀ i, (i < 11 + k ∨ 11 + n ≤ i) → R' i = R i := by
  intro m
  induction m with
  | zero =>
    intro fu k S R h hR hk hf
    obtain ⟨fu, rfl⟩ : ∃ f, fu = f + 1 := ⟨fu - 1, by omega⟩
    have e : k = n := by omega
    subst e
    exact ⟨S, R, fu, rfl, h, fun i h1 h2 => by omega, fun _ _ => rfl⟩
  | succ m ih =>
    intro fu k S R h hR hk hf
    obtain ⟨fu, rfl⟩ : ∃ f, fu = f + 1 := ⟨fu - 1, by omega⟩
    obtain ⟨S1, a1, a2⟩ := m_jd (fu := fu) (v1 := v1) h hJ hx2 hR hn (show k < n by omega)
    obtain ⟨S2, R2, fu', b1, b2, b3, b4⟩ := ih fu (k + 1) S1 _ a2 (by
      have e1 : ¬ 1 = 11 + k := by omega
      simp only [va_up, e1, ↓reduceIte]
      exact hR) (by omega) (by omega)
    refine ⟨S2, R2, fu', a1.trans b1, b2, fun i h1 h2 => ?_, fun i hi => ?_⟩
    · by_cases c : i = k
      · subst c
        rw [b4 _ (by omega)]
        simp only [va_up, ↓reduceIte]
      · exact b3 i (by omega) h2
    · rw [b4 i (by omega)]
      have : ¬ i = 11 + k := by omega
      simp only [va_up, this, ↓reduceIte]
theorem sI_same {S : Mem} {a k : Nat} {x : Int32} (h : mI S a k = x) : sI S a k x = S := by
  rw [sI_asF]
  refine sF_id ?_
  funext i
  by_cases c : i = k
  · subst c; simp only [va_up, ↓reduceIte]; exact h.symm
  · simp only [va_up, c, ↓reduceIte]
theorem zMo_219 (hs : xOk s) (h : zMo z s S) (hF : zFr (z + 219) (z + 220) S T) : zMo z s T := by
  obtain ⟨hS, hl, hf, hd, ht⟩ := h
  have e := hF.2 (z + 214) (by omega)
  have w := hF.2 (z + 216) (by omega)
  exact ⟨zSt_Fr hF hS, ⟨by rw [e]; exact hl.1, by rw [w]; exact hl.2⟩, zMf_of (by rw [e]) (hF.2 _ (by omega)) hf, ⟨by rw [e]; exact hd.1, by rw [w]; exact hd.2⟩, zMt_of (by rw [e]) (hF.2 _ (by omega)) ht⟩
theorem zJ_Mo (hs : xOk s) (h0 : zMo z s S0) (h : zJ z S0 S R O) : zMo z s S ∧ zFr (z + 214) (z + 220) S0 S ∧ mI S (z + 214) 0 = mI S0 (z + 214) 0 := by
  obtain ⟨T, h1, h2, h3⟩ := h
  have hT := zMo_219 hs h0 h1
  have hl24 := hs.2.2.2.2.1
  refine ⟨?_, zFr_trans (zFr_mono h1 (by omega) (by omega)) (zFr_mono h2.2.1.1 (by omega) (by omega)), ?_⟩
  · exact zMo_w (s := s) hs hT h2.2.1 (zMl_of h2.2.2.1 (fun i k hi hk => h2.2.2.2.2 i k (by have hi' : i < (xL s).length := hi; omega) hk) (n4_of hs) hT.2.1) (fun k hk => h2.2.2.2.2 24 k (by omega) hk)
  · rw [h2.2.1.2.2 0 (by omega), h1.2 _ (by omega)]
theorem zMl_set (hn : ∀ t, t ∈ ls → aN t ≤ 4) (hi : i < ls.length) (hl : zMl z S ls) (h4 : mI S' (z + 214) 4 = mI S (z + 214) 4) (hr : zMR (mI S' (z + 216)) (41 * i) r) (hq : ∀ q k, k < 41 → q ≠ i → mI S' (z + 216) (41 * q + k) = mI S (z + 216) (41 * q + k)) : zMl z S' (ls.set i r) := by
  refine ⟨by rw [h4, List.length_set]; exact hl.1, fun q t e => ?_⟩
  rw [List.getElem?_set] at e
  by_cases c : i = q
  · rw [if_pos c, if_pos hi] at e
    cases e
    rw [← c]
    exact hr
  · rw [if_neg c] at e
    exact zMR_of (hn t (List.mem_of_getElem? e)) (fun k hk => hq q k hk (fun w => c w.symm)) (hl.2 q t e)
end M20
