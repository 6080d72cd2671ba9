set_option maxRecDepth 20000
/-- row 25 holds R, all else is as it was -/
def zR5 (z : Nat) (S0 S : Mem) (R : Nat → Int32) : Prop := zSt z S ∧ zMw z S0 S ∧ mI S (z + 214) 4 = mI S0 (z + 214) 4 ∧ (∀ k, k < 41 → mI S (z + 216) (41 * 25 + k) = R k) ∧ ∀ q k, q ≠ 25 → k < 41 → mI S (z + 216) (41 * q + k) = mI S0 (z + 216) (41 * q + k)
section M9
variable {S S' S0 S1 S2 : Mem} {z n a b i j k o o' e p q : Nat} {r : Rc} {s : As} {x y : Int32} {W W' R : Nat → Int32} {ls : List Rc}
theorem r5_put (h : zR5 z S0 S R) (hk : k < 41) : ∃ S', F_X6_put (z + 214) (nI 25) (nI k) x S = some S' ∧ zR5 z S0 S' (va_up R k x) := by
  obtain ⟨h1, h2, h3, h4, h5⟩ := h
  refine ⟨_, m_put h1 (by omega), h1, zMw_trans h2 (zMw_sI rfl), ?_, fun j hj => ?_, fun q j hq hj => ?_⟩
  · rw [mI_sI, if_neg (by omega)]; exact h3
  · rw [mI_sI]
    by_cases c : j = k
    · subst c; rw [if_pos ⟨rfl, rfl⟩]; simp only [va_up, ↓reduceIte]
    · rw [if_neg (by omega), h4 j hj]; simp only [va_up, c, ↓reduceIte]
  · rw [mI_sI, if_neg (by omega)]; exact h5 q j hq hj
theorem r5_get (h : zR5 z S0 S R) (hq : q ≠ 25) (hq2 : q < 30) (hk : k < 41) : F_X6_get (z + 214) (nI q) (nI k) S = some (mI S0 (z + 216) (41 * q + k), S) := by
  rw [m_get h.1 (by omega), h.2.2.2.2 q k hq hk]
theorem r5_get5 (h : zR5 z S0 S R) (hk : k < 41) : F_X6_get (z + 214) (nI 25) (nI k) S = some (R k, S) := by
  rw [m_get h.1 (by omega), h.2.2.2.1 k hk]
theorem r5_empty (h : zSt z S0) : ∃ S', F_X6_empty (z + 214) (nI 25) x S0 = some S' ∧ zR5 z S0 S' (fun k => if k = 0 then x else emV k) := by
  obtain ⟨S1, a1, a2, a3, a4⟩ := m_empty (a := 25) (x := x) h (by omega)
  exact ⟨S1, a1, zMw_St a2 h, a2, a3, fun k hk => by rw [a4 25 k hk, if_pos rfl], fun q k hq hk => by rw [a4 q k hk, if_neg hq]⟩
theorem r5_add (h : zR5 z S0 S R) (hn : R 1 = nI n) (h4 : n < 4) : ∃ S', F_X6_addAllele (z + 214) (nI 25) x y S = some S' ∧ zR5 z S0 S' (fun k => if k = 1 then nI (n + 1) else if k = 6 + n then y else if k = 2 + n then x else R k) := by
  obtain ⟨h1, h2, h3, h4', h5⟩ := h
  obtain ⟨S1, a1, a2, a3, a4⟩ := m_addA (a := 25) (x := x) (y := y) (n := n) h1 (by omega) (by rw [h4' 1 (by omega), hn]) h4
  refine ⟨S1, a1, zMw_St a2 h1, zMw_trans h2 a2, by rw [a3, h3], fun k hk => ?_, fun q k hq hk => ?_⟩
  · rw [a4 25 k hk, if_pos rfl, h4' k hk]
  · rw [a4 q k hk, if_neg hq, h5 q k hq hk]
theorem r5_0 (h : zSt z S) : zR5 z S S (fun k => mI S (z + 216) (41 * 25 + k)) := ⟨h, zMw_refl, rfl, fun _ _ => rfl, fun _ _ _ _ => rfl⟩
theorem part_s {K : Nat → Int32 → Int32 → Int32 → Mem → Option Mem} {fu m g : Nat} (h : zR5 z S0 S R) (hq : q ≠ 25) (hq2 : q < 30) (hm : m < 2) (hj : j < 2) (ha : a < 4) (hg : mI S0 (z + 216) (41 * q + (15 + 3 * m + j)) = gI g) (hg4 : g ≤ 4) : ∃ S', F_X6_part_L111 K (fu + 1) (z + 214) (nI q) (nI a) (nI m) (nI j) S = F_X6_part_L111 K fu (z + 214) (nI q) (nI a) (nI m) (nI (j + 1)) S' ∧ zR5 z S0 S' (va_up R (15 + 3 * m + j) (gI (if g = 0 then 0 else if g = a + 1 then 2 else 1))) := by
  have c : ¬ nI 2 ≤ nI j := nI_ge (by omega) (by omega)
  have g1 := r5_get h hq hq2 (show 15 + 3 * m + j < 41 by omega)
  rw [hg] at g1
  obtain ⟨S1, p1, p2⟩ := r5_put (x := gI (if g = 0 then 0 else if g = a + 1 then 2 else 1)) h (show 15 + 3 * m + j < 41 by omega)
  refine ⟨S1, ?_, p2⟩
  cases g with
  | zero =>
    have c1 : ¬ nI 0 ≤ m1 := by decide
    have p1' : F_X6_put (z + 214) (nI 25) (nI (15 + 3 * m + j)) m1 S = some S1 := p1
    have g1' : F_X6_get (z + 214) (nI q) (nI (15 + 3 * m + j)) S = some (m1, S) := g1
    simp only [F_X6_part_L111, F_X6_part_J165, l_0, l_1, l_2, l_3, l_4, l_5, l_6, l_7, l_8, l_9, l_10, l_11, l_12, l_13, l_14, l_15, l_16, l_17, l_18, l_19, l_20, l_21, l_24, l_25, l_26, l_27, l_31, l_33, l_41, l_65, l_67, l_71, l_84, l_120, l_127, l_128, l_130, l_160, l_162, l_200, l_255, l_256, l_999, l_1000, l_8000, l_9999, l_10000, l_8001, l_m1, c, t_k214 h.1, nI_mul, nI_add, g1', c1, p1', bd2_some, bdx_inl, bdx_inr, bdc_inl, bdc_inr, obd_some, ↓reduceIte]
  | succ g =>
    have c1 : nI 0 ≤ nI g := nI_le (by omega) (by omega)
    have g1' : F_X6_get (z + 214) (nI q) (nI (15 + 3 * m + j)) S = some (nI g, S) := g1
    rw [if_neg (by omega)] at p1
    by_cases c2 : g = a
    · subst c2
      rw [if_pos rfl] at p1
      have p1' : F_X6_put (z + 214) (nI 25) (nI (15 + 3 * m + j)) (nI 1) S = some S1 := p1
      simp only [F_X6_part_L111, F_X6_part_J165, l_0, l_1, l_2, l_3, l_4, l_5, l_6, l_7, l_8, l_9, l_10, l_11, l_12, l_13, l_14, l_15, l_16, l_17, l_18, l_19, l_20, l_21, l_24, l_25, l_26, l_27, l_31, l_33, l_41, l_65, l_67, l_71, l_84, l_120, l_127, l_128, l_130, l_160, l_162, l_200, l_255, l_256, l_999, l_1000, l_8000, l_9999, l_10000, l_8001, l_m1, c, t_k214 h.1, nI_mul, nI_add, g1', c1, p1', bd2_some, bdx_inl, bdx_inr, bdc_inl, bdc_inr, obd_some, ↓reduceIte]
    · rw [if_neg (by omega)] at p1
      have p1' : F_X6_put (z + 214) (nI 25) (nI (15 + 3 * m + j)) (nI 0) S = some S1 := p1
      have c2' : ¬ nI g = nI a := fun w => c2 ((nI_eq (by omega) (by omega)).mp w)
      simp only [F_X6_part_L111, F_X6_part_J165, l_0, l_1, l_2, l_3, l_4, l_5, l_6, l_7, l_8, l_9, l_10, l_11, l_12, l_13, l_14, l_15, l_16, l_17, l_18, l_19, l_20, l_21, l_24, l_25, l_26, l_27, l_31, l_33, l_41, l_65, l_67, l_71, l_84, l_120, l_127, l_128, l_130, l_160, l_162, l_200, l_255, l_256, l_999, l_1000, l_8000, l_9999, l_10000, l_8001, l_m1, c, t_k214 h.1, nI_mul, nI_add, g1', c1, c2', p1', bd2_some, bdx_inl, bdx_inr, bdc_inl, bdc_inr, obd_some, ↓reduceIte]
theorem part_e {K : Nat → Int32 → Int32 → Int32 → Mem → Option Mem} {fu m : Nat} (h : zR5 z S0 S R) (hq : q ≠ 25) (hq2 : q < 30) (hm : m < 2) (ha : a < 4) : ∃ S', F_X6_part_L111 K (fu + 1) (z + 214) (nI q) (nI a) (nI m) (nI 2) S = K (z + 214) (nI q) (nI a) (nI (m + 1)) S' ∧ zR5 z S0 S' (va_up (va_up (va_up (va_up R (15 + 3 * m + 2) (mI S0 (z + 216) (41 * q + (15 + 3 * m + 2)))) (21 + 10 * m) (mI S0 (z + 216) (41 * q + (21 + 10 * m)))) (21 + 10 * m + 1) (mI S0 (z + 216) (41 * q + (21 + 10 * m + prn 0 a)))) (21 + 10 * m + 2) (mI S0 (z + 216) (41 * q + (21 + 10 * m + prn a a)))) := by
  have c : nI 2 ≤ nI 2 := by decide
  have l1 := prn_lt (show 0 < 4 by omega) ha
  have l2 := prn_lt ha ha
  have g1 := r5_get h hq hq2 (show 15 + 3 * m + 2 < 41 by omega)
  obtain ⟨S1, p1, h1⟩ := r5_put (x := mI S0 (z + 216) (41 * q + (15 + 3 * m + 2))) h (show 15 + 3 * m + 2 < 41 by omega)
  have g2 := r5_get h1 hq hq2 (show 21 + 10 * m < 41 by omega)
  obtain ⟨S2, p2, h2⟩ := r5_put (x := mI S0 (z + 216) (41 * q + (21 + 10 * m))) h1 (show 21 + 10 * m < 41 by omega)
  have g3 := r5_get h2 hq hq2 (show 21 + 10 * m + prn 0 a < 41 by omega)
  obtain ⟨S3, p3, h3⟩ := r5_put (x := mI S0 (z + 216) (41 * q + (21 + 10 * m + prn 0 a))) h2 (show 21 + 10 * m + 1 < 41 by omega)
  have g4 := r5_get h3 hq hq2 (show 21 + 10 * m + prn a a < 41 by omega)
  obtain ⟨S4, p4, h4⟩ := r5_put (x := mI S0 (z + 216) (41 * q + (21 + 10 * m + prn a a))) h3 (show 21 + 10 * m + 2 < 41 by omega)
  refine ⟨S4, ?_, h4⟩
  have m0 := m_pair (S := S2) (show 0 < 4 by omega) ha
  have m2 := m_pair (S := S3) ha ha
  simp only [F_X6_part_L111, l_0, l_1, l_2, l_3, l_4, l_5, l_6, l_7, l_8, l_9, l_10, l_11, l_12, l_13, l_14, l_15, l_16, l_17, l_18, l_19, l_20, l_21, l_24, l_25, l_26, l_27, l_31, l_33, l_41, l_65, l_67, l_71, l_84, l_120, l_127, l_128, l_130, l_160, l_162, l_200, l_255, l_256, l_999, l_1000, l_8000, l_9999, l_10000, l_8001, l_m1, c, t_k214 h.1, t_k214 h1.1, t_k214 h2.1, t_k214 h3.1, nI_mul, nI_add, g1, p1, g2, p2, m0, g3, p3, m2, g4, p4, bd2_some, bdx_inl, bdx_inr, bdc_inl, bdc_inr, obd_some, ↓reduceIte]
theorem m_smpl {fu m ga gb : Nat} (h : zR5 z S0 S R) (hq : q ≠ 25) (hq2 : q < 30) (hm : m < 2) (ha : a < 4) (hga : mI S0 (z + 216) (41 * q + (15 + 3 * m)) = gI ga) (hgb : mI S0 (z + 216) (41 * q + (15 + 3 * m + 1)) = gI gb) (h1 : ga ≤ 4) (h2 : gb ≤ 4) : ∃ S', F_X6_part_L103 (fu + 1) (z + 214) (nI q) (nI a) (nI m) S = F_X6_part_L103 fu (z + 214) (nI q) (nI a) (nI (m + 1)) S' ∧ zR5 z S0 S' (va_up (va_up (va_up (va_up (va_up (va_up R (15 + 3 * m) (gI (if ga = 0 then 0 else if ga = a + 1 then 2 else 1))) (15 + 3 * m + 1) (gI (if gb = 0 then 0 else if gb = a + 1 then 2 else 1))) (15 + 3 * m + 2) (mI S0 (z + 216) (41 * q + (15 + 3 * m + 2)))) (21 + 10 * m) (mI S0 (z + 216) (41 * q + (21 + 10 * m)))) (21 + 10 * m + 1) (mI S0 (z + 216) (41 * q + (21 + 10 * m + prn 0 a)))) (21 + 10 * m + 2) (mI S0 (z + 216) (41 * q + (21 + 10 * m + prn a a)))) := by
  obtain ⟨S1, a1, a2⟩ := part_s (K := F_X6_part_L103 fu) (fu := 3997 + 1 + 1) (j := 0) h hq hq2 hm (by omega) ha hga h1
  obtain ⟨S2, b1, b2⟩ := part_s (K := F_X6_part_L103 fu) (fu := 3997 + 1) (j := 1) a2 hq hq2 hm (by omega) ha hgb h2
  obtain ⟨S3, d1, d2⟩ := part_e (K := F_X6_part_L103 fu) (fu := 3997) b2 hq hq2 hm ha
  refine ⟨S3, ?_, d2⟩
  have c : ¬ (2 : Int32) ≤ nI m := nI_ge (a := m) (b := 2) (by omega) (by omega)
  rw [F_X6_part_L103, if_neg c]
  show F_X6_part_L111 (F_X6_part_L103 fu) (3997 + 1 + 1 + 1) (z + 214) (nI q) (nI a) (nI m) (nI 0) S = _
  rw [a1]
  refine b1.trans d1
theorem m_part {p : Nat} {rf : Nat → Nat} (h : zSt z S) (hr : zMR (mI S (z + 216)) (41 * 26) r) (ok : aOk p rf r) (ha1 : 1 ≤ a) (ha : a < aN r) : ∃ S' R, F_X6_part (z + 214) (nI 26) (nI a) S = some S' ∧ zR5 z S S' R ∧ zMR (mI S' (z + 216)) (41 * 25) (aPart r a) := by
  obtain ⟨⟨r1, r2, r3⟩, r4, ⟨r5, r6, r7, r8⟩, ⟨r9, r10⟩, r11⟩ := hr
  have n4 := ok.1.2
  have a4 : a < 4 := by omega
  have p10 := prs_le n4
  have hG : ∀ i, i < 4 → aG r i ≤ 4 := fun i hi => Nat.le_trans (ok.2.2.2.2.2.1 i hi) n4
  have g0 := r5_get (r5_0 h) (q := 26) (k := 0) (by omega) (by omega) (by omega)
  obtain ⟨S1, e1, h1⟩ := r5_empty (x := mI S (z + 216) (41 * 26 + 0)) h
  have g1 := r5_get h1 (q := 26) (k := 2) (by omega) (by omega) (by omega)
  have g2 := r5_get h1 (q := 26) (k := 6) (by omega) (by omega) (by omega)
  obtain ⟨S2, e2, h2⟩ := r5_add (x := mI S (z + 216) (41 * 26 + 2)) (y := mI S (z + 216) (41 * 26 + 6)) (n := 0) h1 rfl (by omega)
  have g3 := r5_get h2 (q := 26) (k := 2 + a) (by omega) (by omega) (by omega)
  have g4 := r5_get h2 (q := 26) (k := 6 + a) (by omega) (by omega) (by omega)
  obtain ⟨S3, e3, h3⟩ := r5_add (x := mI S (z + 216) (41 * 26 + (2 + a))) (y := mI S (z + 216) (41 * 26 + (6 + a))) (n := 1) h2 rfl (by omega)
  have g5 := r5_get h3 (q := 26) (k := 10) (by omega) (by omega) (by omega)
  obtain ⟨S4, e4, h4⟩ := r5_put (x := mI S (z + 216) (41 * 26 + 10)) h3 (show 10 < 41 by omega)
  have g6 := r5_get h4 (q := 26) (k := 11) (by omega) (by omega) (by omega)
  obtain ⟨S5, e5, h5⟩ := r5_put (x := mI S (z + 216) (41 * 26 + 11)) h4 (show 11 < 41 by omega)
  have g7 := r5_get h5 (q := 26) (k := 11 + a) (by omega) (by omega) (by omega)
  obtain ⟨S6, e6, h6⟩ := r5_put (x := mI S (z + 216) (41 * 26 + (11 + a))) h5 (show 12 < 41 by omega)
  obtain ⟨S7, e7, h7⟩ := m_smpl (fu := 3997 + 1 + 1) (m := 0) (a := a) h6 (q := 26) (by omega) (by omega) (by omega) a4 r5 r6 (hG 0 (by omega)) (hG 1 (by omega))
  obtain ⟨S8, e8, h8⟩ := m_smpl (fu := 3997 + 1) (m := 1) (a := a) h7 (q := 26) (by omega) (by omega) (by omega) a4 r7 r8 (hG 2 (by omega)) (hG 3 (by omega))
  refine ⟨S8, _, ?_, h8, ?_⟩
  · have st : F_X6_part (z + 214) (nI 26) (nI a) S = F_X6_part_L103 (3997 + 1 + 1 + 1) (z + 214) (nI 26) (nI a) (nI 0) S6 := by
      simp only [F_X6_part, l_0, l_1, l_2, l_3, l_4, l_5, l_6, l_7, l_8, l_9, l_10, l_11, l_12, l_13, l_14, l_15, l_16, l_17, l_18, l_19, l_20, l_21, l_24, l_25, l_26, l_27, l_31, l_33, l_41, l_65, l_67, l_71, l_84, l_120, l_127, l_128, l_130, l_160, l_162, l_200, l_255, l_256, l_999, l_1000, l_8000, l_9999, l_10000, l_8001, l_m1, t_k214 h, g0, e1, t_k214 h1.1, g1, g2, e2, t_k214 h2.1, nI_add, g3, g4, e3, t_k214 h3.1, g5, e4, t_k214 h4.1, g6, e5, t_k214 h5.1, g7, e6, bd2_some, bdx_inl, bdx_inr, bdc_inl, bdc_inr, obd_some]
      rfl
    rw [st, e7]
    refine e8.trans ?_
    have c : (2 : Int32) ≤ nI (1 + 1) := by decide
    rw [F_X6_part_L103, if_pos c]
  · have hk := h8.2.2.2.1
    have pl0 := prn_prs (aN r) n4 0 (by omega) a ha
    have pla := prn_prs (aN r) n4 a ha a ha
    obtain ⟨k00, k01⟩ := r11 0 (by unfold prs; have := ok.1.1; rcases (show aN r = 2 ∨ aN r = 3 ∨ aN r = 4 by omega) with e | e | e <;> rw [e] <;> decide)
    obtain ⟨k10, k11⟩ := r11 _ pl0
    obtain ⟨k20, k21⟩ := r11 _ pla
    obtain ⟨s0, s1, s2⟩ := r4 0 (by omega)
    obtain ⟨t0, t1, t2⟩ := r4 a ha
    have ha0 : ¬ a = 0 := by omega
    refine ⟨⟨(hk 0 (by omega)).trans r1, (hk 10 (by omega)).trans r2, hk 1 (by omega)⟩, fun i hi => ?_, ⟨(hk 15 (by omega)), (hk 16 (by omega)), (hk 18 (by omega)), (hk 19 (by omega))⟩, ⟨(hk 17 (by omega)).trans r9, (hk 20 (by omega)).trans r10⟩, fun i hi => ?_⟩
    · have hi' : i < 2 := hi
      rcases (show i = 0 ∨ i = 1 by omega) with e | e <;> subst e
      · exact ⟨(hk 6 (by omega)).trans s0, (hk 2 (by omega)).trans s1, (hk 11 (by omega)).trans s2⟩
      · exact ⟨(hk 7 (by omega)).trans t0, (hk 3 (by omega)).trans t1, (hk 12 (by omega)).trans t2⟩
    · have hi' : i < 3 := Nat.lt_of_lt_of_eq hi (show prs 2 = 3 from rfl)
      rcases (show i = 0 ∨ i = 1 ∨ i = 2 by omega) with e | e | e <;> subst e
      · exact ⟨(hk 21 (by omega)).trans k00, (hk 31 (by omega)).trans k01⟩
      · refine ⟨(hk 22 (by omega)).trans (k10.trans ?_), (hk 32 (by omega)).trans ?_⟩
        · show nI (aK r (prn 0 a)) = nI (aK r (1 - 1 + prn 0 a))
          rw [show 1 - 1 + prn 0 a = prn 0 a by omega]
        · refine Eq.trans ?_ (k11.trans ?_)
          · show mI S (z + 216) (41 * 26 + (21 + 10 * 1 + prn 0 a)) = _
            rw [show 41 * 26 + (21 + 10 * 1 + prn 0 a) = 41 * 26 + (31 + prn 0 a) by omega]
          · show nI (aK r (10 + prn 0 a)) = nI (aK r (11 - 1 + prn 0 a))
            rw [show 11 - 1 + prn 0 a = 10 + prn 0 a by omega]
      · refine ⟨(hk 23 (by omega)).trans (k20.trans ?_), (hk 33 (by omega)).trans ?_⟩
        · show nI (aK r (prn a a)) = nI (aK r (2 - 2 + prn a a))
          rw [show 2 - 2 + prn a a = prn a a by omega]
        · refine Eq.trans ?_ (k21.trans ?_)
          · show mI S (z + 216) (41 * 26 + (21 + 10 * 1 + prn a a)) = _
            rw [show 41 * 26 + (21 + 10 * 1 + prn a a) = 41 * 26 + (31 + prn a a) by omega]
          · show nI (aK r (10 + prn a a)) = nI (aK r (12 - 2 + prn a a))
            rw [show 12 - 2 + prn a a = 10 + prn a a by omega]
end M9
