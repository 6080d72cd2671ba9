set_option maxRecDepth 20000
def allF (f : Nat → Nat) (mx : Nat) : Nat → Nat → Bool
  | 0, _ => true
  | m + 1, j => decide (f j ≤ mx) && allF f mx m (j + 1)
section M15
variable {S S' S0 S1 S2 : Mem} {z n a b i j k o o' e q x m : Nat} {r : Rc} {s : As} {W W' R : Nat → Int32} {ls : List Rc} {t u : List Nat} {f : Nat → Nat}
theorem allF_t {mx : Nat} : ∀ m j, allF f mx m j = true ↔ ∀ k, j ≤ k → k < j + m → f k ≤ mx := by
  intro m
  induction m with
  | zero => intro j; exact ⟨fun _ k h1 h2 => by omega, fun _ => rfl⟩
  | succ m ih =>
    intro j
    rw [allF, Bool.and_eq_true, decide_eq_true_iff, ih (j + 1)]
    refine ⟨fun ⟨h1, h2⟩ k h3 h4 => ?_, fun h => ⟨h j (by omega) (by omega), fun k h1 h2 => h k (by omega) (by omega)⟩⟩
    by_cases c : k = j
    · subst c; exact h1
    · exact h2 k (by omega) (by omega)
theorem dv2 (h : x < 256) : nI x / nI 2 = nI (x / 2) := by
  have : ∀ p, p < 256 → nI p / nI 2 = nI (p / 2) := by decide +kernel
  exact this x h
theorem rm2 (h : x < 256) : prem (nI x) (nI 2) = some (nI (x % 2)) := by
  have : ∀ p, p < 256 → prem (nI p) (nI 2) = some (nI (p % 2)) := by decide +kernel
  exact this x h
theorem pd2 {v : Int32} : pdiv v (nI 2) = some (v / nI 2) := rfl
theorem m_t182 {K : Nat → Int32 → Int32 → Int32 → Mem → Option (Int32 × Mem)} {fu : Nat} {v1 : Int32} (ht : zMt z S0 t) (hl : t.length ≤ 120) (hb : ∀ b, b ∈ t → b < 256) (h : zR5 z S0 S R) (hi : i < 10000) (hm : m < 2) (hj : j < 2) : ∃ S', F_X6_taken_L182 K (fu + 1) (z + 214) v1 (nI i) (nI m) (nI j) S = F_X6_taken_L182 K fu (z + 214) v1 (nI i) (nI m) (nI (j + 1)) S' ∧ zR5 z S0 S' (va_up R (15 + 3 * m + j) (gI (pb t (i + 1 + j) / 2))) := by
  have c : ¬ nI 2 ≤ nI j := nI_ge (by omega) (by omega)
  have b1 := m_byte (i := i + 1 + j) h.1 (zMt_Mw h.2.1 ht) hl (by omega)
  obtain ⟨S1, p1, pp2⟩ := r5_put (k := 15 + 3 * m + j) (x := gI (pb t (i + 1 + j) / 2)) h (by omega)
  refine ⟨S1, ?_, pp2⟩
  simp only [F_X6_taken_L182, l_0, l_1, l_2, l_3, l_4, l_5, l_6, l_7, l_8, l_9, l_10, l_11, l_12, l_13, l_14, l_15, l_16, l_17, l_18, l_19, l_20, l_21, l_24, l_25, l_26, l_27, l_31, l_33, l_41, l_65, l_67, l_71, l_84, l_120, l_127, l_128, l_130, l_160, l_162, l_200, l_255, l_256, l_999, l_1000, l_8000, l_9999, l_10000, l_8001, l_m1, c, t_k214 h.1, nI_add, nI_mul, b1, pd2, dv2 (pb_lt hb (i + 1 + j)), gI_of, p1, bd2_some, bdx_inl, bdx_inr, bdc_inl, bdc_inr, obd_some, ↓reduceIte]
theorem m_rsm {fu : Nat} (ht : zMt z S0 t) (hl : t.length ≤ 120) (hb : ∀ b, b ∈ t → b < 256) (h : zR5 z S0 S R) (hi : i < 9000) (hm : m < 2) (hn : n ≤ 4) : ∃ S' R', F_X6_taken_L174 (fu + 1) (z + 214) (nI n) (nI i) (nI m) S = F_X6_taken_L174 fu (z + 214) (nI n) (nI (pNx t (i + 3) (prs n))) (nI (m + 1)) S' ∧ zR5 z S0 S' R' ∧ R' (15 + 3 * m) = gI (pb t (i + 1) / 2) ∧ R' (15 + 3 * m + 1) = gI (pb t (i + 2) / 2) ∧ R' (15 + 3 * m + 2) = nI (pb t (i + 1) % 2) ∧ (∀ k, k < prs n → R' (21 + 10 * m + k) = nI (pRw t (i + 3) k)) ∧ ∀ k, (k < 15 + 3 * m ∨ 18 + 3 * m ≤ k) → (k < 21 + 10 * m ∨ 21 + 10 * m + prs n ≤ k) → R' k = R k := by
  have p10 := prs_le hn
  obtain ⟨S1, a1, a2⟩ := m_t182 (K := F_X6_taken_L174 fu) (fu := 3997 + 1 + 1) (v1 := nI n) (j := 0) ht hl hb h (show i < 10000 by omega) hm (by omega)
  obtain ⟨S2, b1, b2⟩ := m_t182 (K := F_X6_taken_L174 fu) (fu := 3997 + 1) (v1 := nI n) (j := 1) ht hl hb a2 (show i < 10000 by omega) hm (by omega)
  have y1 := m_byte (i := i + 1) b2.1 (zMt_Mw b2.2.1 ht) hl (by omega)
  obtain ⟨S3, c1, c2⟩ := r5_put (k := 15 + 3 * m + 2) (x := nI (pb t (i + 1) % 2)) b2 (by omega)
  obtain ⟨S4, R4, d1, d2, d3, d4⟩ := m_rrow (i := i + 3) (o := 21 + 10 * m) (n := prs n) ht hl (by omega) (by omega) c2
  refine ⟨S4, R4, ?_, d2, ?_, ?_, ?_, d3, fun k h1 h2 => ?_⟩
  · have c : ¬ (2 : Int32) ≤ nI m := nI_ge (a := m) (b := 2) (by omega) (by omega)
    rw [F_X6_taken_L174, if_neg c]
    show F_X6_taken_L182 (F_X6_taken_L174 fu) (3997 + 1 + 1 + 1) (z + 214) (nI n) (nI i) (nI m) (nI 0) S = _
    rw [a1]
    refine Eq.trans b1 ?_
    have cc : (2 : Int32) ≤ nI (1 + 1) := by decide
    have mp := m_pairs (S := S3) hn
    have y1' : F_X6_byteAt (z + 214) (nI i + 1) S2 = some (nI (pb t (i + 1)), S2) := by
      rw [show nI i + 1 = nI (i + 1) from nI_1 i]; exact y1
    have rm' : prem (nI (pb t (i + 1))) 2 = some (nI (pb t (i + 1) % 2)) := rm2 (pb_lt hb (i + 1))
    have c1' : F_X6_put (z + 214) 25 (15 + 3 * nI m + 2) (nI (pb t (i + 1) % 2)) S2 = some S3 := by
      rw [show (15 : Int32) + 3 * nI m + 2 = nI (15 + 3 * m + 2) from by
        show nI 15 + nI 3 * nI m + nI 2 = _
        rw [nI_mul, nI_add, nI_add]]
      exact c1
    have d1' : F_X6_readRow (z + 214) (nI i + 3) (21 + 10 * nI m) (nI (prs n)) S3 = some (nI (pNx t (i + 3) (prs n)), S4) := by
      rw [show nI i + 3 = nI (i + 3) from nI_add i 3, show (21 : Int32) + 10 * nI m = nI (21 + 10 * m) from by
        show nI 21 + nI 10 * nI m = _
        rw [nI_mul, nI_add]]
      exact d1
    rw [F_X6_taken_L182, if_pos cc, t_k214 b2.1, obd_some, y1', bd2_some, rm', obd_some, t_k214 b2.1, obd_some, c1', obd_some, mp, bd2_some, t_k214 c2.1, obd_some, d1', bd2_some]
    show F_X6_taken_L174 fu (z + 214) (nI n) (nI (pNx t (i + 3) (prs n))) (nI m + nI 1) S4 = _
    rw [nI_add]
  · rw [d4 _ (by omega)]
    have e1 : ¬ 15 + 3 * m = 15 + 3 * m + 2 := by omega
    have e2 : ¬ 15 + 3 * m = 15 + 3 * m + 1 := by omega
    simp only [va_up, e1, e2, Nat.add_zero, ↓reduceIte]
  · rw [d4 _ (by omega)]
    have e1 : ¬ 15 + 3 * m + 1 = 15 + 3 * m + 2 := by omega
    simp only [va_up, e1, ↓reduceIte]
  · rw [d4 _ (by omega)]
    simp only [va_up, ↓reduceIte]
  · rw [d4 k (by omega)]
    have e1 : ¬ k = 15 + 3 * m + 2 := by omega
    have e2 : ¬ k = 15 + 3 * m + 1 := by omega
    have e3 : ¬ k = 15 + 3 * m := by omega
    simp only [va_up, e1, e2, e3, Nat.add_zero, ↓reduceIte]
theorem bI_and (b c : Bool) : (if b = true then bI c else nI 0) = bI (b && c) := by cases b <;> rfl
theorem m_i134 {K : Nat → Int32 → Int32 → Int32 → Mem → Option (Int32 × Mem)} {v1 : Int32} {Kv : Nat → Nat} (h : zR5 z S0 S R) (hm : m < 2) (hK : ∀ k, k < 10 → R (21 + 10 * m + k) = nI (Kv (10 * m + k)) ∧ Kv (10 * m + k) < 65536) : ∀ (q fu j : Nat) (b : Bool), j + q = 10 → q < fu → F_X6_inRange_L134 K fu (z + 214) v1 (bI b) (nI m) (nI j) S = K (z + 214) v1 (bI (b && allF Kv 999 q (10 * m + j))) (nI (m + 1)) S := by
  intro q
  induction q with
  | zero =>
    intro fu j b hj hf
    obtain ⟨fu, rfl⟩ : ∃ f, fu = f + 1 := ⟨fu - 1, by omega⟩
    have c : nI 10 ≤ nI j := nI_le (by omega) (by omega)
    rw [allF, Bool.and_true]
    simp only [F_X6_inRange_L134, l_0, l_1, l_2, l_3, l_4, l_5, l_6, l_7, l_8, l_9, l_10, l_11, l_12, l_13, l_14, l_15, l_16, l_17, l_18, l_19, l_20, l_21, l_24, l_25, l_26, l_27, l_31, l_33, l_41, l_65, l_67, l_71, l_84, l_120, l_127, l_128, l_130, l_160, l_162, l_200, l_255, l_256, l_999, l_1000, l_8000, l_9999, l_10000, l_8001, l_m1, c, nI_add, ↓reduceIte]
  | succ q ih =>
    intro fu j b hj hf
    obtain ⟨fu, rfl⟩ : ∃ f, fu = f + 1 := ⟨fu - 1, by omega⟩
    have c : ¬ nI 10 ≤ nI j := nI_ge (by omega) (by omega)
    rw [allF]
    cases b with
    | false =>
      have IH := ih fu (j + 1) false (by omega) (by omega)
      refine Eq.trans ?_ IH
      simp only [F_X6_inRange_L134, F_X6_inRange_J171, F_X6_inRange_J172, l_0, l_1, l_2, l_3, l_4, l_5, l_6, l_7, l_8, l_9, l_10, l_11, l_12, l_13, l_14, l_15, l_16, l_17, l_18, l_19, l_20, l_21, l_24, l_25, l_26, l_27, l_31, l_33, l_41, l_65, l_67, l_71, l_84, l_120, l_127, l_128, l_130, l_160, l_162, l_200, l_255, l_256, l_999, l_1000, l_8000, l_9999, l_10000, l_8001, l_m1, c, bI, nI_add, ↓reduceIte, Bool.false_eq_true]
    | true =>
      obtain ⟨k1, k2⟩ := hK j (by omega)
      have g1 := r5_get5 (k := 21 + 10 * m + j) h (by omega)
      rw [k1] at g1
      by_cases c2 : 999 < Kv (10 * m + j)
      · have c2' : nI 999 < nI (Kv (10 * m + j)) := nI_lt c2 (by omega)
        have IH := ih fu (j + 1) false (by omega) (by omega)
        rw [decide_eq_false (by omega)]
        refine Eq.trans ?_ IH
        simp only [F_X6_inRange_L134, F_X6_inRange_J171, F_X6_inRange_J172, l_0, l_1, l_2, l_3, l_4, l_5, l_6, l_7, l_8, l_9, l_10, l_11, l_12, l_13, l_14, l_15, l_16, l_17, l_18, l_19, l_20, l_21, l_24, l_25, l_26, l_27, l_31, l_33, l_41, l_65, l_67, l_71, l_84, l_120, l_127, l_128, l_130, l_160, l_162, l_200, l_255, l_256, l_999, l_1000, l_8000, l_9999, l_10000, l_8001, l_m1, c, bI, ne10, t_k214 h.1, nI_mul, nI_add, g1, c2', bd2_some, bdx_inl, bdx_inr, bdc_inl, bdc_inr, obd_some, ↓reduceIte, Bool.false_eq_true]
      · have c2' : ¬ nI 999 < nI (Kv (10 * m + j)) := nI_nlt (by omega) (by omega)
        have IH := ih fu (j + 1) true (by omega) (by omega)
        rw [decide_eq_true (by omega), Bool.true_and]
        rw [show 10 * m + (j + 1) = 10 * m + j + 1 by omega] at IH
        refine Eq.trans ?_ IH
        simp only [F_X6_inRange_L134, F_X6_inRange_J171, F_X6_inRange_J172, l_0, l_1, l_2, l_3, l_4, l_5, l_6, l_7, l_8, l_9, l_10, l_11, l_12, l_13, l_14, l_15, l_16, l_17, l_18, l_19, l_20, l_21, l_24, l_25, l_26, l_27, l_31, l_33, l_41, l_65, l_67, l_71, l_84, l_120, l_127, l_128, l_130, l_160, l_162, l_200, l_255, l_256, l_999, l_1000, l_8000, l_9999, l_10000, l_8001, l_m1, c, bI, ne10, t_k214 h.1, nI_mul, nI_add, g1, c2', bd2_some, bdx_inl, bdx_inr, bdc_inl, bdc_inr, obd_some, ↓reduceIte]
theorem le_gI {g : Nat} (hn : n ≤ 4) (hg : g < 65536) : nI n ≤ gI g ↔ n < g := by
  cases g with
  | zero => exact ⟨fun w => absurd w (m1_le' (by omega)), fun w => by omega⟩
  | succ g =>
    show nI n ≤ nI g ↔ _
    rw [nI_leI (by omega) (by omega)]
    omega
theorem m_i82 {fu : Nat} {Kv Gv : Nat → Nat} {b : Bool} (h : zR5 z S0 S R) (hn : n ≤ 4) (hm : m < 2) (hK : ∀ k, k < 10 → R (21 + 10 * m + k) = nI (Kv (10 * m + k)) ∧ Kv (10 * m + k) < 65536) (hG : ∀ j, j < 2 → R (15 + 3 * m + j) = gI (Gv (2 * m + j)) ∧ Gv (2 * m + j) < 65536) : F_X6_inRange_L82 (fu + 1) (z + 214) (nI n) (bI b) (nI m) S = F_X6_inRange_L82 fu (z + 214) (nI n) (bI (b && (decide (Gv (2 * m) ≤ n) && decide (Gv (2 * m + 1) ≤ n)) && allF Kv 999 10 (10 * m))) (nI (m + 1)) S := by
  have c : ¬ (2 : Int32) ≤ nI m := nI_ge (a := m) (b := 2) (by omega) (by omega)
  have go : ∀ b', F_X6_inRange_J130 (F_X6_inRange_L82 fu) (z + 214) (nI n) (nI m) (bI b') S = F_X6_inRange_L82 fu (z + 214) (nI n) (bI (b' && allF Kv 999 10 (10 * m))) (nI (m + 1)) S := by
    intro b'
    exact m_i134 (K := F_X6_inRange_L82 fu) (v1 := nI n) h hm hK 10 FU 0 b' (by omega) (by decide)
  rw [← go]
  rw [F_X6_inRange_L82, if_neg c]
  cases b with
  | false =>
    rw [if_pos (show bI false = 0 from rfl)]
    rfl
  | true =>
    obtain ⟨k1, k2⟩ := hG 0 (by omega)
    obtain ⟨k3, k4⟩ := hG 1 (by omega)
    rw [Nat.add_zero (15 + 3 * m)] at k1
    rw [Nat.add_zero] at k1 k2
    have g1 := r5_get5 (k := 15 + 3 * m) h (by omega)
    have g2 := r5_get5 (k := 15 + 3 * m + 1) h (by omega)
    rw [k1] at g1
    rw [k3] at g2
    rw [if_neg (show ¬ bI true = 0 from ne10), t_k214 h.1, obd_some]
    have g1' : F_X6_get (z + 214) 25 (15 + 3 * nI m) S = some (gI (Gv (2 * m)), S) := by
      rw [show (15 : Int32) + 3 * nI m = nI (15 + 3 * m) from by
        show nI 15 + nI 3 * nI m = _
        rw [nI_mul, nI_add]]
      exact g1
    have g2' : F_X6_get (z + 214) 25 (15 + 3 * nI m + 1) S = some (gI (Gv (2 * m + 1)), S) := by
      rw [show (15 : Int32) + 3 * nI m + 1 = nI (15 + 3 * m + 1) from by
        show nI 15 + nI 3 * nI m + nI 1 = _
        rw [nI_mul, nI_add, nI_add]]
      exact g2
    rw [g1', bd2_some]
    by_cases c1 : Gv (2 * m) ≤ n
    · rw [if_neg (fun w => by have := (le_gI hn k2).mp w; omega), t_k214 h.1, obd_some, g2', bd2_some]
      by_cases c2 : Gv (2 * m + 1) ≤ n
      · rw [if_neg (fun w => by have := (le_gI hn k4).mp w; omega), decide_eq_true c1, decide_eq_true c2]
        rfl
      · rw [if_pos ((le_gI hn k4).mpr (by omega)), decide_eq_true c1, decide_eq_false c2]
        rfl
    · rw [if_pos ((le_gI hn k2).mpr (by omega)), decide_eq_false c1]
      rfl
theorem m_i43 {Dv : Nat → Nat} (h : zR5 z S0 S R) (hn : n ≤ 4) (hD : ∀ k, k < n → R (11 + k) = nI (Dv k) ∧ Dv k < 65536) : ∀ (q fu j : Nat) (b : Bool), j + q = n → q < fu → F_X6_inRange_L43 fu (z + 214) (nI n) (bI b) (nI j) S = F_X6_inRange_L82 FU (z + 214) (nI n) (bI (b && allF Dv 9999 q j)) (nI 0) S := by
  intro q
  induction q with
  | zero =>
    intro fu j b hj hf
    obtain ⟨fu, rfl⟩ : ∃ f, fu = f + 1 := ⟨fu - 1, by omega⟩
    have c : nI n ≤ nI j := nI_le (by omega) (by omega)
    rw [allF, Bool.and_true]
    simp only [F_X6_inRange_L43, l_0, l_1, l_2, l_3, l_4, l_5, l_6, l_7, l_8, l_9, l_10, l_11, l_12, l_13, l_14, l_15, l_16, l_17, l_18, l_19, l_20, l_21, l_24, l_25, l_26, l_27, l_31, l_33, l_41, l_65, l_67, l_71, l_84, l_120, l_127, l_128, l_130, l_160, l_162, l_200, l_255, l_256, l_999, l_1000, l_8000, l_9999, l_10000, l_8001, l_m1, c, ↓reduceIte]
  | succ q ih =>
    intro fu j b hj hf
    obtain ⟨fu, rfl⟩ : ∃ f, fu = f + 1 := ⟨fu - 1, by omega⟩
    have c : ¬ nI n ≤ nI j := nI_ge (by omega) (by omega)
    rw [allF]
    cases b with
    | false =>
      have IH := ih fu (j + 1) false (by omega) (by omega)
      refine Eq.trans ?_ IH
      simp only [F_X6_inRange_L43, F_X6_inRange_J72, F_X6_inRange_J73, l_0, l_1, l_2, l_3, l_4, l_5, l_6, l_7, l_8, l_9, l_10, l_11, l_12, l_13, l_14, l_15, l_16, l_17, l_18, l_19, l_20, l_21, l_24, l_25, l_26, l_27, l_31, l_33, l_41, l_65, l_67, l_71, l_84, l_120, l_127, l_128, l_130, l_160, l_162, l_200, l_255, l_256, l_999, l_1000, l_8000, l_9999, l_10000, l_8001, l_m1, c, bI, nI_add, ↓reduceIte, Bool.false_eq_true]
    | true =>
      obtain ⟨k1, k2⟩ := hD j (by omega)
      have g1 := r5_get5 (k := 11 + j) h (by omega)
      rw [k1] at g1
      by_cases c2 : 9999 < Dv j
      · have c2' : nI 9999 < nI (Dv j) := nI_lt c2 (by omega)
        have IH := ih fu (j + 1) false (by omega) (by omega)
        rw [decide_eq_false (by omega)]
        refine Eq.trans ?_ IH
        simp only [F_X6_inRange_L43, F_X6_inRange_J72, F_X6_inRange_J73, l_0, l_1, l_2, l_3, l_4, l_5, l_6, l_7, l_8, l_9, l_10, l_11, l_12, l_13, l_14, l_15, l_16, l_17, l_18, l_19, l_20, l_21, l_24, l_25, l_26, l_27, l_31, l_33, l_41, l_65, l_67, l_71, l_84, l_120, l_127, l_128, l_130, l_160, l_162, l_200, l_255, l_256, l_999, l_1000, l_8000, l_9999, l_10000, l_8001, l_m1, c, bI, ne10, t_k214 h.1, nI_add, g1, c2', bd2_some, bdx_inl, bdx_inr, bdc_inl, bdc_inr, obd_some, ↓reduceIte, Bool.false_eq_true]
      · have c2' : ¬ nI 9999 < nI (Dv j) := nI_nlt (by omega) (by omega)
        have IH := ih fu (j + 1) true (by omega) (by omega)
        rw [decide_eq_true (by omega), Bool.true_and]
        refine Eq.trans ?_ IH
        simp only [F_X6_inRange_L43, F_X6_inRange_J72, F_X6_inRange_J73, l_0, l_1, l_2, l_3, l_4, l_5, l_6, l_7, l_8, l_9, l_10, l_11, l_12, l_13, l_14, l_15, l_16, l_17, l_18, l_19, l_20, l_21, l_24, l_25, l_26, l_27, l_31, l_33, l_41, l_65, l_67, l_71, l_84, l_120, l_127, l_128, l_130, l_160, l_162, l_200, l_255, l_256, l_999, l_1000, l_8000, l_9999, l_10000, l_8001, l_m1, c, bI, ne10, t_k214 h.1, nI_add, g1, c2', bd2_some, bdx_inl, bdx_inr, bdc_inl, bdc_inr, obd_some, ↓reduceIte]
theorem m_inr {P p l B : Nat} {rf : Nat → Nat} {Kv Gv Dv : Nat → Nat} (h : zR5 z S0 S R) (hf : zMf z S0 P rf) (h4 : ∀ i, rf i < 4) (hP : P ≤ 160) (hn : n ≤ 4) (r0 : R 0 = nI p) (r2 : R 2 = nI l) (r6 : R 6 = nI B) (hp : p < 65536) (hl1 : 1 ≤ l) (hl8 : l ≤ 8) (hB : B < 65536) (hD : ∀ k, k < n → R (11 + k) = nI (Dv k) ∧ Dv k < 65536) (hK : ∀ m, m < 2 → ∀ k, k < 10 → R (21 + 10 * m + k) = nI (Kv (10 * m + k)) ∧ Kv (10 * m + k) < 65536) (hG : ∀ m, m < 2 → ∀ j, j < 2 → R (15 + 3 * m + j) = gI (Gv (2 * m + j)) ∧ Gv (2 * m + j) < 65536) :
    F_X6_inRange (z + 214) (nI n) S = some (bI (decide ((1 ≤ p ∧ p + l ≤ P + 1) ∧ B = rn rf p l) && allF Dv 9999 n 0 && (decide (Gv 0 ≤ n) && decide (Gv 1 ≤ n)) && allF Kv 999 10 0 && (decide (Gv 2 ≤ n) && decide (Gv 3 ≤ n)) && allF Kv 999 10 10), S) := by
  have g0 := r5_get5 (k := 0) h (by omega)
  have g2 := r5_get5 (k := 2) h (by omega)
  have g6 := r5_get5 (k := 6) h (by omega)
  rw [r0] at g0
  rw [r2] at g2
  rw [r6] at g6
  have hfS : zMf z S P rf := zMf_of (h.2.1.2.2 2 (by omega)) h.2.1.2.1 hf
  have st : F_X6_inRange (z + 214) (nI n) S = F_X6_inRange_L43 FU (z + 214) (nI n) (bI (decide (1 ≤ p ∧ p + l ≤ P + 1))) (nI 0) S := by
    by_cases c1 : p < 1
    · have c1' : nI p < nI 1 := nI_lt c1 (by omega)
      rw [decide_eq_false (by omega)]
      simp only [F_X6_inRange, F_X6_inRange_J39, F_X6_inRange_J40, l_0, l_1, l_2, l_3, l_4, l_5, l_6, l_7, l_8, l_9, l_10, l_11, l_12, l_13, l_14, l_15, l_16, l_17, l_18, l_19, l_20, l_21, l_24, l_25, l_26, l_27, l_31, l_33, l_41, l_65, l_67, l_71, l_84, l_120, l_127, l_128, l_130, l_160, l_162, l_200, l_255, l_256, l_999, l_1000, l_8000, l_9999, l_10000, l_8001, l_m1, t_k214 h.1, g0, c1', bI, bd2_some, bdx_inl, bdx_inr, bdc_inl, bdc_inr, obd_some, ↓reduceIte, Bool.false_eq_true]
    · have c1' : ¬ nI p < nI 1 := nI_nlt (by omega) (by omega)
      have e3 : nI (p + l) - nI 1 = nI (p + l - 1) := nI_sub1 (by omega)
      by_cases c2 : P < p + l - 1
      · have c2' : nI P < nI (p + l - 1) := nI_lt c2 (by omega)
        rw [decide_eq_false (by omega)]
        simp only [F_X6_inRange, F_X6_inRange_J39, F_X6_inRange_J40, l_0, l_1, l_2, l_3, l_4, l_5, l_6, l_7, l_8, l_9, l_10, l_11, l_12, l_13, l_14, l_15, l_16, l_17, l_18, l_19, l_20, l_21, l_24, l_25, l_26, l_27, l_31, l_33, l_41, l_65, l_67, l_71, l_84, l_120, l_127, l_128, l_130, l_160, l_162, l_200, l_255, l_256, l_999, l_1000, l_8000, l_9999, l_10000, l_8001, l_m1, t_k214 h.1, g0, c1', g2, nI_add, e3, t_g214 h.1, hfS.1, c2', bI, bd2_some, bdx_inl, bdx_inr, bdc_inl, bdc_inr, obd_some, ↓reduceIte, Bool.false_eq_true]
      · have c2' : ¬ nI P < nI (p + l - 1) := nI_nlt (by omega) (by omega)
        rw [decide_eq_true (by omega)]
        simp only [F_X6_inRange, F_X6_inRange_J39, F_X6_inRange_J40, l_0, l_1, l_2, l_3, l_4, l_5, l_6, l_7, l_8, l_9, l_10, l_11, l_12, l_13, l_14, l_15, l_16, l_17, l_18, l_19, l_20, l_21, l_24, l_25, l_26, l_27, l_31, l_33, l_41, l_65, l_67, l_71, l_84, l_120, l_127, l_128, l_130, l_160, l_162, l_200, l_255, l_256, l_999, l_1000, l_8000, l_9999, l_10000, l_8001, l_m1, t_k214 h.1, g0, c1', g2, nI_add, e3, t_g214 h.1, hfS.1, c2', bI, bd2_some, bdx_inl, bdx_inr, bdc_inl, bdc_inr, obd_some, ↓reduceIte]
  obtain ⟨b0, eb0⟩ : ∃ b0, b0 = decide (1 ≤ p ∧ p + l ≤ P + 1) := ⟨_, rfl⟩
  rw [← eb0] at st
  have s1 := m_i43 h hn hD n FU 0 b0 (by omega) (by show n < 4000; omega)
  have s2 := m_i82 (fu := 3997 + 1 + 1) (m := 0) (b := b0 && allF Dv 9999 n 0) h hn (by omega) (hK 0 (by omega)) (hG 0 (by omega))
  have s3 := m_i82 (fu := 3997 + 1) (m := 1) (b := b0 && allF Dv 9999 n 0 && (decide (Gv (2 * 0) ≤ n) && decide (Gv (2 * 0 + 1) ≤ n)) && allF Kv 999 10 (10 * 0)) h hn (by omega) (hK 1 (by omega)) (hG 1 (by omega))
  rw [st, s1]
  refine Eq.trans s2 (Eq.trans s3 ?_)
  have c : (2 : Int32) ≤ nI (1 + 1) := by decide
  rw [F_X6_inRange_L82, if_pos c]
  have eq1 : decide ((1 ≤ p ∧ p + l ≤ P + 1) ∧ B = rn rf p l) = (b0 && decide (B = rn rf p l)) := by
    rw [eb0]
    exact Bool.decide_and _ _
  rw [eq1]
  show (if bI (b0 && allF Dv 9999 n 0 && (decide (Gv 0 ≤ n) && decide (Gv 1 ≤ n)) && allF Kv 999 10 0 && (decide (Gv 2 ≤ n) && decide (Gv 3 ≤ n)) && allF Kv 999 10 10) = 0 then _ else _) = _
  cases hc : (b0 && allF Dv 9999 n 0 && (decide (Gv 0 ≤ n) && decide (Gv 1 ≤ n)) && allF Kv 999 10 0 && (decide (Gv 2 ≤ n) && decide (Gv 3 ≤ n)) && allF Kv 999 10 10) with
  | false =>
    rw [if_pos (show bI false = 0 from rfl)]
    have : (b0 && decide (B = rn rf p l) && allF Dv 9999 n 0 && (decide (Gv 0 ≤ n) && decide (Gv 1 ≤ n)) && allF Kv 999 10 0 && (decide (Gv 2 ≤ n) && decide (Gv 3 ≤ n)) && allF Kv 999 10 10) = false := by
      revert hc
      cases b0 <;> cases decide (B = rn rf p l) <;> simp
    rw [this]
    rfl
  | true =>
    rw [if_neg (show ¬ bI true = 0 from ne10)]
    have hb0 : b0 = true := by
      revert hc
      cases b0 <;> simp
    have hc2 := of_decide_eq_true (eb0.symm.trans hb0)
    have : (b0 && decide (B = rn rf p l) && allF Dv 9999 n 0 && (decide (Gv 0 ≤ n) && decide (Gv 1 ≤ n)) && allF Kv 999 10 0 && (decide (Gv 2 ≤ n) && decide (Gv 3 ≤ n)) && allF Kv 999 10 10) = decide (B = rn rf p l) := by
      revert hc
      cases b0 <;> cases decide (B = rn rf p l) <;> simp
    rw [this]
    have rf1 := m_from (q := p) (l := l) h.1 hfS hP hc2.1 hc2.2
    have rl := rn_lt h4 p l
    have := p4_8 hl8
    by_cases cB : B = rn rf p l
    · have cB' : nI (rn rf p l) = nI B := by rw [cB]
      rw [decide_eq_true cB]
      simp only [l_0, l_1, l_2, l_3, l_4, l_5, l_6, l_7, l_8, l_9, l_10, l_11, l_12, l_13, l_14, l_15, l_16, l_17, l_18, l_19, l_20, l_21, l_24, l_25, l_26, l_27, l_31, l_33, l_41, l_65, l_67, l_71, l_84, l_120, l_127, l_128, l_130, l_160, l_162, l_200, l_255, l_256, l_999, l_1000, l_8000, l_9999, l_10000, l_8001, l_m1, t_k214 h.1, g0, g2, rf1, g6, cB', bI, bd2_some, bdx_inl, bdx_inr, bdc_inl, bdc_inr, obd_some, ↓reduceIte]
    · have cB' : ¬ nI (rn rf p l) = nI B := fun w => cB ((nI_eq (by omega) (by omega)).mp w).symm
      rw [decide_eq_false cB]
      simp only [l_0, l_1, l_2, l_3, l_4, l_5, l_6, l_7, l_8, l_9, l_10, l_11, l_12, l_13, l_14, l_15, l_16, l_17, l_18, l_19, l_20, l_21, l_24, l_25, l_26, l_27, l_31, l_33, l_41, l_65, l_67, l_71, l_84, l_120, l_127, l_128, l_130, l_160, l_162, l_200, l_255, l_256, l_999, l_1000, l_8000, l_9999, l_10000, l_8001, l_m1, t_k214 h.1, g0, g2, rf1, g6, cB', bI, bd2_some, bdx_inl, bdx_inr, bdc_inl, bdc_inr, obd_some, ↓reduceIte, Bool.false_eq_true]
end M15
