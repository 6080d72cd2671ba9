set_option maxRecDepth 20000
section M4
variable {S S' S1 S2 : Mem} {z n a b i j k o o' : Nat} {r : Rc} {s : As} {x y : Int32} {W W' : Nat → Int32} {ls : List Rc}
theorem fI_lt {q : Option Nat} (h : ∀ k, q = some k → k < 2147483648) : fI q < nI 0 ↔ q = none := by
  cases q with
  | none => exact ⟨fun _ => rfl, fun _ => m1_lt⟩
  | some k => exact ⟨fun e => absurd e (nI_nlt (b := 0) (by omega) (h k rfl)), fun e => by cases e⟩
theorem M_allele {b : Int64} {n : Int32} (hs : xOk s) (h : zMo z s S) : ∃ S', F_X6_allele (z + 214) b n S = some ((o_allele s b n).2.1, S') ∧ zMo z (o_allele s b n).2.2 S' ∧ zFr (z + 214) (z + 220) S S' ∧ mI S' (z + 214) 0 = (o_allele s b n).1 := by
  obtain ⟨hS, hl, hf, hd, ht⟩ := id h
  by_cases c : n < nI 1 ∨ nI 8 < n
  · rw [show o_allele s b n = (nI 1, nI 0, s) from if_pos c]
    refine ⟨sI S (z + 214) 0 (nI 1), ?_, zMo_th h, zFr_th, by rw [mI_sI, if_pos ⟨rfl, rfl⟩]⟩
    have core : F_X6_allele_J37 (z + 214) n (nI 1) (nI 0) S = some (nI 0, sI S (z + 214) 0 (nI 1)) := by
      by_cases d : xD s = false
      · simp only [F_X6_allele_J37, F_X6_allele_J72, F_X6_allele_J77, l_0, l_1, l_2, l_3, l_4, l_5, l_6, l_7, l_8, l_9, l_10, l_11, l_12, l_13, l_14, l_15, l_16, l_17, l_18, l_19, l_20, l_21, l_24, l_25, l_26, l_27, l_31, l_33, l_41, l_65, l_67, l_71, l_84, l_120, l_127, l_128, l_130, l_160, l_162, l_200, l_255, l_256, l_999, l_1000, l_8000, l_9999, l_10000, l_8001, l_m1, t_g214 hS, md_f hd d, ne10, t_k214 hS, m_th1 hS, bd2_some, bdx_inl, bdx_inr, bdc_inl, bdc_inr, obd_some, ↓reduceIte]
      · rw [Bool.not_eq_false] at d
        obtain ⟨hr, -, -⟩ := hd.2 d
        have gn := hr.1.2.2
        have g1 := m_get (i := 24) (k := 1) hS (by omega)
        rw [gn] at g1
        have n4 := (hs.2.2.1 d).1.2
        by_cases d4 : aN (xR s) = 4
        · simp only [F_X6_allele_J37, F_X6_allele_J72, F_X6_allele_J77, l_0, l_1, l_2, l_3, l_4, l_5, l_6, l_7, l_8, l_9, l_10, l_11, l_12, l_13, l_14, l_15, l_16, l_17, l_18, l_19, l_20, l_21, l_24, l_25, l_26, l_27, l_31, l_33, l_41, l_65, l_67, l_71, l_84, l_120, l_127, l_128, l_130, l_160, l_162, l_200, l_255, l_256, l_999, l_1000, l_8000, l_9999, l_10000, l_8001, l_m1, t_g214 hS, md_t hd d, g1, d4, ne10, t_k214 hS, m_th1 hS, bd2_some, bdx_inl, bdx_inr, bdc_inl, bdc_inr, obd_some, ↓reduceIte]
        · have d4' : ¬ nI (aN (xR s)) = nI 4 := fun q => d4 ((nI_eq (by omega) (by omega)).mp q)
          obtain ⟨w, hw⟩ := m_find_any (a := 24) (x := n) (y := nI 0) hS (by omega) gn n4 (aN (xR s)) FU 0 (by omega) (by show aN (xR s) < 4000; omega)
          have hw' : F_X6_findAllele (z + 214) (nI 24) n (nI 0) S = some (w, S) := hw
          by_cases d5 : w < nI 0
          · simp only [F_X6_allele_J37, F_X6_allele_J77, l_0, l_1, l_2, l_3, l_4, l_5, l_6, l_7, l_8, l_9, l_10, l_11, l_12, l_13, l_14, l_15, l_16, l_17, l_18, l_19, l_20, l_21, l_24, l_25, l_26, l_27, l_31, l_33, l_41, l_65, l_67, l_71, l_84, l_120, l_127, l_128, l_130, l_160, l_162, l_200, l_255, l_256, l_999, l_1000, l_8000, l_9999, l_10000, l_8001, l_m1, t_g214 hS, md_t hd d, g1, d4', hw', d5, ne10, t_k214 hS, m_th1 hS, bd2_some, bdx_inl, bdx_inr, bdc_inl, bdc_inr, obd_some, ↓reduceIte]
          · simp only [F_X6_allele_J37, F_X6_allele_J72, F_X6_allele_J77, l_0, l_1, l_2, l_3, l_4, l_5, l_6, l_7, l_8, l_9, l_10, l_11, l_12, l_13, l_14, l_15, l_16, l_17, l_18, l_19, l_20, l_21, l_24, l_25, l_26, l_27, l_31, l_33, l_41, l_65, l_67, l_71, l_84, l_120, l_127, l_128, l_130, l_160, l_162, l_200, l_255, l_256, l_999, l_1000, l_8000, l_9999, l_10000, l_8001, l_m1, t_g214 hS, md_t hd d, g1, d4', hw', d5, ne10, t_k214 hS, m_th1 hS, bd2_some, bdx_inl, bdx_inr, bdc_inl, bdc_inr, obd_some, ↓reduceIte]
    rcases c with c | c
    · simp only [F_X6_allele, F_X6_allele_J11, F_X6_allele_J16, l_0, l_1, l_2, l_3, l_4, l_5, l_6, l_7, l_8, l_9, l_10, l_11, l_12, l_13, l_14, l_15, l_16, l_17, l_18, l_19, l_20, l_21, l_24, l_25, l_26, l_27, l_31, l_33, l_41, l_65, l_67, l_71, l_84, l_120, l_127, l_128, l_130, l_160, l_162, l_200, l_255, l_256, l_999, l_1000, l_8000, l_9999, l_10000, l_8001, l_m1, c, ne10, ↓reduceIte]
      exact core
    · have c0 : ¬ n < nI 1 := fun q => by
        have := Int32.lt_trans c q
        exact absurd this (by decide)
      have c' : ¬ n ≤ nI 8 := Int32.not_le.mpr c
      simp only [F_X6_allele, F_X6_allele_J11, F_X6_allele_J16, l_0, l_1, l_2, l_3, l_4, l_5, l_6, l_7, l_8, l_9, l_10, l_11, l_12, l_13, l_14, l_15, l_16, l_17, l_18, l_19, l_20, l_21, l_24, l_25, l_26, l_27, l_31, l_33, l_41, l_65, l_67, l_71, l_84, l_120, l_127, l_128, l_130, l_160, l_162, l_200, l_255, l_256, l_999, l_1000, l_8000, l_9999, l_10000, l_8001, l_m1, c0, c', ne10, ↓reduceIte]
      exact core
  have c1 : ¬ n < nI 1 := fun q => c (Or.inl q)
  have c2 : ¬ nI 8 < n := fun q => c (Or.inr q)
  obtain ⟨nn, rfl, b1, b2⟩ := in_of (by omega) c1 c2 (by omega)
  have t1 : tn (nI nn) = nn := tn_nI (by omega)
  have c2' : nI nn ≤ nI 8 := Int32.not_lt.mp c2
  obtain ⟨bb, ebb⟩ : ∃ k, k = b.toBitVec.toNat % 4 ^ nn := ⟨_, rfl⟩
  have hbb : bb < 65536 := by
    have := Nat.mod_lt b.toBitVec.toNat (p4_pos nn)
    have := p4_8 b2
    omega
  have hm := m_mask (b := b) (n := nn) b2
  rw [← ebb] at hm
  have st : F_X6_allele (z + 214) b (nI nn) S = F_X6_allele_J37 (z + 214) (nI nn) (nI 0) (nI bb) S := by
    simp only [F_X6_allele, F_X6_allele_J16, l_0, l_1, l_2, l_3, l_4, l_5, l_6, l_7, l_8, l_9, l_10, l_11, l_12, l_13, l_14, l_15, l_16, l_17, l_18, l_19, l_20, l_21, l_24, l_25, l_26, l_27, l_31, l_33, l_41, l_65, l_67, l_71, l_84, l_120, l_127, l_128, l_130, l_160, l_162, l_200, l_255, l_256, l_999, l_1000, l_8000, l_9999, l_10000, l_8001, l_m1, c1, c2', ↓reduceIte]
    rw [hm]
  rw [st]
  by_cases d : xD s = false
  · rw [show o_allele s b (nI nn) = (nI 2, nI 0, s) from by unfold o_allele; rw [if_neg c, if_pos (Or.inl d)]]
    refine ⟨sI S (z + 214) 0 (nI 2), ?_, zMo_th h, zFr_th, by rw [mI_sI, if_pos ⟨rfl, rfl⟩]⟩
    simp only [F_X6_allele_J37, F_X6_allele_J72, F_X6_allele_J77, l_0, l_1, l_2, l_3, l_4, l_5, l_6, l_7, l_8, l_9, l_10, l_11, l_12, l_13, l_14, l_15, l_16, l_17, l_18, l_19, l_20, l_21, l_24, l_25, l_26, l_27, l_31, l_33, l_41, l_65, l_67, l_71, l_84, l_120, l_127, l_128, l_130, l_160, l_162, l_200, l_255, l_256, l_999, l_1000, l_8000, l_9999, l_10000, l_8001, l_m1, t_g214 hS, md_f hd d, ne10, t_k214 hS, m_th2 hS, bd2_some, bdx_inl, bdx_inr, bdc_inl, bdc_inr, obd_some, ↓reduceIte]
  rw [Bool.not_eq_false] at d
  obtain ⟨hr, hK, hD⟩ := hd.2 d
  have gn := hr.1.2.2
  have g1 := m_get (i := 24) (k := 1) hS (by omega)
  rw [gn] at g1
  have hok := hs.2.2.1 d
  have n4 := hok.1.2
  by_cases d4 : aN (xR s) = 4
  · rw [show o_allele s b (nI nn) = (nI 2, nI 0, s) from by unfold o_allele; rw [if_neg c, if_pos (Or.inr (Or.inl d4))]]
    refine ⟨sI S (z + 214) 0 (nI 2), ?_, zMo_th h, zFr_th, by rw [mI_sI, if_pos ⟨rfl, rfl⟩]⟩
    simp only [F_X6_allele_J37, F_X6_allele_J72, F_X6_allele_J77, l_0, l_1, l_2, l_3, l_4, l_5, l_6, l_7, l_8, l_9, l_10, l_11, l_12, l_13, l_14, l_15, l_16, l_17, l_18, l_19, l_20, l_21, l_24, l_25, l_26, l_27, l_31, l_33, l_41, l_65, l_67, l_71, l_84, l_120, l_127, l_128, l_130, l_160, l_162, l_200, l_255, l_256, l_999, l_1000, l_8000, l_9999, l_10000, l_8001, l_m1, t_g214 hS, md_t hd d, g1, d4, ne10, t_k214 hS, m_th2 hS, bd2_some, bdx_inl, bdx_inr, bdc_inl, bdc_inr, obd_some, ↓reduceIte]
  have d4' : ¬ nI (aN (xR s)) = nI 4 := fun q => d4 ((nI_eq (by omega) (by omega)).mp q)
  have hfd := m_find (a := 24) (l := nn) (b := bb) (L := aL (xR s)) (B := aB (xR s)) hS (by omega) gn n4 (fun i hi => by
    have h1 := hr.2.1 i hi
    have h2 := hok.2.1.1 i hi
    have := p4_8 h2.2.1
    exact ⟨h1.1, h1.2.1, by omega, by omega⟩) (by omega) (by omega)
  cases e : fnd (aN (xR s)) (aL (xR s)) (aB (xR s)) nn bb with
  | some k =>
    have hk := fnd_some e
    have hh : hasA (aN (xR s)) (aL (xR s)) (aB (xR s)) nn bb = true := decide_eq_true ⟨k, hk⟩
    rw [show o_allele s b (nI nn) = (nI 2, nI 0, s) from by unfold o_allele; rw [if_neg c, t1, ← ebb, if_pos (Or.inr (Or.inr hh))]]
    refine ⟨sI S (z + 214) 0 (nI 2), ?_, zMo_th h, zFr_th, by rw [mI_sI, if_pos ⟨rfl, rfl⟩]⟩
    rw [e] at hfd
    have d5 : ¬ nI k < nI 0 := nI_nlt (by omega) (by omega)
    simp only [F_X6_allele_J37, F_X6_allele_J72, F_X6_allele_J77, l_0, l_1, l_2, l_3, l_4, l_5, l_6, l_7, l_8, l_9, l_10, l_11, l_12, l_13, l_14, l_15, l_16, l_17, l_18, l_19, l_20, l_21, l_24, l_25, l_26, l_27, l_31, l_33, l_41, l_65, l_67, l_71, l_84, l_120, l_127, l_128, l_130, l_160, l_162, l_200, l_255, l_256, l_999, l_1000, l_8000, l_9999, l_10000, l_8001, l_m1, t_g214 hS, md_t hd d, g1, d4', hfd, fI, d5, ne10, t_k214 hS, m_th2 hS, bd2_some, bdx_inl, bdx_inr, bdc_inl, bdc_inr, obd_some, ↓reduceIte]
  | none =>
    have hh : hasA (aN (xR s)) (aL (xR s)) (aB (xR s)) nn bb = false := hasA_f.mpr e
    rw [show o_allele s b (nI nn) = (nI 0, nI (aN (xR s)), wDraft s true (aSetA (xR s) nn bb)) from by
      unfold o_allele
      rw [if_neg c, t1, ← ebb, if_neg (by
        rw [hh, d]
        rintro (q | q | q)
        · cases q
        · exact d4 q
        · cases q)]]
    rw [e] at hfd
    have d5 : m1 < nI 0 := m1_lt
    have h1 : zSt z (sI S (z + 214) 0 (nI 0)) := hS
    have W1 : mI (sI S (z + 214) 0 (nI 0)) (z + 216) = mI S (z + 216) := by rw [mI_sI_r, if_neg (by omega)]
    obtain ⟨S1, q1, q2, q3, q4⟩ := m_addA (a := 24) (x := nI nn) (y := nI bb) (n := aN (xR s)) h1 (by omega) (by rw [W1]; exact gn) (by omega)
    rw [W1] at q4
    have hS1 := zMw_St q2 h1
    have g2 := m_get (i := 24) (k := 1) hS1 (by omega)
    rw [q4 24 1 (by omega), if_pos rfl, if_pos rfl] at g2
    have e1 : nI (aN (xR s) + 1) - nI 1 = nI (aN (xR s)) := nI_sub1 (by omega)
    have row : ∀ k, k < 41 → mI S1 (z + 216) (41 * 24 + k) = if k = 1 then nI (aN (xR s) + 1) else if k = 6 + aN (xR s) then nI bb else if k = 2 + aN (xR s) then nI nn else mI S (z + 216) (41 * 24 + k) := fun k hk => by rw [q4 24 k hk, if_pos rfl]
    have em : ∀ k, k < 41 → k ≠ 1 → k ≠ 6 + aN (xR s) → k ≠ 2 + aN (xR s) → mI S1 (z + 216) (41 * 24 + k) = mI S (z + 216) (41 * 24 + k) := fun k hk k1 k2 k3 => by rw [row k hk, if_neg k1, if_neg k2, if_neg k3]
    obtain ⟨⟨r1, r2, r3⟩, r4, ⟨r5, r6, r7, r8⟩, ⟨r9, r10⟩, r11⟩ := hr
    have p10 := prs_le (n := aN (xR s) + 1) (by omega)
    refine ⟨S1, ?_, zMo_d hs h ?_ ?_ ?_ ?_ ⟨?_, fun _ => ⟨⟨⟨?_, ?_, ?_⟩, fun i hi => ?_, ⟨?_, ?_, ?_, ?_⟩, ⟨?_, ?_⟩, fun i hi => ⟨?_, ?_⟩⟩, fun i hi => ?_, fun i hi => ?_⟩⟩, ?_, ?_⟩
    · simp only [F_X6_allele_J37, F_X6_allele_J77, l_0, l_1, l_2, l_3, l_4, l_5, l_6, l_7, l_8, l_9, l_10, l_11, l_12, l_13, l_14, l_15, l_16, l_17, l_18, l_19, l_20, l_21, l_24, l_25, l_26, l_27, l_31, l_33, l_41, l_65, l_67, l_71, l_84, l_120, l_127, l_128, l_130, l_160, l_162, l_200, l_255, l_256, l_999, l_1000, l_8000, l_9999, l_10000, l_8001, l_m1, t_g214 hS, md_t hd d, g1, d4', hfd, fI, d5, ne10, t_k214 hS, m_th0 hS, t_k214 h1, q1, t_k214 hS1, g2, e1, bd2_some, bdx_inl, bdx_inr, bdc_inl, bdc_inr, obd_some, ↓reduceIte]
    · exact zFr_trans (zFr_sI (by omega) (by omega)) q2.1
    · rw [q2.2.1, mI_sI_r, if_neg (by omega)]
    · intro q h1 h2
      by_cases e : q = 4
      · subst e; rw [q3, mI_sI, if_neg (by omega)]
      · rw [q2.2.2 q e, mI_sI, if_neg (by omega)]
    · intro i k hi hk
      rw [q4 i k hk, if_neg (by omega)]
    · rw [q2.2.2 3 (by omega), mI_sI, if_neg (by omega)]; exact md_t hd d
    · exact (em 0 (by omega) (by omega) (by omega) (by omega)).trans r1
    · exact (em 10 (by omega) (by omega) (by omega) (by omega)).trans r2
    · exact row 1 (by omega)
    · have hi' : i < aN (xR s) + 1 := hi
      by_cases ci : i = aN (xR s)
      · subst ci
        refine ⟨?_, ?_, ?_⟩
        · rw [row _ (by omega), if_neg (by omega), if_pos rfl]
          show nI bb = nI (va_up (aB (xR s)) (aN (xR s)) bb (aN (xR s)))
          simp only [va_up, ↓reduceIte]
        · rw [row _ (by omega), if_neg (by omega), if_neg (by omega), if_pos rfl]
          show nI nn = nI (va_up (aL (xR s)) (aN (xR s)) nn (aN (xR s)))
          simp only [va_up, ↓reduceIte]
        · rw [em _ (by omega) (by omega) (by omega) (by omega), hD _ (by omega)]
          show nI (aD (xR s) (aN (xR s))) = nI (va_up (aD (xR s)) (aN (xR s)) 0 (aN (xR s)))
          rw [hok.2.2.2.2.1 _ (Nat.le_refl _) (by omega)]
          simp only [va_up, ↓reduceIte]
      · obtain ⟨s1, s2, s3⟩ := r4 i (by omega)
        refine ⟨?_, ?_, ?_⟩
        · rw [em _ (by omega) (by omega) (by omega) (by omega), s1]
          show _ = nI (va_up (aB (xR s)) (aN (xR s)) bb i)
          simp only [va_up, ci, ↓reduceIte]
        · rw [em _ (by omega) (by omega) (by omega) (by omega), s2]
          show _ = nI (va_up (aL (xR s)) (aN (xR s)) nn i)
          simp only [va_up, ci, ↓reduceIte]
        · rw [em _ (by omega) (by omega) (by omega) (by omega), s3]
          show _ = nI (va_up (aD (xR s)) (aN (xR s)) 0 i)
          simp only [va_up, ci, ↓reduceIte]
    · exact (em 15 (by omega) (by omega) (by omega) (by omega)).trans r5
    · exact (em 16 (by omega) (by omega) (by omega) (by omega)).trans r6
    · exact (em 18 (by omega) (by omega) (by omega) (by omega)).trans r7
    · exact (em 19 (by omega) (by omega) (by omega) (by omega)).trans r8
    · exact (em 17 (by omega) (by omega) (by omega) (by omega)).trans r9
    · exact (em 20 (by omega) (by omega) (by omega) (by omega)).trans r10
    · have hi' : i < prs (aN (xR s) + 1) := hi
      exact (em (21 + i) (by omega) (by omega) (by omega) (by omega)).trans (hK i (by omega))
    · have hi' : i < prs (aN (xR s) + 1) := hi
      have := hK (10 + i) (by omega)
      rw [show 41 * 24 + (21 + (10 + i)) = 41 * 24 + (31 + i) by omega] at this
      exact (em (31 + i) (by omega) (by omega) (by omega) (by omega)).trans this
    · exact (em (21 + i) (by omega) (by omega) (by omega) (by omega)).trans (hK i hi)
    · rw [em (11 + i) (by omega) (by omega) (by omega) (by omega), hD i hi]
      show _ = nI (va_up (aD (xR s)) (aN (xR s)) 0 i)
      by_cases ci : i = aN (xR s)
      · subst ci
        rw [hok.2.2.2.2.1 _ (Nat.le_refl _) hi]
        simp only [va_up, ↓reduceIte]
      · simp only [va_up, ci, ↓reduceIte]
    · exact zFr_trans zFr_th (zFr_mono q2.1 (by omega) (by omega))
    · rw [q2.2.2 0 (by omega), mI_sI, if_pos ⟨rfl, rfl⟩]
theorem le_s {x : Int32} {k : Nat} (hk : k + 1 < 2147483648) : nI (k + 1) ≤ x ↔ nI k < x := by
  rw [Int32.le_iff_toInt_le, Int32.lt_iff_toInt_lt, nI_toInt hk, nI_toInt (by omega)]
  omega
theorem M_depth {a' d' q' : Int32} (hs : xOk s) (h : zMo z s S) : ∃ S', F_X6_depth (z + 214) a' d' q' S = some S' ∧ zMo z (o_depth s a' d' q').2 S' ∧ zFr (z + 214) (z + 220) S S' ∧ mI S' (z + 214) 0 = (o_depth s a' d' q').1 := by
  obtain ⟨hS, hl, hf, hd, ht⟩ := id h
  have bad : F_X6_depth (z + 214) a' d' q' S = some (sI S (z + 214) 0 (nI 1)) → o_depth s a' d' q' = (nI 1, s) → ∃ S', F_X6_depth (z + 214) a' d' q' S = some S' ∧ zMo z (o_depth s a' d' q').2 S' ∧ zFr (z + 214) (z + 220) S S' ∧ mI S' (z + 214) 0 = (o_depth s a' d' q').1 := by
    intro e1 e2
    rw [e2]
    exact ⟨_, e1, zMo_th h, zFr_th, by rw [mI_sI, if_pos ⟨rfl, rfl⟩]⟩
  by_cases d : xD s = false
  · refine bad ?_ (if_pos (Or.inl d))
    simp only [F_X6_depth, F_X6_depth_J42, F_X6_depth_J47, l_0, l_1, l_2, l_3, l_4, l_5, l_6, l_7, l_8, l_9, l_10, l_11, l_12, l_13, l_14, l_15, l_16, l_17, l_18, l_19, l_20, l_21, l_24, l_25, l_26, l_27, l_31, l_33, l_41, l_65, l_67, l_71, l_84, l_120, l_127, l_128, l_130, l_160, l_162, l_200, l_255, l_256, l_999, l_1000, l_8000, l_9999, l_10000, l_8001, l_m1, t_g214 hS, md_f hd d, ne10, t_k214 hS, m_th1 hS, bd2_some, bdx_inl, bdx_inr, bdc_inl, bdc_inr, obd_some, ↓reduceIte]
  rw [Bool.not_eq_false] at d
  obtain ⟨hr, hK, hD⟩ := hd.2 d
  have gn := hr.1.2.2
  have g1 := m_get (i := 24) (k := 1) hS (by omega)
  rw [gn] at g1
  have hok := hs.2.2.1 d
  have n4 := hok.1.2
  by_cases c1 : a' < nI 0 ∨ nI (aN (xR s)) ≤ a'
  · refine bad ?_ (if_pos (by rcases c1 with c | c; exact Or.inr (Or.inl c); exact Or.inr (Or.inr (Or.inl c))))
    simp only [F_X6_depth, F_X6_depth_J42, F_X6_depth_J47, l_0, l_1, l_2, l_3, l_4, l_5, l_6, l_7, l_8, l_9, l_10, l_11, l_12, l_13, l_14, l_15, l_16, l_17, l_18, l_19, l_20, l_21, l_24, l_25, l_26, l_27, l_31, l_33, l_41, l_65, l_67, l_71, l_84, l_120, l_127, l_128, l_130, l_160, l_162, l_200, l_255, l_256, l_999, l_1000, l_8000, l_9999, l_10000, l_8001, l_m1, t_g214 hS, md_t hd d, g1, m_out, c1, ne10, t_k214 hS, m_th1 hS, bd2_some, bdx_inl, bdx_inr, bdc_inl, bdc_inr, obd_some, ↓reduceIte]
  by_cases c2 : d' < nI 0 ∨ nI 10000 ≤ d'
  · refine bad ?_ (if_pos (by rcases c2 with c | c; exact Or.inr (Or.inr (Or.inr (Or.inl c))); exact Or.inr (Or.inr (Or.inr (Or.inr (Or.inl ((le_s (by omega)).mp c)))))))
    simp only [F_X6_depth, F_X6_depth_J42, F_X6_depth_J47, l_0, l_1, l_2, l_3, l_4, l_5, l_6, l_7, l_8, l_9, l_10, l_11, l_12, l_13, l_14, l_15, l_16, l_17, l_18, l_19, l_20, l_21, l_24, l_25, l_26, l_27, l_31, l_33, l_41, l_65, l_67, l_71, l_84, l_120, l_127, l_128, l_130, l_160, l_162, l_200, l_255, l_256, l_999, l_1000, l_8000, l_9999, l_10000, l_8001, l_m1, t_g214 hS, md_t hd d, g1, m_out, c1, c2, ne10, t_k214 hS, m_th1 hS, bd2_some, bdx_inl, bdx_inr, bdc_inl, bdc_inr, obd_some, ↓reduceIte]
  by_cases c3 : q' < nI 0 ∨ nI 8001 ≤ q'
  · refine bad ?_ (if_pos (by rcases c3 with c | c; exact Or.inr (Or.inr (Or.inr (Or.inr (Or.inr (Or.inl c))))); exact Or.inr (Or.inr (Or.inr (Or.inr (Or.inr (Or.inr ((le_s (by omega)).mp c))))))))
    simp only [F_X6_depth, F_X6_depth_J42, F_X6_depth_J47, l_0, l_1, l_2, l_3, l_4, l_5, l_6, l_7, l_8, l_9, l_10, l_11, l_12, l_13, l_14, l_15, l_16, l_17, l_18, l_19, l_20, l_21, l_24, l_25, l_26, l_27, l_31, l_33, l_41, l_65, l_67, l_71, l_84, l_120, l_127, l_128, l_130, l_160, l_162, l_200, l_255, l_256, l_999, l_1000, l_8000, l_9999, l_10000, l_8001, l_m1, t_g214 hS, md_t hd d, g1, m_out, c1, c2, c3, ne10, t_k214 hS, m_th1 hS, bd2_some, bdx_inl, bdx_inr, bdc_inl, bdc_inr, obd_some, ↓reduceIte]
  obtain ⟨an, rfl, -, b1⟩ := in_of' (by omega) (fun e => c1 (Or.inl e)) (fun e => c1 (Or.inr e)) (by omega)
  obtain ⟨dn, rfl, -, b2⟩ := in_of' (by omega) (fun e => c2 (Or.inl e)) (fun e => c2 (Or.inr e)) (by omega)
  obtain ⟨qn, rfl, -, b3⟩ := in_of' (by omega) (fun e => c3 (Or.inl e)) (fun e => c3 (Or.inr e)) (by omega)
  rw [show o_depth s (nI an) (nI dn) (nI qn) = (nI 0, wDraft s true (aP (xR s), qn, aN (xR s), aL (xR s), aB (xR s), va_up (aD (xR s)) an dn, aG (xR s), aH (xR s), aK (xR s))) from by
    unfold o_depth
    rw [tn_nI (by omega), tn_nI (by omega), tn_nI (by omega), if_neg (by
      rw [d]
      rintro (q | q | q | q | q | q | q)
      · cases q
      · exact c1 (Or.inl q)
      · exact c1 (Or.inr q)
      · exact c2 (Or.inl q)
      · exact c2 (Or.inr ((le_s (by omega)).mpr q))
      · exact c3 (Or.inl q)
      · exact c3 (Or.inr ((le_s (by omega)).mpr q)))]]
  have h1 : zSt z (sI S (z + 214) 0 (nI 0)) := hS
  have p1 := m_put (i := 24) (k := 11 + an) (x := nI dn) h1 (by omega)
  obtain ⟨S1, e1⟩ : ∃ T, T = sI (sI S (z + 214) 0 (nI 0)) (z + 216) (41 * 24 + (11 + an)) (nI dn) := ⟨_, rfl⟩
  rw [← e1] at p1
  have hS1 : zSt z S1 := by rw [e1]; exact h1
  have p2 := m_put (i := 24) (k := 10) (x := nI qn) hS1 (by omega)
  obtain ⟨S2, e2⟩ : ∃ T, T = sI S1 (z + 216) (41 * 24 + 10) (nI qn) := ⟨_, rfl⟩
  rw [← e2] at p2
  have row : ∀ k, mI S2 (z + 216) k = if k = 41 * 24 + 10 then nI qn else if k = 41 * 24 + (11 + an) then nI dn else mI S (z + 216) k := by
    intro k
    rw [e2, mI_sI, e1, mI_sI, mI_sI]
    by_cases c : k = 41 * 24 + 10
    · rw [if_pos ⟨rfl, c⟩, if_pos c]
    · rw [if_neg (fun w => c w.2), if_neg c]
      by_cases c' : k = 41 * 24 + (11 + an)
      · rw [if_pos ⟨rfl, c'⟩, if_pos c']
      · rw [if_neg (fun w => c' w.2), if_neg c', if_neg (by omega)]
  have em : ∀ k, k ≠ 41 * 24 + 10 → k ≠ 41 * 24 + (11 + an) → mI S2 (z + 216) k = mI S (z + 216) k := fun k h1 h2 => by rw [row, if_neg h1, if_neg h2]
  have fl : ∀ q, q ≠ z + 216 → q ≠ z + 214 → mI S2 q = mI S q := fun q h1 h2 => by rw [e2, mI_sI_r, if_neg h1, e1, mI_sI_r, if_neg h1, mI_sI_r, if_neg h2]
  have f4 : ∀ q, q ≠ 0 → mI S2 (z + 214) q = mI S (z + 214) q := fun q h1 => by rw [e2, mI_sI, if_neg (by omega), e1, mI_sI, if_neg (by omega), mI_sI, if_neg (by omega)]
  have F : zFr (z + 214) (z + 217) S S2 := by
    rw [e2, e1]
    exact zFr_trans (zFr_trans (zFr_sI (by omega) (by omega)) (zFr_sI (by omega) (by omega))) (zFr_sI (by omega) (by omega))
  have dep : ∀ i, i < 4 → mI S2 (z + 216) (41 * 24 + (11 + i)) = nI (va_up (aD (xR s)) an dn i) := by
    intro i hi
    rw [row, if_neg (by omega)]
    by_cases ci : i = an
    · subst ci
      rw [if_pos rfl]
      simp only [va_up, ↓reduceIte]
    · rw [if_neg (by omega), hD i hi]
      simp only [va_up, ci, ↓reduceIte]
  obtain ⟨⟨r1, r2, r3⟩, r4, ⟨r5, r6, r7, r8⟩, ⟨r9, r10⟩, r11⟩ := hr
  have p10 := prs_le n4
  refine ⟨S2, ?_, zMo_d hs h F (fl _ (by omega) (by omega)) (fun q h1 _ => f4 q h1) (fun i k hi hk => em _ (by omega) (by omega)) ⟨?_, fun _ => ⟨⟨⟨?_, ?_, ?_⟩, fun i hi => ?_, ⟨?_, ?_, ?_, ?_⟩, ⟨?_, ?_⟩, fun i hi => ⟨?_, ?_⟩⟩, fun i hi => ?_, dep⟩⟩, zFr_mono F (by omega) (by omega), ?_⟩
  · simp only [F_X6_depth, F_X6_depth_J47, l_0, l_1, l_2, l_3, l_4, l_5, l_6, l_7, l_8, l_9, l_10, l_11, l_12, l_13, l_14, l_15, l_16, l_17, l_18, l_19, l_20, l_21, l_24, l_25, l_26, l_27, l_31, l_33, l_41, l_65, l_67, l_71, l_84, l_120, l_127, l_128, l_130, l_160, l_162, l_200, l_255, l_256, l_999, l_1000, l_8000, l_9999, l_10000, l_8001, l_m1, t_g214 hS, md_t hd d, g1, m_out, c1, c2, c3, ne10, t_k214 hS, m_th0 hS, t_k214 h1, nI_add, p1, t_k214 hS1, p2, bd2_some, bdx_inl, bdx_inr, bdc_inl, bdc_inr, obd_some, ↓reduceIte]
  · rw [f4 3 (by omega)]; exact md_t hd d
  · exact (em _ (by omega) (by omega)).trans r1
  · rw [row, if_pos rfl]; rfl
  · exact (em _ (by omega) (by omega)).trans r3
  · have hi' : i < aN (xR s) := hi
    obtain ⟨s1, s2, s3⟩ := r4 i hi'
    exact ⟨(em _ (by omega) (by omega)).trans s1, (em _ (by omega) (by omega)).trans s2, dep i (by omega)⟩
  · exact (em _ (by omega) (by omega)).trans r5
  · exact (em _ (by omega) (by omega)).trans r6
  · exact (em _ (by omega) (by omega)).trans r7
  · exact (em _ (by omega) (by omega)).trans r8
  · exact (em _ (by omega) (by omega)).trans r9
  · exact (em _ (by omega) (by omega)).trans r10
  · exact (em _ (by omega) (by omega)).trans (r11 i hi).1
  · exact (em _ (by omega) (by omega)).trans (r11 i hi).2
  · exact (em _ (by omega) (by omega)).trans (hK i hi)
  · rw [e2, mI_sI, if_neg (by omega), e1, mI_sI, if_neg (by omega), mI_sI, if_pos ⟨rfl, rfl⟩]
end M4
