set_option maxRecDepth 20000
section M5
variable {S S' S1 S2 : Mem} {z n a b i j k o o' : Nat} {r : Rc} {s : As} {x y : Int32} {W W' : Nat → Int32} {ls : List Rc}
theorem out_s {f : Int32} {n : Nat} (hn : n ≤ 4) : (f + nI 1 < nI 0 ∨ nI (n + 1) ≤ f + nI 1) ↔ (f < m1 ∨ nI n ≤ f) := by
  rw [Int32.lt_iff_toInt_lt, Int32.le_iff_toInt_le, Int32.lt_iff_toInt_lt, Int32.le_iff_toInt_le, Int32.toInt_add, nI_toInt (by omega), nI_toInt (by omega), nI_toInt (by omega), nI_toInt (by omega), show m1.toInt = -1 by decide]
  have h1 := f.toInt_lt
  have h2 := f.le_toInt
  rw [Int.bmod_def]
  split <;> omega
theorem out_k (x y : Int32) : (if x < nI 0 ∨ y ≤ x then nI 1 else nI 0) = nI 0 ↔ ¬ (x < nI 0 ∨ y ≤ x) := by
  by_cases c : x < nI 0 ∨ y ≤ x
  · rw [if_pos c]; exact ⟨fun e => absurd e ne10, fun e => absurd c e⟩
  · rw [if_neg c]; exact ⟨fun _ => c, fun _ => rfl⟩
theorem m_pairs' {v : Int32} {S : Mem} : F_X6_pairs v S = some (v * (v + nI 1) / nI 2, S) := rfl
theorem n_pairs (h : n ≤ 4) : nI n * (nI n + nI 1) / nI 2 = nI (prs n) := by
  rcases (show n = 0 ∨ n = 1 ∨ n = 2 ∨ n = 3 ∨ n = 4 by omega) with e | e | e | e | e <;> subst e <;> rfl
theorem M_genotype {m f g p : Int32} (hp : zBo p) (hs : xOk s) (h : zMo z s S) : ∃ S', F_X6_genotype (z + 214) m f g p S = some S' ∧ zMo z (o_genotype s m f g p).2 S' ∧ zFr (z + 214) (z + 220) S S' ∧ mI S' (z + 214) 0 = (o_genotype s m f g p).1 := by
  obtain ⟨hS, hl, hf, hd, ht⟩ := id h
  have bad : F_X6_genotype (z + 214) m f g p S = some (sI S (z + 214) 0 (nI 1)) → o_genotype s m f g p = (nI 1, s) → ∃ S', F_X6_genotype (z + 214) m f g p S = some S' ∧ zMo z (o_genotype s m f g p).2 S' ∧ zFr (z + 214) (z + 220) S S' ∧ mI S' (z + 214) 0 = (o_genotype s m f g p).1 := by
    intro e1 e2
    rw [e2]
    exact ⟨_, e1, zMo_th h, zFr_th, by rw [mI_sI, if_pos ⟨rfl, rfl⟩]⟩
  have g1 := m_get (i := 24) (k := 1) hS (by omega)
  by_cases d : xD s = false
  · refine bad ?_ (if_pos (Or.inl d))
    simp only [F_X6_genotype, F_X6_genotype_J51, F_X6_genotype_J56, l_0, l_1, l_2, l_3, l_4, l_5, l_6, l_7, l_8, l_9, l_10, l_11, l_12, l_13, l_14, l_15, l_16, l_17, l_18, l_19, l_20, l_21, l_24, l_25, l_26, l_27, l_31, l_33, l_41, l_65, l_67, l_71, l_84, l_120, l_127, l_128, l_130, l_160, l_162, l_200, l_255, l_256, l_999, l_1000, l_8000, l_9999, l_10000, l_8001, l_m1, g1, t_g214 hS, md_f hd d, ne10, t_k214 hS, m_th1 hS, bd2_some, bdx_inl, bdx_inr, bdc_inl, bdc_inr, obd_some, ↓reduceIte]
  rw [Bool.not_eq_false] at d
  obtain ⟨hr, hK, hD⟩ := hd.2 d
  have gn := hr.1.2.2
  rw [gn] at g1
  have hok := hs.2.2.1 d
  have n4 := hok.1.2
  by_cases c1 : m < nI 0 ∨ nI 2 ≤ m
  · refine bad ?_ (if_pos (by rcases c1 with c | c; exact Or.inr (Or.inl c); exact Or.inr (Or.inr (Or.inl c))))
    simp only [F_X6_genotype, F_X6_genotype_J51, F_X6_genotype_J56, l_0, l_1, l_2, l_3, l_4, l_5, l_6, l_7, l_8, l_9, l_10, l_11, l_12, l_13, l_14, l_15, l_16, l_17, l_18, l_19, l_20, l_21, l_24, l_25, l_26, l_27, l_31, l_33, l_41, l_65, l_67, l_71, l_84, l_120, l_127, l_128, l_130, l_160, l_162, l_200, l_255, l_256, l_999, l_1000, l_8000, l_9999, l_10000, l_8001, l_m1, t_g214 hS, md_t hd d, g1, m_out, c1, ne10, t_k214 hS, m_th1 hS, bd2_some, bdx_inl, bdx_inr, bdc_inl, bdc_inr, obd_some, ↓reduceIte]
  by_cases c2 : f + nI 1 < nI 0 ∨ nI (aN (xR s) + 1) ≤ f + nI 1
  · refine bad ?_ (if_pos (by rcases (out_s n4).mp c2 with c | c; exact Or.inr (Or.inr (Or.inr (Or.inl c))); exact Or.inr (Or.inr (Or.inr (Or.inr (Or.inl c))))))
    simp only [F_X6_genotype, F_X6_genotype_J51, F_X6_genotype_J56, l_0, l_1, l_2, l_3, l_4, l_5, l_6, l_7, l_8, l_9, l_10, l_11, l_12, l_13, l_14, l_15, l_16, l_17, l_18, l_19, l_20, l_21, l_24, l_25, l_26, l_27, l_31, l_33, l_41, l_65, l_67, l_71, l_84, l_120, l_127, l_128, l_130, l_160, l_162, l_200, l_255, l_256, l_999, l_1000, l_8000, l_9999, l_10000, l_8001, l_m1, t_g214 hS, md_t hd d, g1, m_out, c1, nI_add, c2, ne10, t_k214 hS, m_th1 hS, bd2_some, bdx_inl, bdx_inr, bdc_inl, bdc_inr, obd_some, ↓reduceIte]
  by_cases c3 : g + nI 1 < nI 0 ∨ nI (aN (xR s) + 1) ≤ g + nI 1
  · refine bad ?_ (if_pos (by rcases (out_s n4).mp c3 with c | c; exact Or.inr (Or.inr (Or.inr (Or.inr (Or.inr (Or.inl c))))); exact Or.inr (Or.inr (Or.inr (Or.inr (Or.inr (Or.inr c)))))))
    simp only [F_X6_genotype, F_X6_genotype_J51, F_X6_genotype_J56, l_0, l_1, l_2, l_3, l_4, l_5, l_6, l_7, l_8, l_9, l_10, l_11, l_12, l_13, l_14, l_15, l_16, l_17, l_18, l_19, l_20, l_21, l_24, l_25, l_26, l_27, l_31, l_33, l_41, l_65, l_67, l_71, l_84, l_120, l_127, l_128, l_130, l_160, l_162, l_200, l_255, l_256, l_999, l_1000, l_8000, l_9999, l_10000, l_8001, l_m1, t_g214 hS, md_t hd d, g1, m_out, c1, nI_add, c2, c3, ne10, t_k214 hS, m_th1 hS, bd2_some, bdx_inl, bdx_inr, bdc_inl, bdc_inr, obd_some, ↓reduceIte]
  obtain ⟨mn, rfl, -, b1⟩ := in_of' (by omega) (fun e => c1 (Or.inl e)) (fun e => c1 (Or.inr e)) (by omega)
  have c2' := fun q => c2 ((out_s n4).mpr q)
  have c3' := fun q => c3 ((out_s n4).mpr q)
  obtain ⟨-, -, ef, -⟩ := gen_of (x := f) (n := aN (xR s)) (by omega) (fun e => c2' (Or.inl e)) (fun e => c2' (Or.inr e))
  obtain ⟨-, -, eg, -⟩ := gen_of (x := g) (n := aN (xR s)) (by omega) (fun e => c3' (Or.inl e)) (fun e => c3' (Or.inr e))
  rw [show o_genotype s (nI mn) f g p = (nI 0, wDraft s true (aP (xR s), aQ (xR s), aN (xR s), aL (xR s), aB (xR s), aD (xR s), va_up (va_up (aG (xR s)) (2 * mn) (gN f)) (2 * mn + 1) (gN g), va_up (aH (xR s)) mn (tn p), aK (xR s))) from by
    unfold o_genotype
    rw [tn_nI (show mn < 2 ^ 31 by omega), if_neg (by
      rw [d]
      rintro (q | q | q | q | q | q | q)
      · cases q
      · exact c1 (Or.inl q)
      · exact c1 (Or.inr q)
      · exact c2' (Or.inl q)
      · exact c2' (Or.inr q)
      · exact c3' (Or.inl q)
      · exact c3' (Or.inr q))]]
  have epn : p = nI (tn p) := by
    rcases hp with e | e
    · rw [e]; rfl
    · rw [e]; rfl
  have h1 : zSt z (sI S (z + 214) 0 (nI 0)) := hS
  have p1 := m_put (i := 24) (k := 15 + 3 * mn) (x := f) h1 (by omega)
  obtain ⟨S1, e1⟩ : ∃ T, T = sI (sI S (z + 214) 0 (nI 0)) (z + 216) (41 * 24 + (15 + 3 * mn)) f := ⟨_, rfl⟩
  rw [← e1] at p1
  have hS1 : zSt z S1 := by rw [e1]; exact h1
  have p2 := m_put (i := 24) (k := 15 + 3 * mn + 1) (x := g) hS1 (by omega)
  obtain ⟨S2, e2⟩ : ∃ T, T = sI S1 (z + 216) (41 * 24 + (15 + 3 * mn + 1)) g := ⟨_, rfl⟩
  rw [← e2] at p2
  have hS2 : zSt z S2 := by rw [e2]; exact hS1
  have p3 := m_put (i := 24) (k := 15 + 3 * mn + 2) (x := p) hS2 (by omega)
  obtain ⟨S3, e3⟩ : ∃ T, T = sI S2 (z + 216) (41 * 24 + (15 + 3 * mn + 2)) p := ⟨_, rfl⟩
  rw [← e3] at p3
  have row : ∀ k, mI S3 (z + 216) k = if k = 41 * 24 + (15 + 3 * mn + 2) then p else if k = 41 * 24 + (15 + 3 * mn + 1) then g else if k = 41 * 24 + (15 + 3 * mn) then f else mI S (z + 216) k := by
    intro k
    rw [e3, mI_sI, e2, mI_sI, e1, mI_sI, mI_sI]
    by_cases c : k = 41 * 24 + (15 + 3 * mn + 2)
    · rw [if_pos ⟨rfl, c⟩, if_pos c]
    · rw [if_neg (fun w => c w.2), if_neg c]
      by_cases c' : k = 41 * 24 + (15 + 3 * mn + 1)
      · rw [if_pos ⟨rfl, c'⟩, if_pos c']
      · rw [if_neg (fun w => c' w.2), if_neg c']
        by_cases c'' : k = 41 * 24 + (15 + 3 * mn)
        · rw [if_pos ⟨rfl, c''⟩, if_pos c'']
        · rw [if_neg (fun w => c'' w.2), if_neg c'', if_neg (by omega)]
  have em : ∀ k, (k < 41 * 24 + 15 ∨ 41 * 24 + 21 ≤ k) → mI S3 (z + 216) k = mI S (z + 216) k := fun k h1 => by rw [row, if_neg (by omega), if_neg (by omega), if_neg (by omega)]
  have fl : ∀ q, q ≠ z + 216 → q ≠ z + 214 → mI S3 q = mI S q := fun q h1 h2 => by rw [e3, mI_sI_r, if_neg h1, e2, mI_sI_r, if_neg h1, e1, mI_sI_r, if_neg h1, mI_sI_r, if_neg h2]
  have f4 : ∀ q, q ≠ 0 → mI S3 (z + 214) q = mI S (z + 214) q := fun q h1 => by rw [e3, mI_sI, if_neg (by omega), e2, mI_sI, if_neg (by omega), e1, mI_sI, if_neg (by omega), mI_sI, if_neg (by omega)]
  have F : zFr (z + 214) (z + 217) S S3 := by
    rw [e3, e2, e1]
    exact zFr_trans (zFr_trans (zFr_trans (zFr_sI (by omega) (by omega)) (zFr_sI (by omega) (by omega))) (zFr_sI (by omega) (by omega))) (zFr_sI (by omega) (by omega))
  obtain ⟨⟨r1, r2, r3⟩, r4, ⟨r5, r6, r7, r8⟩, ⟨r9, r10⟩, r11⟩ := hr
  have p10 := prs_le n4
  have gp : (mI S3 (z + 216) (41 * 24 + 15) = gI (va_up (va_up (aG (xR s)) (2 * mn) (gN f)) (2 * mn + 1) (gN g) 0) ∧ mI S3 (z + 216) (41 * 24 + 16) = gI (va_up (va_up (aG (xR s)) (2 * mn) (gN f)) (2 * mn + 1) (gN g) 1) ∧ mI S3 (z + 216) (41 * 24 + 18) = gI (va_up (va_up (aG (xR s)) (2 * mn) (gN f)) (2 * mn + 1) (gN g) 2) ∧ mI S3 (z + 216) (41 * 24 + 19) = gI (va_up (va_up (aG (xR s)) (2 * mn) (gN f)) (2 * mn + 1) (gN g) 3)) ∧ mI S3 (z + 216) (41 * 24 + 17) = nI (va_up (aH (xR s)) mn (tn p) 0) ∧ mI S3 (z + 216) (41 * 24 + 20) = nI (va_up (aH (xR s)) mn (tn p) 1) := by
    rcases (show mn = 0 ∨ mn = 1 by omega) with e | e <;> subst e
    · refine ⟨⟨?_, ?_, ?_, ?_⟩, ?_, ?_⟩
      · exact (row _).trans ef.symm
      · exact (row _).trans eg.symm
      · exact (row _).trans r7
      · exact (row _).trans r8
      · exact (row _).trans epn
      · exact (row _).trans r10
    · refine ⟨⟨?_, ?_, ?_, ?_⟩, ?_, ?_⟩
      · exact (row _).trans r5
      · exact (row _).trans r6
      · exact (row _).trans ef.symm
      · exact (row _).trans eg.symm
      · exact (row _).trans r9
      · exact (row _).trans epn
  refine ⟨S3, ?_, zMo_d hs h F (fl _ (by omega) (by omega)) (fun q h1 _ => f4 q h1) (fun i k hi hk => em _ (by omega)) ⟨?_, fun _ => ⟨⟨⟨?_, ?_, ?_⟩, fun i hi => ?_, gp.1, gp.2, fun i hi => ⟨?_, ?_⟩⟩, fun i hi => ?_, fun i hi => ?_⟩⟩, zFr_mono F (by omega) (by omega), ?_⟩
  · rcases hp with e | e
    · have e' : p = nI 0 := e
      rw [e'] at p3 ⊢
      simp only [F_X6_genotype, F_X6_genotype_J56, F_X6_genotype_J113, l_0, l_1, l_2, l_3, l_4, l_5, l_6, l_7, l_8, l_9, l_10, l_11, l_12, l_13, l_14, l_15, l_16, l_17, l_18, l_19, l_20, l_21, l_24, l_25, l_26, l_27, l_31, l_33, l_41, l_65, l_67, l_71, l_84, l_120, l_127, l_128, l_130, l_160, l_162, l_200, l_255, l_256, l_999, l_1000, l_8000, l_9999, l_10000, l_8001, l_m1, t_g214 hS, md_t hd d, g1, m_out, c1, nI_add, c2, c3, ne10, t_k214 hS, m_th0 hS, t_k214 h1, nI_mul, p1, t_k214 hS1, p2, t_k214 hS2, p3, bd2_some, bdx_inl, bdx_inr, bdc_inl, bdc_inr, obd_some, ↓reduceIte]
    · have e' : p = nI 1 := e
      rw [e'] at p3 ⊢
      simp only [F_X6_genotype, F_X6_genotype_J56, F_X6_genotype_J113, l_0, l_1, l_2, l_3, l_4, l_5, l_6, l_7, l_8, l_9, l_10, l_11, l_12, l_13, l_14, l_15, l_16, l_17, l_18, l_19, l_20, l_21, l_24, l_25, l_26, l_27, l_31, l_33, l_41, l_65, l_67, l_71, l_84, l_120, l_127, l_128, l_130, l_160, l_162, l_200, l_255, l_256, l_999, l_1000, l_8000, l_9999, l_10000, l_8001, l_m1, t_g214 hS, md_t hd d, g1, m_out, c1, nI_add, c2, c3, ne10, t_k214 hS, m_th0 hS, t_k214 h1, nI_mul, p1, t_k214 hS1, p2, t_k214 hS2, p3, bd2_some, bdx_inl, bdx_inr, bdc_inl, bdc_inr, obd_some, ↓reduceIte]
  · rw [f4 3 (by omega)]; exact md_t hd d
  · exact (em _ (by omega)).trans r1
  · exact (em _ (by omega)).trans r2
  · exact (em _ (by omega)).trans r3
  · have hi' : i < aN (xR s) := hi
    obtain ⟨s1, s2, s3⟩ := r4 i hi'
    exact ⟨(em _ (by omega)).trans s1, (em _ (by omega)).trans s2, (em _ (by omega)).trans s3⟩
  · exact (em _ (by omega)).trans (r11 i hi).1
  · exact (em _ (by omega)).trans (r11 i hi).2
  · exact (em _ (by omega)).trans (hK i hi)
  · exact (em _ (by omega)).trans (hD i hi)
  · rw [e3, mI_sI, if_neg (by omega), e2, mI_sI, if_neg (by omega), e1, mI_sI, if_neg (by omega), mI_sI, if_pos ⟨rfl, rfl⟩]
theorem M_likelihood {m i x : Int32} (hs : xOk s) (h : zMo z s S) : ∃ S', F_X6_likelihood (z + 214) m i x S = some S' ∧ zMo z (o_likelihood s m i x).2 S' ∧ zFr (z + 214) (z + 220) S S' ∧ mI S' (z + 214) 0 = (o_likelihood s m i x).1 := by
  obtain ⟨hS, hl, hf, hd, ht⟩ := id h
  have bad : F_X6_likelihood (z + 214) m i x S = some (sI S (z + 214) 0 (nI 1)) → o_likelihood s m i x = (nI 1, s) → ∃ S', F_X6_likelihood (z + 214) m i x S = some S' ∧ zMo z (o_likelihood s m i x).2 S' ∧ zFr (z + 214) (z + 220) S S' ∧ mI S' (z + 214) 0 = (o_likelihood s m i x).1 := by
    intro e1 e2
    rw [e2]
    exact ⟨_, e1, zMo_th h, zFr_th, by rw [mI_sI, if_pos ⟨rfl, rfl⟩]⟩
  by_cases d : xD s = false
  · refine bad ?_ (if_pos (Or.inl d))
    simp only [F_X6_likelihood, F_X6_likelihood_J43, F_X6_likelihood_J48, l_0, l_1, l_2, l_3, l_4, l_5, l_6, l_7, l_8, l_9, l_10, l_11, l_12, l_13, l_14, l_15, l_16, l_17, l_18, l_19, l_20, l_21, l_24, l_25, l_26, l_27, l_31, l_33, l_41, l_65, l_67, l_71, l_84, l_120, l_127, l_128, l_130, l_160, l_162, l_200, l_255, l_256, l_999, l_1000, l_8000, l_9999, l_10000, l_8001, l_m1, t_g214 hS, md_f hd d, ne10, t_k214 hS, m_th1 hS, bd2_some, bdx_inl, bdx_inr, bdc_inl, bdc_inr, obd_some, ↓reduceIte]
  rw [Bool.not_eq_false] at d
  obtain ⟨hr, hK, hD⟩ := hd.2 d
  have gn := hr.1.2.2
  have g1 := m_get (i := 24) (k := 1) hS (by omega)
  rw [gn] at g1
  have hok := hs.2.2.1 d
  have n4 := hok.1.2
  have p10 := prs_le n4
  by_cases c1 : m < nI 0 ∨ nI 2 ≤ m
  · refine bad ?_ (if_pos (by rcases c1 with c | c; exact Or.inr (Or.inl c); exact Or.inr (Or.inr (Or.inl c))))
    simp only [F_X6_likelihood, F_X6_likelihood_J43, F_X6_likelihood_J48, l_0, l_1, l_2, l_3, l_4, l_5, l_6, l_7, l_8, l_9, l_10, l_11, l_12, l_13, l_14, l_15, l_16, l_17, l_18, l_19, l_20, l_21, l_24, l_25, l_26, l_27, l_31, l_33, l_41, l_65, l_67, l_71, l_84, l_120, l_127, l_128, l_130, l_160, l_162, l_200, l_255, l_256, l_999, l_1000, l_8000, l_9999, l_10000, l_8001, l_m1, t_g214 hS, md_t hd d, m_out, c1, ne10, t_k214 hS, m_th1 hS, bd2_some, bdx_inl, bdx_inr, bdc_inl, bdc_inr, obd_some, ↓reduceIte]
  obtain ⟨pn, hpn⟩ : ∃ k, k = prs (aN (xR s)) := ⟨_, rfl⟩
  have hpr : nI (aN (xR s)) * (nI (aN (xR s)) + nI 1) / nI 2 = nI pn := by rw [hpn]; exact n_pairs n4
  have hpr2 : nI (aN (xR s) * (aN (xR s) + 1)) / nI 2 = nI pn := by rw [← nI_mul, ← nI_add]; exact hpr
  by_cases c2 : i < nI 0 ∨ nI pn ≤ i
  · refine bad ?_ (if_pos (by rcases c2 with c | c; exact Or.inr (Or.inr (Or.inr (Or.inl c))); exact Or.inr (Or.inr (Or.inr (Or.inr (Or.inl (by rw [← hpn]; exact c)))))))
    simp only [F_X6_likelihood, F_X6_likelihood_J43, F_X6_likelihood_J48, l_0, l_1, l_2, l_3, l_4, l_5, l_6, l_7, l_8, l_9, l_10, l_11, l_12, l_13, l_14, l_15, l_16, l_17, l_18, l_19, l_20, l_21, l_24, l_25, l_26, l_27, l_31, l_33, l_41, l_65, l_67, l_71, l_84, l_120, l_127, l_128, l_130, l_160, l_162, l_200, l_255, l_256, l_999, l_1000, l_8000, l_9999, l_10000, l_8001, l_m1, t_g214 hS, md_t hd d, g1, m_out, m_pairs', hpr, c1, c2, ne10, t_k214 hS, m_th1 hS, bd2_some, bdx_inl, bdx_inr, bdc_inl, bdc_inr, obd_some, ↓reduceIte]
  by_cases c3 : x < nI 0 ∨ nI 1000 ≤ x
  · refine bad ?_ (if_pos (by rcases c3 with c | c; exact Or.inr (Or.inr (Or.inr (Or.inr (Or.inr (Or.inl c))))); exact Or.inr (Or.inr (Or.inr (Or.inr (Or.inr (Or.inr ((le_s (by omega)).mp c))))))))
    simp only [F_X6_likelihood, F_X6_likelihood_J43, F_X6_likelihood_J48, l_0, l_1, l_2, l_3, l_4, l_5, l_6, l_7, l_8, l_9, l_10, l_11, l_12, l_13, l_14, l_15, l_16, l_17, l_18, l_19, l_20, l_21, l_24, l_25, l_26, l_27, l_31, l_33, l_41, l_65, l_67, l_71, l_84, l_120, l_127, l_128, l_130, l_160, l_162, l_200, l_255, l_256, l_999, l_1000, l_8000, l_9999, l_10000, l_8001, l_m1, t_g214 hS, md_t hd d, g1, m_out, m_pairs', hpr, c1, c2, c3, ne10, t_k214 hS, m_th1 hS, bd2_some, bdx_inl, bdx_inr, bdc_inl, bdc_inr, obd_some, ↓reduceIte]
  obtain ⟨mn, rfl, -, b1⟩ := in_of' (by omega) (fun e => c1 (Or.inl e)) (fun e => c1 (Or.inr e)) (by omega)
  obtain ⟨ii, rfl, -, b2⟩ := in_of' (by omega) (fun e => c2 (Or.inl e)) (fun e => c2 (Or.inr e)) (by omega)
  obtain ⟨xn, rfl, -, b3⟩ := in_of' (by omega) (fun e => c3 (Or.inl e)) (fun e => c3 (Or.inr e)) (by omega)
  rw [show o_likelihood s (nI mn) (nI ii) (nI xn) = (nI 0, wDraft s true (aP (xR s), aQ (xR s), aN (xR s), aL (xR s), aB (xR s), aD (xR s), aG (xR s), aH (xR s), va_up (aK (xR s)) (10 * mn + ii) xn)) from by
    unfold o_likelihood
    rw [tn_nI (show mn < 2 ^ 31 by omega), tn_nI (show ii < 2 ^ 31 by omega), tn_nI (show xn < 2 ^ 31 by omega), if_neg (by
      rw [d]
      rintro (q | q | q | q | q | q | q)
      · cases q
      · exact c1 (Or.inl q)
      · exact c1 (Or.inr q)
      · exact c2 (Or.inl q)
      · rw [← hpn] at q; exact c2 (Or.inr q)
      · exact c3 (Or.inl q)
      · exact c3 (Or.inr ((le_s (by omega)).mpr q)))]]
  have h1 : zSt z (sI S (z + 214) 0 (nI 0)) := hS
  have p1 := m_put (i := 24) (k := 21 + 10 * mn + ii) (x := nI xn) h1 (by omega)
  obtain ⟨S1, e1⟩ : ∃ T, T = sI (sI S (z + 214) 0 (nI 0)) (z + 216) (41 * 24 + (21 + 10 * mn + ii)) (nI xn) := ⟨_, rfl⟩
  rw [← e1] at p1
  have row : ∀ k, mI S1 (z + 216) k = if k = 41 * 24 + (21 + 10 * mn + ii) then nI xn else mI S (z + 216) k := by
    intro k
    rw [e1, mI_sI, mI_sI]
    by_cases c : k = 41 * 24 + (21 + 10 * mn + ii)
    · rw [if_pos ⟨rfl, c⟩, if_pos c]
    · rw [if_neg (fun w => c w.2), if_neg c, if_neg (by omega)]
  have em : ∀ k, k < 41 * 24 + 21 → mI S1 (z + 216) k = mI S (z + 216) k := fun k h1 => by rw [row, if_neg (by omega)]
  have fl : ∀ q, q ≠ z + 216 → q ≠ z + 214 → mI S1 q = mI S q := fun q h1 h2 => by rw [e1, mI_sI_r, if_neg h1, mI_sI_r, if_neg h2]
  have f4 : ∀ q, q ≠ 0 → mI S1 (z + 214) q = mI S (z + 214) q := fun q h1 => by rw [e1, mI_sI, if_neg (by omega), mI_sI, if_neg (by omega)]
  have F : zFr (z + 214) (z + 217) S S1 := by
    rw [e1]
    exact zFr_trans (zFr_sI (by omega) (by omega)) (zFr_sI (by omega) (by omega))
  have lik : ∀ i, i < 20 → mI S1 (z + 216) (41 * 24 + (21 + i)) = nI (va_up (aK (xR s)) (10 * mn + ii) xn i) := by
    intro i hi
    rw [row]
    by_cases ci : i = 10 * mn + ii
    · rw [if_pos (by omega), ci]
      simp only [va_up, ↓reduceIte]
    · rw [if_neg (by omega), hK i hi]
      simp only [va_up, ci, ↓reduceIte]
  obtain ⟨⟨r1, r2, r3⟩, r4, ⟨r5, r6, r7, r8⟩, ⟨r9, r10⟩, r11⟩ := hr
  refine ⟨S1, ?_, zMo_d hs h F (fl _ (by omega) (by omega)) (fun q h1 _ => f4 q h1) (fun i k hi hk => em _ (by omega)) ⟨?_, fun _ => ⟨⟨⟨?_, ?_, ?_⟩, fun i hi => ?_, ⟨?_, ?_, ?_, ?_⟩, ⟨?_, ?_⟩, fun i hi => ⟨?_, ?_⟩⟩, lik, fun i hi => ?_⟩⟩, zFr_mono F (by omega) (by omega), ?_⟩
  · simp only [F_X6_likelihood, F_X6_likelihood_J48, l_0, l_1, l_2, l_3, l_4, l_5, l_6, l_7, l_8, l_9, l_10, l_11, l_12, l_13, l_14, l_15, l_16, l_17, l_18, l_19, l_20, l_21, l_24, l_25, l_26, l_27, l_31, l_33, l_41, l_65, l_67, l_71, l_84, l_120, l_127, l_128, l_130, l_160, l_162, l_200, l_255, l_256, l_999, l_1000, l_8000, l_9999, l_10000, l_8001, l_m1, t_g214 hS, md_t hd d, g1, m_out, m_pairs', hpr2, c1, c2, c3, ne10, t_k214 hS, m_th0 hS, t_k214 h1, nI_mul, nI_add, p1, bd2_some, bdx_inl, bdx_inr, bdc_inl, bdc_inr, obd_some, ↓reduceIte]
  · rw [f4 3 (by omega)]; exact md_t hd d
  · exact (em _ (by omega)).trans r1
  · exact (em _ (by omega)).trans r2
  · exact (em _ (by omega)).trans r3
  · have hi' : i < aN (xR s) := hi
    obtain ⟨s1, s2, s3⟩ := r4 i hi'
    exact ⟨(em _ (by omega)).trans s1, (em _ (by omega)).trans s2, (em _ (by omega)).trans s3⟩
  · exact (em _ (by omega)).trans r5
  · exact (em _ (by omega)).trans r6
  · exact (em _ (by omega)).trans r7
  · exact (em _ (by omega)).trans r8
  · exact (em _ (by omega)).trans r9
  · exact (em _ (by omega)).trans r10
  · have hi' : i < prs (aN (xR s)) := hi
    exact lik i (by omega)
  · have hi' : i < prs (aN (xR s)) := hi
    have := lik (10 + i) (by omega)
    rw [show 41 * 24 + (21 + (10 + i)) = 41 * 24 + (31 + i) by omega] at this
    exact this
  · exact (em _ (by omega)).trans (hD i hi)
  · rw [e1, mI_sI, if_neg (by omega), mI_sI, if_pos ⟨rfl, rfl⟩]
end M5
